section
-- ===== PART A: goes FIRST, ahead of the names: the tables' words, and 'selects' of the private methods out of them =====
/-- a private method of a class that the tables say can be made, by its rows of tables_1 -/
def lw_okq (q : MethodName × Nat) : Prop := (q.1.cls ≠ "java/lang/invoke/MethodHandle" ∧ q.1.cls ≠ "java/lang/invoke/VarHandle") ∧ Cond.instantiable q.1.cls q.2 ∈ tables_1 ∧ Cond.privateMethod q.1 ∈ tables_1 ∧ Cond.instanceMethod q.1 ∈ tables_1
theorem lw_p0 : lw_okq (⟨"CopyHeap", "moveToSpare", "()V"⟩, 5) := ⟨⟨by decide +kernel, by decide +kernel⟩, List.mem_of_getElem? (i := 11) (by decide +kernel), List.mem_of_getElem? (i := 59) (by decide +kernel), List.mem_of_getElem? (i := 60) (by decide +kernel)⟩
theorem lw_p1 : lw_okq (⟨"CopyHeap$Half", "moveObject", "(ILCopyHeap$Half;)I"⟩, 3) := ⟨⟨by decide +kernel, by decide +kernel⟩, List.mem_of_getElem? (i := 19) (by decide +kernel), List.mem_of_getElem? (i := 81) (by decide +kernel), List.mem_of_getElem? (i := 82) (by decide +kernel)⟩
theorem lw_p2 : lw_okq (⟨"CopyHeap$Half", "addWord", "(I)V"⟩, 3) := ⟨⟨by decide +kernel, by decide +kernel⟩, List.mem_of_getElem? (i := 19) (by decide +kernel), List.mem_of_getElem? (i := 89) (by decide +kernel), List.mem_of_getElem? (i := 90) (by decide +kernel)⟩
theorem lw_p3 : lw_okq (⟨"java/lang/Throwable", "fillInStackTrace", "(I)Ljava/lang/Throwable;"⟩, 6) := ⟨⟨by decide +kernel, by decide +kernel⟩, List.mem_of_getElem? (i := 163) (by decide +kernel), List.mem_of_getElem? (i := 161) (by decide +kernel), List.mem_of_getElem? (i := 162) (by decide +kernel)⟩
theorem lw_p4 : lw_okq (⟨"CopyHeap", "objectOf", "(I)I"⟩, 5) := ⟨⟨by decide +kernel, by decide +kernel⟩, List.mem_of_getElem? (i := 11) (by decide +kernel), List.mem_of_getElem? (i := 246) (by decide +kernel), List.mem_of_getElem? (i := 247) (by decide +kernel)⟩
theorem lw_p5 : lw_okq (⟨"CopyHeap", "requireField", "(II)V"⟩, 5) := ⟨⟨by decide +kernel, by decide +kernel⟩, List.mem_of_getElem? (i := 11) (by decide +kernel), List.mem_of_getElem? (i := 252) (by decide +kernel), List.mem_of_getElem? (i := 253) (by decide +kernel)⟩
theorem lw_p6 : lw_okq (⟨"CopyHeapModel", "gather", "()I"⟩, 14) := ⟨⟨by decide +kernel, by decide +kernel⟩, List.mem_of_getElem? (i := 321) (by decide +kernel), List.mem_of_getElem? (i := 378) (by decide +kernel), List.mem_of_getElem? (i := 379) (by decide +kernel)⟩
theorem lw_p7 : lw_okq (⟨"CopyHeapModel", "keep", "(I)V"⟩, 14) := ⟨⟨by decide +kernel, by decide +kernel⟩, List.mem_of_getElem? (i := 321) (by decide +kernel), List.mem_of_getElem? (i := 382) (by decide +kernel), List.mem_of_getElem? (i := 383) (by decide +kernel)⟩
theorem lw_p8 : lw_okq (⟨"CopyHeapModel", "fieldsAt", "(I)I"⟩, 14) := ⟨⟨by decide +kernel, by decide +kernel⟩, List.mem_of_getElem? (i := 321) (by decide +kernel), List.mem_of_getElem? (i := 386) (by decide +kernel), List.mem_of_getElem? (i := 387) (by decide +kernel)⟩
theorem lw_p9 : lw_okq (⟨"CopyHeapModel", "fail", "(I)I"⟩, 14) := ⟨⟨by decide +kernel, by decide +kernel⟩, List.mem_of_getElem? (i := 321) (by decide +kernel), List.mem_of_getElem? (i := 397) (by decide +kernel), List.mem_of_getElem? (i := 398) (by decide +kernel)⟩
theorem lw_p10 : lw_okq (⟨"CopyHeapModel", "isRaw", "(I)Z"⟩, 14) := ⟨⟨by decide +kernel, by decide +kernel⟩, List.mem_of_getElem? (i := 321) (by decide +kernel), List.mem_of_getElem? (i := 416) (by decide +kernel), List.mem_of_getElem? (i := 417) (by decide +kernel)⟩
theorem lw_p11 : lw_okq (⟨"CopyHeapModel", "hasField", "(II)Z"⟩, 14) := ⟨⟨by decide +kernel, by decide +kernel⟩, List.mem_of_getElem? (i := 321) (by decide +kernel), List.mem_of_getElem? (i := 420) (by decide +kernel), List.mem_of_getElem? (i := 421) (by decide +kernel)⟩
theorem lw_p12 : lw_okq (⟨"CopyHeapModel", "objects", "()I"⟩, 14) := ⟨⟨by decide +kernel, by decide +kernel⟩, List.mem_of_getElem? (i := 321) (by decide +kernel), List.mem_of_getElem? (i := 444) (by decide +kernel), List.mem_of_getElem? (i := 445) (by decide +kernel)⟩
def lw_privs_1 : List (MethodName × Nat) := [(⟨"CopyHeap", "moveToSpare", "()V"⟩, 5), (⟨"CopyHeap$Half", "moveObject", "(ILCopyHeap$Half;)I"⟩, 3), (⟨"CopyHeap$Half", "addWord", "(I)V"⟩, 3), (⟨"java/lang/Throwable", "fillInStackTrace", "(I)Ljava/lang/Throwable;"⟩, 6), (⟨"CopyHeap", "objectOf", "(I)I"⟩, 5), (⟨"CopyHeap", "requireField", "(II)V"⟩, 5), (⟨"CopyHeapModel", "gather", "()I"⟩, 14), (⟨"CopyHeapModel", "keep", "(I)V"⟩, 14), (⟨"CopyHeapModel", "fieldsAt", "(I)I"⟩, 14), (⟨"CopyHeapModel", "fail", "(I)I"⟩, 14), (⟨"CopyHeapModel", "isRaw", "(I)Z"⟩, 14), (⟨"CopyHeapModel", "hasField", "(II)Z"⟩, 14), (⟨"CopyHeapModel", "objects", "()I"⟩, 14)]
theorem lw_r1 : ∀ q ∈ lw_privs_1, lw_okq q := List.forall_mem_cons.mpr ⟨lw_p0, List.forall_mem_cons.mpr ⟨lw_p1, List.forall_mem_cons.mpr ⟨lw_p2, List.forall_mem_cons.mpr ⟨lw_p3, List.forall_mem_cons.mpr ⟨lw_p4, List.forall_mem_cons.mpr ⟨lw_p5, List.forall_mem_cons.mpr ⟨lw_p6, List.forall_mem_cons.mpr ⟨lw_p7, List.forall_mem_cons.mpr ⟨lw_p8, List.forall_mem_cons.mpr ⟨lw_p9, List.forall_mem_cons.mpr ⟨lw_p10, List.forall_mem_cons.mpr ⟨lw_p11, List.forall_mem_cons.mpr ⟨lw_p12, fun _ h => absurd h List.not_mem_nil⟩⟩⟩⟩⟩⟩⟩⟩⟩⟩⟩⟩⟩
def lw_privs : List (MethodName × Nat) := lw_privs_1
def lw_tbl : List Cond := k2_sels lw_privs ++ tables_1
theorem lw_privs_ok : ∀ q ∈ lw_privs, lw_okq q := lw_r1
/-! ===== BEGIN words of one list among another's, by their places ===== -/
theorem goodIn_r {big : List Cond} (ws : List Cond) (ps : List Nat) (hp : ws = ps.filterMap (fun i => big[i]?)) (h : ws.all goodWord = true) : GoodIn big ws := by
  intro w hw
  have h1 := List.all_eq_true.mp h w hw
  rw [hp] at hw
  obtain ⟨i, -, hi⟩ := List.mem_filterMap.mp hw
  have hm : w ∈ big := by first | exact List.mem_of_getElem? hi | exact List.getElem?_mem hi
  exact ⟨hm, good_of_word h1⟩
theorem goodIn_app {big a b : List Cond} (ha : GoodIn big a) (hb : GoodIn big b) : GoodIn big (a ++ b) := fun w h => (List.mem_append.mp h).elim (ha w) (hb w)
theorem goodIn_ca {big a b : List Cond} {c : Cond} (ha : GoodIn big (c :: a)) (hb : GoodIn big b) : GoodIn big (c :: (a ++ b)) := fun w h => (List.mem_cons.mp h).elim (fun e => ha w (List.mem_cons.mpr (Or.inl e))) (fun h => (List.mem_append.mp h).elim (fun h => ha w (List.mem_cons.mpr (Or.inr h))) (hb w))
theorem goodIn_sub {big ws : List Cond} (hm : ∀ w ∈ ws, w ∈ big) (h : ws.all goodWord = true) : GoodIn big ws := fun w hw => ⟨hm w hw, good_of_word (List.all_eq_true.mp h w hw)⟩
/-! ===== END ===== -/

/-! ===== BEGIN exceptions that leave a method, and their catching by the caller (launches without stack traces) ===== -/
section VXA
/-! The laws vx_back, vx_callV, vx_callS, vx_callSW, vx_throw0, vx_throwS follow proofs of the library, with one case more: JvmDerived/Free/Laws.lean (Back.of_free), Shelf42/LK1.lean (callV, callS), Shelf/KitTraced.lean (throwNew0V, throwNewS). -/

/-- where a method has thrown q: the class by its name, the cell, what was written, the world -/
def vx_T (XC : String → State → State → Prop) (st : State) (q : Addr) (t : State) (mc ms : Nat) (free : Addr → Prop) : Prop :=
  ∃ (E : String) (ce : Cell) (L : List Loc), XC E st t ∧ t.heap[q]? = some ce ∧ ce.vm = .none ∧ st.vm.findClass E = some ce.cls ∧ st.WarmedH t.vm ∧ st.sameButNew ({ t with vm := st.vm } : State) L mc ms ∧ ∀ z ∈ L, free z.base
def vx_Q (Qc : Array Value → State → Outcome → State → Prop) (XC : String → State → State → Prop) (mc ms : Nat) (free : Addr → Prop) : Array Value → State → Outcome → State → Prop := fun a st o t =>
  (Qc a st o t ∧ ∃ L, FrameEnd st o t L mc ms ∧ ∀ q ∈ L, free q.base) ∨ ∃ q, o = .threw q ∧ vx_T XC st q t mc ms free
/-- a callee that returns or throws -/
def vx_Met (l : Launch) (y : MethodName) (ws : List Cond) (rm : Room) (Pc : Array Value → State → Prop) (Qc : Array Value → State → Outcome → State → Prop) (XC : String → State → State → Prop) (mc ms : Nat) (free : Addr → Prop) : Prop :=
  MetFree l y (headSpec ws rm) Pc (fun _ _ _ _ _ => True) (vx_Q Qc XC mc ms free)
def vx_Post (XC : String → State → State → Prop) (mc ms : Nat) (free : Addr → Prop) : Pt → Array Value → Addr → Pt → Prop := fun A a q B =>
  ∃ (g : JFrame) (mk : MethodId) (t : State) (L : List Loc) (E : String) (ce : Cell), B.U.heap = t.heap ∧ B.U.vm = t.vm ∧ XC E (A.U.calling g mk a) t ∧ t.heap[q]? = some ce ∧ ce.vm = .none ∧ A.U.vm.findClass E = some ce.cls ∧ B.locs = A.locs ++ L ∧ (∀ z ∈ L, free z.base) ∧ B.cells = A.cells + mc ∧ B.slots = A.slots + ms
def vx_Back (l : Launch) (R : Room) (p : Program) (e : Env) (below : List Frame) (s : State) (sargs : Array Value) (y : MethodName) (len W9 : Nat)
    (Pre : Pt → Array Value → Prop) (Post : Pt → Array Value → Option Value → Pt → Prop) (PostX : Pt → Array Value → Addr → Pt → Prop) : Prop :=
  ∀ (m : MethodId) (meth : Method) (c : Code) (A : Pt) (g : JFrame) (ig : Instr) (mk : MethodId) (a : Array Value),
    Stand p l e R s m sargs below meth c A.U A.locs A.cells A.slots → g.method = m → g.locals.size = c.maxLocals → decode c.code g.pc = .ok (ig, len) →
    2 * g.monitorRoom + (g.stack.map fun v => v.category).sum ≤ W9 → A.U.methodNamed? y = some mk → Pre A a →
    (∃ (v : Option Value) (B : Pt), Stand p l e R s m sargs below meth c B.U B.locs B.cells B.slots ∧ Post A a v B ∧
      Steps p.tables e below (doInvoke e (A.U.setTop g) [] mk a).1 (B.U.setTop { g with pc := g.pc + len, stack := v.toList ++ g.stack })) ∨
    (∃ (q : Addr) (B : Pt), Stand p l e R s m sargs below meth c B.U B.locs B.cells B.slots ∧ PostX A a q B ∧
      Steps p.tables e below (doInvoke e (A.U.setTop g) [] mk a).1 ((B.U.setTop g).pushFrame (.throwing q)))
section Payer
variable {l : Launch} {R : Room} {p : Program} {e : Env} {below : List Frame} {s : State} {sargs : Array Value} {y : MethodName} {len W9 : Nat}
theorem vx_back {ws : List Cond} {rm : Room} {Pc : Array Value → State → Prop} {Qc : Array Value → State → Outcome → State → Prop} {XC : String → State → State → Prop} {mc ms : Nat} {free : Addr → Prop} {bytes : ByteArray} {maxL : Nat} {ret : Option FieldType}
    (hM : vx_Met l y ws rm Pc Qc XC mc ms free) (hblind : FrameBlind Pc) (hrc : rm.cells = mc) (hrs : rm.slots = ms)
    (hframes : rm.frames + 1 ≤ R.frames) (hlocals : W9 + (maxL + 11) + rm.locals ≤ R.locals)
    (hws : ∀ w ∈ ws, ∀ a' U, s.WarmedH U.vm → w.before a' U = true) (hcode : Cond.code y bytes maxL ret ∈ ws) (hinit : ∀ a' U, s.WarmedH U.vm → (Cond.initialized y.cls).before a' U = true) :
    vx_Back l R p e below s sargs y len W9 (PreOf R mc ms Pc) (PostOf Qc mc ms free) (vx_Post XC mc ms free) := by
  intro m meth c A g ig mk a X hg hsize hdg hW hn hp
  have h1 : (headSpec ws rm).pre.before a A.U = true := atoms_intro fun w hw => hws w hw _ _ X.warmed
  have h2 : (Cond.code y bytes maxL ret).before a A.U = true := hws _ hcode _ _ X.warmed
  have h3 : (Cond.initialized y.cls).before a A.U = true := hinit _ _ X.warmed
  have h4 : A.cells + (headSpec ws rm).room.cells ≤ R.cells := by rw [show (headSpec ws rm).room.cells = mc from hrc]; exact hp.1
  have h5 : A.slots + (headSpec ws rm).room.slots ≤ R.slots := by rw [show (headSpec ws rm).room.slots = ms from hrs]; exact hp.2.1
  have hPc : Pc a (A.U.calling g mk a) := hblind _ _ _ _ hp.2.2
  obtain ⟨U, Ls, c0, s0⟩ := A
  dsimp only [Pt.U, Pt.locs, Pt.cells, Pt.slots] at h1 h2 h3 h4 h5 X hn hPc ⊢
  obtain ⟨methY, cY, hmY, hcY, -, hlY, -, -, -, -⟩ := Cond.code_spec hn h2
  obtain ⟨kY, hkY, -⟩ := className_of_methodNamed hn
  have hinitY : kY.init = .initialized := Cond.initialized_spec (findClass_of_methodNamed hn) hkY h3
  have h : At U g.method c below := by rw [hg]; exact X.here
  have hlocals9 : W9 + (maxL + 11) + (headSpec ws rm).room.locals ≤ R.locals := hlocals
  have happ : (headSpec ws rm).appliesLoose y e.platform (U.calling g mk a) = true :=
    Spec.appliesLoose_calling (g := g) h hdg hn hkY hinitY
      (X.room_calling (g := g) (R' := (headSpec ws rm).room) hsize hmY hcY hframes (by rw [hlY]; omega) h4 h5) h1
  obtain ⟨mid, hmid⟩ := h.above
  have hfr : (U.setTop g).frames = (.java g :: mid) ++ below := by rw [State.frames_setTop' g h.top, hmid]; rfl
  obtain ⟨o, s₂, hsteps, -, hend, hq⟩ := Steps.callFree hM p X.admits X.cas X.clock (acts := []) hfr happ hPc trivial
  have hq' : vx_Q Qc XC mc ms free a (U.calling g mk a) o s₂ := hq
  rw [State.frames_setTop' g h.top] at hend
  obtain ⟨g₀, hg0⟩ := Option.isSome_iff_exists.mp h.top
  obtain ⟨r, hr⟩ := State.topJava?_eq_some.mp hg0
  have hr' : (({ U with heap := s₂.heap, slotsUsed := s₂.slotsUsed } : State).setVm s₂.vm).frames = .java g₀ :: r := hr
  rcases hq' with ⟨hqc, L, hfe, hL⟩ | ⟨q, rfl, E, ce, L, hx, hce, hcv, hcl, hW₂, hsm, hL⟩
  · obtain ⟨⟨v, rfl⟩, hW₂, e2, q2, q3, q4, q5, q6⟩ := id hfe
    have e3 : s₂ = ({ (U.calling g mk a).setFrames s₂.frames with heap := s₂.heap, slotsUsed := s₂.slotsUsed } : State).setVm s₂.vm := by
      have : s₂ = ({ s₂ with vm := (U.calling g mk a).vm } : State).setVm s₂.vm := rfl
      rw [e2] at this
      exact this
    obtain ⟨c₂, i₂, len₂, hc₂, hd₂, hf₂⟩ := hend
    have hW' : U.WarmedH s₂.vm := hW₂
    have hcc : c₂ = c := by
      have h1 : s₂.code? g.method = U.code? g.method := by
        rw [State.code?_eq, State.code?_eq, hW'.alike.method?]
      exact Option.some.inj (hc₂.symm.trans (h1.trans h.code))
    subst hcc
    have hlen : len₂ = len := by rw [hdg] at hd₂; cases hd₂; rfl
    subst hlen
    have hs₂ : s₂ = (({ U with heap := s₂.heap, slotsUsed := s₂.slotsUsed } : State).setVm s₂.vm).setTop { g with pc := g.pc + len₂, stack := v.toList ++ g.stack } := by
      refine e3.trans ?_
      rw [hf₂, State.calling_eq h.top, State.setFrames_setFrames, State.setTop_of_frames _ hr', hr]
      rfl
    have hsame : U.sameButNew ({ U with heap := s₂.heap, slotsUsed := s₂.slotsUsed } : State) L mc ms := by
      refine ⟨?_, q2, q3, q4, q5, q6⟩
      obtain ⟨t, ht, -⟩ := State.frames_cons hr
      show ({ U with heap := s₂.heap, slotsUsed := s₂.slotsUsed } : State) = { U.setFrames U.frames with heap := s₂.heap, slotsUsed := s₂.slotsUsed }
      rw [State.setFrames_self ht]
    subst hg
    refine Or.inl ⟨v, ⟨(({ U with heap := s₂.heap, slotsUsed := s₂.slotsUsed } : State).setVm s₂.vm), Ls ++ L, c0 + mc, s0 + ms⟩,
      ⟨X.admits, X.cas, X.clock, X.frames, X.room, X.hears, X.method, X.code, (X.here.setHeapUsed s₂.heap s₂.slotsUsed).setVm hW'.alike, X.tail, State.WarmedH.trans X.warmed hW', X.limits, X.bytes, X.same.trans (hsame.setVm s.vm)⟩,
      ⟨g, mk, s₂, L, rfl, rfl, hqc, rfl, hL, rfl, rfl⟩, ?_⟩
    show Steps p.tables e below _ ((({ U with heap := s₂.heap, slotsUsed := s₂.slotsUsed } : State).setVm s₂.vm).setTop { g with pc := g.pc + len₂, stack := v.toList ++ g.stack })
    rw [← hs₂]
    exact hsteps
  · obtain ⟨e2, q2, q3, q4, q5, q6⟩ := id hsm
    have e3 : s₂ = ({ (U.calling g mk a).setFrames s₂.frames with heap := s₂.heap, slotsUsed := s₂.slotsUsed } : State).setVm s₂.vm := by
      have : s₂ = ({ s₂ with vm := (U.calling g mk a).vm } : State).setVm s₂.vm := rfl
      rw [e2] at this
      exact this
    have hf₂ : s₂.frames = .throwing q :: .java g :: U.frames.tail := hend
    have hW' : U.WarmedH s₂.vm := hW₂
    have hs₂ : s₂ = ((({ U with heap := s₂.heap, slotsUsed := s₂.slotsUsed } : State).setVm s₂.vm).setTop g).pushFrame (.throwing q) := by
      refine e3.trans ?_
      rw [hf₂, State.calling_eq h.top, State.setFrames_setFrames, State.pushFrame, State.frames_setTop _ hr', State.setTop_of_frames _ hr', State.setFrames_setFrames, hr]
      rfl
    have hsame : U.sameButNew ({ U with heap := s₂.heap, slotsUsed := s₂.slotsUsed } : State) L mc ms := by
      refine ⟨?_, q2, q3, q4, q5, q6⟩
      obtain ⟨t, ht, -⟩ := State.frames_cons hr
      show ({ U with heap := s₂.heap, slotsUsed := s₂.slotsUsed } : State) = { U.setFrames U.frames with heap := s₂.heap, slotsUsed := s₂.slotsUsed }
      rw [State.setFrames_self ht]
    subst hg
    refine Or.inr ⟨q, ⟨(({ U with heap := s₂.heap, slotsUsed := s₂.slotsUsed } : State).setVm s₂.vm), Ls ++ L, c0 + mc, s0 + ms⟩,
      ⟨X.admits, X.cas, X.clock, X.frames, X.room, X.hears, X.method, X.code, (X.here.setHeapUsed s₂.heap s₂.slotsUsed).setVm hW'.alike, X.tail, State.WarmedH.trans X.warmed hW', X.limits, X.bytes, X.same.trans (hsame.setVm s.vm)⟩,
      ⟨g, mk, s₂, L, E, ce, rfl, rfl, hx, hce, hcv, hcl, rfl, hL, rfl, rfl⟩, ?_⟩
    show Steps p.tables e below _ (((({ U with heap := s₂.heap, slotsUsed := s₂.slotsUsed } : State).setVm s₂.vm).setTop g).pushFrame (.throwing q))
    rw [← hs₂]
    exact hsteps
end Payer
section Calls
variable {p : Program} {l : Launch} {e : Env} {R : Room} {s : State} {m : MethodId} {args : Array Value} {below : List Frame} {meth : Method} {c : Code} {T : State} {locs : List Loc} {cells slots : Nat}
theorem vx_callV (X : Stand p l e R s m args below meth c T locs cells slots) (hexec : p.tables.exec = Jvm.exec) {own C : String} {index : Nat} {y : MethodName} {bytes : ByteArray} {maxL : Nat} {ret : Option FieldType}
    (hown : s.vm.findClass own = some m.cls) (hlink : (Cond.methodLink own index y).before args s = true) (hinst : (Cond.instanceMethod y).before args s = true) (hsel : (Cond.selects C y y).before args s = true)
    (hcode : (Cond.code y bytes maxL ret).before args s = true) (hy : y.cls ≠ "java/lang/invoke/MethodHandle" ∧ y.cls ≠ "java/lang/invoke/VarHandle")
    {W9 : Nat} {Pre : Pt → Array Value → Prop} {Post : Pt → Array Value → Option Value → Pt → Prop} {PostX : Pt → Array Value → Addr → Pt → Prop} (hK : vx_Back l R p e below s args y 3 W9 Pre Post PostX)
    {b : Addr} {cellB : Cell} (hcell : T.heap[b]? = some cellB) (hobj : cellB.vm.isStatics = false) (hcls : s.vm.findClass C = some cellB.cls)
    {g : JFrame} (hg : g.method = m) (hsize : g.locals.size = c.maxLocals) {argsL rest : List Value} (hlen : ∀ sig, parseMethodDescriptor y.desc = some sig → argsL.length = sig.parameters.length)
    (hstack : g.stack = argsL.reverse ++ .ref b :: rest) (hW : 2 * g.monitorRoom + (rest.map fun v => v.category).sum ≤ W9) (hdg : decode c.code g.pc = .ok (.invokevirtual index, 3))
    (hpre : ∀ vm₁, s.WarmedH vm₁ → Pre ⟨T.setVm vm₁, locs, cells, slots⟩ (Value.ref b :: argsL).toArray) :
    (∃ (v : Option Value) (vm₁ : Vm) (B : Pt), s.WarmedH vm₁ ∧ Stand p l e R s m args below meth c B.U B.locs B.cells B.slots ∧ Post ⟨T.setVm vm₁, locs, cells, slots⟩ (Value.ref b :: argsL).toArray v B ∧
      ∀ target, Steps p.tables e below (B.U.setTop { g with pc := g.pc + 3, stack := v.toList ++ rest }) target → Steps p.tables e below (T.setTop g) target) ∨
    (∃ (q : Addr) (vm₁ : Vm) (B : Pt), s.WarmedH vm₁ ∧ Stand p l e R s m args below meth c B.U B.locs B.cells B.slots ∧ PostX ⟨T.setVm vm₁, locs, cells, slots⟩ (Value.ref b :: argsL).toArray q B ∧
      Steps p.tables e below (T.setTop g) ((B.U.setTop { g with stack := rest }).pushFrame (.throwing q))) := by
  obtain ⟨mk, methM, hnamed, hmethM, hstM, habM⟩ := Cond.instanceMethod_spec hinst
  obtain ⟨methM', cM, hmethM', -, -, -, -, -, -, hsigM⟩ := Cond.code_spec hnamed hcode
  cases hmethM.symm.trans hmethM'
  obtain ⟨c2, r2, m2, q1, q2, q3, q4, kP, hkP, hkPi⟩ := Cond.selects_spec hsel
  cases hcls.symm.trans q1
  cases (State.methodFound?_of_named hnamed hy).symm.trans q2
  cases hnamed.symm.trans q3
  have hselP : selectMethod e.platform s.vm cellB.cls mk = .method mk := by rw [Launch.admits_selectMethod X.admits]; exact q4
  obtain ⟨vm₁, X₁, hstep₁⟩ := X.invokevirtual hexec hown hlink hnamed hmethM hstM hkP hkPi hy (a := b) (cell := cellB) hcell
    (fun z h => by rw [h] at hobj; cases hobj) hselP hmethM habM hkP hkPi (g := g) hg (argsL := argsL) (rest := rest) (hlen _ hsigM) hstack hdg
  rcases hK m meth c ⟨T.setVm vm₁, locs, cells, slots⟩ { g with stack := rest } (.invokevirtual index) mk (Value.ref b :: argsL).toArray X₁ hg hsize hdg hW (X₁.named hnamed) (hpre vm₁ X₁.warmed) with ⟨v, B, X', hpost, hsteps⟩ | ⟨q, B, X', hpost, hsteps⟩
  · exact Or.inl ⟨v, vm₁, B, X₁.warmed, X', hpost, fun target h => hstep₁ _ fun acts => by rw [doInvoke_state]; exact hsteps.trans h⟩
  · exact Or.inr ⟨q, vm₁, B, X₁.warmed, X', hpost, hstep₁ _ fun acts => by rw [doInvoke_state]; exact hsteps⟩
theorem vx_callS (X : Stand p l e R s m args below meth c T locs cells slots) (hexec : p.tables.exec = Jvm.exec) {own : String} {index : Nat} {y : MethodName} {bytes : ByteArray} {maxL : Nat} {ret : Option FieldType}
    (hown : s.vm.findClass own = some m.cls) (hlink : (Cond.methodLink own index y).before args s = true) (hstat : (Cond.static y).before args s = true) (hinit : (Cond.initialized y.cls).before args s = true)
    (hcode : (Cond.code y bytes maxL ret).before args s = true) (hy : y.cls ≠ "java/lang/invoke/MethodHandle" ∧ y.cls ≠ "java/lang/invoke/VarHandle")
    {W9 : Nat} {Pre : Pt → Array Value → Prop} {Post : Pt → Array Value → Option Value → Pt → Prop} {PostX : Pt → Array Value → Addr → Pt → Prop} (hK : vx_Back l R p e below s args y 3 W9 Pre Post PostX)
    {g : JFrame} (hg : g.method = m) (hsize : g.locals.size = c.maxLocals) {argsL rest : List Value} (hlen : ∀ sig, parseMethodDescriptor y.desc = some sig → argsL.length = sig.parameters.length)
    (hstack : g.stack = argsL.reverse ++ rest) (hW : 2 * g.monitorRoom + (rest.map fun v => v.category).sum ≤ W9) (hdg : decode c.code g.pc = .ok (.invokestatic index, 3))
    (hpre : ∀ vm₁, s.WarmedH vm₁ → Pre ⟨T.setVm vm₁, locs, cells, slots⟩ argsL.toArray) :
    (∃ (v : Option Value) (vm₁ : Vm) (B : Pt), s.WarmedH vm₁ ∧ Stand p l e R s m args below meth c B.U B.locs B.cells B.slots ∧ Post ⟨T.setVm vm₁, locs, cells, slots⟩ argsL.toArray v B ∧
      ∀ target, Steps p.tables e below (B.U.setTop { g with pc := g.pc + 3, stack := v.toList ++ rest }) target → Steps p.tables e below (T.setTop g) target) ∨
    (∃ (q : Addr) (vm₁ : Vm) (B : Pt), s.WarmedH vm₁ ∧ Stand p l e R s m args below meth c B.U B.locs B.cells B.slots ∧ PostX ⟨T.setVm vm₁, locs, cells, slots⟩ argsL.toArray q B ∧
      Steps p.tables e below (T.setTop g) ((B.U.setTop { g with stack := rest }).pushFrame (.throwing q))) := by
  obtain ⟨mk, hnamed⟩ := Cond.code_named hcode
  obtain ⟨methM, cM, hmethM, -, -, -, -, -, -, hsigM⟩ := Cond.code_spec hnamed hcode
  have hstatic : methM.isStatic = true := Cond.static_spec hnamed hmethM hstat
  obtain ⟨kP, hkP, -⟩ := className_of_methodNamed hnamed
  have hinitP : kP.init = .initialized := Cond.initialized_spec (findClass_of_methodNamed hnamed) hkP hinit
  obtain ⟨vm₁, X₁, hstep₁⟩ := X.invokestatic hexec hown hlink hnamed hmethM hstatic hkP hinitP hy (g := g) hg (argsL := argsL) (rest := rest) (hlen _ hsigM) hstack hdg
  rcases hK m meth c ⟨T.setVm vm₁, locs, cells, slots⟩ { g with stack := rest } (.invokestatic index) mk argsL.toArray X₁ hg hsize hdg hW (X₁.named hnamed) (hpre vm₁ X₁.warmed) with ⟨v, B, X', hpost, hsteps⟩ | ⟨q, B, X', hpost, hsteps⟩
  · exact Or.inl ⟨v, vm₁, B, X₁.warmed, X', hpost, fun target h => hstep₁ _ fun acts => by rw [doInvoke_state]; exact hsteps.trans h⟩
  · exact Or.inr ⟨q, vm₁, B, X₁.warmed, X', hpost, hstep₁ _ fun acts => by rw [doInvoke_state]; exact hsteps⟩
end Calls
theorem vx_cls {s : State} {T : State} {vm₁ : Vm} {E : String} {k : ClassId} (hW : s.WarmedH vm₁) (h : (T.setVm vm₁).vm.findClass E = some k) : s.vm.findClass E = some k := by
  have h1 : vm₁.findClass E = some k := h
  rw [hW.alike.findClass] at h1
  exact h1
/-- the method's frame g, with q thrown over it -/
def vx_W (p : Program) (l : Launch) (e : Env) (R : Room) (s : State) (m : MethodId) (args : Array Value) (below : List Frame) (meth : Method) (c : Code) (H : Heap) (locs : List Loc) (cells slots : Nat) (Q : State → Prop) (g : JFrame) (q : Addr) : Prop :=
  ∀ T : State, T.heap = H → Stand p l e R s m args below meth c T locs cells slots → ∃ t, Steps p.tables e below ((T.setTop g).pushFrame (.throwing q)) t ∧ Q t
def vx_Run (p : Program) (l : Launch) (e : Env) (R : Room) (s : State) (m : MethodId) (args : Array Value) (below : List Frame) (meth : Method) (c : Code) (H : Heap) (locs : List Loc) (cells slots mc ms : Nat) (g : JFrame) (rest : List Value) (Qa : State → Outcome → State → Prop) (XC : String → State → State → Prop) (free : Addr → Prop) : Prop :=
  ∀ T : State, T.heap = H → Stand p l e R s m args below meth c T locs cells slots →
    (∃ (v : Option Value) (st₀ t T' : State) (L : List Loc), st₀.heap = H ∧ Stand p l e R s m args below meth c T' (locs ++ L) (cells + mc) (slots + ms) ∧ (∀ q ∈ L, free q.base) ∧ T'.heap = t.heap ∧ T'.vm = t.vm ∧ Qa st₀ (.returned v) t ∧
      Goes p e below T g T' { g with pc := g.pc + 3, stack := v.toList ++ rest }) ∨
    (∃ (q : Addr) (st₀ t T' : State) (L : List Loc) (E : String) (ce : Cell), st₀.heap = H ∧ Stand p l e R s m args below meth c T' (locs ++ L) (cells + mc) (slots + ms) ∧ (∀ z ∈ L, free z.base) ∧ T'.heap = t.heap ∧ T'.vm = t.vm ∧ XC E st₀ t ∧ t.heap[q]? = some ce ∧ ce.vm = .none ∧ s.vm.findClass E = some ce.cls ∧
      Steps p.tables e below (T.setTop g) ((T'.setTop { g with stack := rest }).pushFrame (.throwing q)))
def vx_X {S : Type} (px : S → Prop) (B : String → S → State → Prop) (A : Nat → Prop) : String → State → State → Prop := fun E st t => ∃ u : S, px u ∧ B E u t ∧ va_F A st t
section Runs
variable {p : Program} {l : Launch} {e : Env} {R : Room} {s : State} {m : MethodId} {args : Array Value} {below : List Frame} {meth : Method} {c : Code} {H : Heap} {locs : List Loc} {cells slots : Nat}
variable {y : MethodName} {bytes cc : ByteArray} {maxL nL mc ms n index : Nat} {ret : Option FieldType} {ws : List Cond} {rm : Room} {Pc : Array Value → State → Prop} {Qc : Array Value → State → Outcome → State → Prop} {XC : String → State → State → Prop} {free : Addr → Prop} {Ts : List Cond} {own C : String} {b : Addr} {As rest : List Value} {g : JFrame}
theorem vx_callBack (cb : CallB R s args own index y bytes maxL ret ws rm mc ms n) (hM : vx_Met l y ws rm Pc Qc XC mc ms free) (hbl : FrameBlind Pc) : vx_Back l R p e below s args y 3 8 (PreOf R mc ms Pc) (PostOf Qc mc ms free) (vx_Post XC mc ms free) := by
  obtain ⟨hrc, hrs, hfr, hlo, hws, hcw, -, hini, -⟩ := cb
  exact vx_back (bytes := bytes) (maxL := maxL) (ret := ret) hM hbl hrc hrs hfr hlo hws hcw (fun a' U hW => word_at hW (Or.inl (by first | rfl | simp [Cond.onTables, Cond.keeps, Cond.steady])) hini)
theorem vx_runV (S : CallFix p m c cc nL s args Ts own) (hM : vx_Met l y ws rm Pc Qc XC mc ms free) (cw : CallW R s args own C index y bytes maxL ret ws rm mc ms n) (hp : PreV s H C b Pc As)
    (hg : g.method = m) (hn : As.length = n) (hsize : g.locals.size = nL) (hstack : g.stack = As.reverse ++ .ref b :: rest) (hW : 2 * g.monitorRoom + (rest.map fun v => v.category).sum ≤ 8) (hdg : decode cc g.pc = .ok (.invokevirtual index, 3)) (hf : cells + mc ≤ R.cells ∧ slots + ms ≤ R.slots) :
    vx_Run p l e R s m args below meth c H locs cells slots mc ms g rest (Qc (Value.ref b :: As).toArray) XC free := by
  have hK : vx_Back l R p e below s args y 3 8 (PreOf R mc ms Pc) (PostOf Qc mc ms free) (vx_Post XC mc ms free) := vx_callBack cw.1 hM hp.1
  obtain ⟨⟨-, -, -, -, -, -, hcode, -, hy, hlen, hl⟩, hin, hse⟩ := cw
  obtain ⟨hx, hb, hml, ho, -⟩ := S
  obtain ⟨-, ⟨cellB, hcB, hoB, hclB⟩, hPc⟩ := hp
  intro T hT X
  rcases vx_callV X hx (C := C) (bytes := bytes) (maxL := maxL) (ret := ret) ho hl hin hse hcode hy hK (by rw [hT]; exact hcB) hoB hclB hg (hsize.trans hml.symm) (argsL := As) (rest := rest) (fun sig h => hn.trans (hlen sig h)) hstack hW (by rw [hb]; exact hdg)
    (fun vm₁ hW₁ => ⟨hf.1, hf.2, hPc (T.setVm vm₁) hT hW₁⟩) with ⟨v, vm₁, ⟨U', l2, c2, s2⟩, hW₁, X', ⟨g', mk, t, L, e1, e2, hq, h1, hL, h2, h3⟩, st⟩ | ⟨q, vm₁, ⟨U', l2, c2, s2⟩, hW₁, X', ⟨g', mk, t, L, E, ce, e1, e2, hq, hce, hcv, hcl, h1, hL, h2, h3⟩, st⟩
  · dsimp only [Pt.U, Pt.locs, Pt.cells, Pt.slots] at X' e1 e2 h1 h2 h3 st
    subst h1; subst h2; subst h3
    exact Or.inl ⟨v, (T.setVm vm₁).calling g' mk (Value.ref b :: As).toArray, t, U', L, hT, X', hL, e1, e2, hq, st⟩
  · dsimp only [Pt.U, Pt.locs, Pt.cells, Pt.slots] at X' e1 e2 h1 h2 h3 st hcl
    subst h1; subst h2; subst h3
    exact Or.inr ⟨q, (T.setVm vm₁).calling g' mk (Value.ref b :: As).toArray, t, U', L, E, ce, hT, X', hL, e1, e2, hq, hce, hcv, vx_cls hW₁ hcl, st⟩
theorem vx_runS (S : CallFix p m c cc nL s args Ts own) (hM : vx_Met l y ws rm Pc Qc XC mc ms free) (cw : CallB R s args own index y bytes maxL ret ws rm mc ms n ∧ (Cond.static y).before args s = true) (hp : PreS s H Pc As)
    (hg : g.method = m) (hn : As.length = n) (hsize : g.locals.size = nL) (hstack : g.stack = As.reverse ++ rest) (hW : 2 * g.monitorRoom + (rest.map fun v => v.category).sum ≤ 8) (hdg : decode cc g.pc = .ok (.invokestatic index, 3)) (hf : cells + mc ≤ R.cells ∧ slots + ms ≤ R.slots) :
    vx_Run p l e R s m args below meth c H locs cells slots mc ms g rest (Qc As.toArray) XC free := by
  have hK : vx_Back l R p e below s args y 3 8 (PreOf R mc ms Pc) (PostOf Qc mc ms free) (vx_Post XC mc ms free) := vx_callBack cw.1 hM hp.1
  obtain ⟨⟨-, -, -, -, -, -, hcode, hini, hy, hlen, hl⟩, hstt⟩ := cw
  obtain ⟨hx, hb, hml, ho, -⟩ := S
  intro T hT X
  rcases vx_callS X hx (bytes := bytes) (maxL := maxL) (ret := ret) ho hl hstt hini hcode hy hK hg (hsize.trans hml.symm) (argsL := As) (rest := rest) (fun sig h => hn.trans (hlen sig h)) hstack hW (by rw [hb]; exact hdg)
    (fun vm₁ hW₁ => ⟨hf.1, hf.2, hp.2 (T.setVm vm₁) hT hW₁⟩) with ⟨v, vm₁, ⟨U', l2, c2, s2⟩, hW₁, X', ⟨g', mk, t, L, e1, e2, hq, h1, hL, h2, h3⟩, st⟩ | ⟨q, vm₁, ⟨U', l2, c2, s2⟩, hW₁, X', ⟨g', mk, t, L, E, ce, e1, e2, hq, hce, hcv, hcl, h1, hL, h2, h3⟩, st⟩
  · dsimp only [Pt.U, Pt.locs, Pt.cells, Pt.slots] at X' e1 e2 h1 h2 h3 st
    subst h1; subst h2; subst h3
    exact Or.inl ⟨v, (T.setVm vm₁).calling g' mk As.toArray, t, U', L, hT, X', hL, e1, e2, hq, st⟩
  · dsimp only [Pt.U, Pt.locs, Pt.cells, Pt.slots] at X' e1 e2 h1 h2 h3 st hcl
    subst h1; subst h2; subst h3
    exact Or.inr ⟨q, (T.setVm vm₁).calling g' mk As.toArray, t, U', L, E, ce, hT, X', hL, e1, e2, hq, hce, hcv, vx_cls hW₁ hcl, st⟩
end Runs
section Rows
variable {p : Program} {l : Launch} {e : Env} {R : Room} {s : State} {m : MethodId} {args : Array Value} {below : List Frame} {meth : Method} {c : Code} {H : Heap} {locs : List Loc} {cells slots : Nat} {Q : State → Prop}
variable {mc ms : Nat} {free : Addr → Prop} {A0 A1 : Nat → Prop} {H0 : Heap} {a : Array Value} {pc : Nat} {ls : Array Slot} {st0 rest : List Value}
theorem vx_keep {st₀ t T' : State} {L : List Loc} (h0 : st₀.heap = H) (e1 : T'.heap = t.heap) (hS : va_S A0 H0 H locs) (hA : ∀ q, q < H.size → A1 q → A0 q) (hf : ∀ q, free q → A0 q) (hL : ∀ q ∈ L, free q.base) (hF : va_F A1 st₀ t) :
    H.size ≤ T'.heap.size ∧ (∀ q : Nat, q < H.size → ¬ A1 q → T'.heap[q]? = H[q]?) ∧ va_S A0 H0 T'.heap (locs ++ L) := by
  obtain ⟨hz, hk⟩ := hF
  rw [h0] at hz hk
  exact ⟨by rw [e1]; exact hz, fun q h1 h2 => by rw [e1]; exact hk q h1 h2,
    ⟨Nat.le_trans hS.1 (by rw [e1]; exact hz), fun q h1 h2 => by rw [e1, hk q (Nat.lt_of_lt_of_le h1 hS.1) (fun z => h2 (hA q (Nat.lt_of_lt_of_le h1 hS.1) z))]; exact hS.2.1 q h1 h2, fun q hq => by
      rcases List.mem_append.mp hq with h | h
      · exact hS.2.2 q h
      · exact hf _ (hL q h)⟩⟩
theorem vx_calli {S SX : Type} {post : Int32 → S → Prop} {px : SX → Prop} {B : S → State → Prop} {BX : String → SX → State → Prop} {AX : Nat → Prop} (hr : vx_Run p l e R s m args below meth c H locs cells slots mc ms (F0 m pc ls st0) rest (va_Qi post B A1 a) (vx_X px BX AX) free) (hS : va_S A0 H0 H locs) (hA : ∀ q, q < H.size → A1 q → A0 q) (hf : ∀ q, free q → A0 q) (hAX : ∀ q, q < H.size → AX q → A0 q)
    (kx : ∀ (E : String) (ce : Cell) (q9 : Addr) (u : SX) (t : State) (H1 : Heap) (locs1 : List Loc), t.heap = H1 → s.vm.Alike t.vm → px u → BX E u t → H.size ≤ H1.size → (∀ q : Nat, q < H.size → ¬ AX q → H1[q]? = H[q]?) → va_S A0 H0 H1 locs1 → H1[q9]? = some ce → ce.vm = .none → s.vm.findClass E = some ce.cls → vx_W p l e R s m args below meth c H1 locs1 (cells + mc) (slots + ms) Q (F0 m pc ls rest) q9)
    (kk : ∀ (r : Int32) (u : S) (t : State) (H1 : Heap) (locs1 : List Loc), t.heap = H1 → s.vm.Alike t.vm → post r u → B u t → H.size ≤ H1.size → (∀ q : Nat, q < H.size → ¬ A1 q → H1[q]? = H[q]?) → va_S A0 H0 H1 locs1 → W p l e R s m args below meth c H1 locs1 (cells + mc) (slots + ms) Q (F0 m (pc + 3) ls (.int r :: rest))) : W p l e R s m args below meth c H locs cells slots Q (F0 m pc ls st0) := by
  intro T hT X
  rcases hr T hT X with ⟨v, st₀, t, T', L, h0, X', hL, e1, e2, ⟨⟨r, u, hv, hp, hb⟩, hF⟩, st⟩ | ⟨q, st₀, t, T', L, E, ce, h0, X', hL, e1, e2, ⟨u, hp, hb, hF⟩, hce, hcv, hcl, st⟩
  · cases hv
    obtain ⟨k1, k2, k3⟩ := vx_keep h0 e1 hS hA hf hL hF
    obtain ⟨t2, a1, b1⟩ := kk r u t T'.heap (locs ++ L) e1.symm (by rw [← e2]; exact X'.warmed.alike) hp hb k1 k2 k3 T' rfl X'
    exact ⟨t2, st t2 a1, b1⟩
  · obtain ⟨k1, k2, k3⟩ := vx_keep h0 e1 hS hAX hf hL hF
    obtain ⟨t2, a1, b1⟩ := kx E ce q u t T'.heap (locs ++ L) e1.symm (by rw [← e2]; exact X'.warmed.alike) hp hb k1 k2 k3 (by rw [e1]; exact hce) hcv hcl T' rfl X'
    exact ⟨t2, st.trans a1, b1⟩
theorem vx_calll {S SX : Type} {post : Int64 → S → Prop} {px : SX → Prop} {B : S → State → Prop} {BX : String → SX → State → Prop} {AX : Nat → Prop} (hr : vx_Run p l e R s m args below meth c H locs cells slots mc ms (F0 m pc ls st0) rest (va_Ql post B A1 a) (vx_X px BX AX) free) (hS : va_S A0 H0 H locs) (hA : ∀ q, q < H.size → A1 q → A0 q) (hf : ∀ q, free q → A0 q) (hAX : ∀ q, q < H.size → AX q → A0 q)
    (kx : ∀ (E : String) (ce : Cell) (q9 : Addr) (u : SX) (t : State) (H1 : Heap) (locs1 : List Loc), t.heap = H1 → s.vm.Alike t.vm → px u → BX E u t → H.size ≤ H1.size → (∀ q : Nat, q < H.size → ¬ AX q → H1[q]? = H[q]?) → va_S A0 H0 H1 locs1 → H1[q9]? = some ce → ce.vm = .none → s.vm.findClass E = some ce.cls → vx_W p l e R s m args below meth c H1 locs1 (cells + mc) (slots + ms) Q (F0 m pc ls rest) q9)
    (kk : ∀ (r : Int64) (u : S) (t : State) (H1 : Heap) (locs1 : List Loc), t.heap = H1 → s.vm.Alike t.vm → post r u → B u t → H.size ≤ H1.size → (∀ q : Nat, q < H.size → ¬ A1 q → H1[q]? = H[q]?) → va_S A0 H0 H1 locs1 → W p l e R s m args below meth c H1 locs1 (cells + mc) (slots + ms) Q (F0 m (pc + 3) ls (.long r :: rest))) : W p l e R s m args below meth c H locs cells slots Q (F0 m pc ls st0) := by
  intro T hT X
  rcases hr T hT X with ⟨v, st₀, t, T', L, h0, X', hL, e1, e2, ⟨⟨r, u, hv, hp, hb⟩, hF⟩, st⟩ | ⟨q, st₀, t, T', L, E, ce, h0, X', hL, e1, e2, ⟨u, hp, hb, hF⟩, hce, hcv, hcl, st⟩
  · cases hv
    obtain ⟨k1, k2, k3⟩ := vx_keep h0 e1 hS hA hf hL hF
    obtain ⟨t2, a1, b1⟩ := kk r u t T'.heap (locs ++ L) e1.symm (by rw [← e2]; exact X'.warmed.alike) hp hb k1 k2 k3 T' rfl X'
    exact ⟨t2, st t2 a1, b1⟩
  · obtain ⟨k1, k2, k3⟩ := vx_keep h0 e1 hS hAX hf hL hF
    obtain ⟨t2, a1, b1⟩ := kx E ce q u t T'.heap (locs ++ L) e1.symm (by rw [← e2]; exact X'.warmed.alike) hp hb k1 k2 k3 (by rw [e1]; exact hce) hcv hcl T' rfl X'
    exact ⟨t2, st.trans a1, b1⟩
theorem vx_callf {S SX : Type} {post : UInt32 → S → Prop} {px : SX → Prop} {B : S → State → Prop} {BX : String → SX → State → Prop} {AX : Nat → Prop} (hr : vx_Run p l e R s m args below meth c H locs cells slots mc ms (F0 m pc ls st0) rest (va_Qf post B A1 a) (vx_X px BX AX) free) (hS : va_S A0 H0 H locs) (hA : ∀ q, q < H.size → A1 q → A0 q) (hf : ∀ q, free q → A0 q) (hAX : ∀ q, q < H.size → AX q → A0 q)
    (kx : ∀ (E : String) (ce : Cell) (q9 : Addr) (u : SX) (t : State) (H1 : Heap) (locs1 : List Loc), t.heap = H1 → s.vm.Alike t.vm → px u → BX E u t → H.size ≤ H1.size → (∀ q : Nat, q < H.size → ¬ AX q → H1[q]? = H[q]?) → va_S A0 H0 H1 locs1 → H1[q9]? = some ce → ce.vm = .none → s.vm.findClass E = some ce.cls → vx_W p l e R s m args below meth c H1 locs1 (cells + mc) (slots + ms) Q (F0 m pc ls rest) q9)
    (kk : ∀ (r : UInt32) (u : S) (t : State) (H1 : Heap) (locs1 : List Loc), t.heap = H1 → s.vm.Alike t.vm → post r u → B u t → H.size ≤ H1.size → (∀ q : Nat, q < H.size → ¬ A1 q → H1[q]? = H[q]?) → va_S A0 H0 H1 locs1 → W p l e R s m args below meth c H1 locs1 (cells + mc) (slots + ms) Q (F0 m (pc + 3) ls (.float r :: rest))) : W p l e R s m args below meth c H locs cells slots Q (F0 m pc ls st0) := by
  intro T hT X
  rcases hr T hT X with ⟨v, st₀, t, T', L, h0, X', hL, e1, e2, ⟨⟨r, u, hv, hp, hb⟩, hF⟩, st⟩ | ⟨q, st₀, t, T', L, E, ce, h0, X', hL, e1, e2, ⟨u, hp, hb, hF⟩, hce, hcv, hcl, st⟩
  · cases hv
    obtain ⟨k1, k2, k3⟩ := vx_keep h0 e1 hS hA hf hL hF
    obtain ⟨t2, a1, b1⟩ := kk r u t T'.heap (locs ++ L) e1.symm (by rw [← e2]; exact X'.warmed.alike) hp hb k1 k2 k3 T' rfl X'
    exact ⟨t2, st t2 a1, b1⟩
  · obtain ⟨k1, k2, k3⟩ := vx_keep h0 e1 hS hAX hf hL hF
    obtain ⟨t2, a1, b1⟩ := kx E ce q u t T'.heap (locs ++ L) e1.symm (by rw [← e2]; exact X'.warmed.alike) hp hb k1 k2 k3 (by rw [e1]; exact hce) hcv hcl T' rfl X'
    exact ⟨t2, st.trans a1, b1⟩
theorem vx_calld {S SX : Type} {post : UInt64 → S → Prop} {px : SX → Prop} {B : S → State → Prop} {BX : String → SX → State → Prop} {AX : Nat → Prop} (hr : vx_Run p l e R s m args below meth c H locs cells slots mc ms (F0 m pc ls st0) rest (va_Qd post B A1 a) (vx_X px BX AX) free) (hS : va_S A0 H0 H locs) (hA : ∀ q, q < H.size → A1 q → A0 q) (hf : ∀ q, free q → A0 q) (hAX : ∀ q, q < H.size → AX q → A0 q)
    (kx : ∀ (E : String) (ce : Cell) (q9 : Addr) (u : SX) (t : State) (H1 : Heap) (locs1 : List Loc), t.heap = H1 → s.vm.Alike t.vm → px u → BX E u t → H.size ≤ H1.size → (∀ q : Nat, q < H.size → ¬ AX q → H1[q]? = H[q]?) → va_S A0 H0 H1 locs1 → H1[q9]? = some ce → ce.vm = .none → s.vm.findClass E = some ce.cls → vx_W p l e R s m args below meth c H1 locs1 (cells + mc) (slots + ms) Q (F0 m pc ls rest) q9)
    (kk : ∀ (r : UInt64) (u : S) (t : State) (H1 : Heap) (locs1 : List Loc), t.heap = H1 → s.vm.Alike t.vm → post r u → B u t → H.size ≤ H1.size → (∀ q : Nat, q < H.size → ¬ A1 q → H1[q]? = H[q]?) → va_S A0 H0 H1 locs1 → W p l e R s m args below meth c H1 locs1 (cells + mc) (slots + ms) Q (F0 m (pc + 3) ls (.double r :: rest))) : W p l e R s m args below meth c H locs cells slots Q (F0 m pc ls st0) := by
  intro T hT X
  rcases hr T hT X with ⟨v, st₀, t, T', L, h0, X', hL, e1, e2, ⟨⟨r, u, hv, hp, hb⟩, hF⟩, st⟩ | ⟨q, st₀, t, T', L, E, ce, h0, X', hL, e1, e2, ⟨u, hp, hb, hF⟩, hce, hcv, hcl, st⟩
  · cases hv
    obtain ⟨k1, k2, k3⟩ := vx_keep h0 e1 hS hA hf hL hF
    obtain ⟨t2, a1, b1⟩ := kk r u t T'.heap (locs ++ L) e1.symm (by rw [← e2]; exact X'.warmed.alike) hp hb k1 k2 k3 T' rfl X'
    exact ⟨t2, st t2 a1, b1⟩
  · obtain ⟨k1, k2, k3⟩ := vx_keep h0 e1 hS hAX hf hL hF
    obtain ⟨t2, a1, b1⟩ := kx E ce q u t T'.heap (locs ++ L) e1.symm (by rw [← e2]; exact X'.warmed.alike) hp hb k1 k2 k3 (by rw [e1]; exact hce) hcv hcl T' rfl X'
    exact ⟨t2, st.trans a1, b1⟩
theorem vx_callv {S SX : Type} {post : S → Prop} {px : SX → Prop} {B : S → State → Prop} {BX : String → SX → State → Prop} {AX : Nat → Prop} (hr : vx_Run p l e R s m args below meth c H locs cells slots mc ms (F0 m pc ls st0) rest (va_Qv post B A1 a) (vx_X px BX AX) free) (hS : va_S A0 H0 H locs) (hA : ∀ q, q < H.size → A1 q → A0 q) (hf : ∀ q, free q → A0 q) (hAX : ∀ q, q < H.size → AX q → A0 q)
    (kx : ∀ (E : String) (ce : Cell) (q9 : Addr) (u : SX) (t : State) (H1 : Heap) (locs1 : List Loc), t.heap = H1 → s.vm.Alike t.vm → px u → BX E u t → H.size ≤ H1.size → (∀ q : Nat, q < H.size → ¬ AX q → H1[q]? = H[q]?) → va_S A0 H0 H1 locs1 → H1[q9]? = some ce → ce.vm = .none → s.vm.findClass E = some ce.cls → vx_W p l e R s m args below meth c H1 locs1 (cells + mc) (slots + ms) Q (F0 m pc ls rest) q9)
    (kk : ∀ (u : S) (t : State) (H1 : Heap) (locs1 : List Loc), t.heap = H1 → s.vm.Alike t.vm → post u → B u t → H.size ≤ H1.size → (∀ q : Nat, q < H.size → ¬ A1 q → H1[q]? = H[q]?) → va_S A0 H0 H1 locs1 → W p l e R s m args below meth c H1 locs1 (cells + mc) (slots + ms) Q (F0 m (pc + 3) ls (rest))) : W p l e R s m args below meth c H locs cells slots Q (F0 m pc ls st0) := by
  intro T hT X
  rcases hr T hT X with ⟨v, st₀, t, T', L, h0, X', hL, e1, e2, ⟨⟨u, hv, hp, hb⟩, hF⟩, st⟩ | ⟨q, st₀, t, T', L, E, ce, h0, X', hL, e1, e2, ⟨u, hp, hb, hF⟩, hce, hcv, hcl, st⟩
  · cases hv
    obtain ⟨k1, k2, k3⟩ := vx_keep h0 e1 hS hA hf hL hF
    obtain ⟨t2, a1, b1⟩ := kk u t T'.heap (locs ++ L) e1.symm (by rw [← e2]; exact X'.warmed.alike) hp hb k1 k2 k3 T' rfl X'
    exact ⟨t2, st t2 a1, b1⟩
  · obtain ⟨k1, k2, k3⟩ := vx_keep h0 e1 hS hAX hf hL hF
    obtain ⟨t2, a1, b1⟩ := kx E ce q u t T'.heap (locs ++ L) e1.symm (by rw [← e2]; exact X'.warmed.alike) hp hb k1 k2 k3 (by rw [e1]; exact hce) hcv hcl T' rfl X'
    exact ⟨t2, st.trans a1, b1⟩
/-- caught by the row x of this method's table; the rows ahead don't take it -/
theorem vx_catch {own name : String} {E : String} {ce : Cell} {q : Addr} (hown : s.vm.findClass own = some m.cls) (pre : List ExceptionTableEntry) (x : ExceptionTableEntry) (suf : List ExceptionTableEntry) (hsplit : c.exceptionTable.toList = pre ++ x :: suf)
    (hpass : ∀ z ∈ pre, covers z pc = false ∨ (z.catchType ≠ 0 ∧ ∃ nm : String, (Cond.classLink own z.catchType nm).before args s = true ∧ va_Nc E nm s)) (hx : covers x pc = true) (h0 : x.catchType ≠ 0)
    (hlink : (Cond.classLink own x.catchType name).before args s = true) (hcast : (Cond.castable E name).before args s = true) (hcell : H[q]? = some ce) (hv : ce.vm = .none) (hcl : s.vm.findClass E = some ce.cls)
    (kk : W p l e R s m args below meth c H locs cells slots Q (F0 m x.handlerPc ls [.ref q])) : vx_W p l e R s m args below meth c H locs cells slots Q (F0 m pc ls rest) q := by
  intro T hT X
  have hpl : e.platform.magicAccessors = ({} : Platform).magicAccessors := by rw [X.admits.platform]
  obtain ⟨c3, c4, hc3, hc4, hasg⟩ := Cond.castable_spec hcast
  cases Option.some.inj (hc3.symm.trans hcl)
  obtain ⟨c5, hc5, hcl5⟩ := Cond.classLink_spec hown hlink e.platform hpl
  cases Option.some.inj (hc4.symm.trans hc5)
  obtain ⟨vm', X', st⟩ := X.thenCaughtThrough q (g := F0 m pc ls rest) rfl (Steps.refl _) (by rw [hT]; exact hcell) (by rw [hv]; rfl) (by obtain ⟨k9, h9, -⟩ := Vm.findClass_spec hcl; exact ⟨k9, h9⟩) pre x suf hsplit
    (fun z hz => by
      rcases hpass z hz with h | ⟨hz0, nm, hl1, hn1⟩
      · exact Or.inl h
      · obtain ⟨c6, hc6, hcl6⟩ := Cond.classLink_spec hown hl1 e.platform hpl
        obtain ⟨a8, b8, h1, h2, h3⟩ := hn1
        cases Option.some.inj (h1.symm.trans hcl)
        cases Option.some.inj (h2.symm.trans hc6)
        exact Or.inr ⟨hz0, _, hcl6, h3⟩) hx (Or.inr ⟨h0, c4, hcl5, hasg⟩)
  obtain ⟨t, a1, b1⟩ := kk (T.setVm vm') hT X'
  exact ⟨t, st.trans a1, b1⟩
end Rows
section Ends
variable {p : Program} {l : Launch} {e : Env} {R : Room} {s : State} {m : MethodId} {args : Array Value} {below : List Frame} {meth : Method} {c : Code} {H : Heap} {locs : List Loc} {cells slots : Nat} {Q : State → Prop}
variable {mc ms : Nat} {free : Addr → Prop} {A0 A1 : Nat → Prop} {H0 : Heap} {a : Array Value} {ls : Array Slot} {st0 rest : List Value}
variable {Qc : Array Value → State → Outcome → State → Prop} {XC : String → State → State → Prop}
/-- what a body that may throw owes at its end -/
def vx_MQ (below : List Frame) (Qc : Array Value → State → Outcome → State → Prop) (XC : String → State → State → Prop) (a : Array Value) (s : State) (mc ms : Nat) (free : Addr → Prop) : State → Prop := fun t =>
  ∃ o, t.status = .running ∧ Ended t below o ∧ vx_Q Qc XC mc ms free a s o t
theorem vx_ret {g : JFrame} {mc ms : Nat} (k : W p l e R s m args below meth c H locs cells slots (MQ below Qc args s mc ms free) g) : W p l e R s m args below meth c H locs cells slots (vx_MQ below Qc XC args s mc ms free) g := by
  intro T hT X
  obtain ⟨t, a1, o, b1, b2, b3, b4⟩ := k T hT X
  exact ⟨t, a1, o, b1, b2, Or.inl ⟨b3, b4⟩⟩
/-- not caught here: it goes on to the caller -/
theorem vx_widen {g : JFrame} {q : Addr} {k n : Nat} (h1 : cells ≤ k) (h2 : slots ≤ n) (kk : vx_W p l e R s m args below meth c H locs k n Q g q) : vx_W p l e R s m args below meth c H locs cells slots Q g q := fun T hT X => kk T hT (stand_widen X h1 h2)
theorem vx_out {pc : Nat} {E : String} {ce : Cell} {q : Addr} {mc ms : Nat} (hout : ∀ x ∈ c.exceptionTable.toList, covers x pc = false) (hlocks : meth.locks = false) (hcell : H[q]? = some ce) (hv : ce.vm = .none) (hcl : s.vm.findClass E = some ce.cls)
    (hx : ∀ t : State, t.heap = H → s.vm.Alike t.vm → XC E s t) (hf : ∀ z ∈ locs, free z.base) (hc : cells ≤ mc) (hs : slots ≤ ms) :
    vx_W p l e R s m args below meth c H locs cells slots (vx_MQ below Qc XC args s mc ms free) (F0 m pc ls rest) q := by
  intro T hT X
  obtain ⟨st1, hrun, hend, hW, hsm⟩ := X.leaveThrown q (g := F0 m pc ls rest) rfl rfl rfl hout hlocks
  have hcell9 : (T.setFrames (.throwing q :: below)).heap[q]? = some ce := by
    show T.heap[q]? = some ce
    rw [hT]; exact hcell
  exact ⟨_, st1, .threw q, hrun, hend, Or.inr ⟨q, rfl, E, ce, locs, hx _ hT hW.alike, hcell9, hv, hcl, hW, hsm.mono hc hs, hf⟩⟩
theorem vx_frame {U : State} {k n : Nat} (h : s.sameButNew ({ U with vm := s.vm } : State) locs k n) : s.heap.size ≤ U.heap.size ∧ ∀ q : Nat, q < s.heap.size → (∀ z ∈ locs, z.base ≠ q) → U.heap[q]? = s.heap[q]? := by
  obtain ⟨-, h2, -, -, -, h6⟩ := h
  refine ⟨h2, fun q hq hz => ?_⟩
  obtain ⟨c9, e1, e2, e3, e4⟩ := h6 q _ (Array.getElem?_eq_getElem hq)
  have hs : c9.slots = (s.heap[q]).slots := Array.ext_getElem? fun i => e4 i fun hm => hz _ hm rfl
  have h9 : c9 = s.heap[q] := by
    rw [hs] at e2
    exact e2
  have e5 : U.heap[q]? = some c9 := e1
  rw [e5, h9, Array.getElem?_eq_getElem hq]
/-- the words of a throw but the four that speak of the heap -/
def vx_no (w : Cond) : Bool := decide (w ≠ .isRef (.static Bundle.tN "UNASSIGNED_STACK" Bundle.steD)) && decide (w ≠ .isRef (.static Bundle.tN "SUPPRESSED_SENTINEL" Bundle.listD)) && decide (w ≠ .laysStatic Bundle.tN "UNASSIGNED_STACK" Bundle.steD) && decide (w ≠ .laysStatic Bundle.tN "SUPPRESSED_SENTINEL" Bundle.listD)
def vx_at0 (own : String) (ic : Nat) (X : String) (names : List String) : List Cond := (Bundle.ownAtoms0 own ic X names).filter vx_no
def vx_atS (own : String) (ic : Nat) (X : String) (names : List String) : List Cond := (Bundle.ownAtoms own ic X names).filter vx_no
/-- a word that the tables alone decide, or a good one -/
def vx_ot (w : Cond) : Bool := w.onTables || goodWord w
theorem vx_ot_at {args a' : Array Value} {s U : State} {w : Cond} (hW : s.WarmedH U.vm) (hvm : s.vm = U.vm) (hg : vx_ot w = true) (h : w.before args s = true) : w.before a' U = true := by
  simp only [vx_ot, Bool.or_eq_true] at hg
  rcases hg with hg | hg
  · exact va_tabs hg hvm h
  · exact word_at hW (good_of_word hg) h
/-- a list's words: the good ones out of the method's own list, the others by premises of their own -/
theorem vx_hat {args : Array Value} {s : State} {L B : List Cond} (h1 : ∀ w ∈ L.filter goodWord, w.before args s = true) (h2 : ∀ w ∈ L.filter (fun w => !goodWord w), w ∈ B) (h3 : ∀ w ∈ B, w.before args s = true) : ∀ w ∈ L, w.before args s = true := by
  intro w hw
  by_cases g : goodWord w = true
  · exact h1 w (List.mem_filter.mpr ⟨hw, g⟩)
  · refine h3 w (h2 w (List.mem_filter.mpr ⟨hw, ?_⟩))
    show (!goodWord w) = true
    cases hgw : goodWord w
    · rfl
    · exact absurd hgw g
theorem vx_c {args : Array Value} {s : State} {w : Cond} {B : List Cond} (h : w.before args s = true) (t : ∀ w ∈ B, w.before args s = true) : ∀ w' ∈ w :: B, w'.before args s = true := fun w' h' => (List.mem_cons.mp h').elim (fun e => by rw [e]; exact h) (t w')
theorem vx_n {args : Array Value} {s : State} : ∀ w ∈ ([] : List Cond), w.before args s = true := fun _ h => nomatch h
theorem vx_own {args : Array Value} {s : State} {L : List Cond} (h1 : ∀ w ∈ L.filter vx_no, w.before args s = true)
    (hU : (Cond.isRef (.static Bundle.tN "UNASSIGNED_STACK" Bundle.steD)).before args s = true) (hN : (Cond.isRef (.static Bundle.tN "SUPPRESSED_SENTINEL" Bundle.listD)).before args s = true)
    (lU : (Cond.laysStatic Bundle.tN "UNASSIGNED_STACK" Bundle.steD).before args s = true) (lN : (Cond.laysStatic Bundle.tN "SUPPRESSED_SENTINEL" Bundle.listD).before args s = true) : ∀ w ∈ L, w.before args s = true := by
  intro w hw
  by_cases e1 : w = .isRef (.static Bundle.tN "UNASSIGNED_STACK" Bundle.steD)
  · rw [e1]; exact hU
  · by_cases e2 : w = .isRef (.static Bundle.tN "SUPPRESSED_SENTINEL" Bundle.listD)
    · rw [e2]; exact hN
    · by_cases e3 : w = .laysStatic Bundle.tN "UNASSIGNED_STACK" Bundle.steD
      · rw [e3]; exact lU
      · by_cases e4 : w = .laysStatic Bundle.tN "SUPPRESSED_SENTINEL" Bundle.listD
        · rw [e4]; exact lN
        · exact h1 w (List.mem_filter.mpr ⟨hw, by unfold vx_no; rw [decide_eq_true e1, decide_eq_true e2, decide_eq_true e3, decide_eq_true e4]; rfl⟩)
/-- where a static field lies, its class's statics cell in H -/
def vx_L (C n d : String) (A : Nat → Prop) (U : State) (H : Heap) : Prop := ∃ (c : ClassId) (k : Class) (i : Nat) (f : Field) (a : Nat) (cell : Cell), U.vm.findClass C = some c ∧ U.fieldFound? C n d = some (c, k, i, f) ∧ f.isStatic = true ∧ k.statics = some a ∧ H[a]? = some cell ∧ cell.vm.isStatics = true ∧ cell.cls = c ∧ f.slot < cell.slots.size ∧ k.staticTypes[f.slot]? = some f.type ∧ ¬ A a
theorem vx_L.moved {C n d : String} {A : Nat → Prop} {u U : State} {H : Heap} (hvm : u.vm.Alike U.vm) (h : vx_L C n d A u H) : vx_L C n d A U H := by
  obtain ⟨c, k, i, f, a, cell, h1, h2, h3, h4, h5, h6, h7, h8, h9, h10⟩ := h
  obtain ⟨k', hi', he⟩ := State.fieldFound?_setVm hvm h2
  exact ⟨c, k', i, f, a, cell, by rw [hvm.findClass]; exact h1, hi', h3, by rw [he]; exact h4, h5, h6, h7, h8, by rw [he]; exact h9, h10⟩
theorem vx_L.kept {C n d : String} {A : Nat → Prop} {U : State} {H H1 : Heap} (h : vx_L C n d A U H) (hq : ∀ a : Nat, a < H.size → ¬ A a → H1[a]? = H[a]?) : vx_L C n d A U H1 := by
  obtain ⟨c, k, i, f, a, cell, h1, h2, h3, h4, h5, h6, h7, h8, h9, h10⟩ := h
  exact ⟨c, k, i, f, a, cell, h1, h2, h3, h4, by rw [hq a (Array.getElem?_eq_some_iff.mp h5).1 h10]; exact h5, h6, h7, h8, h9, h10⟩
theorem vx_L.narrow {C n d : String} {A B : Nat → Prop} {U : State} {H : Heap} (h : vx_L C n d A U H) (hAB : ∀ q, B q → A q) : vx_L C n d B U H := by
  obtain ⟨c, k, i, f, a, cell, h1, h2, h3, h4, h5, h6, h7, h8, h9, h10⟩ := h
  exact ⟨c, k, i, f, a, cell, h1, h2, h3, h4, h5, h6, h7, h8, h9, fun z => h10 (hAB _ z)⟩
theorem vx_L.word {C n d : String} {A : Nat → Prop} {s : State} {args : Array Value} (h : vx_L C n d A s s.heap) : (Cond.laysStatic C n d).before args s = true := by
  obtain ⟨c, k, i, f, a, cell, h1, h2, h3, h4, h5, h6, h7, h8, h9, -⟩ := h
  show (Cond.laysStatic C n d).holds args s none s [] = true
  exact Cond.laysStatic_of h1 h2 h3 h4 h5 h6 h7 h8 h9
/-- .. and what it holds: null or some reference -/
def vx_Zq (C n d : String) (A : Nat → Prop) (U : State) (H : Heap) : Prop := va_Zq C n d A U H ∧ vx_L C n d A U H
theorem vx_Zq.moved {C n d : String} {A : Nat → Prop} {u U : State} {H : Heap} (hvm : u.vm.Alike U.vm) (h : vx_Zq C n d A u H) : vx_Zq C n d A U H := ⟨va_Zq.moved hvm h.1, vx_L.moved hvm h.2⟩
theorem vx_Zq.kept {C n d : String} {A : Nat → Prop} {U : State} {H H1 : Heap} (h : vx_Zq C n d A U H) (hq : ∀ a : Nat, a < H.size → ¬ A a → H1[a]? = H[a]?) : vx_Zq C n d A U H1 := ⟨va_Zq.kept h.1 hq, vx_L.kept h.2 hq⟩
theorem vx_Zq.narrow {C n d : String} {A B : Nat → Prop} {U : State} {H : Heap} (h : vx_Zq C n d A U H) (hAB : ∀ q, B q → A q) : vx_Zq C n d B U H := ⟨va_Zq.narrow h.1 hAB, vx_L.narrow h.2 hAB⟩
theorem vx_Zqof {args : Array Value} {s : State} {C n d : String} {A : Nat → Prop} (hl : (Cond.laysStatic C n d).before args s = true) (hini : (Cond.initialized C).before args s = true) (h : (Cond.isRef (.static C n d)).before args s = true) (hA : ∀ a : Nat, a < s.heap.size → ¬ A a) : vx_Zq C n d A s s.heap := by
  refine ⟨va_Zqof hl hini h hA, ?_⟩
  obtain ⟨c, k, i, f, a, cell, h1, h2, h3, h4, h5, h6, h7, h8, h9⟩ := Cond.laysStatic_spec hl
  exact ⟨c, k, i, f, a, cell, h1, h2, h3, h4, h5, h6, h7, h8, h9, hA a (Array.getElem?_eq_some_iff.mp h5).1⟩
theorem vx_isRef {C n d : String} {v : Value} {A : Nat → Prop} {s : State} {args : Array Value} (h : va_Z C n d v A s s.heap) (hv : v.isRef = true) : (Cond.isRef (.static C n d)).before args s = true := by
  obtain ⟨cf, kf, fi, f, a, cell, h1, h2, h3, h4, h5, h6, h7, -⟩ := h
  have he : (Term.static C n d).eval args s none [] s = some v := by
    simp [Term.eval, State.fieldNamed?, h1, h2, h4, h5, h6, h7]
  simp only [Cond.before, Cond.holds, Cond.value, he]
  cases v <;> simp_all [Value.isRef]
theorem vx_isRefq {C n d : String} {A : Nat → Prop} {s : State} {args : Array Value} (h : va_Zq C n d A s s.heap) : (Cond.isRef (.static C n d)).before args s = true := by
  rcases h with h | ⟨t, h⟩
  · exact vx_isRef h rfl
  · exact vx_isRef h rfl
/-- the same frame, seen from here: as if the method were called anew in this heap -/
theorem vx_rebase {T : State} (X : Stand p l e R s m args below meth c T locs cells slots) {R' : Room} (hf : R'.frames ≤ R.frames) (hl : R'.locals ≤ R.locals) (hc : cells + R'.cells ≤ R.cells) (hs : slots + R'.slots ≤ R.slots) :
    Stand p l e R' ((T.setVm s.vm).setFrames (.invoking m args :: below)) m args below meth c T [] 0 0 := by
  have htop : (T.setVm s.vm).topJava?.isSome := X.here.top
  have hF : ((T.setVm s.vm).setFrames (.invoking m args :: below)).frames = .invoking m args :: below := State.frames_setFrames _ (State.cur_lt_of_top htop)
  obtain ⟨g₀, hg0⟩ := Option.isSome_iff_exists.mp htop
  obtain ⟨r, hr⟩ := State.topJava?_eq_some.mp hg0
  have hl9 : e.platform.stackLimits (T.setVm s.vm).me = e.platform.stackLimits s.me := X.limits
  have hb9 : (T.setVm s.vm).me.stackBytes = s.me.stackBytes := X.bytes
  refine ⟨X.admits, X.cas, X.clock, hF, ?_, X.hears, X.method, X.code, X.here, X.tail, X.warmed, ?_, ?_, ?_⟩
  · have h := X.room
    have hU : ((T.setVm s.vm).setFrames (.invoking m args :: below)).localsInUse = s.localsInUse := by
      rw [State.localsInUse_invoking hF (meth := meth) (c := c) X.method X.code, State.localsInUse_invoking X.frames X.method X.code]
    simp only [State.hasRoom, Bool.and_eq_true, decide_eq_true_eq] at h ⊢
    obtain ⟨⟨⟨⟨h1, h2, h3, h4, h5, h6⟩, h7⟩, h8⟩, h9⟩ := h
    rw [X.frames, List.length_cons] at h2 h3
    have q1 := X.heapSize
    have q2 := X.used
    simp only [hF, hU, List.length_cons, State.stackLimits_setFrames, State.stackBytes_setFrames, hl9, hb9]
    refine ⟨⟨⟨⟨by omega, by omega, by omega, by omega, by omega, h6⟩, ?_⟩, ?_⟩, X.book⟩
    · show T.heap.size + R'.cells ≤ e.platform.maxCells
      omega
    · show T.slotsUsed + R'.slots ≤ e.platform.maxSlots
      omega
  · rw [State.stackLimits_setFrames]; rfl
  · rw [State.stackBytes_setFrames]; rfl
  · refine ⟨?_, Nat.le_refl _, Nat.le_refl _, ?_, ?_, fun a c9 h9 => ⟨c9, h9, rfl, rfl, fun _ _ => rfl⟩⟩
    · obtain ⟨t, ht, -⟩ := State.frames_cons hr
      show T.setVm s.vm = { ((T.setVm s.vm).setFrames (.invoking m args :: below)).setFrames (T.setVm s.vm).frames with heap := T.heap, slotsUsed := T.slotsUsed }
      rw [State.setFrames_setFrames, State.setFrames_self ht]
      rfl
    · show T.slotsUsed = T.slotsUsed + ((T.heap.toList.drop T.heap.size).map (·.slots.size)).sum
      rw [List.drop_eq_nil_of_le (Nat.le_of_eq Array.length_toList)]
      rfl
    · show ((T.heap.toList.drop T.heap.size).map (·.slots.size)).sum ≤ 0
      rw [List.drop_eq_nil_of_le (Nat.le_of_eq Array.length_toList)]
      exact Nat.le_refl _
/-- 'throw new E()': new; dup; invokespecial; athrow -/
theorem vx_throw0 {cc : ByteArray} {pc : Nat} (hexec : p.tables.exec = Jvm.exec) (hb : c.code = cc) (hl : l.stackTraces = false) {own cls : String} {names : List String} {ik ic mc ms : Nat} {A : Nat → Prop}
    (hown : s.vm.findClass own = some m.cls) (hcls : Bundle.fit cls = true) (hnames : ∀ n ∈ names, Bundle.fit n = true)
    (hk : (Cond.classLink own ik cls).before args s = true) (hini : (Cond.initialized cls).before args s = true) (hat : ∀ w ∈ vx_at0 own ic cls names, w.before args s = true)
    (hgood : ∀ w ∈ Cond.classLink own ik cls :: Cond.initialized cls :: vx_at0 own ic cls names, vx_ot w = true)
    (hU : vx_Zq Bundle.tN "UNASSIGNED_STACK" Bundle.steD A s s.heap) (hN : vx_Zq Bundle.tN "SUPPRESSED_SENTINEL" Bundle.listD A s s.heap) (hS : va_S A s.heap H locs) (hsize : ls.size = c.maxLocals)
    (d0 : decode cc pc = .ok (.new ik, 3)) (d3 : decode cc (pc + 3) = .ok (.dup, 1)) (d4 : decode cc (pc + 4) = .ok (.invokespecial ic, 3)) (d7 : decode cc (pc + 7) = .ok (.athrow, 1))
    (hout : ∀ x ∈ c.exceptionTable.toList, covers x (pc + 7) = false)
    (hRframes : names.length + 3 < R.frames) (hRlocals : (rest.map fun v => v.category).sum + (13 * (names.length + 1) + 42) ≤ R.locals) (hRcells : cells + 1 ≤ R.cells) (hRslots : slots + 6 ≤ R.slots) (hlocks : meth.locks = false)
    (hx : ∀ t : State, s.vm.Alike t.vm → H.size ≤ t.heap.size → (∀ q : Nat, q < H.size → t.heap[q]? = H[q]?) → XC cls s t)
    (hf : ∀ z ∈ locs, free z.base) (hc : cells + 1 ≤ mc) (hs : slots + 6 ≤ ms) :
    W p l e R s m args below meth c H locs cells slots (vx_MQ below Qc XC args s mc ms free) (F0 m pc ls rest) := by
  intro T hT X
  have htr : e.platform.stackTraces = false := (show e.platform.stackTraces = l.stackTraces by rw [X.admits.platform]).trans hl
  have Y := vx_rebase X (R' := { frames := R.frames, locals := R.locals, cells := 1, slots := 6 }) (Nat.le_refl _) (Nat.le_refl _) hRcells hRslots
  obtain ⟨s', hA⟩ : ∃ z, z = (T.setVm s.vm).setFrames (.invoking m args :: below) := ⟨_, rfl⟩
  rw [← hA] at Y
  have hvm : s'.vm = s.vm := by rw [hA]; rfl
  have hhp : s'.heap = H := by rw [hA]; exact hT
  have hW0 : s.WarmedH s'.vm := by rw [hvm]; exact State.WarmedH.refl s
  have hat' : ∀ w ∈ vx_at0 own ic cls names, w.before args s' = true := fun w hw => vx_ot_at hW0 hvm.symm (hgood w (List.mem_cons_of_mem _ (List.mem_cons_of_mem _ hw))) (hat w hw)
  have hk' : (Cond.classLink own ik cls).before args s' = true := vx_ot_at hW0 hvm.symm (hgood _ List.mem_cons_self) hk
  have hini' : (Cond.initialized cls).before args s' = true := vx_ot_at hW0 hvm.symm (hgood _ (List.mem_cons_of_mem _ List.mem_cons_self)) hini
  have hU' : vx_Zq Bundle.tN "UNASSIGNED_STACK" Bundle.steD A s' s'.heap := by rw [hhp]; exact vx_Zq.moved hW0.alike (hU.kept hS.2.1)
  have hN' : vx_Zq Bundle.tN "SUPPRESSED_SENTINEL" Bundle.listD A s' s'.heap := by rw [hhp]; exact vx_Zq.moved hW0.alike (hN.kept hS.2.1)
  have h : ∀ w ∈ Bundle.ownAtoms0 own ic cls names, w.before args s' = true := vx_own hat' (vx_isRefq hU'.1) (vx_isRefq hN'.1) hU'.2.word hN'.2.word
  have hown' : s'.vm.findClass own = some m.cls := by rw [hvm]; exact hown
  have hins : (Cond.instantiable cls 6).before args s' = true := h _ (by simp [Bundle.ownAtoms0])
  obtain ⟨vm₁, cX, kX, hfX, hkX, -, -, X₁, st1⟩ := Y.newCold hexec (own := own) (C := cls) (index := ik) (n := 6) hown' hk' hins hini'
    (g := F0 m pc ls rest) rfl (by rw [hb]; exact d0) (Nat.le_refl _) (Nat.le_refl _)
  generalize hT1 : (T.setVm vm₁).pushCell { cls := cX, slots := kX.instanceTypes.map defaultValue, vm := .none } = T1 at X₁ st1
  have hcat : (Value.ref T.heap.size).category = 1 := rfl
  have hcellA : T1.heap[T.heap.size]? = some (freshCell cX kX) := by rw [← hT1]; exact State.heap_pushCell_size _ _
  have d3' : decode c.code (pc + 3) = .ok (.dup, 1) := by rw [hb]; exact d3
  obtain ⟨U, hsteps, hrun, hend, hW, hsame, ce, hce, hO⟩ := X₁.ctorThrow0 hexec htr (own := own) (cls := cls) (names := names) (ic := ic) hown' hcls hnames h (fun x hx => nomatch hx) hfX hkX hcellA (by rw [hhp, hT]; exact Nat.le_refl _)
    (g := { method := m, pc := pc + 4, locals := ls, stack := .ref T.heap.size :: .ref T.heap.size :: rest, locked := none }) rfl hsize rfl rfl (rest := rest) rfl
    (by rw [hb]; exact d4) (by rw [hb]; exact d7) hout hRframes (by simp only [List.map_cons, List.sum_cons, hcat]; omega) hlocks
  obtain ⟨f1, f2⟩ := vx_frame hsame
  rw [hhp] at f1 f2
  have hWs : s.WarmedH U.vm := State.WarmedH.trans hW0 hW
  have hcl : s.vm.findClass cls = some ce.cls := by
    have h9 := hO.cls
    rw [hvm] at h9
    exact h9
  have hall : s.sameButNew ({ U with vm := s.vm } : State) locs mc ms := by
    subst hA
    obtain ⟨e1, e2⟩ := hsame
    rw [State.setFrames_setFrames] at e1
    have h2 : (T.setVm s.vm).sameButNew ({ U with vm := s.vm } : State) [] (0 + 1) (0 + 6) := ⟨e1, e2⟩
    have h3 := X.same.trans h2
    rw [List.append_nil] at h3
    exact h3.mono hc hs
  refine ⟨U, ?_, .threw T.heap.size, hrun, hend, Or.inr ⟨T.heap.size, rfl, cls, ce, locs, hx U hWs.alike f1 (fun q hq => f2 q hq (fun z hz => nomatch hz)), hce, hO.vm, hcl, hWs, hall, hf⟩⟩
  refine st1 _ ?_
  show Steps p.tables e below (T1.setTop { method := m, pc := pc + 3, locals := ls, stack := .ref T.heap.size :: rest, locked := none }) _
  jvm_step X₁.here [X₁.here.top, hexec, d3', Value.category]
  exact hsteps
/-- 'throw new E("text")': new; dup; ldc; invokespecial; athrow -/
theorem vx_throwS {cc : ByteArray} {pc : Nat} (hexec : p.tables.exec = Jvm.exec) (hb : c.code = cc) (hl : l.stackTraces = false) {own cls text : String} {names : List String} {ik is ic mc ms sa : Nat} {A : Nat → Prop}
    (hown : s.vm.findClass own = some m.cls) (hcls : Bundle.fit cls = true) (hnames : ∀ n ∈ names, Bundle.fit n = true)
    (hk : (Cond.classLink own ik cls).before args s = true) (hini : (Cond.initialized cls).before args s = true) (hstr : vk_R own is text sa s) (hat : ∀ w ∈ vx_atS own ic cls names, w.before args s = true)
    (hgood : ∀ w ∈ Cond.classLink own ik cls :: Cond.initialized cls :: vx_atS own ic cls names, vx_ot w = true)
    (hU : vx_Zq Bundle.tN "UNASSIGNED_STACK" Bundle.steD A s s.heap) (hN : vx_Zq Bundle.tN "SUPPRESSED_SENTINEL" Bundle.listD A s s.heap) (hS : va_S A s.heap H locs) (hsize : ls.size = c.maxLocals)
    (d0 : decode cc pc = .ok (.new ik, 3)) (d3 : decode cc (pc + 3) = .ok (.dup, 1)) (d4 : decode cc (pc + 4) = .ok (.ldc is, 2)) (d6 : decode cc (pc + 6) = .ok (.invokespecial ic, 3)) (d9 : decode cc (pc + 9) = .ok (.athrow, 1))
    (hout : ∀ x ∈ c.exceptionTable.toList, covers x (pc + 9) = false)
    (hRframes : names.length + 3 < R.frames) (hRlocals : (rest.map fun v => v.category).sum + (13 * (names.length + 1) + 43) ≤ R.locals) (hRcells : cells + 1 ≤ R.cells) (hRslots : slots + 6 ≤ R.slots) (hlocks : meth.locks = false)
    (hx : ∀ t : State, s.vm.Alike t.vm → H.size ≤ t.heap.size → (∀ q : Nat, q < H.size → t.heap[q]? = H[q]?) → XC cls s t)
    (hf : ∀ z ∈ locs, free z.base) (hc : cells + 1 ≤ mc) (hs : slots + 6 ≤ ms) :
    W p l e R s m args below meth c H locs cells slots (vx_MQ below Qc XC args s mc ms free) (F0 m pc ls rest) := by
  intro T hT X
  have htr : e.platform.stackTraces = false := (show e.platform.stackTraces = l.stackTraces by rw [X.admits.platform]).trans hl
  have Y := vx_rebase X (R' := { frames := R.frames, locals := R.locals, cells := 1, slots := 6 }) (Nat.le_refl _) (Nat.le_refl _) hRcells hRslots
  obtain ⟨s', hA⟩ : ∃ z, z = (T.setVm s.vm).setFrames (.invoking m args :: below) := ⟨_, rfl⟩
  rw [← hA] at Y
  have hvm : s'.vm = s.vm := by rw [hA]; rfl
  have hhp : s'.heap = H := by rw [hA]; exact hT
  have hW0 : s.WarmedH s'.vm := by rw [hvm]; exact State.WarmedH.refl s
  have hat' : ∀ w ∈ vx_atS own ic cls names, w.before args s' = true := fun w hw => vx_ot_at hW0 hvm.symm (hgood w (List.mem_cons_of_mem _ (List.mem_cons_of_mem _ hw))) (hat w hw)
  have hk' : (Cond.classLink own ik cls).before args s' = true := vx_ot_at hW0 hvm.symm (hgood _ List.mem_cons_self) hk
  have hini' : (Cond.initialized cls).before args s' = true := vx_ot_at hW0 hvm.symm (hgood _ (List.mem_cons_of_mem _ List.mem_cons_self)) hini
  have hU' : vx_Zq Bundle.tN "UNASSIGNED_STACK" Bundle.steD A s' s'.heap := by rw [hhp]; exact vx_Zq.moved hW0.alike (hU.kept hS.2.1)
  have hN' : vx_Zq Bundle.tN "SUPPRESSED_SENTINEL" Bundle.listD A s' s'.heap := by rw [hhp]; exact vx_Zq.moved hW0.alike (hN.kept hS.2.1)
  have h : ∀ w ∈ Bundle.ownAtoms own ic cls names, w.before args s' = true := vx_own hat' (vx_isRefq hU'.1) (vx_isRefq hN'.1) hU'.2.word hN'.2.word
  have hown' : s'.vm.findClass own = some m.cls := by rw [hvm]; exact hown
  have hins : (Cond.instantiable cls 6).before args s' = true := h _ (by simp [Bundle.ownAtoms])
  obtain ⟨vm₁, cX, kX, hfX, hkX, -, -, X₁, st1⟩ := Y.newCold hexec (own := own) (C := cls) (index := ik) (n := 6) hown' hk' hins hini'
    (g := F0 m pc ls rest) rfl (by rw [hb]; exact d0) (Nat.le_refl _) (Nat.le_refl _)
  generalize hT1 : (T.setVm vm₁).pushCell { cls := cX, slots := kX.instanceTypes.map defaultValue, vm := .none } = T1 at X₁ st1
  have hcat : (Value.ref T.heap.size).category = 1 := rfl
  have hcellA : T1.heap[T.heap.size]? = some (freshCell cX kX) := by rw [← hT1]; exact State.heap_pushCell_size _ _
  have d3' : decode c.code (pc + 3) = .ok (.dup, 1) := by rw [hb]; exact d3
  have d4' : decode c.code (pc + 4) = .ok (.ldc is, 2) := by rw [hb]; exact d4
  have hstr' : vk_R own is text sa s' := vk_R.warm hW0 hstr
  obtain ⟨U, hsteps, hrun, hend, hW, hsame, ce, hce, hO⟩ := X₁.ctorThrowS hexec htr (own := own) (cls := cls) (names := names) (ic := ic) hown' hcls hnames h (fun x hx => nomatch hx) hfX hkX hcellA (by rw [hhp, hT]; exact Nat.le_refl _) (msg := .ref sa) rfl
    (g := { method := m, pc := pc + 6, locals := ls, stack := .ref sa :: .ref T.heap.size :: .ref T.heap.size :: rest, locked := none }) rfl hsize rfl rfl (rest := rest) rfl
    (by rw [hb]; exact d6) (by rw [hb]; exact d9) hout hRframes (by simp only [List.map_cons, List.sum_cons, hcat]; omega) hlocks
  obtain ⟨f1, f2⟩ := vx_frame hsame
  rw [hhp] at f1 f2
  have hWs : s.WarmedH U.vm := State.WarmedH.trans hW0 hW
  have hcl : s.vm.findClass cls = some ce.cls := by
    have h9 := hO.cls
    rw [hvm] at h9
    exact h9
  have hall : s.sameButNew ({ U with vm := s.vm } : State) locs mc ms := by
    subst hA
    obtain ⟨e1, e2⟩ := hsame
    rw [State.setFrames_setFrames] at e1
    have h2 : (T.setVm s.vm).sameButNew ({ U with vm := s.vm } : State) [] (0 + 1) (0 + 6) := ⟨e1, e2⟩
    have h3 := X.same.trans h2
    rw [List.append_nil] at h3
    exact h3.mono hc hs
  refine ⟨U, ?_, .threw T.heap.size, hrun, hend, Or.inr ⟨T.heap.size, rfl, cls, ce, locs, hx U hWs.alike f1 (fun q hq => f2 q hq (fun z hz => nomatch hz)), hce, hO.vm, hcl, hWs, hall, hf⟩⟩
  refine st1 _ ?_
  show Steps p.tables e below (T1.setTop { method := m, pc := pc + 3, locals := ls, stack := .ref T.heap.size :: rest, locked := none }) _
  jvm_step X₁.here [X₁.here.top, hexec, d3', Value.category]
  exact X₁.ldcString hexec (own := own) (text := text) (index := is) (a := sa) hown' hstr'.1 hstr'.2
    (g := { method := m, pc := pc + 4, locals := ls, stack := .ref T.heap.size :: .ref T.heap.size :: rest, locked := none }) rfl d4' _ hsteps
/-- 'throw new E("text")', the text by a wide index -/
theorem vx_throwSW {cc : ByteArray} {pc : Nat} (hexec : p.tables.exec = Jvm.exec) (hb : c.code = cc) (hl : l.stackTraces = false) {own cls text : String} {names : List String} {ik is ic mc ms sa : Nat} {A : Nat → Prop}
    (hown : s.vm.findClass own = some m.cls) (hcls : Bundle.fit cls = true) (hnames : ∀ n ∈ names, Bundle.fit n = true)
    (hk : (Cond.classLink own ik cls).before args s = true) (hini : (Cond.initialized cls).before args s = true) (hstr : vk_R own is text sa s) (hat : ∀ w ∈ vx_atS own ic cls names, w.before args s = true)
    (hgood : ∀ w ∈ Cond.classLink own ik cls :: Cond.initialized cls :: vx_atS own ic cls names, vx_ot w = true)
    (hU : vx_Zq Bundle.tN "UNASSIGNED_STACK" Bundle.steD A s s.heap) (hN : vx_Zq Bundle.tN "SUPPRESSED_SENTINEL" Bundle.listD A s s.heap) (hS : va_S A s.heap H locs) (hsize : ls.size = c.maxLocals)
    (d0 : decode cc pc = .ok (.new ik, 3)) (d3 : decode cc (pc + 3) = .ok (.dup, 1)) (d4 : decode cc (pc + 4) = .ok (.ldc_w is, 3)) (d7 : decode cc (pc + 7) = .ok (.invokespecial ic, 3)) (d10 : decode cc (pc + 10) = .ok (.athrow, 1))
    (hout : ∀ x ∈ c.exceptionTable.toList, covers x (pc + 10) = false)
    (hRframes : names.length + 3 < R.frames) (hRlocals : (rest.map fun v => v.category).sum + (13 * (names.length + 1) + 43) ≤ R.locals) (hRcells : cells + 1 ≤ R.cells) (hRslots : slots + 6 ≤ R.slots) (hlocks : meth.locks = false)
    (hx : ∀ t : State, s.vm.Alike t.vm → H.size ≤ t.heap.size → (∀ q : Nat, q < H.size → t.heap[q]? = H[q]?) → XC cls s t)
    (hf : ∀ z ∈ locs, free z.base) (hc : cells + 1 ≤ mc) (hs : slots + 6 ≤ ms) :
    W p l e R s m args below meth c H locs cells slots (vx_MQ below Qc XC args s mc ms free) (F0 m pc ls rest) := by
  intro T hT X
  have htr : e.platform.stackTraces = false := (show e.platform.stackTraces = l.stackTraces by rw [X.admits.platform]).trans hl
  have Y := vx_rebase X (R' := { frames := R.frames, locals := R.locals, cells := 1, slots := 6 }) (Nat.le_refl _) (Nat.le_refl _) hRcells hRslots
  obtain ⟨s', hA⟩ : ∃ z, z = (T.setVm s.vm).setFrames (.invoking m args :: below) := ⟨_, rfl⟩
  rw [← hA] at Y
  have hvm : s'.vm = s.vm := by rw [hA]; rfl
  have hhp : s'.heap = H := by rw [hA]; exact hT
  have hW0 : s.WarmedH s'.vm := by rw [hvm]; exact State.WarmedH.refl s
  have hat' : ∀ w ∈ vx_atS own ic cls names, w.before args s' = true := fun w hw => vx_ot_at hW0 hvm.symm (hgood w (List.mem_cons_of_mem _ (List.mem_cons_of_mem _ hw))) (hat w hw)
  have hk' : (Cond.classLink own ik cls).before args s' = true := vx_ot_at hW0 hvm.symm (hgood _ List.mem_cons_self) hk
  have hini' : (Cond.initialized cls).before args s' = true := vx_ot_at hW0 hvm.symm (hgood _ (List.mem_cons_of_mem _ List.mem_cons_self)) hini
  have hU' : vx_Zq Bundle.tN "UNASSIGNED_STACK" Bundle.steD A s' s'.heap := by rw [hhp]; exact vx_Zq.moved hW0.alike (hU.kept hS.2.1)
  have hN' : vx_Zq Bundle.tN "SUPPRESSED_SENTINEL" Bundle.listD A s' s'.heap := by rw [hhp]; exact vx_Zq.moved hW0.alike (hN.kept hS.2.1)
  have h : ∀ w ∈ Bundle.ownAtoms own ic cls names, w.before args s' = true := vx_own hat' (vx_isRefq hU'.1) (vx_isRefq hN'.1) hU'.2.word hN'.2.word
  have hown' : s'.vm.findClass own = some m.cls := by rw [hvm]; exact hown
  have hins : (Cond.instantiable cls 6).before args s' = true := h _ (by simp [Bundle.ownAtoms])
  obtain ⟨vm₁, cX, kX, hfX, hkX, -, -, X₁, st1⟩ := Y.newCold hexec (own := own) (C := cls) (index := ik) (n := 6) hown' hk' hins hini'
    (g := F0 m pc ls rest) rfl (by rw [hb]; exact d0) (Nat.le_refl _) (Nat.le_refl _)
  generalize hT1 : (T.setVm vm₁).pushCell { cls := cX, slots := kX.instanceTypes.map defaultValue, vm := .none } = T1 at X₁ st1
  have hcat : (Value.ref T.heap.size).category = 1 := rfl
  have hcellA : T1.heap[T.heap.size]? = some (freshCell cX kX) := by rw [← hT1]; exact State.heap_pushCell_size _ _
  have d3' : decode c.code (pc + 3) = .ok (.dup, 1) := by rw [hb]; exact d3
  have d4' : decode c.code (pc + 4) = .ok (.ldc_w is, 3) := by rw [hb]; exact d4
  have hstr' : vk_R own is text sa s' := vk_R.warm hW0 hstr
  obtain ⟨U, hsteps, hrun, hend, hW, hsame, ce, hce, hO⟩ := X₁.ctorThrowS hexec htr (own := own) (cls := cls) (names := names) (ic := ic) hown' hcls hnames h (fun x hx => nomatch hx) hfX hkX hcellA (by rw [hhp, hT]; exact Nat.le_refl _) (msg := .ref sa) rfl
    (g := { method := m, pc := pc + 7, locals := ls, stack := .ref sa :: .ref T.heap.size :: .ref T.heap.size :: rest, locked := none }) rfl hsize rfl rfl (rest := rest) rfl
    (by rw [hb]; exact d7) (by rw [hb]; exact d10) hout hRframes (by simp only [List.map_cons, List.sum_cons, hcat]; omega) hlocks
  obtain ⟨f1, f2⟩ := vx_frame hsame
  rw [hhp] at f1 f2
  have hWs : s.WarmedH U.vm := State.WarmedH.trans hW0 hW
  have hcl : s.vm.findClass cls = some ce.cls := by
    have h9 := hO.cls
    rw [hvm] at h9
    exact h9
  have hall : s.sameButNew ({ U with vm := s.vm } : State) locs mc ms := by
    subst hA
    obtain ⟨e1, e2⟩ := hsame
    rw [State.setFrames_setFrames] at e1
    have h2 : (T.setVm s.vm).sameButNew ({ U with vm := s.vm } : State) [] (0 + 1) (0 + 6) := ⟨e1, e2⟩
    have h3 := X.same.trans h2
    rw [List.append_nil] at h3
    exact h3.mono hc hs
  refine ⟨U, ?_, .threw T.heap.size, hrun, hend, Or.inr ⟨T.heap.size, rfl, cls, ce, locs, hx U hWs.alike f1 (fun q hq => f2 q hq (fun z hz => nomatch hz)), hce, hO.vm, hcl, hWs, hall, hf⟩⟩
  refine st1 _ ?_
  show Steps p.tables e below (T1.setTop { method := m, pc := pc + 3, locals := ls, stack := .ref T.heap.size :: rest, locked := none }) _
  jvm_step X₁.here [X₁.here.top, hexec, d3', Value.category]
  exact X₁.ldcStringW hexec (own := own) (text := text) (index := is) (a := sa) hown' hstr'.1 hstr'.2
    (g := { method := m, pc := pc + 4, locals := ls, stack := .ref T.heap.size :: .ref T.heap.size :: rest, locked := none }) rfl d4' _ hsteps
end Ends
section Bodies
variable {l : Launch}
theorem vx_ofW {y : MethodName} {ws ws' : List Cond} {rm : Room} {Pc : Array Value → State → Prop} {Qc : Array Value → State → Outcome → State → Prop} {XC : String → State → State → Prop} {mc ms : Nat} {free : Addr → Prop} {cc : ByteArray} {maxL : Nat} {ret : Option FieldType}
    (hy : plainName y.cls = true) (hw : ws = Cond.code y cc maxL ret :: ws')
    (body : ∀ p e s m args below meth c s₁, BodyLoose p l y (headSpec ws rm) cc maxL ret e s m args below meth c s₁ → c.maxLocals = maxL → (∀ x ∈ c.exceptionTable.toList, False) → Pc args s →
      W p l e (headSpec ws rm).room s m args below meth c s.heap [] 0 0 (vx_MQ below Qc XC args s mc ms free) (entryFrame m args maxL)) : vx_Met l y ws rm Pc Qc XC mc ms free := by
  refine MetFree.of_bodyS (code := cc) (maxLocals := maxL) (ret := ret) hy ?_ ?_
  · intro args s m h hn
    obtain ⟨meth, c, h1, h2, h3, h4, h5, h6, -, -⟩ := Cond.code_spec hn (atoms_spec (ws := ws) h _ (by rw [hw]; exact List.mem_cons_self))
    exact ⟨meth, c, h1, h2, h3, h4, h5, h6⟩
  · intro p e s m args below meth c s₁ B hml hP _
    have hh0 : s₁.heap = s.heap := by rw [B.state]; rfl
    have ht : ∀ x ∈ c.exceptionTable.toList, False := by
      obtain ⟨meth9, c9, h1, h2, -, -, -, -, h7, -⟩ := Cond.code_spec B.named (atoms_spec (ws := ws) B.pre _ (by rw [hw]; exact List.mem_cons_self))
      cases Option.some.inj (h1.symm.trans B.method)
      cases Option.some.inj (h2.symm.trans (Stand.of_body B).code)
      intro x hx
      rw [Array.isEmpty_iff.mp h7] at hx
      cases hx
    obtain ⟨t, a1, o, b1, b2, b3⟩ := body p e s m args below meth c s₁ B hml ht hP s₁ hh0 (Stand.of_body B)
    exact ⟨t, o, a1, b1, b2, b3⟩
/-- the table of a body with handlers -/
theorem vx_table {p : Program} {x y : MethodName} {S : Spec} {cc bytes : ByteArray} {maxL maxL' : Nat} {ret ret' : Option FieldType} {e : Env} {s s₁ : State} {m : MethodId} {args : Array Value} {below : List Frame} {meth : Method} {c : Code} {hh : List (Nat × Nat × Nat × Nat)}
    (B : BodyLoose p l y S cc maxL ret e s m args below meth c s₁) (h : (Cond.codeWith y bytes maxL' ret' hh).before args s = true) : c.exceptionTable.toList = tableOf hh := by
  obtain ⟨m9, meth9, c9, hn9, h1, h2, -, -, h6, -⟩ := Cond.codeWith_spec h
  cases Option.some.inj (hn9.symm.trans B.named)
  cases Option.some.inj (h1.symm.trans B.method)
  cases Option.some.inj (h2.symm.trans (Stand.of_body B).code)
  rw [← h6, table_eq]
end Bodies
end VXA
/-! ===== END ===== -/
/-! ===== BEGIN a static call of a method with an exception table ===== -/
section VXS
variable {p : Program} {l : Launch} {e : Env} {R : Room} {s : State} {m : MethodId} {args : Array Value} {below : List Frame} {meth : Method} {c : Code} {T : State} {H : Heap} {locs : List Loc} {cells slots : Nat}
abbrev vx_CSW (R : Room) (s : State) (args : Array Value) (own : String) (index : Nat) (y : MethodName) (bytes : ByteArray) (maxL : Nat) (ret : Option FieldType) (hh : List (Nat × Nat × Nat × Nat)) (ws : List Cond) (rm : Room) (mc ms n : Nat) : Prop :=
  (rm.cells = mc ∧ rm.slots = ms ∧ rm.frames + 1 ≤ R.frames ∧ 8 + (maxL + 11) + rm.locals ≤ R.locals ∧ (∀ w ∈ ws, ∀ (a' : Array Value) (U : State), s.WarmedH U.vm → w.before a' U = true) ∧ Cond.codeWith y bytes maxL ret hh ∈ ws) ∧
  (Cond.codeWith y bytes maxL ret hh).before args s = true ∧ (Cond.initialized y.cls).before args s = true ∧ (y.cls ≠ "java/lang/invoke/MethodHandle" ∧ y.cls ≠ "java/lang/invoke/VarHandle") ∧
  (∀ sig, parseMethodDescriptor y.desc = some sig → n = sig.parameters.length) ∧ (Cond.methodLink own index y).before args s = true ∧ (Cond.static y).before args s = true
theorem vx_cwSW {own : String} {index maxL mc ms : Nat} {y : MethodName} {bytes : ByteArray} {ret : Option FieldType} {hh : List (Nat × Nat × Nat × Nat)} {Ts ws ws' : List Cond} {rm : Room} (n : Nat) (ht : ∀ w ∈ Ts, w.before args s = true) (hT : GoodIn Ts (va_wsS own index y ws)) (hw : ws = Cond.codeWith y bytes maxL ret hh :: ws') (hrc : rm.cells = mc) (hrs : rm.slots = ms)
    (hd : y.cls ≠ "java/lang/invoke/MethodHandle" ∧ y.cls ≠ "java/lang/invoke/VarHandle" ∧ (parseMethodDescriptor y.desc).map (fun d => d.parameters.length) = some n) (hR : rm.frames + 1 ≤ R.frames ∧ 8 + (maxL + 11) + rm.locals ≤ R.locals) :
    vx_CSW R s args own index y bytes maxL ret hh ws rm mc ms n := by
  have ok : ∀ w ∈ va_wsS own index y ws, w.before args s = true := fun w h => ht w (hT w h).1
  have hG : GoodIn Ts ws := fun w h => hT w (by unfold va_wsS; exact List.mem_append_right _ h)
  have hc : Cond.codeWith y bytes maxL ret hh ∈ ws := by rw [hw]; exact List.mem_cons_self
  refine ⟨⟨hrc, hrs, hR.1, hR.2, pay_in ht hG, hc⟩, ht _ (hG _ hc).1, ok _ (by simp [va_wsS]), ⟨hd.1, hd.2.1⟩, fun sig h => ?_, ok _ (by simp [va_wsS]), ok _ (by simp [va_wsS])⟩
  have h2 := hd.2.2
  rw [h] at h2
  exact (Option.some.inj h2).symm
theorem vx_callSW (X : Stand p l e R s m args below meth c T locs cells slots) (hexec : p.tables.exec = Jvm.exec) {own : String} {index : Nat} {y : MethodName} {bytes : ByteArray} {maxL : Nat} {ret : Option FieldType} {hh : List (Nat × Nat × Nat × Nat)}
    (hown : s.vm.findClass own = some m.cls) (hlink : (Cond.methodLink own index y).before args s = true) (hstat : (Cond.static y).before args s = true) (hinit : (Cond.initialized y.cls).before args s = true)
    (hcode : (Cond.codeWith y bytes maxL ret hh).before args s = true) (hy : y.cls ≠ "java/lang/invoke/MethodHandle" ∧ y.cls ≠ "java/lang/invoke/VarHandle")
    {W9 : Nat} {Pre : Pt → Array Value → Prop} {Post : Pt → Array Value → Option Value → Pt → Prop} (hK : Back l R p e below s args y 3 W9 Pre Post)
    {g : JFrame} (hg : g.method = m) (hsize : g.locals.size = c.maxLocals) {argsL rest : List Value} (hlen : ∀ sig, parseMethodDescriptor y.desc = some sig → argsL.length = sig.parameters.length)
    (hstack : g.stack = argsL.reverse ++ rest) (hW : 2 * g.monitorRoom + (rest.map fun v => v.category).sum ≤ W9) (hdg : decode c.code g.pc = .ok (.invokestatic index, 3))
    (hpre : ∀ vm₁, s.WarmedH vm₁ → Pre ⟨T.setVm vm₁, locs, cells, slots⟩ argsL.toArray) :
    ∃ (v : Option Value) (vm₁ : Vm) (B : Pt), s.WarmedH vm₁ ∧ Stand p l e R s m args below meth c B.U B.locs B.cells B.slots ∧ Post ⟨T.setVm vm₁, locs, cells, slots⟩ argsL.toArray v B ∧
      ∀ target, Steps p.tables e below (B.U.setTop { g with pc := g.pc + 3, stack := v.toList ++ rest }) target → Steps p.tables e below (T.setTop g) target := by
  obtain ⟨mk, methM, cM, hnamed, hmethM, -, -, -, -, -, -, hsigM⟩ := Cond.codeWith_spec hcode
  have hstatic : methM.isStatic = true := Cond.static_spec hnamed hmethM hstat
  obtain ⟨kP, hkP, -⟩ := className_of_methodNamed hnamed
  have hinitP : kP.init = .initialized := Cond.initialized_spec (findClass_of_methodNamed hnamed) hkP hinit
  obtain ⟨vm₁, X₁, hstep₁⟩ := X.invokestatic hexec hown hlink hnamed hmethM hstatic hkP hinitP hy (g := g) hg (argsL := argsL) (rest := rest) (hlen _ hsigM) hstack hdg
  obtain ⟨v, B, X', hpost, hsteps⟩ := hK m meth c ⟨T.setVm vm₁, locs, cells, slots⟩ { g with stack := rest } (.invokestatic index) mk argsL.toArray X₁ hg hsize hdg hW (X₁.named hnamed) (hpre vm₁ X₁.warmed)
  exact ⟨v, vm₁, B, X₁.warmed, X', hpost, fun target h => hstep₁ _ fun acts => by rw [doInvoke_state]; exact hsteps.trans h⟩
theorem vx_runSW {y : MethodName} {bytes cc : ByteArray} {maxL nL mc ms n index : Nat} {ret : Option FieldType} {hh : List (Nat × Nat × Nat × Nat)} {ws : List Cond} {rm : Room} {Pc : Array Value → State → Prop} {Qc : Array Value → State → Outcome → State → Prop} {free : Addr → Prop} {Ts : List Cond} {own : String} {As rest : List Value} {g : JFrame}
    (S : CallFix p m c cc nL s args Ts own) (hM : Met l y ws rm Pc Qc mc ms free) (cw : vx_CSW R s args own index y bytes maxL ret hh ws rm mc ms n) (hp : PreS s H Pc As)
    (hg : g.method = m) (hn : As.length = n) (hsize : g.locals.size = nL) (hstack : g.stack = As.reverse ++ rest) (hW : 2 * g.monitorRoom + (rest.map fun v => v.category).sum ≤ 8) (hdg : decode cc g.pc = .ok (.invokestatic index, 3)) (hf : cells + mc ≤ R.cells ∧ slots + ms ≤ R.slots) :
    va_Run p l e R s m args below meth c H locs cells slots mc ms g rest (Qc As.toArray) (free) := by
  obtain ⟨⟨hrc, hrs, hfr, hlo, hws, hcw⟩, hcode, hini, hy, hlen, hl, hstt⟩ := cw
  have hK : Back l R p e below s args y 3 8 (PreOf R mc ms Pc) (PostOf Qc mc ms free) := va_backW (hh := hh) (bytes := bytes) (maxL := maxL) (ret := ret) hM hp.1 hrc hrs hfr hlo hws hcw (fun a' U hW => word_at hW (Or.inl (by first | rfl | simp [Cond.onTables, Cond.keeps, Cond.steady])) hini)
  obtain ⟨hx, hb, hml, ho, -⟩ := S
  intro T hT X
  obtain ⟨v, vm₁, ⟨U', l2, c2, s2⟩, hW₁, X', ⟨g', mk, t, L, e1, e2, hq, h1, hL, h2, h3⟩, st⟩ := vx_callSW X hx (hh := hh) (bytes := bytes) (maxL := maxL) (ret := ret) ho hl hstt hini hcode hy hK hg (hsize.trans hml.symm) (argsL := As) (rest := rest) (fun sig h => hn.trans (hlen sig h)) hstack hW (by rw [hb]; exact hdg)
    (fun vm₁ hW₁ => ⟨hf.1, hf.2, hp.2 (T.setVm vm₁) hT hW₁⟩)
  dsimp only [Pt.U, Pt.locs, Pt.cells, Pt.slots] at X' e1 e2 h1 h2 h3 st
  subst h1; subst h2; subst h3
  exact ⟨v, (T.setVm vm₁).calling g' mk As.toArray, t, U', L, hT, X', hL, e1, e2, hq, st⟩
/-- not caught here, past rows that name other classes: it goes on to the caller -/
theorem vx_outP {p : Program} {l : Launch} {e : Env} {R : Room} {s : State} {m : MethodId} {args : Array Value} {below : List Frame} {meth : Method} {c : Code} {H : Heap} {locs : List Loc} {cells slots : Nat} {free : Addr → Prop} {ls : Array Slot} {rest : List Value} {Qc : Array Value → State → Outcome → State → Prop} {XC : String → State → State → Prop}
    {pc : Nat} {own E : String} {ce : Cell} {q : Addr} {mc ms : Nat} (hown : s.vm.findClass own = some m.cls) (hlocks : meth.locks = false)
    (hpass : ∀ z ∈ c.exceptionTable.toList, covers z pc = false ∨ (z.catchType ≠ 0 ∧ ∃ nm : String, (Cond.classLink own z.catchType nm).before args s = true ∧ va_Nc E nm s)) (hcell : H[q]? = some ce) (hv : ce.vm = .none) (hcl : s.vm.findClass E = some ce.cls)
    (hx : ∀ t : State, t.heap = H → s.vm.Alike t.vm → XC E s t) (hf : ∀ z ∈ locs, free z.base) (hc : cells ≤ mc) (hs : slots ≤ ms) :
    vx_W p l e R s m args below meth c H locs cells slots (vx_MQ below Qc XC args s mc ms free) (F0 m pc ls rest) q := by
  intro T hT X
  have hpl : e.platform.magicAccessors = ({} : Platform).magicAccessors := by rw [X.admits.platform]
  obtain ⟨vm', hW', X', st⟩ := X.outThrough hlocks q (g := F0 m pc ls rest) rfl rfl rfl (cell := ce) (by rw [hT]; exact hcell) (by rw [hv]; rfl)
    (by obtain ⟨k9, h9, -⟩ := Vm.findClass_spec hcl; exact ⟨k9, h9⟩) (fun z hz => by
      rcases hpass z hz with h | ⟨hz0, nm, hl1, hn1⟩
      · exact Or.inl h
      · obtain ⟨c6, hc6, hcl6⟩ := Cond.classLink_spec hown hl1 e.platform hpl
        obtain ⟨a8, b8, h1, h2, h3⟩ := hn1
        cases Option.some.inj (h1.symm.trans hcl)
        cases Option.some.inj (h2.symm.trans hc6)
        exact Or.inr ⟨hz0, _, hcl6, h3⟩)
  obtain ⟨g₀, hfr⟩ := X'.frames_eq
  have hcell9 : ((T.setVm vm').setFrames (.throwing q :: below)).heap[q]? = some ce := by
    show T.heap[q]? = some ce
    rw [hT]; exact hcell
  have hend : Ended ((T.setVm vm').setFrames (.throwing q :: below)) below (.threw q) := State.frames_setFrames _ (State.cur_lt_of_frames hfr)
  refine ⟨(T.setVm vm').setFrames (.throwing q :: below), ?_, .threw q, X'.here.running, hend, Or.inr ⟨q, rfl, E, ce, locs, hx _ hT (X'.ends _).1.alike, hcell9, hv, hcl, (X'.ends _).1, (X'.ends _).2.mono hc hs, hf⟩⟩
  rw [X.pushThrowing_eq]
  exact st
/-- a thing of a world lies in the heap -/
theorem vx_lt {D : va_G} {cl : List vw_C} {ws : va_W} {H1 : Heap} (h : va_P D cl ws H1) {k : Nat} {q : Nat × va_E} (hk : ws[k]? = some q) : q.1 < H1.size := (h k q hk).lt
end VXS
/-! ===== END ===== -/
/-! ===== BEGIN methods with a table of their own: called by a name, returning or throwing ===== -/
section VXH
/-! vx_backW, vx_callVX, vx_callSX, vx_callVW, vx_runVW, vx_runVX, vx_runSX, vx_ofWH follow the same proofs as their sisters above (Free/Laws.lean, Shelf42/LK1.lean); vx_outP calls Shelf42/NT130.lean (outThrough). -/
section
variable {l : Launch} {R : Room} {p : Program} {e : Env} {below : List Frame} {s : State} {sargs : Array Value} {y : MethodName} {len W9 : Nat}
theorem vx_backW {ws : List Cond} {rm : Room} {Pc : Array Value → State → Prop} {Qc : Array Value → State → Outcome → State → Prop} {XC : String → State → State → Prop} {mc ms : Nat} {free : Addr → Prop} {bytes : ByteArray} {maxL : Nat} {ret : Option FieldType} {hh : List (Nat × Nat × Nat × Nat)}
    (hM : vx_Met l y ws rm Pc Qc XC mc ms free) (hblind : FrameBlind Pc) (hrc : rm.cells = mc) (hrs : rm.slots = ms)
    (hframes : rm.frames + 1 ≤ R.frames) (hlocals : W9 + (maxL + 11) + rm.locals ≤ R.locals)
    (hws : ∀ w ∈ ws, ∀ a' U, s.WarmedH U.vm → w.before a' U = true) (hcode : Cond.codeWith y bytes maxL ret hh ∈ ws) (hinit : ∀ a' U, s.WarmedH U.vm → (Cond.initialized y.cls).before a' U = true) :
    vx_Back l R p e below s sargs y len W9 (PreOf R mc ms Pc) (PostOf Qc mc ms free) (vx_Post XC mc ms free) := by
  intro m meth c A g ig mk a X hg hsize hdg hW hn hp
  have h1 : (headSpec ws rm).pre.before a A.U = true := atoms_intro fun w hw => hws w hw _ _ X.warmed
  have h2 : (Cond.codeWith y bytes maxL ret hh).before a A.U = true := hws _ hcode _ _ X.warmed
  have h3 : (Cond.initialized y.cls).before a A.U = true := hinit _ _ X.warmed
  have h4 : A.cells + (headSpec ws rm).room.cells ≤ R.cells := by rw [show (headSpec ws rm).room.cells = mc from hrc]; exact hp.1
  have h5 : A.slots + (headSpec ws rm).room.slots ≤ R.slots := by rw [show (headSpec ws rm).room.slots = ms from hrs]; exact hp.2.1
  have hPc : Pc a (A.U.calling g mk a) := hblind _ _ _ _ hp.2.2
  obtain ⟨U, Ls, c0, s0⟩ := A
  dsimp only [Pt.U, Pt.locs, Pt.cells, Pt.slots] at h1 h2 h3 h4 h5 X hn hPc ⊢
  obtain ⟨m9, methY, cY, hn9, hmY, hcY, -, hlY, -⟩ := Cond.codeWith_spec h2
  cases Option.some.inj (hn9.symm.trans hn)
  obtain ⟨kY, hkY, -⟩ := className_of_methodNamed hn
  have hinitY : kY.init = .initialized := Cond.initialized_spec (findClass_of_methodNamed hn) hkY h3
  have h : At U g.method c below := by rw [hg]; exact X.here
  have hlocals9 : W9 + (maxL + 11) + (headSpec ws rm).room.locals ≤ R.locals := hlocals
  have happ : (headSpec ws rm).appliesLoose y e.platform (U.calling g mk a) = true :=
    Spec.appliesLoose_calling (g := g) h hdg hn hkY hinitY
      (X.room_calling (g := g) (R' := (headSpec ws rm).room) hsize hmY hcY hframes (by rw [hlY]; omega) h4 h5) h1
  obtain ⟨mid, hmid⟩ := h.above
  have hfr : (U.setTop g).frames = (.java g :: mid) ++ below := by rw [State.frames_setTop' g h.top, hmid]; rfl
  obtain ⟨o, s₂, hsteps, -, hend, hq⟩ := Steps.callFree hM p X.admits X.cas X.clock (acts := []) hfr happ hPc trivial
  have hq' : vx_Q Qc XC mc ms free a (U.calling g mk a) o s₂ := hq
  rw [State.frames_setTop' g h.top] at hend
  obtain ⟨g₀, hg0⟩ := Option.isSome_iff_exists.mp h.top
  obtain ⟨r, hr⟩ := State.topJava?_eq_some.mp hg0
  have hr' : (({ U with heap := s₂.heap, slotsUsed := s₂.slotsUsed } : State).setVm s₂.vm).frames = .java g₀ :: r := hr
  rcases hq' with ⟨hqc, L, hfe, hL⟩ | ⟨q, rfl, E, ce, L, hx, hce, hcv, hcl, hW₂, hsm, hL⟩
  · obtain ⟨⟨v, rfl⟩, hW₂, e2, q2, q3, q4, q5, q6⟩ := id hfe
    have e3 : s₂ = ({ (U.calling g mk a).setFrames s₂.frames with heap := s₂.heap, slotsUsed := s₂.slotsUsed } : State).setVm s₂.vm := by
      have : s₂ = ({ s₂ with vm := (U.calling g mk a).vm } : State).setVm s₂.vm := rfl
      rw [e2] at this
      exact this
    obtain ⟨c₂, i₂, len₂, hc₂, hd₂, hf₂⟩ := hend
    have hW' : U.WarmedH s₂.vm := hW₂
    have hcc : c₂ = c := by
      have h1 : s₂.code? g.method = U.code? g.method := by
        rw [State.code?_eq, State.code?_eq, hW'.alike.method?]
      exact Option.some.inj (hc₂.symm.trans (h1.trans h.code))
    subst hcc
    have hlen : len₂ = len := by rw [hdg] at hd₂; cases hd₂; rfl
    subst hlen
    have hs₂ : s₂ = (({ U with heap := s₂.heap, slotsUsed := s₂.slotsUsed } : State).setVm s₂.vm).setTop { g with pc := g.pc + len₂, stack := v.toList ++ g.stack } := by
      refine e3.trans ?_
      rw [hf₂, State.calling_eq h.top, State.setFrames_setFrames, State.setTop_of_frames _ hr', hr]
      rfl
    have hsame : U.sameButNew ({ U with heap := s₂.heap, slotsUsed := s₂.slotsUsed } : State) L mc ms := by
      refine ⟨?_, q2, q3, q4, q5, q6⟩
      obtain ⟨t, ht, -⟩ := State.frames_cons hr
      show ({ U with heap := s₂.heap, slotsUsed := s₂.slotsUsed } : State) = { U.setFrames U.frames with heap := s₂.heap, slotsUsed := s₂.slotsUsed }
      rw [State.setFrames_self ht]
    subst hg
    refine Or.inl ⟨v, ⟨(({ U with heap := s₂.heap, slotsUsed := s₂.slotsUsed } : State).setVm s₂.vm), Ls ++ L, c0 + mc, s0 + ms⟩,
      ⟨X.admits, X.cas, X.clock, X.frames, X.room, X.hears, X.method, X.code, (X.here.setHeapUsed s₂.heap s₂.slotsUsed).setVm hW'.alike, X.tail, State.WarmedH.trans X.warmed hW', X.limits, X.bytes, X.same.trans (hsame.setVm s.vm)⟩,
      ⟨g, mk, s₂, L, rfl, rfl, hqc, rfl, hL, rfl, rfl⟩, ?_⟩
    show Steps p.tables e below _ ((({ U with heap := s₂.heap, slotsUsed := s₂.slotsUsed } : State).setVm s₂.vm).setTop { g with pc := g.pc + len₂, stack := v.toList ++ g.stack })
    rw [← hs₂]
    exact hsteps
  · obtain ⟨e2, q2, q3, q4, q5, q6⟩ := id hsm
    have e3 : s₂ = ({ (U.calling g mk a).setFrames s₂.frames with heap := s₂.heap, slotsUsed := s₂.slotsUsed } : State).setVm s₂.vm := by
      have : s₂ = ({ s₂ with vm := (U.calling g mk a).vm } : State).setVm s₂.vm := rfl
      rw [e2] at this
      exact this
    have hf₂ : s₂.frames = .throwing q :: .java g :: U.frames.tail := hend
    have hW' : U.WarmedH s₂.vm := hW₂
    have hs₂ : s₂ = ((({ U with heap := s₂.heap, slotsUsed := s₂.slotsUsed } : State).setVm s₂.vm).setTop g).pushFrame (.throwing q) := by
      refine e3.trans ?_
      rw [hf₂, State.calling_eq h.top, State.setFrames_setFrames, State.pushFrame, State.frames_setTop _ hr', State.setTop_of_frames _ hr', State.setFrames_setFrames, hr]
      rfl
    have hsame : U.sameButNew ({ U with heap := s₂.heap, slotsUsed := s₂.slotsUsed } : State) L mc ms := by
      refine ⟨?_, q2, q3, q4, q5, q6⟩
      obtain ⟨t, ht, -⟩ := State.frames_cons hr
      show ({ U with heap := s₂.heap, slotsUsed := s₂.slotsUsed } : State) = { U.setFrames U.frames with heap := s₂.heap, slotsUsed := s₂.slotsUsed }
      rw [State.setFrames_self ht]
    subst hg
    refine Or.inr ⟨q, ⟨(({ U with heap := s₂.heap, slotsUsed := s₂.slotsUsed } : State).setVm s₂.vm), Ls ++ L, c0 + mc, s0 + ms⟩,
      ⟨X.admits, X.cas, X.clock, X.frames, X.room, X.hears, X.method, X.code, (X.here.setHeapUsed s₂.heap s₂.slotsUsed).setVm hW'.alike, X.tail, State.WarmedH.trans X.warmed hW', X.limits, X.bytes, X.same.trans (hsame.setVm s.vm)⟩,
      ⟨g, mk, s₂, L, E, ce, rfl, rfl, hx, hce, hcv, hcl, rfl, hL, rfl, rfl⟩, ?_⟩
    show Steps p.tables e below _ (((({ U with heap := s₂.heap, slotsUsed := s₂.slotsUsed } : State).setVm s₂.vm).setTop g).pushFrame (.throwing q))
    rw [← hs₂]
    exact hsteps
end
variable {p : Program} {l : Launch} {e : Env} {R : Room} {s : State} {m : MethodId} {args : Array Value} {below : List Frame} {meth : Method} {c : Code} {T : State} {H : Heap} {locs : List Loc} {cells slots : Nat}
theorem vx_callVX (X : Stand p l e R s m args below meth c T locs cells slots) (hexec : p.tables.exec = Jvm.exec) {own C : String} {index : Nat} {y : MethodName} {bytes : ByteArray} {maxL : Nat} {ret : Option FieldType} {hh : List (Nat × Nat × Nat × Nat)}
    (hown : s.vm.findClass own = some m.cls) (hlink : (Cond.methodLink own index y).before args s = true) (hinst : (Cond.instanceMethod y).before args s = true) (hsel : (Cond.selects C y y).before args s = true)
    (hcode : (Cond.codeWith y bytes maxL ret hh).before args s = true) (hy : y.cls ≠ "java/lang/invoke/MethodHandle" ∧ y.cls ≠ "java/lang/invoke/VarHandle")
    {W9 : Nat} {Pre : Pt → Array Value → Prop} {Post : Pt → Array Value → Option Value → Pt → Prop} {PostX : Pt → Array Value → Addr → Pt → Prop} (hK : vx_Back l R p e below s args y 3 W9 Pre Post PostX)
    {b : Addr} {cellB : Cell} (hcell : T.heap[b]? = some cellB) (hobj : cellB.vm.isStatics = false) (hcls : s.vm.findClass C = some cellB.cls)
    {g : JFrame} (hg : g.method = m) (hsize : g.locals.size = c.maxLocals) {argsL rest : List Value} (hlen : ∀ sig, parseMethodDescriptor y.desc = some sig → argsL.length = sig.parameters.length)
    (hstack : g.stack = argsL.reverse ++ .ref b :: rest) (hW : 2 * g.monitorRoom + (rest.map fun v => v.category).sum ≤ W9) (hdg : decode c.code g.pc = .ok (.invokevirtual index, 3))
    (hpre : ∀ vm₁, s.WarmedH vm₁ → Pre ⟨T.setVm vm₁, locs, cells, slots⟩ (Value.ref b :: argsL).toArray) :
    (∃ (v : Option Value) (vm₁ : Vm) (B : Pt), s.WarmedH vm₁ ∧ Stand p l e R s m args below meth c B.U B.locs B.cells B.slots ∧ Post ⟨T.setVm vm₁, locs, cells, slots⟩ (Value.ref b :: argsL).toArray v B ∧
      ∀ target, Steps p.tables e below (B.U.setTop { g with pc := g.pc + 3, stack := v.toList ++ rest }) target → Steps p.tables e below (T.setTop g) target) ∨
    (∃ (q : Addr) (vm₁ : Vm) (B : Pt), s.WarmedH vm₁ ∧ Stand p l e R s m args below meth c B.U B.locs B.cells B.slots ∧ PostX ⟨T.setVm vm₁, locs, cells, slots⟩ (Value.ref b :: argsL).toArray q B ∧
      Steps p.tables e below (T.setTop g) ((B.U.setTop { g with stack := rest }).pushFrame (.throwing q))) := by
  obtain ⟨mk, methM, hnamed, hmethM, hstM, habM⟩ := Cond.instanceMethod_spec hinst
  obtain ⟨m8, methM', cM, hn8, hmethM', -, -, -, -, -, -, hsigM⟩ := Cond.codeWith_spec hcode
  cases Option.some.inj (hn8.symm.trans hnamed)
  cases hmethM.symm.trans hmethM'
  obtain ⟨c2, r2, m2, q1, q2, q3, q4, kP, hkP, hkPi⟩ := Cond.selects_spec hsel
  cases hcls.symm.trans q1
  cases (State.methodFound?_of_named hnamed hy).symm.trans q2
  cases hnamed.symm.trans q3
  have hselP : selectMethod e.platform s.vm cellB.cls mk = .method mk := by rw [Launch.admits_selectMethod X.admits]; exact q4
  obtain ⟨vm₁, X₁, hstep₁⟩ := X.invokevirtual hexec hown hlink hnamed hmethM hstM hkP hkPi hy (a := b) (cell := cellB) hcell
    (fun z h => by rw [h] at hobj; cases hobj) hselP hmethM habM hkP hkPi (g := g) hg (argsL := argsL) (rest := rest) (hlen _ hsigM) hstack hdg
  rcases hK m meth c ⟨T.setVm vm₁, locs, cells, slots⟩ { g with stack := rest } (.invokevirtual index) mk (Value.ref b :: argsL).toArray X₁ hg hsize hdg hW (X₁.named hnamed) (hpre vm₁ X₁.warmed) with ⟨v, B, X', hpost, hsteps⟩ | ⟨q, B, X', hpost, hsteps⟩
  · exact Or.inl ⟨v, vm₁, B, X₁.warmed, X', hpost, fun target h => hstep₁ _ fun acts => by rw [doInvoke_state]; exact hsteps.trans h⟩
  · exact Or.inr ⟨q, vm₁, B, X₁.warmed, X', hpost, hstep₁ _ fun acts => by rw [doInvoke_state]; exact hsteps⟩
theorem vx_callSX (X : Stand p l e R s m args below meth c T locs cells slots) (hexec : p.tables.exec = Jvm.exec) {own : String} {index : Nat} {y : MethodName} {bytes : ByteArray} {maxL : Nat} {ret : Option FieldType} {hh : List (Nat × Nat × Nat × Nat)}
    (hown : s.vm.findClass own = some m.cls) (hlink : (Cond.methodLink own index y).before args s = true) (hstat : (Cond.static y).before args s = true) (hinit : (Cond.initialized y.cls).before args s = true)
    (hcode : (Cond.codeWith y bytes maxL ret hh).before args s = true) (hy : y.cls ≠ "java/lang/invoke/MethodHandle" ∧ y.cls ≠ "java/lang/invoke/VarHandle")
    {W9 : Nat} {Pre : Pt → Array Value → Prop} {Post : Pt → Array Value → Option Value → Pt → Prop} {PostX : Pt → Array Value → Addr → Pt → Prop} (hK : vx_Back l R p e below s args y 3 W9 Pre Post PostX)
    {g : JFrame} (hg : g.method = m) (hsize : g.locals.size = c.maxLocals) {argsL rest : List Value} (hlen : ∀ sig, parseMethodDescriptor y.desc = some sig → argsL.length = sig.parameters.length)
    (hstack : g.stack = argsL.reverse ++ rest) (hW : 2 * g.monitorRoom + (rest.map fun v => v.category).sum ≤ W9) (hdg : decode c.code g.pc = .ok (.invokestatic index, 3))
    (hpre : ∀ vm₁, s.WarmedH vm₁ → Pre ⟨T.setVm vm₁, locs, cells, slots⟩ argsL.toArray) :
    (∃ (v : Option Value) (vm₁ : Vm) (B : Pt), s.WarmedH vm₁ ∧ Stand p l e R s m args below meth c B.U B.locs B.cells B.slots ∧ Post ⟨T.setVm vm₁, locs, cells, slots⟩ argsL.toArray v B ∧
      ∀ target, Steps p.tables e below (B.U.setTop { g with pc := g.pc + 3, stack := v.toList ++ rest }) target → Steps p.tables e below (T.setTop g) target) ∨
    (∃ (q : Addr) (vm₁ : Vm) (B : Pt), s.WarmedH vm₁ ∧ Stand p l e R s m args below meth c B.U B.locs B.cells B.slots ∧ PostX ⟨T.setVm vm₁, locs, cells, slots⟩ argsL.toArray q B ∧
      Steps p.tables e below (T.setTop g) ((B.U.setTop { g with stack := rest }).pushFrame (.throwing q))) := by
  obtain ⟨mk, methM, cM, hnamed, hmethM, -, -, -, -, -, -, hsigM⟩ := Cond.codeWith_spec hcode
  have hstatic : methM.isStatic = true := Cond.static_spec hnamed hmethM hstat
  obtain ⟨kP, hkP, -⟩ := className_of_methodNamed hnamed
  have hinitP : kP.init = .initialized := Cond.initialized_spec (findClass_of_methodNamed hnamed) hkP hinit
  obtain ⟨vm₁, X₁, hstep₁⟩ := X.invokestatic hexec hown hlink hnamed hmethM hstatic hkP hinitP hy (g := g) hg (argsL := argsL) (rest := rest) (hlen _ hsigM) hstack hdg
  rcases hK m meth c ⟨T.setVm vm₁, locs, cells, slots⟩ { g with stack := rest } (.invokestatic index) mk argsL.toArray X₁ hg hsize hdg hW (X₁.named hnamed) (hpre vm₁ X₁.warmed) with ⟨v, B, X', hpost, hsteps⟩ | ⟨q, B, X', hpost, hsteps⟩
  · exact Or.inl ⟨v, vm₁, B, X₁.warmed, X', hpost, fun target h => hstep₁ _ fun acts => by rw [doInvoke_state]; exact hsteps.trans h⟩
  · exact Or.inr ⟨q, vm₁, B, X₁.warmed, X', hpost, hstep₁ _ fun acts => by rw [doInvoke_state]; exact hsteps⟩
theorem vx_callVW (X : Stand p l e R s m args below meth c T locs cells slots) (hexec : p.tables.exec = Jvm.exec) {own C : String} {index : Nat} {y : MethodName} {bytes : ByteArray} {maxL : Nat} {ret : Option FieldType} {hh : List (Nat × Nat × Nat × Nat)}
    (hown : s.vm.findClass own = some m.cls) (hlink : (Cond.methodLink own index y).before args s = true) (hinst : (Cond.instanceMethod y).before args s = true) (hsel : (Cond.selects C y y).before args s = true)
    (hcode : (Cond.codeWith y bytes maxL ret hh).before args s = true) (hy : y.cls ≠ "java/lang/invoke/MethodHandle" ∧ y.cls ≠ "java/lang/invoke/VarHandle")
    {W9 : Nat} {Pre : Pt → Array Value → Prop} {Post : Pt → Array Value → Option Value → Pt → Prop} (hK : Back l R p e below s args y 3 W9 Pre Post)
    {b : Addr} {cellB : Cell} (hcell : T.heap[b]? = some cellB) (hobj : cellB.vm.isStatics = false) (hcls : s.vm.findClass C = some cellB.cls)
    {g : JFrame} (hg : g.method = m) (hsize : g.locals.size = c.maxLocals) {argsL rest : List Value} (hlen : ∀ sig, parseMethodDescriptor y.desc = some sig → argsL.length = sig.parameters.length)
    (hstack : g.stack = argsL.reverse ++ .ref b :: rest) (hW : 2 * g.monitorRoom + (rest.map fun v => v.category).sum ≤ W9) (hdg : decode c.code g.pc = .ok (.invokevirtual index, 3))
    (hpre : ∀ vm₁, s.WarmedH vm₁ → Pre ⟨T.setVm vm₁, locs, cells, slots⟩ (Value.ref b :: argsL).toArray) :
    ∃ (v : Option Value) (vm₁ : Vm) (B : Pt), s.WarmedH vm₁ ∧ Stand p l e R s m args below meth c B.U B.locs B.cells B.slots ∧ Post ⟨T.setVm vm₁, locs, cells, slots⟩ (Value.ref b :: argsL).toArray v B ∧
      ∀ target, Steps p.tables e below (B.U.setTop { g with pc := g.pc + 3, stack := v.toList ++ rest }) target → Steps p.tables e below (T.setTop g) target := by
  obtain ⟨mk, methM, hnamed, hmethM, hstM, habM⟩ := Cond.instanceMethod_spec hinst
  obtain ⟨m8, methM', cM, hn8, hmethM', -, -, -, -, -, -, hsigM⟩ := Cond.codeWith_spec hcode
  cases Option.some.inj (hn8.symm.trans hnamed)
  cases hmethM.symm.trans hmethM'
  obtain ⟨c2, r2, m2, q1, q2, q3, q4, kP, hkP, hkPi⟩ := Cond.selects_spec hsel
  cases hcls.symm.trans q1
  cases (State.methodFound?_of_named hnamed hy).symm.trans q2
  cases hnamed.symm.trans q3
  have hselP : selectMethod e.platform s.vm cellB.cls mk = .method mk := by rw [Launch.admits_selectMethod X.admits]; exact q4
  obtain ⟨vm₁, X₁, hstep₁⟩ := X.invokevirtual hexec hown hlink hnamed hmethM hstM hkP hkPi hy (a := b) (cell := cellB) hcell
    (fun z h => by rw [h] at hobj; cases hobj) hselP hmethM habM hkP hkPi (g := g) hg (argsL := argsL) (rest := rest) (hlen _ hsigM) hstack hdg
  obtain ⟨v, B, X', hpost, hsteps⟩ := hK m meth c ⟨T.setVm vm₁, locs, cells, slots⟩ { g with stack := rest } (.invokevirtual index) mk (Value.ref b :: argsL).toArray X₁ hg hsize hdg hW (X₁.named hnamed) (hpre vm₁ X₁.warmed)
  exact ⟨v, vm₁, B, X₁.warmed, X', hpost, fun target h => hstep₁ _ fun acts => by rw [doInvoke_state]; exact hsteps.trans h⟩
abbrev vx_CVW (R : Room) (s : State) (args : Array Value) (own C : String) (index : Nat) (y : MethodName) (bytes : ByteArray) (maxL : Nat) (ret : Option FieldType) (hh : List (Nat × Nat × Nat × Nat)) (ws : List Cond) (rm : Room) (mc ms n : Nat) : Prop :=
  (rm.cells = mc ∧ rm.slots = ms ∧ rm.frames + 1 ≤ R.frames ∧ 8 + (maxL + 11) + rm.locals ≤ R.locals ∧ (∀ w ∈ ws, ∀ (a' : Array Value) (U : State), s.WarmedH U.vm → w.before a' U = true) ∧ Cond.codeWith y bytes maxL ret hh ∈ ws) ∧
  (Cond.codeWith y bytes maxL ret hh).before args s = true ∧ (Cond.initialized y.cls).before args s = true ∧ (y.cls ≠ "java/lang/invoke/MethodHandle" ∧ y.cls ≠ "java/lang/invoke/VarHandle") ∧
  (∀ sig, parseMethodDescriptor y.desc = some sig → n = sig.parameters.length) ∧ (Cond.methodLink own index y).before args s = true ∧ (Cond.instanceMethod y).before args s = true ∧ (Cond.selects C y y).before args s = true
theorem vx_cwVW {own C : String} {index maxL mc ms : Nat} {y : MethodName} {bytes : ByteArray} {ret : Option FieldType} {hh : List (Nat × Nat × Nat × Nat)} {Ts ws ws' : List Cond} {rm : Room} (n : Nat) (ht : ∀ w ∈ Ts, w.before args s = true) (hT : GoodIn Ts (wsV own index C y ws)) (hw : ws = Cond.codeWith y bytes maxL ret hh :: ws') (hrc : rm.cells = mc) (hrs : rm.slots = ms)
    (hd : y.cls = C ∧ y.cls ≠ "java/lang/invoke/MethodHandle" ∧ y.cls ≠ "java/lang/invoke/VarHandle" ∧ (parseMethodDescriptor y.desc).map (fun d => d.parameters.length) = some n) (hR : rm.frames + 1 ≤ R.frames ∧ 8 + (maxL + 11) + rm.locals ≤ R.locals) :
    vx_CVW R s args own C index y bytes maxL ret hh ws rm mc ms n := by
  obtain ⟨hC, hd⟩ := hd
  subst hC
  have ok : ∀ w ∈ wsV own index y.cls y ws, w.before args s = true := fun w h => ht w (hT w h).1
  have hG : GoodIn Ts ws := fun w h => hT w (by unfold wsV; exact List.mem_append_right _ h)
  have hc : Cond.codeWith y bytes maxL ret hh ∈ ws := by rw [hw]; exact List.mem_cons_self
  refine ⟨⟨hrc, hrs, hR.1, hR.2, pay_in ht hG, hc⟩, ht _ (hG _ hc).1, ok _ (by simp [wsV]), ⟨hd.1, hd.2.1⟩, fun sig h => ?_, ok _ (by simp [wsV]), ok _ (by simp [wsV]), ok _ (by simp [wsV])⟩
  have h2 := hd.2.2
  rw [h] at h2
  exact (Option.some.inj h2).symm
theorem vx_runVW {y : MethodName} {bytes cc : ByteArray} {maxL nL mc ms n index : Nat} {ret : Option FieldType} {hh : List (Nat × Nat × Nat × Nat)} {ws : List Cond} {rm : Room} {Pc : Array Value → State → Prop} {Qc : Array Value → State → Outcome → State → Prop} {free : Addr → Prop} {Ts : List Cond} {own C : String} {b : Addr} {As rest : List Value} {g : JFrame}
    (S : CallFix p m c cc nL s args Ts own) (hM : Met l y ws rm Pc Qc mc ms free) (cw : vx_CVW R s args own C index y bytes maxL ret hh ws rm mc ms n) (hp : PreV s H C b Pc As)
    (hg : g.method = m) (hn : As.length = n) (hsize : g.locals.size = nL) (hstack : g.stack = As.reverse ++ .ref b :: rest) (hW : 2 * g.monitorRoom + (rest.map fun v => v.category).sum ≤ 8) (hdg : decode cc g.pc = .ok (.invokevirtual index, 3)) (hf : cells + mc ≤ R.cells ∧ slots + ms ≤ R.slots) :
    va_Run p l e R s m args below meth c H locs cells slots mc ms g rest (Qc (Value.ref b :: As).toArray) free := by
  obtain ⟨⟨hrc, hrs, hfr, hlo, hws, hcw⟩, hcode, hini, hy, hlen, hl, hin, hse⟩ := cw
  have hK : Back l R p e below s args y 3 8 (PreOf R mc ms Pc) (PostOf Qc mc ms free) := va_backW (hh := hh) (bytes := bytes) (maxL := maxL) (ret := ret) hM hp.1 hrc hrs hfr hlo hws hcw (fun a' U hW => word_at hW (Or.inl (by first | rfl | simp [Cond.onTables, Cond.keeps, Cond.steady])) hini)
  obtain ⟨hx, hb, hml, ho, -⟩ := S
  obtain ⟨-, ⟨cellB, hcB, hoB, hclB⟩, hPc⟩ := hp
  intro T hT X
  obtain ⟨v, vm₁, ⟨U', l2, c2, s2⟩, hW₁, X', ⟨g', mk, t, L, e1, e2, hq, h1, hL, h2, h3⟩, st⟩ := vx_callVW X hx (C := C) (hh := hh) (bytes := bytes) (maxL := maxL) (ret := ret) ho hl hin hse hcode hy hK (by rw [hT]; exact hcB) hoB hclB hg (hsize.trans hml.symm) (argsL := As) (rest := rest) (fun sig h => hn.trans (hlen sig h)) hstack hW (by rw [hb]; exact hdg)
    (fun vm₁ hW₁ => ⟨hf.1, hf.2, hPc (T.setVm vm₁) hT hW₁⟩)
  dsimp only [Pt.U, Pt.locs, Pt.cells, Pt.slots] at X' e1 e2 h1 h2 h3 st
  subst h1; subst h2; subst h3
  exact ⟨v, (T.setVm vm₁).calling g' mk (Value.ref b :: As).toArray, t, U', L, hT, X', hL, e1, e2, hq, st⟩
section
variable {y : MethodName} {bytes cc : ByteArray} {maxL nL mc ms n index : Nat} {ret : Option FieldType} {ws : List Cond} {rm : Room} {Pc : Array Value → State → Prop} {Qc : Array Value → State → Outcome → State → Prop} {XC : String → State → State → Prop} {free : Addr → Prop} {Ts : List Cond} {own C : String} {b : Addr} {As rest : List Value} {g : JFrame}
theorem vx_runVX {hh : List (Nat × Nat × Nat × Nat)} (S : CallFix p m c cc nL s args Ts own) (hM : vx_Met l y ws rm Pc Qc XC mc ms free) (cw : vx_CVW R s args own C index y bytes maxL ret hh ws rm mc ms n) (hp : PreV s H C b Pc As)
    (hg : g.method = m) (hn : As.length = n) (hsize : g.locals.size = nL) (hstack : g.stack = As.reverse ++ .ref b :: rest) (hW : 2 * g.monitorRoom + (rest.map fun v => v.category).sum ≤ 8) (hdg : decode cc g.pc = .ok (.invokevirtual index, 3)) (hf : cells + mc ≤ R.cells ∧ slots + ms ≤ R.slots) :
    vx_Run p l e R s m args below meth c H locs cells slots mc ms g rest (Qc (Value.ref b :: As).toArray) XC free := by
  obtain ⟨⟨hrc, hrs, hfr, hlo, hws, hcw⟩, hcode, hini, hy, hlen, hl, hin, hse⟩ := cw
  have hK : vx_Back l R p e below s args y 3 8 (PreOf R mc ms Pc) (PostOf Qc mc ms free) (vx_Post XC mc ms free) := vx_backW (hh := hh) (bytes := bytes) (maxL := maxL) (ret := ret) hM hp.1 hrc hrs hfr hlo hws hcw (fun a' U hW => word_at hW (Or.inl (by first | rfl | simp [Cond.onTables, Cond.keeps, Cond.steady])) hini)
  obtain ⟨hx, hb, hml, ho, -⟩ := S
  obtain ⟨-, ⟨cellB, hcB, hoB, hclB⟩, hPc⟩ := hp
  intro T hT X
  rcases vx_callVX X hx (C := C) (hh := hh) (bytes := bytes) (maxL := maxL) (ret := ret) ho hl hin hse hcode hy hK (by rw [hT]; exact hcB) hoB hclB hg (hsize.trans hml.symm) (argsL := As) (rest := rest) (fun sig h => hn.trans (hlen sig h)) hstack hW (by rw [hb]; exact hdg)
    (fun vm₁ hW₁ => ⟨hf.1, hf.2, hPc (T.setVm vm₁) hT hW₁⟩) with ⟨v, vm₁, ⟨U', l2, c2, s2⟩, hW₁, X', ⟨g', mk, t, L, e1, e2, hq, h1, hL, h2, h3⟩, st⟩ | ⟨q, vm₁, ⟨U', l2, c2, s2⟩, hW₁, X', ⟨g', mk, t, L, E, ce, e1, e2, hq, hce, hcv, hcl, h1, hL, h2, h3⟩, st⟩
  · dsimp only [Pt.U, Pt.locs, Pt.cells, Pt.slots] at X' e1 e2 h1 h2 h3 st
    subst h1; subst h2; subst h3
    exact Or.inl ⟨v, (T.setVm vm₁).calling g' mk (Value.ref b :: As).toArray, t, U', L, hT, X', hL, e1, e2, hq, st⟩
  · dsimp only [Pt.U, Pt.locs, Pt.cells, Pt.slots] at X' e1 e2 h1 h2 h3 st hcl
    subst h1; subst h2; subst h3
    exact Or.inr ⟨q, (T.setVm vm₁).calling g' mk (Value.ref b :: As).toArray, t, U', L, E, ce, hT, X', hL, e1, e2, hq, hce, hcv, vx_cls hW₁ hcl, st⟩
theorem vx_runSX {hh : List (Nat × Nat × Nat × Nat)} (S : CallFix p m c cc nL s args Ts own) (hM : vx_Met l y ws rm Pc Qc XC mc ms free) (cw : vx_CSW R s args own index y bytes maxL ret hh ws rm mc ms n) (hp : PreS s H Pc As)
    (hg : g.method = m) (hn : As.length = n) (hsize : g.locals.size = nL) (hstack : g.stack = As.reverse ++ rest) (hW : 2 * g.monitorRoom + (rest.map fun v => v.category).sum ≤ 8) (hdg : decode cc g.pc = .ok (.invokestatic index, 3)) (hf : cells + mc ≤ R.cells ∧ slots + ms ≤ R.slots) :
    vx_Run p l e R s m args below meth c H locs cells slots mc ms g rest (Qc As.toArray) XC free := by
  obtain ⟨⟨hrc, hrs, hfr, hlo, hws, hcw⟩, hcode, hini, hy, hlen, hl, hstt⟩ := cw
  have hK : vx_Back l R p e below s args y 3 8 (PreOf R mc ms Pc) (PostOf Qc mc ms free) (vx_Post XC mc ms free) := vx_backW (hh := hh) (bytes := bytes) (maxL := maxL) (ret := ret) hM hp.1 hrc hrs hfr hlo hws hcw (fun a' U hW => word_at hW (Or.inl (by first | rfl | simp [Cond.onTables, Cond.keeps, Cond.steady])) hini)
  obtain ⟨hx, hb, hml, ho, -⟩ := S
  intro T hT X
  rcases vx_callSX X hx (hh := hh) (bytes := bytes) (maxL := maxL) (ret := ret) ho hl hstt hini hcode hy hK hg (hsize.trans hml.symm) (argsL := As) (rest := rest) (fun sig h => hn.trans (hlen sig h)) hstack hW (by rw [hb]; exact hdg)
    (fun vm₁ hW₁ => ⟨hf.1, hf.2, hp.2 (T.setVm vm₁) hT hW₁⟩) with ⟨v, vm₁, ⟨U', l2, c2, s2⟩, hW₁, X', ⟨g', mk, t, L, e1, e2, hq, h1, hL, h2, h3⟩, st⟩ | ⟨q, vm₁, ⟨U', l2, c2, s2⟩, hW₁, X', ⟨g', mk, t, L, E, ce, e1, e2, hq, hce, hcv, hcl, h1, hL, h2, h3⟩, st⟩
  · dsimp only [Pt.U, Pt.locs, Pt.cells, Pt.slots] at X' e1 e2 h1 h2 h3 st
    subst h1; subst h2; subst h3
    exact Or.inl ⟨v, (T.setVm vm₁).calling g' mk As.toArray, t, U', L, hT, X', hL, e1, e2, hq, st⟩
  · dsimp only [Pt.U, Pt.locs, Pt.cells, Pt.slots] at X' e1 e2 h1 h2 h3 st hcl
    subst h1; subst h2; subst h3
    exact Or.inr ⟨q, (T.setVm vm₁).calling g' mk As.toArray, t, U', L, E, ce, hT, X', hL, e1, e2, hq, hce, hcv, vx_cls hW₁ hcl, st⟩
end
end VXH
theorem vx_ofWH {l : Launch} {y : MethodName} {ws ws' : List Cond} {rm : Room} {Pc : Array Value → State → Prop} {Qc : Array Value → State → Outcome → State → Prop} {XC : String → State → State → Prop} {mc ms : Nat} {free : Addr → Prop} {cc : ByteArray} {maxL : Nat} {ret : Option FieldType} {hh : List (Nat × Nat × Nat × Nat)}
    (hy : plainName y.cls = true) (hw : ws = Cond.codeWith y cc maxL ret hh :: ws')
    (body : ∀ p e s m args below meth c s₁, BodyLoose p l y (headSpec ws rm) cc maxL ret e s m args below meth c s₁ → c.maxLocals = maxL → Pc args s →
      W p l e (headSpec ws rm).room s m args below meth c s.heap [] 0 0 (vx_MQ below Qc XC args s mc ms free) (entryFrame m args maxL)) : vx_Met l y ws rm Pc Qc XC mc ms free := by
  refine MetFree.of_bodyS (code := cc) (maxLocals := maxL) (ret := ret) hy ?_ ?_
  · intro args s m h hn
    obtain ⟨m9, meth, c, hn9, h1, h2, h3, h4, -, h5, h6, -⟩ := Cond.codeWith_spec (atoms_spec (ws := ws) h _ (by rw [hw]; exact List.mem_cons_self))
    cases hn.symm.trans hn9
    exact ⟨meth, c, h1, h2, h3, h4, h5, h6⟩
  · intro p e s m args below meth c s₁ B hml hP _
    have hh0 : s₁.heap = s.heap := by rw [B.state]; rfl
    obtain ⟨t, a1, o, b1, b2, b3⟩ := body p e s m args below meth c s₁ B hml hP s₁ hh0 (Stand.of_body B)
    exact ⟨t, o, a1, b1, b2, b3⟩
/-! ===== END ===== -/
end
section
/-! names: classes, fields, word lists, methods (printed by wip/gen/names.py) -/
abbrev RX0 : String := "CopyHeap$Half"
def TX0 : u_T := fun k => match k with
  | 0 => ("CopyHeap$Half", "words", "[I", true)
  | 1 => ("CopyHeap$Half", "used", "I", false)
  | _ => ("CopyHeap$Half", "objects", "I", false)
def tyX0 : Nat → FieldType := fun k => match k with
  | 0 => .array .int
  | 1 => .int
  | _ => .int
theorem nmX0 : ∀ a, a < 3 → ∀ b, b < 3 → a ≠ b → (TX0 a).2.1 ≠ (TX0 b).2.1 := by decide +kernel
theorem tkX0 : ∀ k, k < 3 → parseFieldDescriptor (TX0 k).2.2.1 = some (tyX0 k) := by decide +kernel
abbrev RX1 : String := "CopyHeap"
def TX1 : u_T := fun k => match k with
  | 0 => ("CopyHeap", "registers", "[I", true)
  | 1 => ("CopyHeap", "inUse", "LCopyHeap$Half;", false)
  | 2 => ("CopyHeap", "spare", "LCopyHeap$Half;", false)
  | 3 => ("CopyHeap", "collections", "I", false)
  | _ => ("CopyHeap", "movedWords", "I", false)
def tyX1 : Nat → FieldType := fun k => match k with
  | 0 => .array .int
  | 1 => .object "CopyHeap$Half"
  | 2 => .object "CopyHeap$Half"
  | 3 => .int
  | _ => .int
theorem nmX1 : ∀ a, a < 5 → ∀ b, b < 5 → a ≠ b → (TX1 a).2.1 ≠ (TX1 b).2.1 := by decide +kernel
theorem tkX1 : ∀ k, k < 5 → parseFieldDescriptor (TX1 k).2.2.1 = some (tyX1 k) := by decide +kernel
abbrev RX2 : String := "CopyHeapModel"
def TX2 : u_T := fun k => match k with
  | 0 => ("CopyHeapModel", "thrown", "I", false)
  | 1 => ("CopyHeapModel", "half", "I", true)
  | 2 => ("CopyHeapModel", "used", "I", false)
  | 3 => ("CopyHeapModel", "collections", "I", false)
  | 4 => ("CopyHeapModel", "moved", "I", false)
  | 5 => ("CopyHeapModel", "sort", "[I", true)
  | 6 => ("CopyHeapModel", "value", "[I", true)
  | 7 => ("CopyHeapModel", "newSort", "[I", true)
  | 8 => ("CopyHeapModel", "newValue", "[I", true)
  | 9 => ("CopyHeapModel", "registerSort", "[I", true)
  | 10 => ("CopyHeapModel", "registerValue", "[I", true)
  | 11 => ("CopyHeapModel", "stays", "I", false)
  | 12 => ("CopyHeapModel", "stay", "[I", true)
  | _ => ("CopyHeapModel", "goes", "[I", true)
def tyX2 : Nat → FieldType := fun k => match k with
  | 0 => .int
  | 1 => .int
  | 2 => .int
  | 3 => .int
  | 4 => .int
  | 5 => .array .int
  | 6 => .array .int
  | 7 => .array .int
  | 8 => .array .int
  | 9 => .array .int
  | 10 => .array .int
  | 11 => .int
  | 12 => .array .int
  | _ => .array .int
theorem nmX2 : ∀ a, a < 14 → ∀ b, b < 14 → a ≠ b → (TX2 a).2.1 ≠ (TX2 b).2.1 := by decide +kernel
theorem tkX2 : ∀ k, k < 14 → parseFieldDescriptor (TX2 k).2.2.1 = some (tyX2 k) := by decide +kernel
abbrev RL : String := "CopyHeapLaw"
abbrev vwCl : List vw_C := [(RX0, TX0, 3), (RX1, TX1, 5), (RX2, TX2, 14)]
/-- the good words of the tables: every method's words are its own code and these -/
def gT : List Cond := lw_tbl.filter goodWord
theorem gT_good {ws : List Cond} (h : ∀ w ∈ ws, w ∈ gT) : GoodIn gT ws := fun w hw => ⟨h w hw, good_of_word (List.mem_filter.mp (h w hw)).2⟩
theorem gT_tbl {args : Array Value} {s : State} (h : ∀ w ∈ lw_tbl, w.before args s = true) : ∀ w ∈ gT, w.before args s = true := fun w hw => h w (List.mem_filter.mp hw).1
theorem iX0 : ∀ w ∈ u_ws RX0 TX0 3, w ∈ gT := by decide +kernel
theorem iX1 : ∀ w ∈ u_ws RX1 TX1 5, w ∈ gT := by decide +kernel
theorem iX2 : ∀ w ∈ u_ws RX2 TX2 14, w ∈ gT := by decide +kernel
theorem g_0 : (.initialized "CopyHeapLaw" : Cond) ∈ gT := List.mem_filter.mpr ⟨List.mem_append_right _ (List.mem_of_getElem? (i := 0) (by decide +kernel)), by decide +kernel⟩
theorem g_1 : (.initialized "CopyHeap" : Cond) ∈ gT := List.mem_filter.mpr ⟨List.mem_append_right _ (List.mem_of_getElem? (i := 1) (by decide +kernel)), by decide +kernel⟩
theorem g_2 : (.initialized "CopyHeap$Half" : Cond) ∈ gT := List.mem_filter.mpr ⟨List.mem_append_right _ (List.mem_of_getElem? (i := 2) (by decide +kernel)), by decide +kernel⟩
theorem g_3 : (.initialized "CopyHeapModel" : Cond) ∈ gT := List.mem_filter.mpr ⟨List.mem_append_right _ (List.mem_of_getElem? (i := 3) (by decide +kernel)), by decide +kernel⟩
theorem g_4 : (.initialized "java/lang/Throwable" : Cond) ∈ gT := List.mem_filter.mpr ⟨List.mem_append_right _ (List.mem_of_getElem? (i := 4) (by decide +kernel)), by decide +kernel⟩
theorem g_5 : (.initialized "java/lang/Exception" : Cond) ∈ gT := List.mem_filter.mpr ⟨List.mem_append_right _ (List.mem_of_getElem? (i := 5) (by decide +kernel)), by decide +kernel⟩
theorem g_6 : (.initialized "java/lang/RuntimeException" : Cond) ∈ gT := List.mem_filter.mpr ⟨List.mem_append_right _ (List.mem_of_getElem? (i := 6) (by decide +kernel)), by decide +kernel⟩
theorem g_7 : (.initialized "java/lang/IllegalArgumentException" : Cond) ∈ gT := List.mem_filter.mpr ⟨List.mem_append_right _ (List.mem_of_getElem? (i := 7) (by decide +kernel)), by decide +kernel⟩
theorem g_8 : (.initialized "java/lang/IllegalStateException" : Cond) ∈ gT := List.mem_filter.mpr ⟨List.mem_append_right _ (List.mem_of_getElem? (i := 8) (by decide +kernel)), by decide +kernel⟩
theorem g_9 : (.initialized "java/lang/IndexOutOfBoundsException" : Cond) ∈ gT := List.mem_filter.mpr ⟨List.mem_append_right _ (List.mem_of_getElem? (i := 9) (by decide +kernel)), by decide +kernel⟩
theorem g_10 : (.classLink "CopyHeapLaw" 8 "CopyHeap" : Cond) ∈ gT := List.mem_filter.mpr ⟨List.mem_append_right _ (List.mem_of_getElem? (i := 10) (by decide +kernel)), by decide +kernel⟩
theorem g_11 : (.instantiable "CopyHeap" 5 : Cond) ∈ gT := List.mem_filter.mpr ⟨List.mem_append_right _ (List.mem_of_getElem? (i := 11) (by decide +kernel)), by decide +kernel⟩
theorem g_12 : (.methodLink "CopyHeapLaw" 54 ⟨"CopyHeap", "<init>", "(I)V"⟩ : Cond) ∈ gT := List.mem_filter.mpr ⟨List.mem_append_right _ (List.mem_of_getElem? (i := 12) (by decide +kernel)), by decide +kernel⟩
theorem g_13 : (.instanceMethod ⟨"CopyHeap", "<init>", "(I)V"⟩ : Cond) ∈ gT := List.mem_filter.mpr ⟨List.mem_append_right _ (List.mem_of_getElem? (i := 13) (by decide +kernel)), by decide +kernel⟩
theorem g_14 : (.code ⟨"CopyHeap", "<init>", "(I)V"⟩ prog_1_method_1_code 2 (none) : Cond) ∈ gT := List.mem_filter.mpr ⟨List.mem_append_right _ (List.mem_of_getElem? (i := 14) (by decide +kernel)), by decide +kernel⟩
theorem g_15 : (.methodLink "CopyHeap" 1 ⟨"java/lang/Object", "<init>", "()V"⟩ : Cond) ∈ gT := List.mem_filter.mpr ⟨List.mem_append_right _ (List.mem_of_getElem? (i := 15) (by decide +kernel)), by decide +kernel⟩
theorem g_16 : (.instanceMethod ⟨"java/lang/Object", "<init>", "()V"⟩ : Cond) ∈ gT := List.mem_filter.mpr ⟨List.mem_append_right _ (List.mem_of_getElem? (i := 16) (by decide +kernel)), by decide +kernel⟩
theorem g_17 : (.code ⟨"java/lang/Object", "<init>", "()V"⟩ object_method_1_code 1 (none) : Cond) ∈ gT := List.mem_filter.mpr ⟨List.mem_append_right _ (List.mem_of_getElem? (i := 17) (by decide +kernel)), by decide +kernel⟩
theorem g_18 : (.classLink "CopyHeap" 13 "CopyHeap$Half" : Cond) ∈ gT := List.mem_filter.mpr ⟨List.mem_append_right _ (List.mem_of_getElem? (i := 18) (by decide +kernel)), by decide +kernel⟩
theorem g_19 : (.instantiable "CopyHeap$Half" 3 : Cond) ∈ gT := List.mem_filter.mpr ⟨List.mem_append_right _ (List.mem_of_getElem? (i := 19) (by decide +kernel)), by decide +kernel⟩
theorem g_20 : (.methodLink "CopyHeap" 15 ⟨"CopyHeap$Half", "<init>", "(I)V"⟩ : Cond) ∈ gT := List.mem_filter.mpr ⟨List.mem_append_right _ (List.mem_of_getElem? (i := 20) (by decide +kernel)), by decide +kernel⟩
theorem g_21 : (.instanceMethod ⟨"CopyHeap$Half", "<init>", "(I)V"⟩ : Cond) ∈ gT := List.mem_filter.mpr ⟨List.mem_append_right _ (List.mem_of_getElem? (i := 21) (by decide +kernel)), by decide +kernel⟩
theorem g_22 : (.code ⟨"CopyHeap$Half", "<init>", "(I)V"⟩ prog_2_method_1_code 2 (none) : Cond) ∈ gT := List.mem_filter.mpr ⟨List.mem_append_right _ (List.mem_of_getElem? (i := 22) (by decide +kernel)), by decide +kernel⟩
theorem g_23 : (.methodLink "CopyHeap$Half" 3 ⟨"java/lang/Object", "<init>", "()V"⟩ : Cond) ∈ gT := List.mem_filter.mpr ⟨List.mem_append_right _ (List.mem_of_getElem? (i := 23) (by decide +kernel)), by decide +kernel⟩
theorem g_24 : (.fieldLink "CopyHeap$Half" 11 "CopyHeap$Half" "words" "[I" : Cond) ∈ gT := List.mem_filter.mpr ⟨List.mem_append_right _ (List.mem_of_getElem? (i := 24) (by decide +kernel)), by decide +kernel⟩
theorem g_26 : (.fieldLink "CopyHeap$Half" 15 "CopyHeap$Half" "used" "I" : Cond) ∈ gT := List.mem_filter.mpr ⟨List.mem_append_right _ (List.mem_of_getElem? (i := 26) (by decide +kernel)), by decide +kernel⟩
theorem g_28 : (.fieldLink "CopyHeap$Half" 19 "CopyHeap$Half" "objects" "I" : Cond) ∈ gT := List.mem_filter.mpr ⟨List.mem_append_right _ (List.mem_of_getElem? (i := 28) (by decide +kernel)), by decide +kernel⟩
theorem g_30 : (.laysFinal "CopyHeap$Half" "CopyHeap$Half" "words" "[I" : Cond) ∈ gT := List.mem_filter.mpr ⟨List.mem_append_right _ (List.mem_of_getElem? (i := 30) (by decide +kernel)), by decide +kernel⟩
theorem g_31 : (.soleField "CopyHeap$Half" "words" : Cond) ∈ gT := List.mem_filter.mpr ⟨List.mem_append_right _ (List.mem_of_getElem? (i := 31) (by decide +kernel)), by decide +kernel⟩
theorem g_32 : (.lays "CopyHeap$Half" "CopyHeap$Half" "used" "I" : Cond) ∈ gT := List.mem_filter.mpr ⟨List.mem_append_right _ (List.mem_of_getElem? (i := 32) (by decide +kernel)), by decide +kernel⟩
theorem g_33 : (.soleField "CopyHeap$Half" "used" : Cond) ∈ gT := List.mem_filter.mpr ⟨List.mem_append_right _ (List.mem_of_getElem? (i := 33) (by decide +kernel)), by decide +kernel⟩
theorem g_34 : (.lays "CopyHeap$Half" "CopyHeap$Half" "objects" "I" : Cond) ∈ gT := List.mem_filter.mpr ⟨List.mem_append_right _ (List.mem_of_getElem? (i := 34) (by decide +kernel)), by decide +kernel⟩
theorem g_35 : (.soleField "CopyHeap$Half" "objects" : Cond) ∈ gT := List.mem_filter.mpr ⟨List.mem_append_right _ (List.mem_of_getElem? (i := 35) (by decide +kernel)), by decide +kernel⟩
theorem g_36 : (.superclass "CopyHeap$Half" "java/lang/Object" : Cond) ∈ gT := List.mem_filter.mpr ⟨List.mem_append_right _ (List.mem_of_getElem? (i := 36) (by decide +kernel)), by decide +kernel⟩
theorem g_37 : (.arrayClass .int : Cond) ∈ gT := List.mem_filter.mpr ⟨List.mem_append_right _ (List.mem_of_getElem? (i := 37) (by decide +kernel)), by decide +kernel⟩
theorem g_38 : (.fieldLink "CopyHeap" 9 "CopyHeap" "registers" "[I" : Cond) ∈ gT := List.mem_filter.mpr ⟨List.mem_append_right _ (List.mem_of_getElem? (i := 38) (by decide +kernel)), by decide +kernel⟩
theorem g_39 : (.fieldLink "CopyHeap" 18 "CopyHeap" "inUse" "LCopyHeap$Half;" : Cond) ∈ gT := List.mem_filter.mpr ⟨List.mem_append_right _ (List.mem_of_getElem? (i := 39) (by decide +kernel)), by decide +kernel⟩
theorem g_40 : (.fieldLink "CopyHeap" 22 "CopyHeap" "spare" "LCopyHeap$Half;" : Cond) ∈ gT := List.mem_filter.mpr ⟨List.mem_append_right _ (List.mem_of_getElem? (i := 40) (by decide +kernel)), by decide +kernel⟩
theorem g_41 : (.fieldLink "CopyHeap" 109 "CopyHeap" "collections" "I" : Cond) ∈ gT := List.mem_filter.mpr ⟨List.mem_append_right _ (List.mem_of_getElem? (i := 41) (by decide +kernel)), by decide +kernel⟩
theorem g_42 : (.fieldLink "CopyHeap" 112 "CopyHeap" "movedWords" "I" : Cond) ∈ gT := List.mem_filter.mpr ⟨List.mem_append_right _ (List.mem_of_getElem? (i := 42) (by decide +kernel)), by decide +kernel⟩
theorem g_43 : (.laysFinal "CopyHeap" "CopyHeap" "registers" "[I" : Cond) ∈ gT := List.mem_filter.mpr ⟨List.mem_append_right _ (List.mem_of_getElem? (i := 43) (by decide +kernel)), by decide +kernel⟩
theorem g_44 : (.soleField "CopyHeap" "registers" : Cond) ∈ gT := List.mem_filter.mpr ⟨List.mem_append_right _ (List.mem_of_getElem? (i := 44) (by decide +kernel)), by decide +kernel⟩
theorem g_45 : (.lays "CopyHeap" "CopyHeap" "inUse" "LCopyHeap$Half;" : Cond) ∈ gT := List.mem_filter.mpr ⟨List.mem_append_right _ (List.mem_of_getElem? (i := 45) (by decide +kernel)), by decide +kernel⟩
theorem g_46 : (.soleField "CopyHeap" "inUse" : Cond) ∈ gT := List.mem_filter.mpr ⟨List.mem_append_right _ (List.mem_of_getElem? (i := 46) (by decide +kernel)), by decide +kernel⟩
theorem g_47 : (.lays "CopyHeap" "CopyHeap" "spare" "LCopyHeap$Half;" : Cond) ∈ gT := List.mem_filter.mpr ⟨List.mem_append_right _ (List.mem_of_getElem? (i := 47) (by decide +kernel)), by decide +kernel⟩
theorem g_48 : (.soleField "CopyHeap" "spare" : Cond) ∈ gT := List.mem_filter.mpr ⟨List.mem_append_right _ (List.mem_of_getElem? (i := 48) (by decide +kernel)), by decide +kernel⟩
theorem g_49 : (.lays "CopyHeap" "CopyHeap" "collections" "I" : Cond) ∈ gT := List.mem_filter.mpr ⟨List.mem_append_right _ (List.mem_of_getElem? (i := 49) (by decide +kernel)), by decide +kernel⟩
theorem g_50 : (.soleField "CopyHeap" "collections" : Cond) ∈ gT := List.mem_filter.mpr ⟨List.mem_append_right _ (List.mem_of_getElem? (i := 50) (by decide +kernel)), by decide +kernel⟩
theorem g_51 : (.lays "CopyHeap" "CopyHeap" "movedWords" "I" : Cond) ∈ gT := List.mem_filter.mpr ⟨List.mem_append_right _ (List.mem_of_getElem? (i := 51) (by decide +kernel)), by decide +kernel⟩
theorem g_52 : (.soleField "CopyHeap" "movedWords" : Cond) ∈ gT := List.mem_filter.mpr ⟨List.mem_append_right _ (List.mem_of_getElem? (i := 52) (by decide +kernel)), by decide +kernel⟩
theorem g_53 : (.superclass "CopyHeap" "java/lang/Object" : Cond) ∈ gT := List.mem_filter.mpr ⟨List.mem_append_right _ (List.mem_of_getElem? (i := 53) (by decide +kernel)), by decide +kernel⟩
theorem g_54 : (.methodLink "CopyHeapLaw" 85 ⟨"CopyHeap", "collect", "()I"⟩ : Cond) ∈ gT := List.mem_filter.mpr ⟨List.mem_append_right _ (List.mem_of_getElem? (i := 54) (by decide +kernel)), by decide +kernel⟩
theorem g_55 : (.instanceMethod ⟨"CopyHeap", "collect", "()I"⟩ : Cond) ∈ gT := List.mem_filter.mpr ⟨List.mem_append_right _ (List.mem_of_getElem? (i := 55) (by decide +kernel)), by decide +kernel⟩
theorem g_56 : (.selects "CopyHeap" ⟨"CopyHeap", "collect", "()I"⟩ ⟨"CopyHeap", "collect", "()I"⟩ : Cond) ∈ gT := List.mem_filter.mpr ⟨List.mem_append_right _ (List.mem_of_getElem? (i := 56) (by decide +kernel)), by decide +kernel⟩
theorem g_57 : (.code ⟨"CopyHeap", "collect", "()I"⟩ prog_1_method_8_code 1 (some .int) : Cond) ∈ gT := List.mem_filter.mpr ⟨List.mem_append_right _ (List.mem_of_getElem? (i := 57) (by decide +kernel)), by decide +kernel⟩
theorem g_58 : (.methodLink "CopyHeap" 39 ⟨"CopyHeap", "moveToSpare", "()V"⟩ : Cond) ∈ gT := List.mem_filter.mpr ⟨List.mem_append_right _ (List.mem_of_getElem? (i := 58) (by decide +kernel)), by decide +kernel⟩
theorem g_60 : (.instanceMethod ⟨"CopyHeap", "moveToSpare", "()V"⟩ : Cond) ∈ gT := List.mem_filter.mpr ⟨List.mem_append_right _ (List.mem_of_getElem? (i := 60) (by decide +kernel)), by decide +kernel⟩
theorem g_61 : (.code ⟨"CopyHeap", "moveToSpare", "()V"⟩ prog_1_method_19_code 4 (none) : Cond) ∈ gT := List.mem_filter.mpr ⟨List.mem_append_right _ (List.mem_of_getElem? (i := 61) (by decide +kernel)), by decide +kernel⟩
theorem g_62 : (.methodLink "CopyHeap" 126 ⟨"CopyHeap$Half", "empty", "()V"⟩ : Cond) ∈ gT := List.mem_filter.mpr ⟨List.mem_append_right _ (List.mem_of_getElem? (i := 62) (by decide +kernel)), by decide +kernel⟩
theorem g_63 : (.instanceMethod ⟨"CopyHeap$Half", "empty", "()V"⟩ : Cond) ∈ gT := List.mem_filter.mpr ⟨List.mem_append_right _ (List.mem_of_getElem? (i := 63) (by decide +kernel)), by decide +kernel⟩
theorem g_64 : (.selects "CopyHeap$Half" ⟨"CopyHeap$Half", "empty", "()V"⟩ ⟨"CopyHeap$Half", "empty", "()V"⟩ : Cond) ∈ gT := List.mem_filter.mpr ⟨List.mem_append_right _ (List.mem_of_getElem? (i := 64) (by decide +kernel)), by decide +kernel⟩
theorem g_65 : (.code ⟨"CopyHeap$Half", "empty", "()V"⟩ prog_2_method_2_code 1 (none) : Cond) ∈ gT := List.mem_filter.mpr ⟨List.mem_append_right _ (List.mem_of_getElem? (i := 65) (by decide +kernel)), by decide +kernel⟩
theorem g_66 : (.methodLink "CopyHeap" 129 ⟨"CopyHeap$Half", "movedValue", "(ILCopyHeap$Half;)I"⟩ : Cond) ∈ gT := List.mem_filter.mpr ⟨List.mem_append_right _ (List.mem_of_getElem? (i := 66) (by decide +kernel)), by decide +kernel⟩
theorem g_67 : (.instanceMethod ⟨"CopyHeap$Half", "movedValue", "(ILCopyHeap$Half;)I"⟩ : Cond) ∈ gT := List.mem_filter.mpr ⟨List.mem_append_right _ (List.mem_of_getElem? (i := 67) (by decide +kernel)), by decide +kernel⟩
theorem g_68 : (.selects "CopyHeap$Half" ⟨"CopyHeap$Half", "movedValue", "(ILCopyHeap$Half;)I"⟩ ⟨"CopyHeap$Half", "movedValue", "(ILCopyHeap$Half;)I"⟩ : Cond) ∈ gT := List.mem_filter.mpr ⟨List.mem_append_right _ (List.mem_of_getElem? (i := 68) (by decide +kernel)), by decide +kernel⟩
theorem g_69 : (.code ⟨"CopyHeap$Half", "movedValue", "(ILCopyHeap$Half;)I"⟩ prog_2_method_12_code 4 (some .int) : Cond) ∈ gT := List.mem_filter.mpr ⟨List.mem_append_right _ (List.mem_of_getElem? (i := 69) (by decide +kernel)), by decide +kernel⟩
theorem g_71 : (.static ⟨"CopyHeap", "isReference", "(I)Z"⟩ : Cond) ∈ gT := List.mem_filter.mpr ⟨List.mem_append_right _ (List.mem_of_getElem? (i := 71) (by decide +kernel)), by decide +kernel⟩
theorem g_72 : (.code ⟨"CopyHeap", "isReference", "(I)Z"⟩ prog_1_method_14_code 1 (some .boolean) : Cond) ∈ gT := List.mem_filter.mpr ⟨List.mem_append_right _ (List.mem_of_getElem? (i := 72) (by decide +kernel)), by decide +kernel⟩
theorem g_74 : (.static ⟨"CopyHeap", "content", "(I)I"⟩ : Cond) ∈ gT := List.mem_filter.mpr ⟨List.mem_append_right _ (List.mem_of_getElem? (i := 74) (by decide +kernel)), by decide +kernel⟩
theorem g_75 : (.code ⟨"CopyHeap", "content", "(I)I"⟩ prog_1_method_15_code 1 (some .int) : Cond) ∈ gT := List.mem_filter.mpr ⟨List.mem_append_right _ (List.mem_of_getElem? (i := 75) (by decide +kernel)), by decide +kernel⟩
theorem g_76 : (.methodLink "CopyHeap$Half" 22 ⟨"CopyHeap$Half", "wordAt", "(I)I"⟩ : Cond) ∈ gT := List.mem_filter.mpr ⟨List.mem_append_right _ (List.mem_of_getElem? (i := 76) (by decide +kernel)), by decide +kernel⟩
theorem g_77 : (.instanceMethod ⟨"CopyHeap$Half", "wordAt", "(I)I"⟩ : Cond) ∈ gT := List.mem_filter.mpr ⟨List.mem_append_right _ (List.mem_of_getElem? (i := 77) (by decide +kernel)), by decide +kernel⟩
theorem g_78 : (.selects "CopyHeap$Half" ⟨"CopyHeap$Half", "wordAt", "(I)I"⟩ ⟨"CopyHeap$Half", "wordAt", "(I)I"⟩ : Cond) ∈ gT := List.mem_filter.mpr ⟨List.mem_append_right _ (List.mem_of_getElem? (i := 78) (by decide +kernel)), by decide +kernel⟩
theorem g_79 : (.code ⟨"CopyHeap$Half", "wordAt", "(I)I"⟩ prog_2_method_5_code 2 (some .int) : Cond) ∈ gT := List.mem_filter.mpr ⟨List.mem_append_right _ (List.mem_of_getElem? (i := 79) (by decide +kernel)), by decide +kernel⟩
theorem g_80 : (.methodLink "CopyHeap$Half" 47 ⟨"CopyHeap$Half", "moveObject", "(ILCopyHeap$Half;)I"⟩ : Cond) ∈ gT := List.mem_filter.mpr ⟨List.mem_append_right _ (List.mem_of_getElem? (i := 80) (by decide +kernel)), by decide +kernel⟩
theorem g_82 : (.instanceMethod ⟨"CopyHeap$Half", "moveObject", "(ILCopyHeap$Half;)I"⟩ : Cond) ∈ gT := List.mem_filter.mpr ⟨List.mem_append_right _ (List.mem_of_getElem? (i := 82) (by decide +kernel)), by decide +kernel⟩
theorem g_83 : (.code ⟨"CopyHeap$Half", "moveObject", "(ILCopyHeap$Half;)I"⟩ prog_2_method_13_code 6 (some .int) : Cond) ∈ gT := List.mem_filter.mpr ⟨List.mem_append_right _ (List.mem_of_getElem? (i := 83) (by decide +kernel)), by decide +kernel⟩
theorem g_84 : (.methodLink "CopyHeap$Half" 26 ⟨"CopyHeap$Half", "fieldsAt", "(I)I"⟩ : Cond) ∈ gT := List.mem_filter.mpr ⟨List.mem_append_right _ (List.mem_of_getElem? (i := 84) (by decide +kernel)), by decide +kernel⟩
theorem g_85 : (.instanceMethod ⟨"CopyHeap$Half", "fieldsAt", "(I)I"⟩ : Cond) ∈ gT := List.mem_filter.mpr ⟨List.mem_append_right _ (List.mem_of_getElem? (i := 85) (by decide +kernel)), by decide +kernel⟩
theorem g_86 : (.selects "CopyHeap$Half" ⟨"CopyHeap$Half", "fieldsAt", "(I)I"⟩ ⟨"CopyHeap$Half", "fieldsAt", "(I)I"⟩ : Cond) ∈ gT := List.mem_filter.mpr ⟨List.mem_append_right _ (List.mem_of_getElem? (i := 86) (by decide +kernel)), by decide +kernel⟩
theorem g_87 : (.code ⟨"CopyHeap$Half", "fieldsAt", "(I)I"⟩ prog_2_method_8_code 2 (some .int) : Cond) ∈ gT := List.mem_filter.mpr ⟨List.mem_append_right _ (List.mem_of_getElem? (i := 87) (by decide +kernel)), by decide +kernel⟩
theorem g_88 : (.methodLink "CopyHeap$Half" 36 ⟨"CopyHeap$Half", "addWord", "(I)V"⟩ : Cond) ∈ gT := List.mem_filter.mpr ⟨List.mem_append_right _ (List.mem_of_getElem? (i := 88) (by decide +kernel)), by decide +kernel⟩
theorem g_90 : (.instanceMethod ⟨"CopyHeap$Half", "addWord", "(I)V"⟩ : Cond) ∈ gT := List.mem_filter.mpr ⟨List.mem_append_right _ (List.mem_of_getElem? (i := 90) (by decide +kernel)), by decide +kernel⟩
theorem g_91 : (.code ⟨"CopyHeap$Half", "addWord", "(I)V"⟩ prog_2_method_11_code 2 (none) : Cond) ∈ gT := List.mem_filter.mpr ⟨List.mem_append_right _ (List.mem_of_getElem? (i := 91) (by decide +kernel)), by decide +kernel⟩
theorem g_92 : (.methodLink "CopyHeap$Half" 40 ⟨"CopyHeap$Half", "setWord", "(II)V"⟩ : Cond) ∈ gT := List.mem_filter.mpr ⟨List.mem_append_right _ (List.mem_of_getElem? (i := 92) (by decide +kernel)), by decide +kernel⟩
theorem g_93 : (.instanceMethod ⟨"CopyHeap$Half", "setWord", "(II)V"⟩ : Cond) ∈ gT := List.mem_filter.mpr ⟨List.mem_append_right _ (List.mem_of_getElem? (i := 93) (by decide +kernel)), by decide +kernel⟩
theorem g_94 : (.selects "CopyHeap$Half" ⟨"CopyHeap$Half", "setWord", "(II)V"⟩ ⟨"CopyHeap$Half", "setWord", "(II)V"⟩ : Cond) ∈ gT := List.mem_filter.mpr ⟨List.mem_append_right _ (List.mem_of_getElem? (i := 94) (by decide +kernel)), by decide +kernel⟩
theorem g_95 : (.code ⟨"CopyHeap$Half", "setWord", "(II)V"⟩ prog_2_method_6_code 3 (none) : Cond) ∈ gT := List.mem_filter.mpr ⟨List.mem_append_right _ (List.mem_of_getElem? (i := 95) (by decide +kernel)), by decide +kernel⟩
theorem g_97 : (.static ⟨"CopyHeap", "asReference", "(I)I"⟩ : Cond) ∈ gT := List.mem_filter.mpr ⟨List.mem_append_right _ (List.mem_of_getElem? (i := 97) (by decide +kernel)), by decide +kernel⟩
theorem g_98 : (.code ⟨"CopyHeap", "asReference", "(I)I"⟩ prog_1_method_13_code 1 (some .int) : Cond) ∈ gT := List.mem_filter.mpr ⟨List.mem_append_right _ (List.mem_of_getElem? (i := 98) (by decide +kernel)), by decide +kernel⟩
theorem g_99 : (.methodLink "CopyHeap" 133 ⟨"CopyHeap", "moveWhatFieldsReferTo", "(LCopyHeap$Half;LCopyHeap$Half;)V"⟩ : Cond) ∈ gT := List.mem_filter.mpr ⟨List.mem_append_right _ (List.mem_of_getElem? (i := 99) (by decide +kernel)), by decide +kernel⟩
theorem g_100 : (.static ⟨"CopyHeap", "moveWhatFieldsReferTo", "(LCopyHeap$Half;LCopyHeap$Half;)V"⟩ : Cond) ∈ gT := List.mem_filter.mpr ⟨List.mem_append_right _ (List.mem_of_getElem? (i := 100) (by decide +kernel)), by decide +kernel⟩
theorem g_101 : (.code ⟨"CopyHeap", "moveWhatFieldsReferTo", "(LCopyHeap$Half;LCopyHeap$Half;)V"⟩ prog_1_method_20_code 5 (none) : Cond) ∈ gT := List.mem_filter.mpr ⟨List.mem_append_right _ (List.mem_of_getElem? (i := 101) (by decide +kernel)), by decide +kernel⟩
theorem g_102 : (.methodLink "CopyHeap" 67 ⟨"CopyHeap$Half", "kindAt", "(I)I"⟩ : Cond) ∈ gT := List.mem_filter.mpr ⟨List.mem_append_right _ (List.mem_of_getElem? (i := 102) (by decide +kernel)), by decide +kernel⟩
theorem g_103 : (.instanceMethod ⟨"CopyHeap$Half", "kindAt", "(I)I"⟩ : Cond) ∈ gT := List.mem_filter.mpr ⟨List.mem_append_right _ (List.mem_of_getElem? (i := 103) (by decide +kernel)), by decide +kernel⟩
theorem g_104 : (.selects "CopyHeap$Half" ⟨"CopyHeap$Half", "kindAt", "(I)I"⟩ ⟨"CopyHeap$Half", "kindAt", "(I)I"⟩ : Cond) ∈ gT := List.mem_filter.mpr ⟨List.mem_append_right _ (List.mem_of_getElem? (i := 104) (by decide +kernel)), by decide +kernel⟩
theorem g_105 : (.code ⟨"CopyHeap$Half", "kindAt", "(I)I"⟩ prog_2_method_7_code 2 (some .int) : Cond) ∈ gT := List.mem_filter.mpr ⟨List.mem_append_right _ (List.mem_of_getElem? (i := 105) (by decide +kernel)), by decide +kernel⟩
theorem g_106 : (.methodLink "CopyHeap" 88 ⟨"CopyHeap$Half", "fieldsAt", "(I)I"⟩ : Cond) ∈ gT := List.mem_filter.mpr ⟨List.mem_append_right _ (List.mem_of_getElem? (i := 106) (by decide +kernel)), by decide +kernel⟩
theorem g_107 : (.methodLink "CopyHeap" 81 ⟨"CopyHeap$Half", "wordAt", "(I)I"⟩ : Cond) ∈ gT := List.mem_filter.mpr ⟨List.mem_append_right _ (List.mem_of_getElem? (i := 107) (by decide +kernel)), by decide +kernel⟩
theorem g_108 : (.methodLink "CopyHeap" 76 ⟨"CopyHeap$Half", "setWord", "(II)V"⟩ : Cond) ∈ gT := List.mem_filter.mpr ⟨List.mem_append_right _ (List.mem_of_getElem? (i := 108) (by decide +kernel)), by decide +kernel⟩
theorem g_109 : (.methodLink "CopyHeapLaw" 48 ⟨"CopyHeapLaw", "cell", "([II)I"⟩ : Cond) ∈ gT := List.mem_filter.mpr ⟨List.mem_append_right _ (List.mem_of_getElem? (i := 109) (by decide +kernel)), by decide +kernel⟩
theorem g_110 : (.static ⟨"CopyHeapLaw", "cell", "([II)I"⟩ : Cond) ∈ gT := List.mem_filter.mpr ⟨List.mem_append_right _ (List.mem_of_getElem? (i := 110) (by decide +kernel)), by decide +kernel⟩
theorem g_111 : (.code ⟨"CopyHeapLaw", "cell", "([II)I"⟩ method_2_code 2 (some .int) : Cond) ∈ gT := List.mem_filter.mpr ⟨List.mem_append_right _ (List.mem_of_getElem? (i := 111) (by decide +kernel)), by decide +kernel⟩
theorem g_112 : (.methodLink "CopyHeapLaw" 60 ⟨"CopyHeapLaw", "make", "(LCopyHeap;III[J)I"⟩ : Cond) ∈ gT := List.mem_filter.mpr ⟨List.mem_append_right _ (List.mem_of_getElem? (i := 112) (by decide +kernel)), by decide +kernel⟩
theorem g_113 : (.static ⟨"CopyHeapLaw", "make", "(LCopyHeap;III[J)I"⟩ : Cond) ∈ gT := List.mem_filter.mpr ⟨List.mem_append_right _ (List.mem_of_getElem? (i := 113) (by decide +kernel)), by decide +kernel⟩
theorem g_114 : (.codeWith ⟨"CopyHeapLaw", "make", "(LCopyHeap;III[J)I"⟩ method_3_code 6 (some .int) [(0, 12, 15, 13), (0, 12, 19, 15)] : Cond) ∈ gT := List.mem_filter.mpr ⟨List.mem_append_right _ (List.mem_of_getElem? (i := 114) (by decide +kernel)), by decide +kernel⟩
theorem g_115 : (.classLink "CopyHeapLaw" 13 "java/lang/IllegalArgumentException" : Cond) ∈ gT := List.mem_filter.mpr ⟨List.mem_append_right _ (List.mem_of_getElem? (i := 115) (by decide +kernel)), by decide +kernel⟩
theorem g_116 : (.classLink "CopyHeapLaw" 15 "java/lang/IllegalStateException" : Cond) ∈ gT := List.mem_filter.mpr ⟨List.mem_append_right _ (List.mem_of_getElem? (i := 116) (by decide +kernel)), by decide +kernel⟩
theorem g_117 : (.methodLink "CopyHeapLaw" 7 ⟨"CopyHeap", "make", "(III)I"⟩ : Cond) ∈ gT := List.mem_filter.mpr ⟨List.mem_append_right _ (List.mem_of_getElem? (i := 117) (by decide +kernel)), by decide +kernel⟩
theorem g_118 : (.instanceMethod ⟨"CopyHeap", "make", "(III)I"⟩ : Cond) ∈ gT := List.mem_filter.mpr ⟨List.mem_append_right _ (List.mem_of_getElem? (i := 118) (by decide +kernel)), by decide +kernel⟩
theorem g_119 : (.selects "CopyHeap" ⟨"CopyHeap", "make", "(III)I"⟩ ⟨"CopyHeap", "make", "(III)I"⟩ : Cond) ∈ gT := List.mem_filter.mpr ⟨List.mem_append_right _ (List.mem_of_getElem? (i := 119) (by decide +kernel)), by decide +kernel⟩
theorem g_120 : (.code ⟨"CopyHeap", "make", "(III)I"⟩ prog_1_method_2_code 5 (some .int) : Cond) ∈ gT := List.mem_filter.mpr ⟨List.mem_append_right _ (List.mem_of_getElem? (i := 120) (by decide +kernel)), by decide +kernel⟩
theorem g_121 : (.methodLink "CopyHeap" 25 ⟨"CopyHeap", "requireRegister", "(I)V"⟩ : Cond) ∈ gT := List.mem_filter.mpr ⟨List.mem_append_right _ (List.mem_of_getElem? (i := 121) (by decide +kernel)), by decide +kernel⟩
theorem g_122 : (.static ⟨"CopyHeap", "requireRegister", "(I)V"⟩ : Cond) ∈ gT := List.mem_filter.mpr ⟨List.mem_append_right _ (List.mem_of_getElem? (i := 122) (by decide +kernel)), by decide +kernel⟩
theorem g_123 : (.code ⟨"CopyHeap", "requireRegister", "(I)V"⟩ prog_1_method_16_code 1 (none) : Cond) ∈ gT := List.mem_filter.mpr ⟨List.mem_append_right _ (List.mem_of_getElem? (i := 123) (by decide +kernel)), by decide +kernel⟩
theorem g_124 : (.classLink "CopyHeap" 28 "java/lang/IllegalArgumentException" : Cond) ∈ gT := List.mem_filter.mpr ⟨List.mem_append_right _ (List.mem_of_getElem? (i := 124) (by decide +kernel)), by decide +kernel⟩
theorem g_125 : (.instantiable "java/lang/IllegalArgumentException" 6 : Cond) ∈ gT := List.mem_filter.mpr ⟨List.mem_append_right _ (List.mem_of_getElem? (i := 125) (by decide +kernel)), by decide +kernel⟩
theorem g_133 : (.selects "java/lang/IllegalArgumentException" ⟨"java/lang/Throwable", "fillInStackTrace", "(I)Ljava/lang/Throwable;"⟩ ⟨"java/lang/Throwable", "fillInStackTrace", "(I)Ljava/lang/Throwable;"⟩ : Cond) ∈ gT := List.mem_filter.mpr ⟨List.mem_append_right _ (List.mem_of_getElem? (i := 133) (by decide +kernel)), by decide +kernel⟩
theorem g_134 : (.selects "java/lang/IllegalArgumentException" ⟨"java/lang/Throwable", "fillInStackTrace", "()Ljava/lang/Throwable;"⟩ ⟨"java/lang/Throwable", "fillInStackTrace", "()Ljava/lang/Throwable;"⟩ : Cond) ∈ gT := List.mem_filter.mpr ⟨List.mem_append_right _ (List.mem_of_getElem? (i := 134) (by decide +kernel)), by decide +kernel⟩
theorem g_135 : (.lays "java/lang/IllegalArgumentException" "java/lang/Throwable" "cause" "Ljava/lang/Throwable;" : Cond) ∈ gT := List.mem_filter.mpr ⟨List.mem_append_right _ (List.mem_of_getElem? (i := 135) (by decide +kernel)), by decide +kernel⟩
theorem g_136 : (.lays "java/lang/Throwable" "java/lang/Throwable" "cause" "Ljava/lang/Throwable;" : Cond) ∈ gT := List.mem_filter.mpr ⟨List.mem_append_right _ (List.mem_of_getElem? (i := 136) (by decide +kernel)), by decide +kernel⟩
theorem g_137 : (.lays "java/lang/IllegalArgumentException" "java/lang/Throwable" "stackTrace" "[Ljava/lang/StackTraceElement;" : Cond) ∈ gT := List.mem_filter.mpr ⟨List.mem_append_right _ (List.mem_of_getElem? (i := 137) (by decide +kernel)), by decide +kernel⟩
theorem g_138 : (.lays "java/lang/Throwable" "java/lang/Throwable" "stackTrace" "[Ljava/lang/StackTraceElement;" : Cond) ∈ gT := List.mem_filter.mpr ⟨List.mem_append_right _ (List.mem_of_getElem? (i := 138) (by decide +kernel)), by decide +kernel⟩
theorem g_139 : (.lays "java/lang/IllegalArgumentException" "java/lang/Throwable" "suppressedExceptions" "Ljava/util/List;" : Cond) ∈ gT := List.mem_filter.mpr ⟨List.mem_append_right _ (List.mem_of_getElem? (i := 139) (by decide +kernel)), by decide +kernel⟩
theorem g_140 : (.lays "java/lang/Throwable" "java/lang/Throwable" "suppressedExceptions" "Ljava/util/List;" : Cond) ∈ gT := List.mem_filter.mpr ⟨List.mem_append_right _ (List.mem_of_getElem? (i := 140) (by decide +kernel)), by decide +kernel⟩
theorem g_141 : (.lays "java/lang/IllegalArgumentException" "java/lang/Throwable" "detailMessage" "Ljava/lang/String;" : Cond) ∈ gT := List.mem_filter.mpr ⟨List.mem_append_right _ (List.mem_of_getElem? (i := 141) (by decide +kernel)), by decide +kernel⟩
theorem g_142 : (.lays "java/lang/Throwable" "java/lang/Throwable" "detailMessage" "Ljava/lang/String;" : Cond) ∈ gT := List.mem_filter.mpr ⟨List.mem_append_right _ (List.mem_of_getElem? (i := 142) (by decide +kernel)), by decide +kernel⟩
theorem g_143 : (.lays "java/lang/IllegalArgumentException" "java/lang/Throwable" "backtrace" "Ljava/lang/Object;" : Cond) ∈ gT := List.mem_filter.mpr ⟨List.mem_append_right _ (List.mem_of_getElem? (i := 143) (by decide +kernel)), by decide +kernel⟩
theorem g_144 : (.lays "java/lang/Throwable" "java/lang/Throwable" "backtrace" "Ljava/lang/Object;" : Cond) ∈ gT := List.mem_filter.mpr ⟨List.mem_append_right _ (List.mem_of_getElem? (i := 144) (by decide +kernel)), by decide +kernel⟩
theorem g_145 : (.fieldLink "java/lang/Throwable" 198 "java/lang/Throwable" "backtrace" "Ljava/lang/Object;" : Cond) ∈ gT := List.mem_filter.mpr ⟨List.mem_append_right _ (List.mem_of_getElem? (i := 145) (by decide +kernel)), by decide +kernel⟩
theorem g_146 : (.superclass "java/lang/Throwable" "java/lang/Object" : Cond) ∈ gT := List.mem_filter.mpr ⟨List.mem_append_right _ (List.mem_of_getElem? (i := 146) (by decide +kernel)), by decide +kernel⟩
theorem g_147 : (.instanceMethod ⟨"java/lang/Throwable", "<init>", "()V"⟩ : Cond) ∈ gT := List.mem_filter.mpr ⟨List.mem_append_right _ (List.mem_of_getElem? (i := 147) (by decide +kernel)), by decide +kernel⟩
theorem g_148 : (.code ⟨"java/lang/Throwable", "<init>", "()V"⟩ prog_11_method_1_code 1 (none) : Cond) ∈ gT := List.mem_filter.mpr ⟨List.mem_append_right _ (List.mem_of_getElem? (i := 148) (by decide +kernel)), by decide +kernel⟩
theorem g_149 : (.methodLink "java/lang/Throwable" 1 ⟨"java/lang/Object", "<init>", "()V"⟩ : Cond) ∈ gT := List.mem_filter.mpr ⟨List.mem_append_right _ (List.mem_of_getElem? (i := 149) (by decide +kernel)), by decide +kernel⟩
theorem g_150 : (.fieldLink "java/lang/Throwable" 13 "java/lang/Throwable" "UNASSIGNED_STACK" "[Ljava/lang/StackTraceElement;" : Cond) ∈ gT := List.mem_filter.mpr ⟨List.mem_append_right _ (List.mem_of_getElem? (i := 150) (by decide +kernel)), by decide +kernel⟩
theorem g_152 : (.fieldLink "java/lang/Throwable" 20 "java/lang/Throwable" "SUPPRESSED_SENTINEL" "Ljava/util/List;" : Cond) ∈ gT := List.mem_filter.mpr ⟨List.mem_append_right _ (List.mem_of_getElem? (i := 152) (by decide +kernel)), by decide +kernel⟩
theorem g_154 : (.methodLink "java/lang/Throwable" 27 ⟨"java/lang/Throwable", "fillInStackTrace", "()Ljava/lang/Throwable;"⟩ : Cond) ∈ gT := List.mem_filter.mpr ⟨List.mem_append_right _ (List.mem_of_getElem? (i := 154) (by decide +kernel)), by decide +kernel⟩
theorem g_155 : (.instanceMethod ⟨"java/lang/Throwable", "fillInStackTrace", "()Ljava/lang/Throwable;"⟩ : Cond) ∈ gT := List.mem_filter.mpr ⟨List.mem_append_right _ (List.mem_of_getElem? (i := 155) (by decide +kernel)), by decide +kernel⟩
theorem g_156 : (.sameMethod "java/lang/Throwable" "java/lang/Throwable" "fillInStackTrace" "()Ljava/lang/Throwable;" : Cond) ∈ gT := List.mem_filter.mpr ⟨List.mem_append_right _ (List.mem_of_getElem? (i := 156) (by decide +kernel)), by decide +kernel⟩
theorem g_157 : (.selects "java/lang/IllegalStateException" ⟨"java/lang/Throwable", "fillInStackTrace", "()Ljava/lang/Throwable;"⟩ ⟨"java/lang/Throwable", "fillInStackTrace", "()Ljava/lang/Throwable;"⟩ : Cond) ∈ gT := List.mem_filter.mpr ⟨List.mem_append_right _ (List.mem_of_getElem? (i := 157) (by decide +kernel)), by decide +kernel⟩
theorem g_158 : (.selects "java/lang/IndexOutOfBoundsException" ⟨"java/lang/Throwable", "fillInStackTrace", "()Ljava/lang/Throwable;"⟩ ⟨"java/lang/Throwable", "fillInStackTrace", "()Ljava/lang/Throwable;"⟩ : Cond) ∈ gT := List.mem_filter.mpr ⟨List.mem_append_right _ (List.mem_of_getElem? (i := 158) (by decide +kernel)), by decide +kernel⟩
theorem g_159 : (.codeSync ⟨"java/lang/Throwable", "fillInStackTrace", "()Ljava/lang/Throwable;"⟩ prog_11_method_18_code 1 (some (.object "java/lang/Throwable")) : Cond) ∈ gT := List.mem_filter.mpr ⟨List.mem_append_right _ (List.mem_of_getElem? (i := 159) (by decide +kernel)), by decide +kernel⟩
theorem g_160 : (.methodLink "java/lang/Throwable" 202 ⟨"java/lang/Throwable", "fillInStackTrace", "(I)Ljava/lang/Throwable;"⟩ : Cond) ∈ gT := List.mem_filter.mpr ⟨List.mem_append_right _ (List.mem_of_getElem? (i := 160) (by decide +kernel)), by decide +kernel⟩
theorem g_162 : (.instanceMethod ⟨"java/lang/Throwable", "fillInStackTrace", "(I)Ljava/lang/Throwable;"⟩ : Cond) ∈ gT := List.mem_filter.mpr ⟨List.mem_append_right _ (List.mem_of_getElem? (i := 162) (by decide +kernel)), by decide +kernel⟩
theorem g_163 : (.instantiable "java/lang/Throwable" 6 : Cond) ∈ gT := List.mem_filter.mpr ⟨List.mem_append_right _ (List.mem_of_getElem? (i := 163) (by decide +kernel)), by decide +kernel⟩
theorem g_164 : (.native ⟨"java/lang/Throwable", "fillInStackTrace", "(I)Ljava/lang/Throwable;"⟩ : Cond) ∈ gT := List.mem_filter.mpr ⟨List.mem_append_right _ (List.mem_of_getElem? (i := 164) (by decide +kernel)), by decide +kernel⟩
theorem g_166 : (.methodLink "CopyHeap" 32 ⟨"java/lang/IllegalArgumentException", "<init>", "(Ljava/lang/String;)V"⟩ : Cond) ∈ gT := List.mem_filter.mpr ⟨List.mem_append_right _ (List.mem_of_getElem? (i := 166) (by decide +kernel)), by decide +kernel⟩
theorem g_167 : (.instanceMethod ⟨"java/lang/IllegalArgumentException", "<init>", "(Ljava/lang/String;)V"⟩ : Cond) ∈ gT := List.mem_filter.mpr ⟨List.mem_append_right _ (List.mem_of_getElem? (i := 167) (by decide +kernel)), by decide +kernel⟩
theorem g_168 : (.code ⟨"java/lang/IllegalArgumentException", "<init>", "(Ljava/lang/String;)V"⟩ prog_6_method_2_code 2 (none) : Cond) ∈ gT := List.mem_filter.mpr ⟨List.mem_append_right _ (List.mem_of_getElem? (i := 168) (by decide +kernel)), by decide +kernel⟩
theorem g_169 : (.methodLink "java/lang/IllegalArgumentException" 7 ⟨"java/lang/RuntimeException", "<init>", "(Ljava/lang/String;)V"⟩ : Cond) ∈ gT := List.mem_filter.mpr ⟨List.mem_append_right _ (List.mem_of_getElem? (i := 169) (by decide +kernel)), by decide +kernel⟩
theorem g_170 : (.instanceMethod ⟨"java/lang/RuntimeException", "<init>", "(Ljava/lang/String;)V"⟩ : Cond) ∈ gT := List.mem_filter.mpr ⟨List.mem_append_right _ (List.mem_of_getElem? (i := 170) (by decide +kernel)), by decide +kernel⟩
theorem g_171 : (.code ⟨"java/lang/RuntimeException", "<init>", "(Ljava/lang/String;)V"⟩ prog_9_method_2_code 2 (none) : Cond) ∈ gT := List.mem_filter.mpr ⟨List.mem_append_right _ (List.mem_of_getElem? (i := 171) (by decide +kernel)), by decide +kernel⟩
theorem g_172 : (.methodLink "java/lang/RuntimeException" 7 ⟨"java/lang/Exception", "<init>", "(Ljava/lang/String;)V"⟩ : Cond) ∈ gT := List.mem_filter.mpr ⟨List.mem_append_right _ (List.mem_of_getElem? (i := 172) (by decide +kernel)), by decide +kernel⟩
theorem g_173 : (.instanceMethod ⟨"java/lang/Exception", "<init>", "(Ljava/lang/String;)V"⟩ : Cond) ∈ gT := List.mem_filter.mpr ⟨List.mem_append_right _ (List.mem_of_getElem? (i := 173) (by decide +kernel)), by decide +kernel⟩
theorem g_174 : (.code ⟨"java/lang/Exception", "<init>", "(Ljava/lang/String;)V"⟩ prog_5_method_2_code 2 (none) : Cond) ∈ gT := List.mem_filter.mpr ⟨List.mem_append_right _ (List.mem_of_getElem? (i := 174) (by decide +kernel)), by decide +kernel⟩
theorem g_175 : (.methodLink "java/lang/Exception" 7 ⟨"java/lang/Throwable", "<init>", "(Ljava/lang/String;)V"⟩ : Cond) ∈ gT := List.mem_filter.mpr ⟨List.mem_append_right _ (List.mem_of_getElem? (i := 175) (by decide +kernel)), by decide +kernel⟩
theorem g_176 : (.instanceMethod ⟨"java/lang/Throwable", "<init>", "(Ljava/lang/String;)V"⟩ : Cond) ∈ gT := List.mem_filter.mpr ⟨List.mem_append_right _ (List.mem_of_getElem? (i := 176) (by decide +kernel)), by decide +kernel⟩
theorem g_177 : (.code ⟨"java/lang/Throwable", "<init>", "(Ljava/lang/String;)V"⟩ prog_11_method_2_code 2 (none) : Cond) ∈ gT := List.mem_filter.mpr ⟨List.mem_append_right _ (List.mem_of_getElem? (i := 177) (by decide +kernel)), by decide +kernel⟩
theorem g_178 : (.fieldLink "java/lang/Throwable" 198 "java/lang/Throwable" "backtrace" "Ljava/lang/Object;" : Cond) ∈ gT := List.mem_filter.mpr ⟨List.mem_append_right _ (List.mem_of_getElem? (i := 178) (by decide +kernel)), by decide +kernel⟩
theorem g_179 : (.fieldLink "java/lang/Throwable" 31 "java/lang/Throwable" "detailMessage" "Ljava/lang/String;" : Cond) ∈ gT := List.mem_filter.mpr ⟨List.mem_append_right _ (List.mem_of_getElem? (i := 179) (by decide +kernel)), by decide +kernel⟩
theorem g_180 : (.fieldLink "java/lang/Throwable" 7 "java/lang/Throwable" "cause" "Ljava/lang/Throwable;" : Cond) ∈ gT := List.mem_filter.mpr ⟨List.mem_append_right _ (List.mem_of_getElem? (i := 180) (by decide +kernel)), by decide +kernel⟩
theorem g_181 : (.fieldLink "java/lang/Throwable" 17 "java/lang/Throwable" "stackTrace" "[Ljava/lang/StackTraceElement;" : Cond) ∈ gT := List.mem_filter.mpr ⟨List.mem_append_right _ (List.mem_of_getElem? (i := 181) (by decide +kernel)), by decide +kernel⟩
theorem g_182 : (.fieldLink "java/lang/Throwable" 24 "java/lang/Throwable" "suppressedExceptions" "Ljava/util/List;" : Cond) ∈ gT := List.mem_filter.mpr ⟨List.mem_append_right _ (List.mem_of_getElem? (i := 182) (by decide +kernel)), by decide +kernel⟩
theorem g_183 : (.soleField "java/lang/Throwable" "backtrace" : Cond) ∈ gT := List.mem_filter.mpr ⟨List.mem_append_right _ (List.mem_of_getElem? (i := 183) (by decide +kernel)), by decide +kernel⟩
theorem g_184 : (.soleField "java/lang/Throwable" "detailMessage" : Cond) ∈ gT := List.mem_filter.mpr ⟨List.mem_append_right _ (List.mem_of_getElem? (i := 184) (by decide +kernel)), by decide +kernel⟩
theorem g_185 : (.soleField "java/lang/Throwable" "cause" : Cond) ∈ gT := List.mem_filter.mpr ⟨List.mem_append_right _ (List.mem_of_getElem? (i := 185) (by decide +kernel)), by decide +kernel⟩
theorem g_186 : (.soleField "java/lang/Throwable" "stackTrace" : Cond) ∈ gT := List.mem_filter.mpr ⟨List.mem_append_right _ (List.mem_of_getElem? (i := 186) (by decide +kernel)), by decide +kernel⟩
theorem g_187 : (.lays "java/lang/IllegalArgumentException" "java/lang/Throwable" "depth" "I" : Cond) ∈ gT := List.mem_filter.mpr ⟨List.mem_append_right _ (List.mem_of_getElem? (i := 187) (by decide +kernel)), by decide +kernel⟩
theorem g_188 : (.soleField "java/lang/Throwable" "depth" : Cond) ∈ gT := List.mem_filter.mpr ⟨List.mem_append_right _ (List.mem_of_getElem? (i := 188) (by decide +kernel)), by decide +kernel⟩
theorem g_189 : (.soleField "java/lang/Throwable" "suppressedExceptions" : Cond) ∈ gT := List.mem_filter.mpr ⟨List.mem_append_right _ (List.mem_of_getElem? (i := 189) (by decide +kernel)), by decide +kernel⟩
theorem g_190 : (.superclass "java/lang/IllegalArgumentException" "java/lang/RuntimeException" : Cond) ∈ gT := List.mem_filter.mpr ⟨List.mem_append_right _ (List.mem_of_getElem? (i := 190) (by decide +kernel)), by decide +kernel⟩
theorem g_191 : (.arrayClass .byte : Cond) ∈ gT := List.mem_filter.mpr ⟨List.mem_append_right _ (List.mem_of_getElem? (i := 191) (by decide +kernel)), by decide +kernel⟩
theorem g_193 : (.methodLink "CopyHeap" 35 ⟨"CopyHeap$Half", "hasRoomFor", "(I)Z"⟩ : Cond) ∈ gT := List.mem_filter.mpr ⟨List.mem_append_right _ (List.mem_of_getElem? (i := 193) (by decide +kernel)), by decide +kernel⟩
theorem g_194 : (.instanceMethod ⟨"CopyHeap$Half", "hasRoomFor", "(I)Z"⟩ : Cond) ∈ gT := List.mem_filter.mpr ⟨List.mem_append_right _ (List.mem_of_getElem? (i := 194) (by decide +kernel)), by decide +kernel⟩
theorem g_195 : (.selects "CopyHeap$Half" ⟨"CopyHeap$Half", "hasRoomFor", "(I)Z"⟩ ⟨"CopyHeap$Half", "hasRoomFor", "(I)Z"⟩ : Cond) ∈ gT := List.mem_filter.mpr ⟨List.mem_append_right _ (List.mem_of_getElem? (i := 195) (by decide +kernel)), by decide +kernel⟩
theorem g_196 : (.code ⟨"CopyHeap$Half", "hasRoomFor", "(I)Z"⟩ prog_2_method_3_code 2 (some .boolean) : Cond) ∈ gT := List.mem_filter.mpr ⟨List.mem_append_right _ (List.mem_of_getElem? (i := 196) (by decide +kernel)), by decide +kernel⟩
theorem g_197 : (.classLink "CopyHeap" 42 "java/lang/IllegalStateException" : Cond) ∈ gT := List.mem_filter.mpr ⟨List.mem_append_right _ (List.mem_of_getElem? (i := 197) (by decide +kernel)), by decide +kernel⟩
theorem g_198 : (.instantiable "java/lang/IllegalStateException" 6 : Cond) ∈ gT := List.mem_filter.mpr ⟨List.mem_append_right _ (List.mem_of_getElem? (i := 198) (by decide +kernel)), by decide +kernel⟩
theorem g_200 : (.selects "java/lang/IllegalStateException" ⟨"java/lang/Throwable", "fillInStackTrace", "(I)Ljava/lang/Throwable;"⟩ ⟨"java/lang/Throwable", "fillInStackTrace", "(I)Ljava/lang/Throwable;"⟩ : Cond) ∈ gT := List.mem_filter.mpr ⟨List.mem_append_right _ (List.mem_of_getElem? (i := 200) (by decide +kernel)), by decide +kernel⟩
theorem g_201 : (.lays "java/lang/IllegalStateException" "java/lang/Throwable" "cause" "Ljava/lang/Throwable;" : Cond) ∈ gT := List.mem_filter.mpr ⟨List.mem_append_right _ (List.mem_of_getElem? (i := 201) (by decide +kernel)), by decide +kernel⟩
theorem g_202 : (.lays "java/lang/IllegalStateException" "java/lang/Throwable" "stackTrace" "[Ljava/lang/StackTraceElement;" : Cond) ∈ gT := List.mem_filter.mpr ⟨List.mem_append_right _ (List.mem_of_getElem? (i := 202) (by decide +kernel)), by decide +kernel⟩
theorem g_203 : (.lays "java/lang/IllegalStateException" "java/lang/Throwable" "suppressedExceptions" "Ljava/util/List;" : Cond) ∈ gT := List.mem_filter.mpr ⟨List.mem_append_right _ (List.mem_of_getElem? (i := 203) (by decide +kernel)), by decide +kernel⟩
theorem g_204 : (.lays "java/lang/IllegalStateException" "java/lang/Throwable" "detailMessage" "Ljava/lang/String;" : Cond) ∈ gT := List.mem_filter.mpr ⟨List.mem_append_right _ (List.mem_of_getElem? (i := 204) (by decide +kernel)), by decide +kernel⟩
theorem g_205 : (.lays "java/lang/IllegalStateException" "java/lang/Throwable" "backtrace" "Ljava/lang/Object;" : Cond) ∈ gT := List.mem_filter.mpr ⟨List.mem_append_right _ (List.mem_of_getElem? (i := 205) (by decide +kernel)), by decide +kernel⟩
theorem g_207 : (.methodLink "CopyHeap" 46 ⟨"java/lang/IllegalStateException", "<init>", "(Ljava/lang/String;)V"⟩ : Cond) ∈ gT := List.mem_filter.mpr ⟨List.mem_append_right _ (List.mem_of_getElem? (i := 207) (by decide +kernel)), by decide +kernel⟩
theorem g_208 : (.instanceMethod ⟨"java/lang/IllegalStateException", "<init>", "(Ljava/lang/String;)V"⟩ : Cond) ∈ gT := List.mem_filter.mpr ⟨List.mem_append_right _ (List.mem_of_getElem? (i := 208) (by decide +kernel)), by decide +kernel⟩
theorem g_209 : (.code ⟨"java/lang/IllegalStateException", "<init>", "(Ljava/lang/String;)V"⟩ prog_7_method_2_code 2 (none) : Cond) ∈ gT := List.mem_filter.mpr ⟨List.mem_append_right _ (List.mem_of_getElem? (i := 209) (by decide +kernel)), by decide +kernel⟩
theorem g_210 : (.methodLink "java/lang/IllegalStateException" 7 ⟨"java/lang/RuntimeException", "<init>", "(Ljava/lang/String;)V"⟩ : Cond) ∈ gT := List.mem_filter.mpr ⟨List.mem_append_right _ (List.mem_of_getElem? (i := 210) (by decide +kernel)), by decide +kernel⟩
theorem g_211 : (.lays "java/lang/IllegalStateException" "java/lang/Throwable" "depth" "I" : Cond) ∈ gT := List.mem_filter.mpr ⟨List.mem_append_right _ (List.mem_of_getElem? (i := 211) (by decide +kernel)), by decide +kernel⟩
theorem g_212 : (.superclass "java/lang/IllegalStateException" "java/lang/RuntimeException" : Cond) ∈ gT := List.mem_filter.mpr ⟨List.mem_append_right _ (List.mem_of_getElem? (i := 212) (by decide +kernel)), by decide +kernel⟩
theorem g_213 : (.methodLink "CopyHeap" 47 ⟨"CopyHeap$Half", "addObject", "(II)I"⟩ : Cond) ∈ gT := List.mem_filter.mpr ⟨List.mem_append_right _ (List.mem_of_getElem? (i := 213) (by decide +kernel)), by decide +kernel⟩
theorem g_214 : (.instanceMethod ⟨"CopyHeap$Half", "addObject", "(II)I"⟩ : Cond) ∈ gT := List.mem_filter.mpr ⟨List.mem_append_right _ (List.mem_of_getElem? (i := 214) (by decide +kernel)), by decide +kernel⟩
theorem g_215 : (.selects "CopyHeap$Half" ⟨"CopyHeap$Half", "addObject", "(II)I"⟩ ⟨"CopyHeap$Half", "addObject", "(II)I"⟩ : Cond) ∈ gT := List.mem_filter.mpr ⟨List.mem_append_right _ (List.mem_of_getElem? (i := 215) (by decide +kernel)), by decide +kernel⟩
theorem g_216 : (.code ⟨"CopyHeap$Half", "addObject", "(II)I"⟩ prog_2_method_10_code 5 (some .int) : Cond) ∈ gT := List.mem_filter.mpr ⟨List.mem_append_right _ (List.mem_of_getElem? (i := 216) (by decide +kernel)), by decide +kernel⟩
theorem g_217 : (.methodLink "CopyHeap" 51 ⟨"CopyHeap", "asReference", "(I)I"⟩ : Cond) ∈ gT := List.mem_filter.mpr ⟨List.mem_append_right _ (List.mem_of_getElem? (i := 217) (by decide +kernel)), by decide +kernel⟩
theorem g_218 : (.methodLink "CopyHeapLaw" 68 ⟨"CopyHeapLaw", "number", "(LCopyHeap;II[J)I"⟩ : Cond) ∈ gT := List.mem_filter.mpr ⟨List.mem_append_right _ (List.mem_of_getElem? (i := 218) (by decide +kernel)), by decide +kernel⟩
theorem g_219 : (.static ⟨"CopyHeapLaw", "number", "(LCopyHeap;II[J)I"⟩ : Cond) ∈ gT := List.mem_filter.mpr ⟨List.mem_append_right _ (List.mem_of_getElem? (i := 219) (by decide +kernel)), by decide +kernel⟩
theorem g_220 : (.codeWith ⟨"CopyHeapLaw", "number", "(LCopyHeap;II[J)I"⟩ method_4_code 5 (some .int) [(0, 10, 13, 13)] : Cond) ∈ gT := List.mem_filter.mpr ⟨List.mem_append_right _ (List.mem_of_getElem? (i := 220) (by decide +kernel)), by decide +kernel⟩
theorem g_221 : (.methodLink "CopyHeapLaw" 17 ⟨"CopyHeap", "number", "(II)I"⟩ : Cond) ∈ gT := List.mem_filter.mpr ⟨List.mem_append_right _ (List.mem_of_getElem? (i := 221) (by decide +kernel)), by decide +kernel⟩
theorem g_222 : (.instanceMethod ⟨"CopyHeap", "number", "(II)I"⟩ : Cond) ∈ gT := List.mem_filter.mpr ⟨List.mem_append_right _ (List.mem_of_getElem? (i := 222) (by decide +kernel)), by decide +kernel⟩
theorem g_223 : (.selects "CopyHeap" ⟨"CopyHeap", "number", "(II)I"⟩ ⟨"CopyHeap", "number", "(II)I"⟩ : Cond) ∈ gT := List.mem_filter.mpr ⟨List.mem_append_right _ (List.mem_of_getElem? (i := 223) (by decide +kernel)), by decide +kernel⟩
theorem g_224 : (.code ⟨"CopyHeap", "number", "(II)I"⟩ prog_1_method_3_code 3 (some .int) : Cond) ∈ gT := List.mem_filter.mpr ⟨List.mem_append_right _ (List.mem_of_getElem? (i := 224) (by decide +kernel)), by decide +kernel⟩
theorem g_225 : (.methodLink "CopyHeap" 55 ⟨"CopyHeap", "asNumber", "(I)I"⟩ : Cond) ∈ gT := List.mem_filter.mpr ⟨List.mem_append_right _ (List.mem_of_getElem? (i := 225) (by decide +kernel)), by decide +kernel⟩
theorem g_226 : (.static ⟨"CopyHeap", "asNumber", "(I)I"⟩ : Cond) ∈ gT := List.mem_filter.mpr ⟨List.mem_append_right _ (List.mem_of_getElem? (i := 226) (by decide +kernel)), by decide +kernel⟩
theorem g_227 : (.code ⟨"CopyHeap", "asNumber", "(I)I"⟩ prog_1_method_12_code 1 (some .int) : Cond) ∈ gT := List.mem_filter.mpr ⟨List.mem_append_right _ (List.mem_of_getElem? (i := 227) (by decide +kernel)), by decide +kernel⟩
theorem g_228 : (.methodLink "CopyHeap" 58 ⟨"CopyHeap", "content", "(I)I"⟩ : Cond) ∈ gT := List.mem_filter.mpr ⟨List.mem_append_right _ (List.mem_of_getElem? (i := 228) (by decide +kernel)), by decide +kernel⟩
theorem g_229 : (.methodLink "CopyHeapLaw" 72 ⟨"CopyHeapLaw", "copy", "(LCopyHeap;II[J)I"⟩ : Cond) ∈ gT := List.mem_filter.mpr ⟨List.mem_append_right _ (List.mem_of_getElem? (i := 229) (by decide +kernel)), by decide +kernel⟩
theorem g_230 : (.static ⟨"CopyHeapLaw", "copy", "(LCopyHeap;II[J)I"⟩ : Cond) ∈ gT := List.mem_filter.mpr ⟨List.mem_append_right _ (List.mem_of_getElem? (i := 230) (by decide +kernel)), by decide +kernel⟩
theorem g_231 : (.codeWith ⟨"CopyHeapLaw", "copy", "(LCopyHeap;II[J)I"⟩ method_5_code 5 (some .int) [(0, 17, 20, 13)] : Cond) ∈ gT := List.mem_filter.mpr ⟨List.mem_append_right _ (List.mem_of_getElem? (i := 231) (by decide +kernel)), by decide +kernel⟩
theorem g_232 : (.methodLink "CopyHeapLaw" 21 ⟨"CopyHeap", "copy", "(II)Z"⟩ : Cond) ∈ gT := List.mem_filter.mpr ⟨List.mem_append_right _ (List.mem_of_getElem? (i := 232) (by decide +kernel)), by decide +kernel⟩
theorem g_233 : (.instanceMethod ⟨"CopyHeap", "copy", "(II)Z"⟩ : Cond) ∈ gT := List.mem_filter.mpr ⟨List.mem_append_right _ (List.mem_of_getElem? (i := 233) (by decide +kernel)), by decide +kernel⟩
theorem g_234 : (.selects "CopyHeap" ⟨"CopyHeap", "copy", "(II)Z"⟩ ⟨"CopyHeap", "copy", "(II)Z"⟩ : Cond) ∈ gT := List.mem_filter.mpr ⟨List.mem_append_right _ (List.mem_of_getElem? (i := 234) (by decide +kernel)), by decide +kernel⟩
theorem g_235 : (.code ⟨"CopyHeap", "copy", "(II)Z"⟩ prog_1_method_4_code 3 (some .boolean) : Cond) ∈ gT := List.mem_filter.mpr ⟨List.mem_append_right _ (List.mem_of_getElem? (i := 235) (by decide +kernel)), by decide +kernel⟩
theorem g_236 : (.methodLink "CopyHeap" 61 ⟨"CopyHeap", "isReference", "(I)Z"⟩ : Cond) ∈ gT := List.mem_filter.mpr ⟨List.mem_append_right _ (List.mem_of_getElem? (i := 236) (by decide +kernel)), by decide +kernel⟩
theorem g_237 : (.methodLink "CopyHeapLaw" 75 ⟨"CopyHeapLaw", "put", "(LCopyHeap;III)I"⟩ : Cond) ∈ gT := List.mem_filter.mpr ⟨List.mem_append_right _ (List.mem_of_getElem? (i := 237) (by decide +kernel)), by decide +kernel⟩
theorem g_238 : (.static ⟨"CopyHeapLaw", "put", "(LCopyHeap;III)I"⟩ : Cond) ∈ gT := List.mem_filter.mpr ⟨List.mem_append_right _ (List.mem_of_getElem? (i := 238) (by decide +kernel)), by decide +kernel⟩
theorem g_239 : (.codeWith ⟨"CopyHeapLaw", "put", "(LCopyHeap;III)I"⟩ method_6_code 5 (some .int) [(0, 7, 10, 13), (0, 7, 14, 15), (0, 7, 18, 29)] : Cond) ∈ gT := List.mem_filter.mpr ⟨List.mem_append_right _ (List.mem_of_getElem? (i := 239) (by decide +kernel)), by decide +kernel⟩
theorem g_240 : (.classLink "CopyHeapLaw" 29 "java/lang/IndexOutOfBoundsException" : Cond) ∈ gT := List.mem_filter.mpr ⟨List.mem_append_right _ (List.mem_of_getElem? (i := 240) (by decide +kernel)), by decide +kernel⟩
theorem g_241 : (.methodLink "CopyHeapLaw" 25 ⟨"CopyHeap", "put", "(III)V"⟩ : Cond) ∈ gT := List.mem_filter.mpr ⟨List.mem_append_right _ (List.mem_of_getElem? (i := 241) (by decide +kernel)), by decide +kernel⟩
theorem g_242 : (.instanceMethod ⟨"CopyHeap", "put", "(III)V"⟩ : Cond) ∈ gT := List.mem_filter.mpr ⟨List.mem_append_right _ (List.mem_of_getElem? (i := 242) (by decide +kernel)), by decide +kernel⟩
theorem g_243 : (.selects "CopyHeap" ⟨"CopyHeap", "put", "(III)V"⟩ ⟨"CopyHeap", "put", "(III)V"⟩ : Cond) ∈ gT := List.mem_filter.mpr ⟨List.mem_append_right _ (List.mem_of_getElem? (i := 243) (by decide +kernel)), by decide +kernel⟩
theorem g_244 : (.code ⟨"CopyHeap", "put", "(III)V"⟩ prog_1_method_5_code 7 (none) : Cond) ∈ gT := List.mem_filter.mpr ⟨List.mem_append_right _ (List.mem_of_getElem? (i := 244) (by decide +kernel)), by decide +kernel⟩
theorem g_245 : (.methodLink "CopyHeap" 64 ⟨"CopyHeap", "objectOf", "(I)I"⟩ : Cond) ∈ gT := List.mem_filter.mpr ⟨List.mem_append_right _ (List.mem_of_getElem? (i := 245) (by decide +kernel)), by decide +kernel⟩
theorem g_247 : (.instanceMethod ⟨"CopyHeap", "objectOf", "(I)I"⟩ : Cond) ∈ gT := List.mem_filter.mpr ⟨List.mem_append_right _ (List.mem_of_getElem? (i := 247) (by decide +kernel)), by decide +kernel⟩
theorem g_248 : (.code ⟨"CopyHeap", "objectOf", "(I)I"⟩ prog_1_method_18_code 3 (some .int) : Cond) ∈ gT := List.mem_filter.mpr ⟨List.mem_append_right _ (List.mem_of_getElem? (i := 248) (by decide +kernel)), by decide +kernel⟩
theorem g_251 : (.methodLink "CopyHeap" 72 ⟨"CopyHeap", "requireField", "(II)V"⟩ : Cond) ∈ gT := List.mem_filter.mpr ⟨List.mem_append_right _ (List.mem_of_getElem? (i := 251) (by decide +kernel)), by decide +kernel⟩
theorem g_253 : (.instanceMethod ⟨"CopyHeap", "requireField", "(II)V"⟩ : Cond) ∈ gT := List.mem_filter.mpr ⟨List.mem_append_right _ (List.mem_of_getElem? (i := 253) (by decide +kernel)), by decide +kernel⟩
theorem g_254 : (.code ⟨"CopyHeap", "requireField", "(II)V"⟩ prog_1_method_17_code 3 (none) : Cond) ∈ gT := List.mem_filter.mpr ⟨List.mem_append_right _ (List.mem_of_getElem? (i := 254) (by decide +kernel)), by decide +kernel⟩
theorem g_255 : (.classLink "CopyHeap" 91 "java/lang/IndexOutOfBoundsException" : Cond) ∈ gT := List.mem_filter.mpr ⟨List.mem_append_right _ (List.mem_of_getElem? (i := 255) (by decide +kernel)), by decide +kernel⟩
theorem g_256 : (.instantiable "java/lang/IndexOutOfBoundsException" 6 : Cond) ∈ gT := List.mem_filter.mpr ⟨List.mem_append_right _ (List.mem_of_getElem? (i := 256) (by decide +kernel)), by decide +kernel⟩
theorem g_258 : (.selects "java/lang/IndexOutOfBoundsException" ⟨"java/lang/Throwable", "fillInStackTrace", "(I)Ljava/lang/Throwable;"⟩ ⟨"java/lang/Throwable", "fillInStackTrace", "(I)Ljava/lang/Throwable;"⟩ : Cond) ∈ gT := List.mem_filter.mpr ⟨List.mem_append_right _ (List.mem_of_getElem? (i := 258) (by decide +kernel)), by decide +kernel⟩
theorem g_259 : (.lays "java/lang/IndexOutOfBoundsException" "java/lang/Throwable" "cause" "Ljava/lang/Throwable;" : Cond) ∈ gT := List.mem_filter.mpr ⟨List.mem_append_right _ (List.mem_of_getElem? (i := 259) (by decide +kernel)), by decide +kernel⟩
theorem g_260 : (.lays "java/lang/IndexOutOfBoundsException" "java/lang/Throwable" "stackTrace" "[Ljava/lang/StackTraceElement;" : Cond) ∈ gT := List.mem_filter.mpr ⟨List.mem_append_right _ (List.mem_of_getElem? (i := 260) (by decide +kernel)), by decide +kernel⟩
theorem g_261 : (.lays "java/lang/IndexOutOfBoundsException" "java/lang/Throwable" "suppressedExceptions" "Ljava/util/List;" : Cond) ∈ gT := List.mem_filter.mpr ⟨List.mem_append_right _ (List.mem_of_getElem? (i := 261) (by decide +kernel)), by decide +kernel⟩
theorem g_262 : (.lays "java/lang/IndexOutOfBoundsException" "java/lang/Throwable" "detailMessage" "Ljava/lang/String;" : Cond) ∈ gT := List.mem_filter.mpr ⟨List.mem_append_right _ (List.mem_of_getElem? (i := 262) (by decide +kernel)), by decide +kernel⟩
theorem g_263 : (.lays "java/lang/IndexOutOfBoundsException" "java/lang/Throwable" "backtrace" "Ljava/lang/Object;" : Cond) ∈ gT := List.mem_filter.mpr ⟨List.mem_append_right _ (List.mem_of_getElem? (i := 263) (by decide +kernel)), by decide +kernel⟩
theorem g_265 : (.methodLink "CopyHeap" 95 ⟨"java/lang/IndexOutOfBoundsException", "<init>", "(Ljava/lang/String;)V"⟩ : Cond) ∈ gT := List.mem_filter.mpr ⟨List.mem_append_right _ (List.mem_of_getElem? (i := 265) (by decide +kernel)), by decide +kernel⟩
theorem g_266 : (.instanceMethod ⟨"java/lang/IndexOutOfBoundsException", "<init>", "(Ljava/lang/String;)V"⟩ : Cond) ∈ gT := List.mem_filter.mpr ⟨List.mem_append_right _ (List.mem_of_getElem? (i := 266) (by decide +kernel)), by decide +kernel⟩
theorem g_267 : (.code ⟨"java/lang/IndexOutOfBoundsException", "<init>", "(Ljava/lang/String;)V"⟩ prog_8_method_2_code 2 (none) : Cond) ∈ gT := List.mem_filter.mpr ⟨List.mem_append_right _ (List.mem_of_getElem? (i := 267) (by decide +kernel)), by decide +kernel⟩
theorem g_268 : (.methodLink "java/lang/IndexOutOfBoundsException" 7 ⟨"java/lang/RuntimeException", "<init>", "(Ljava/lang/String;)V"⟩ : Cond) ∈ gT := List.mem_filter.mpr ⟨List.mem_append_right _ (List.mem_of_getElem? (i := 268) (by decide +kernel)), by decide +kernel⟩
theorem g_269 : (.lays "java/lang/IndexOutOfBoundsException" "java/lang/Throwable" "depth" "I" : Cond) ∈ gT := List.mem_filter.mpr ⟨List.mem_append_right _ (List.mem_of_getElem? (i := 269) (by decide +kernel)), by decide +kernel⟩
theorem g_270 : (.superclass "java/lang/IndexOutOfBoundsException" "java/lang/RuntimeException" : Cond) ∈ gT := List.mem_filter.mpr ⟨List.mem_append_right _ (List.mem_of_getElem? (i := 270) (by decide +kernel)), by decide +kernel⟩
theorem g_271 : (.methodLink "CopyHeapLaw" 79 ⟨"CopyHeapLaw", "raw", "(LCopyHeap;III[J)I"⟩ : Cond) ∈ gT := List.mem_filter.mpr ⟨List.mem_append_right _ (List.mem_of_getElem? (i := 271) (by decide +kernel)), by decide +kernel⟩
theorem g_272 : (.static ⟨"CopyHeapLaw", "raw", "(LCopyHeap;III[J)I"⟩ : Cond) ∈ gT := List.mem_filter.mpr ⟨List.mem_append_right _ (List.mem_of_getElem? (i := 272) (by decide +kernel)), by decide +kernel⟩
theorem g_273 : (.codeWith ⟨"CopyHeapLaw", "raw", "(LCopyHeap;III[J)I"⟩ method_7_code 6 (some .int) [(0, 12, 15, 13), (0, 12, 19, 15), (0, 12, 23, 29)] : Cond) ∈ gT := List.mem_filter.mpr ⟨List.mem_append_right _ (List.mem_of_getElem? (i := 273) (by decide +kernel)), by decide +kernel⟩
theorem g_274 : (.methodLink "CopyHeapLaw" 31 ⟨"CopyHeap", "raw", "(III)I"⟩ : Cond) ∈ gT := List.mem_filter.mpr ⟨List.mem_append_right _ (List.mem_of_getElem? (i := 274) (by decide +kernel)), by decide +kernel⟩
theorem g_275 : (.instanceMethod ⟨"CopyHeap", "raw", "(III)I"⟩ : Cond) ∈ gT := List.mem_filter.mpr ⟨List.mem_append_right _ (List.mem_of_getElem? (i := 275) (by decide +kernel)), by decide +kernel⟩
theorem g_276 : (.selects "CopyHeap" ⟨"CopyHeap", "raw", "(III)I"⟩ ⟨"CopyHeap", "raw", "(III)I"⟩ : Cond) ∈ gT := List.mem_filter.mpr ⟨List.mem_append_right _ (List.mem_of_getElem? (i := 276) (by decide +kernel)), by decide +kernel⟩
theorem g_277 : (.code ⟨"CopyHeap", "raw", "(III)I"⟩ prog_1_method_6_code 6 (some .int) : Cond) ∈ gT := List.mem_filter.mpr ⟨List.mem_append_right _ (List.mem_of_getElem? (i := 277) (by decide +kernel)), by decide +kernel⟩
theorem g_279 : (.methodLink "CopyHeapLaw" 82 ⟨"CopyHeapLaw", "get", "(LCopyHeap;III[J)I"⟩ : Cond) ∈ gT := List.mem_filter.mpr ⟨List.mem_append_right _ (List.mem_of_getElem? (i := 279) (by decide +kernel)), by decide +kernel⟩
theorem g_280 : (.static ⟨"CopyHeapLaw", "get", "(LCopyHeap;III[J)I"⟩ : Cond) ∈ gT := List.mem_filter.mpr ⟨List.mem_append_right _ (List.mem_of_getElem? (i := 280) (by decide +kernel)), by decide +kernel⟩
theorem g_281 : (.codeWith ⟨"CopyHeapLaw", "get", "(LCopyHeap;III[J)I"⟩ method_8_code 6 (some .int) [(0, 19, 22, 13), (0, 19, 26, 15), (0, 19, 30, 29)] : Cond) ∈ gT := List.mem_filter.mpr ⟨List.mem_append_right _ (List.mem_of_getElem? (i := 281) (by decide +kernel)), by decide +kernel⟩
theorem g_282 : (.methodLink "CopyHeapLaw" 34 ⟨"CopyHeap", "get", "(III)Z"⟩ : Cond) ∈ gT := List.mem_filter.mpr ⟨List.mem_append_right _ (List.mem_of_getElem? (i := 282) (by decide +kernel)), by decide +kernel⟩
theorem g_283 : (.instanceMethod ⟨"CopyHeap", "get", "(III)Z"⟩ : Cond) ∈ gT := List.mem_filter.mpr ⟨List.mem_append_right _ (List.mem_of_getElem? (i := 283) (by decide +kernel)), by decide +kernel⟩
theorem g_284 : (.selects "CopyHeap" ⟨"CopyHeap", "get", "(III)Z"⟩ ⟨"CopyHeap", "get", "(III)Z"⟩ : Cond) ∈ gT := List.mem_filter.mpr ⟨List.mem_append_right _ (List.mem_of_getElem? (i := 284) (by decide +kernel)), by decide +kernel⟩
theorem g_285 : (.code ⟨"CopyHeap", "get", "(III)Z"⟩ prog_1_method_7_code 6 (some .boolean) : Cond) ∈ gT := List.mem_filter.mpr ⟨List.mem_append_right _ (List.mem_of_getElem? (i := 285) (by decide +kernel)), by decide +kernel⟩
theorem g_286 : (.methodLink "CopyHeapLaw" 89 ⟨"CopyHeapLaw", "about", "(LCopyHeap;II[J)I"⟩ : Cond) ∈ gT := List.mem_filter.mpr ⟨List.mem_append_right _ (List.mem_of_getElem? (i := 286) (by decide +kernel)), by decide +kernel⟩
theorem g_287 : (.static ⟨"CopyHeapLaw", "about", "(LCopyHeap;II[J)I"⟩ : Cond) ∈ gT := List.mem_filter.mpr ⟨List.mem_append_right _ (List.mem_of_getElem? (i := 287) (by decide +kernel)), by decide +kernel⟩
theorem g_288 : (.codeWith ⟨"CopyHeapLaw", "about", "(LCopyHeap;II[J)I"⟩ method_9_code 5 (some .int) [(0, 10, 13, 13), (0, 10, 17, 29)] : Cond) ∈ gT := List.mem_filter.mpr ⟨List.mem_append_right _ (List.mem_of_getElem? (i := 288) (by decide +kernel)), by decide +kernel⟩
theorem g_289 : (.methodLink "CopyHeapLaw" 38 ⟨"CopyHeap", "about", "(II)I"⟩ : Cond) ∈ gT := List.mem_filter.mpr ⟨List.mem_append_right _ (List.mem_of_getElem? (i := 289) (by decide +kernel)), by decide +kernel⟩
theorem g_290 : (.instanceMethod ⟨"CopyHeap", "about", "(II)I"⟩ : Cond) ∈ gT := List.mem_filter.mpr ⟨List.mem_append_right _ (List.mem_of_getElem? (i := 290) (by decide +kernel)), by decide +kernel⟩
theorem g_291 : (.selects "CopyHeap" ⟨"CopyHeap", "about", "(II)I"⟩ ⟨"CopyHeap", "about", "(II)I"⟩ : Cond) ∈ gT := List.mem_filter.mpr ⟨List.mem_append_right _ (List.mem_of_getElem? (i := 291) (by decide +kernel)), by decide +kernel⟩
theorem g_292 : (.code ⟨"CopyHeap", "about", "(II)I"⟩ prog_1_method_9_code 6 (some .int) : Cond) ∈ gT := List.mem_filter.mpr ⟨List.mem_append_right _ (List.mem_of_getElem? (i := 292) (by decide +kernel)), by decide +kernel⟩
theorem g_294 : (.methodLink "CopyHeapLaw" 92 ⟨"CopyHeapLaw", "look", "(LCopyHeap;II[J)I"⟩ : Cond) ∈ gT := List.mem_filter.mpr ⟨List.mem_append_right _ (List.mem_of_getElem? (i := 294) (by decide +kernel)), by decide +kernel⟩
theorem g_295 : (.static ⟨"CopyHeapLaw", "look", "(LCopyHeap;II[J)I"⟩ : Cond) ∈ gT := List.mem_filter.mpr ⟨List.mem_append_right _ (List.mem_of_getElem? (i := 295) (by decide +kernel)), by decide +kernel⟩
theorem g_296 : (.codeWith ⟨"CopyHeapLaw", "look", "(LCopyHeap;II[J)I"⟩ method_10_code 5 (some .int) [(0, 10, 13, 29)] : Cond) ∈ gT := List.mem_filter.mpr ⟨List.mem_append_right _ (List.mem_of_getElem? (i := 296) (by decide +kernel)), by decide +kernel⟩
theorem g_297 : (.methodLink "CopyHeapLaw" 41 ⟨"CopyHeap", "look", "(II)I"⟩ : Cond) ∈ gT := List.mem_filter.mpr ⟨List.mem_append_right _ (List.mem_of_getElem? (i := 297) (by decide +kernel)), by decide +kernel⟩
theorem g_298 : (.instanceMethod ⟨"CopyHeap", "look", "(II)I"⟩ : Cond) ∈ gT := List.mem_filter.mpr ⟨List.mem_append_right _ (List.mem_of_getElem? (i := 298) (by decide +kernel)), by decide +kernel⟩
theorem g_299 : (.selects "CopyHeap" ⟨"CopyHeap", "look", "(II)I"⟩ ⟨"CopyHeap", "look", "(II)I"⟩ : Cond) ∈ gT := List.mem_filter.mpr ⟨List.mem_append_right _ (List.mem_of_getElem? (i := 299) (by decide +kernel)), by decide +kernel⟩
theorem g_300 : (.code ⟨"CopyHeap", "look", "(II)I"⟩ prog_1_method_10_code 5 (some .int) : Cond) ∈ gT := List.mem_filter.mpr ⟨List.mem_append_right _ (List.mem_of_getElem? (i := 300) (by decide +kernel)), by decide +kernel⟩
theorem g_301 : (.methodLink "CopyHeap" 96 ⟨"CopyHeap$Half", "holds", "(I)Z"⟩ : Cond) ∈ gT := List.mem_filter.mpr ⟨List.mem_append_right _ (List.mem_of_getElem? (i := 301) (by decide +kernel)), by decide +kernel⟩
theorem g_302 : (.instanceMethod ⟨"CopyHeap$Half", "holds", "(I)Z"⟩ : Cond) ∈ gT := List.mem_filter.mpr ⟨List.mem_append_right _ (List.mem_of_getElem? (i := 302) (by decide +kernel)), by decide +kernel⟩
theorem g_303 : (.selects "CopyHeap$Half" ⟨"CopyHeap$Half", "holds", "(I)Z"⟩ ⟨"CopyHeap$Half", "holds", "(I)Z"⟩ : Cond) ∈ gT := List.mem_filter.mpr ⟨List.mem_append_right _ (List.mem_of_getElem? (i := 303) (by decide +kernel)), by decide +kernel⟩
theorem g_304 : (.code ⟨"CopyHeap$Half", "holds", "(I)Z"⟩ prog_2_method_4_code 2 (some .boolean) : Cond) ∈ gT := List.mem_filter.mpr ⟨List.mem_append_right _ (List.mem_of_getElem? (i := 304) (by decide +kernel)), by decide +kernel⟩
theorem g_306 : (.methodLink "CopyHeap" 101 ⟨"CopyHeap$Half", "sortAt", "(I)I"⟩ : Cond) ∈ gT := List.mem_filter.mpr ⟨List.mem_append_right _ (List.mem_of_getElem? (i := 306) (by decide +kernel)), by decide +kernel⟩
theorem g_307 : (.instanceMethod ⟨"CopyHeap$Half", "sortAt", "(I)I"⟩ : Cond) ∈ gT := List.mem_filter.mpr ⟨List.mem_append_right _ (List.mem_of_getElem? (i := 307) (by decide +kernel)), by decide +kernel⟩
theorem g_308 : (.selects "CopyHeap$Half" ⟨"CopyHeap$Half", "sortAt", "(I)I"⟩ ⟨"CopyHeap$Half", "sortAt", "(I)I"⟩ : Cond) ∈ gT := List.mem_filter.mpr ⟨List.mem_append_right _ (List.mem_of_getElem? (i := 308) (by decide +kernel)), by decide +kernel⟩
theorem g_309 : (.code ⟨"CopyHeap$Half", "sortAt", "(I)I"⟩ prog_2_method_9_code 5 (some .int) : Cond) ∈ gT := List.mem_filter.mpr ⟨List.mem_append_right _ (List.mem_of_getElem? (i := 309) (by decide +kernel)), by decide +kernel⟩
theorem g_310 : (.methodLink "CopyHeap$Half" 29 ⟨"CopyHeap$Half", "kindAt", "(I)I"⟩ : Cond) ∈ gT := List.mem_filter.mpr ⟨List.mem_append_right _ (List.mem_of_getElem? (i := 310) (by decide +kernel)), by decide +kernel⟩
theorem g_312 : (.methodLink "CopyHeapLaw" 95 ⟨"CopyHeapLaw", "count", "(LCopyHeap;I[J)I"⟩ : Cond) ∈ gT := List.mem_filter.mpr ⟨List.mem_append_right _ (List.mem_of_getElem? (i := 312) (by decide +kernel)), by decide +kernel⟩
theorem g_313 : (.static ⟨"CopyHeapLaw", "count", "(LCopyHeap;I[J)I"⟩ : Cond) ∈ gT := List.mem_filter.mpr ⟨List.mem_append_right _ (List.mem_of_getElem? (i := 313) (by decide +kernel)), by decide +kernel⟩
theorem g_314 : (.codeWith ⟨"CopyHeapLaw", "count", "(LCopyHeap;I[J)I"⟩ method_11_code 4 (some .int) [(0, 9, 12, 29)] : Cond) ∈ gT := List.mem_filter.mpr ⟨List.mem_append_right _ (List.mem_of_getElem? (i := 314) (by decide +kernel)), by decide +kernel⟩
theorem g_315 : (.methodLink "CopyHeapLaw" 44 ⟨"CopyHeap", "count", "(I)I"⟩ : Cond) ∈ gT := List.mem_filter.mpr ⟨List.mem_append_right _ (List.mem_of_getElem? (i := 315) (by decide +kernel)), by decide +kernel⟩
theorem g_316 : (.instanceMethod ⟨"CopyHeap", "count", "(I)I"⟩ : Cond) ∈ gT := List.mem_filter.mpr ⟨List.mem_append_right _ (List.mem_of_getElem? (i := 316) (by decide +kernel)), by decide +kernel⟩
theorem g_317 : (.selects "CopyHeap" ⟨"CopyHeap", "count", "(I)I"⟩ ⟨"CopyHeap", "count", "(I)I"⟩ : Cond) ∈ gT := List.mem_filter.mpr ⟨List.mem_append_right _ (List.mem_of_getElem? (i := 317) (by decide +kernel)), by decide +kernel⟩
theorem g_318 : (.code ⟨"CopyHeap", "count", "(I)I"⟩ prog_1_method_11_code 2 (some .int) : Cond) ∈ gT := List.mem_filter.mpr ⟨List.mem_append_right _ (List.mem_of_getElem? (i := 318) (by decide +kernel)), by decide +kernel⟩
theorem g_320 : (.classLink "CopyHeapLaw" 57 "CopyHeapModel" : Cond) ∈ gT := List.mem_filter.mpr ⟨List.mem_append_right _ (List.mem_of_getElem? (i := 320) (by decide +kernel)), by decide +kernel⟩
theorem g_321 : (.instantiable "CopyHeapModel" 14 : Cond) ∈ gT := List.mem_filter.mpr ⟨List.mem_append_right _ (List.mem_of_getElem? (i := 321) (by decide +kernel)), by decide +kernel⟩
theorem g_322 : (.methodLink "CopyHeapLaw" 59 ⟨"CopyHeapModel", "<init>", "(I)V"⟩ : Cond) ∈ gT := List.mem_filter.mpr ⟨List.mem_append_right _ (List.mem_of_getElem? (i := 322) (by decide +kernel)), by decide +kernel⟩
theorem g_323 : (.instanceMethod ⟨"CopyHeapModel", "<init>", "(I)V"⟩ : Cond) ∈ gT := List.mem_filter.mpr ⟨List.mem_append_right _ (List.mem_of_getElem? (i := 323) (by decide +kernel)), by decide +kernel⟩
theorem g_324 : (.code ⟨"CopyHeapModel", "<init>", "(I)V"⟩ prog_4_method_1_code 3 (none) : Cond) ∈ gT := List.mem_filter.mpr ⟨List.mem_append_right _ (List.mem_of_getElem? (i := 324) (by decide +kernel)), by decide +kernel⟩
theorem g_325 : (.methodLink "CopyHeapModel" 1 ⟨"java/lang/Object", "<init>", "()V"⟩ : Cond) ∈ gT := List.mem_filter.mpr ⟨List.mem_append_right _ (List.mem_of_getElem? (i := 325) (by decide +kernel)), by decide +kernel⟩
theorem g_326 : (.fieldLink "CopyHeapModel" 38 "CopyHeapModel" "thrown" "I" : Cond) ∈ gT := List.mem_filter.mpr ⟨List.mem_append_right _ (List.mem_of_getElem? (i := 326) (by decide +kernel)), by decide +kernel⟩
theorem g_327 : (.fieldLink "CopyHeapModel" 34 "CopyHeapModel" "half" "I" : Cond) ∈ gT := List.mem_filter.mpr ⟨List.mem_append_right _ (List.mem_of_getElem? (i := 327) (by decide +kernel)), by decide +kernel⟩
theorem g_328 : (.fieldLink "CopyHeapModel" 48 "CopyHeapModel" "used" "I" : Cond) ∈ gT := List.mem_filter.mpr ⟨List.mem_append_right _ (List.mem_of_getElem? (i := 328) (by decide +kernel)), by decide +kernel⟩
theorem g_329 : (.fieldLink "CopyHeapModel" 55 "CopyHeapModel" "collections" "I" : Cond) ∈ gT := List.mem_filter.mpr ⟨List.mem_append_right _ (List.mem_of_getElem? (i := 329) (by decide +kernel)), by decide +kernel⟩
theorem g_330 : (.fieldLink "CopyHeapModel" 58 "CopyHeapModel" "moved" "I" : Cond) ∈ gT := List.mem_filter.mpr ⟨List.mem_append_right _ (List.mem_of_getElem? (i := 330) (by decide +kernel)), by decide +kernel⟩
theorem g_331 : (.fieldLink "CopyHeapModel" 7 "CopyHeapModel" "sort" "[I" : Cond) ∈ gT := List.mem_filter.mpr ⟨List.mem_append_right _ (List.mem_of_getElem? (i := 331) (by decide +kernel)), by decide +kernel⟩
theorem g_332 : (.fieldLink "CopyHeapModel" 13 "CopyHeapModel" "value" "[I" : Cond) ∈ gT := List.mem_filter.mpr ⟨List.mem_append_right _ (List.mem_of_getElem? (i := 332) (by decide +kernel)), by decide +kernel⟩
theorem g_333 : (.fieldLink "CopyHeapModel" 16 "CopyHeapModel" "newSort" "[I" : Cond) ∈ gT := List.mem_filter.mpr ⟨List.mem_append_right _ (List.mem_of_getElem? (i := 333) (by decide +kernel)), by decide +kernel⟩
theorem g_334 : (.fieldLink "CopyHeapModel" 19 "CopyHeapModel" "newValue" "[I" : Cond) ∈ gT := List.mem_filter.mpr ⟨List.mem_append_right _ (List.mem_of_getElem? (i := 334) (by decide +kernel)), by decide +kernel⟩
theorem g_335 : (.fieldLink "CopyHeapModel" 22 "CopyHeapModel" "registerSort" "[I" : Cond) ∈ gT := List.mem_filter.mpr ⟨List.mem_append_right _ (List.mem_of_getElem? (i := 335) (by decide +kernel)), by decide +kernel⟩
theorem g_336 : (.fieldLink "CopyHeapModel" 25 "CopyHeapModel" "registerValue" "[I" : Cond) ∈ gT := List.mem_filter.mpr ⟨List.mem_append_right _ (List.mem_of_getElem? (i := 336) (by decide +kernel)), by decide +kernel⟩
theorem g_337 : (.fieldLink "CopyHeapModel" 41 "CopyHeapModel" "stays" "I" : Cond) ∈ gT := List.mem_filter.mpr ⟨List.mem_append_right _ (List.mem_of_getElem? (i := 337) (by decide +kernel)), by decide +kernel⟩
theorem g_338 : (.fieldLink "CopyHeapModel" 28 "CopyHeapModel" "stay" "[I" : Cond) ∈ gT := List.mem_filter.mpr ⟨List.mem_append_right _ (List.mem_of_getElem? (i := 338) (by decide +kernel)), by decide +kernel⟩
theorem g_339 : (.fieldLink "CopyHeapModel" 31 "CopyHeapModel" "goes" "[I" : Cond) ∈ gT := List.mem_filter.mpr ⟨List.mem_append_right _ (List.mem_of_getElem? (i := 339) (by decide +kernel)), by decide +kernel⟩
theorem g_340 : (.lays "CopyHeapModel" "CopyHeapModel" "thrown" "I" : Cond) ∈ gT := List.mem_filter.mpr ⟨List.mem_append_right _ (List.mem_of_getElem? (i := 340) (by decide +kernel)), by decide +kernel⟩
theorem g_341 : (.soleField "CopyHeapModel" "thrown" : Cond) ∈ gT := List.mem_filter.mpr ⟨List.mem_append_right _ (List.mem_of_getElem? (i := 341) (by decide +kernel)), by decide +kernel⟩
theorem g_342 : (.laysFinal "CopyHeapModel" "CopyHeapModel" "half" "I" : Cond) ∈ gT := List.mem_filter.mpr ⟨List.mem_append_right _ (List.mem_of_getElem? (i := 342) (by decide +kernel)), by decide +kernel⟩
theorem g_343 : (.soleField "CopyHeapModel" "half" : Cond) ∈ gT := List.mem_filter.mpr ⟨List.mem_append_right _ (List.mem_of_getElem? (i := 343) (by decide +kernel)), by decide +kernel⟩
theorem g_344 : (.lays "CopyHeapModel" "CopyHeapModel" "used" "I" : Cond) ∈ gT := List.mem_filter.mpr ⟨List.mem_append_right _ (List.mem_of_getElem? (i := 344) (by decide +kernel)), by decide +kernel⟩
theorem g_345 : (.soleField "CopyHeapModel" "used" : Cond) ∈ gT := List.mem_filter.mpr ⟨List.mem_append_right _ (List.mem_of_getElem? (i := 345) (by decide +kernel)), by decide +kernel⟩
theorem g_346 : (.lays "CopyHeapModel" "CopyHeapModel" "collections" "I" : Cond) ∈ gT := List.mem_filter.mpr ⟨List.mem_append_right _ (List.mem_of_getElem? (i := 346) (by decide +kernel)), by decide +kernel⟩
theorem g_347 : (.soleField "CopyHeapModel" "collections" : Cond) ∈ gT := List.mem_filter.mpr ⟨List.mem_append_right _ (List.mem_of_getElem? (i := 347) (by decide +kernel)), by decide +kernel⟩
theorem g_348 : (.lays "CopyHeapModel" "CopyHeapModel" "moved" "I" : Cond) ∈ gT := List.mem_filter.mpr ⟨List.mem_append_right _ (List.mem_of_getElem? (i := 348) (by decide +kernel)), by decide +kernel⟩
theorem g_349 : (.soleField "CopyHeapModel" "moved" : Cond) ∈ gT := List.mem_filter.mpr ⟨List.mem_append_right _ (List.mem_of_getElem? (i := 349) (by decide +kernel)), by decide +kernel⟩
theorem g_350 : (.laysFinal "CopyHeapModel" "CopyHeapModel" "sort" "[I" : Cond) ∈ gT := List.mem_filter.mpr ⟨List.mem_append_right _ (List.mem_of_getElem? (i := 350) (by decide +kernel)), by decide +kernel⟩
theorem g_351 : (.soleField "CopyHeapModel" "sort" : Cond) ∈ gT := List.mem_filter.mpr ⟨List.mem_append_right _ (List.mem_of_getElem? (i := 351) (by decide +kernel)), by decide +kernel⟩
theorem g_352 : (.laysFinal "CopyHeapModel" "CopyHeapModel" "value" "[I" : Cond) ∈ gT := List.mem_filter.mpr ⟨List.mem_append_right _ (List.mem_of_getElem? (i := 352) (by decide +kernel)), by decide +kernel⟩
theorem g_353 : (.soleField "CopyHeapModel" "value" : Cond) ∈ gT := List.mem_filter.mpr ⟨List.mem_append_right _ (List.mem_of_getElem? (i := 353) (by decide +kernel)), by decide +kernel⟩
theorem g_354 : (.laysFinal "CopyHeapModel" "CopyHeapModel" "newSort" "[I" : Cond) ∈ gT := List.mem_filter.mpr ⟨List.mem_append_right _ (List.mem_of_getElem? (i := 354) (by decide +kernel)), by decide +kernel⟩
theorem g_355 : (.soleField "CopyHeapModel" "newSort" : Cond) ∈ gT := List.mem_filter.mpr ⟨List.mem_append_right _ (List.mem_of_getElem? (i := 355) (by decide +kernel)), by decide +kernel⟩
theorem g_356 : (.laysFinal "CopyHeapModel" "CopyHeapModel" "newValue" "[I" : Cond) ∈ gT := List.mem_filter.mpr ⟨List.mem_append_right _ (List.mem_of_getElem? (i := 356) (by decide +kernel)), by decide +kernel⟩
theorem g_357 : (.soleField "CopyHeapModel" "newValue" : Cond) ∈ gT := List.mem_filter.mpr ⟨List.mem_append_right _ (List.mem_of_getElem? (i := 357) (by decide +kernel)), by decide +kernel⟩
theorem g_358 : (.laysFinal "CopyHeapModel" "CopyHeapModel" "registerSort" "[I" : Cond) ∈ gT := List.mem_filter.mpr ⟨List.mem_append_right _ (List.mem_of_getElem? (i := 358) (by decide +kernel)), by decide +kernel⟩
theorem g_359 : (.soleField "CopyHeapModel" "registerSort" : Cond) ∈ gT := List.mem_filter.mpr ⟨List.mem_append_right _ (List.mem_of_getElem? (i := 359) (by decide +kernel)), by decide +kernel⟩
theorem g_360 : (.laysFinal "CopyHeapModel" "CopyHeapModel" "registerValue" "[I" : Cond) ∈ gT := List.mem_filter.mpr ⟨List.mem_append_right _ (List.mem_of_getElem? (i := 360) (by decide +kernel)), by decide +kernel⟩
theorem g_361 : (.soleField "CopyHeapModel" "registerValue" : Cond) ∈ gT := List.mem_filter.mpr ⟨List.mem_append_right _ (List.mem_of_getElem? (i := 361) (by decide +kernel)), by decide +kernel⟩
theorem g_362 : (.lays "CopyHeapModel" "CopyHeapModel" "stays" "I" : Cond) ∈ gT := List.mem_filter.mpr ⟨List.mem_append_right _ (List.mem_of_getElem? (i := 362) (by decide +kernel)), by decide +kernel⟩
theorem g_363 : (.soleField "CopyHeapModel" "stays" : Cond) ∈ gT := List.mem_filter.mpr ⟨List.mem_append_right _ (List.mem_of_getElem? (i := 363) (by decide +kernel)), by decide +kernel⟩
theorem g_364 : (.laysFinal "CopyHeapModel" "CopyHeapModel" "stay" "[I" : Cond) ∈ gT := List.mem_filter.mpr ⟨List.mem_append_right _ (List.mem_of_getElem? (i := 364) (by decide +kernel)), by decide +kernel⟩
theorem g_365 : (.soleField "CopyHeapModel" "stay" : Cond) ∈ gT := List.mem_filter.mpr ⟨List.mem_append_right _ (List.mem_of_getElem? (i := 365) (by decide +kernel)), by decide +kernel⟩
theorem g_366 : (.laysFinal "CopyHeapModel" "CopyHeapModel" "goes" "[I" : Cond) ∈ gT := List.mem_filter.mpr ⟨List.mem_append_right _ (List.mem_of_getElem? (i := 366) (by decide +kernel)), by decide +kernel⟩
theorem g_367 : (.soleField "CopyHeapModel" "goes" : Cond) ∈ gT := List.mem_filter.mpr ⟨List.mem_append_right _ (List.mem_of_getElem? (i := 367) (by decide +kernel)), by decide +kernel⟩
theorem g_368 : (.superclass "CopyHeapModel" "java/lang/Object" : Cond) ∈ gT := List.mem_filter.mpr ⟨List.mem_append_right _ (List.mem_of_getElem? (i := 368) (by decide +kernel)), by decide +kernel⟩
theorem g_369 : (.methodLink "CopyHeapLaw" 64 ⟨"CopyHeapModel", "thrown", "()I"⟩ : Cond) ∈ gT := List.mem_filter.mpr ⟨List.mem_append_right _ (List.mem_of_getElem? (i := 369) (by decide +kernel)), by decide +kernel⟩
theorem g_370 : (.instanceMethod ⟨"CopyHeapModel", "thrown", "()I"⟩ : Cond) ∈ gT := List.mem_filter.mpr ⟨List.mem_append_right _ (List.mem_of_getElem? (i := 370) (by decide +kernel)), by decide +kernel⟩
theorem g_371 : (.selects "CopyHeapModel" ⟨"CopyHeapModel", "thrown", "()I"⟩ ⟨"CopyHeapModel", "thrown", "()I"⟩ : Cond) ∈ gT := List.mem_filter.mpr ⟨List.mem_append_right _ (List.mem_of_getElem? (i := 371) (by decide +kernel)), by decide +kernel⟩
theorem g_372 : (.code ⟨"CopyHeapModel", "thrown", "()I"⟩ prog_4_method_2_code 1 (some .int) : Cond) ∈ gT := List.mem_filter.mpr ⟨List.mem_append_right _ (List.mem_of_getElem? (i := 372) (by decide +kernel)), by decide +kernel⟩
theorem g_373 : (.methodLink "CopyHeapLaw" 88 ⟨"CopyHeapModel", "collect", "()I"⟩ : Cond) ∈ gT := List.mem_filter.mpr ⟨List.mem_append_right _ (List.mem_of_getElem? (i := 373) (by decide +kernel)), by decide +kernel⟩
theorem g_374 : (.instanceMethod ⟨"CopyHeapModel", "collect", "()I"⟩ : Cond) ∈ gT := List.mem_filter.mpr ⟨List.mem_append_right _ (List.mem_of_getElem? (i := 374) (by decide +kernel)), by decide +kernel⟩
theorem g_375 : (.selects "CopyHeapModel" ⟨"CopyHeapModel", "collect", "()I"⟩ ⟨"CopyHeapModel", "collect", "()I"⟩ : Cond) ∈ gT := List.mem_filter.mpr ⟨List.mem_append_right _ (List.mem_of_getElem? (i := 375) (by decide +kernel)), by decide +kernel⟩
theorem g_376 : (.code ⟨"CopyHeapModel", "collect", "()I"⟩ prog_4_method_9_code 1 (some .int) : Cond) ∈ gT := List.mem_filter.mpr ⟨List.mem_append_right _ (List.mem_of_getElem? (i := 376) (by decide +kernel)), by decide +kernel⟩
theorem g_377 : (.methodLink "CopyHeapModel" 61 ⟨"CopyHeapModel", "gather", "()I"⟩ : Cond) ∈ gT := List.mem_filter.mpr ⟨List.mem_append_right _ (List.mem_of_getElem? (i := 377) (by decide +kernel)), by decide +kernel⟩
theorem g_379 : (.instanceMethod ⟨"CopyHeapModel", "gather", "()I"⟩ : Cond) ∈ gT := List.mem_filter.mpr ⟨List.mem_append_right _ (List.mem_of_getElem? (i := 379) (by decide +kernel)), by decide +kernel⟩
theorem g_380 : (.code ⟨"CopyHeapModel", "gather", "()I"⟩ prog_4_method_8_code 6 (some .int) : Cond) ∈ gT := List.mem_filter.mpr ⟨List.mem_append_right _ (List.mem_of_getElem? (i := 380) (by decide +kernel)), by decide +kernel⟩
theorem g_381 : (.methodLink "CopyHeapModel" 51 ⟨"CopyHeapModel", "keep", "(I)V"⟩ : Cond) ∈ gT := List.mem_filter.mpr ⟨List.mem_append_right _ (List.mem_of_getElem? (i := 381) (by decide +kernel)), by decide +kernel⟩
theorem g_383 : (.instanceMethod ⟨"CopyHeapModel", "keep", "(I)V"⟩ : Cond) ∈ gT := List.mem_filter.mpr ⟨List.mem_append_right _ (List.mem_of_getElem? (i := 383) (by decide +kernel)), by decide +kernel⟩
theorem g_384 : (.code ⟨"CopyHeapModel", "keep", "(I)V"⟩ prog_4_method_7_code 3 (none) : Cond) ∈ gT := List.mem_filter.mpr ⟨List.mem_append_right _ (List.mem_of_getElem? (i := 384) (by decide +kernel)), by decide +kernel⟩
theorem g_385 : (.methodLink "CopyHeapModel" 44 ⟨"CopyHeapModel", "fieldsAt", "(I)I"⟩ : Cond) ∈ gT := List.mem_filter.mpr ⟨List.mem_append_right _ (List.mem_of_getElem? (i := 385) (by decide +kernel)), by decide +kernel⟩
theorem g_387 : (.instanceMethod ⟨"CopyHeapModel", "fieldsAt", "(I)I"⟩ : Cond) ∈ gT := List.mem_filter.mpr ⟨List.mem_append_right _ (List.mem_of_getElem? (i := 387) (by decide +kernel)), by decide +kernel⟩
theorem g_388 : (.code ⟨"CopyHeapModel", "fieldsAt", "(I)I"⟩ prog_4_method_6_code 2 (some .int) : Cond) ∈ gT := List.mem_filter.mpr ⟨List.mem_append_right _ (List.mem_of_getElem? (i := 388) (by decide +kernel)), by decide +kernel⟩
theorem g_389 : (.methodLink "CopyHeapLaw" 63 ⟨"CopyHeapModel", "make", "(III)I"⟩ : Cond) ∈ gT := List.mem_filter.mpr ⟨List.mem_append_right _ (List.mem_of_getElem? (i := 389) (by decide +kernel)), by decide +kernel⟩
theorem g_390 : (.instanceMethod ⟨"CopyHeapModel", "make", "(III)I"⟩ : Cond) ∈ gT := List.mem_filter.mpr ⟨List.mem_append_right _ (List.mem_of_getElem? (i := 390) (by decide +kernel)), by decide +kernel⟩
theorem g_391 : (.selects "CopyHeapModel" ⟨"CopyHeapModel", "make", "(III)I"⟩ ⟨"CopyHeapModel", "make", "(III)I"⟩ : Cond) ∈ gT := List.mem_filter.mpr ⟨List.mem_append_right _ (List.mem_of_getElem? (i := 391) (by decide +kernel)), by decide +kernel⟩
theorem g_392 : (.code ⟨"CopyHeapModel", "make", "(III)I"⟩ prog_4_method_10_code 6 (some .int) : Cond) ∈ gT := List.mem_filter.mpr ⟨List.mem_append_right _ (List.mem_of_getElem? (i := 392) (by decide +kernel)), by decide +kernel⟩
theorem g_393 : (.methodLink "CopyHeapModel" 65 ⟨"CopyHeapModel", "isRegister", "(I)Z"⟩ : Cond) ∈ gT := List.mem_filter.mpr ⟨List.mem_append_right _ (List.mem_of_getElem? (i := 393) (by decide +kernel)), by decide +kernel⟩
theorem g_394 : (.static ⟨"CopyHeapModel", "isRegister", "(I)Z"⟩ : Cond) ∈ gT := List.mem_filter.mpr ⟨List.mem_append_right _ (List.mem_of_getElem? (i := 394) (by decide +kernel)), by decide +kernel⟩
theorem g_395 : (.code ⟨"CopyHeapModel", "isRegister", "(I)Z"⟩ prog_4_method_4_code 1 (some .boolean) : Cond) ∈ gT := List.mem_filter.mpr ⟨List.mem_append_right _ (List.mem_of_getElem? (i := 395) (by decide +kernel)), by decide +kernel⟩
theorem g_396 : (.methodLink "CopyHeapModel" 69 ⟨"CopyHeapModel", "fail", "(I)I"⟩ : Cond) ∈ gT := List.mem_filter.mpr ⟨List.mem_append_right _ (List.mem_of_getElem? (i := 396) (by decide +kernel)), by decide +kernel⟩
theorem g_398 : (.instanceMethod ⟨"CopyHeapModel", "fail", "(I)I"⟩ : Cond) ∈ gT := List.mem_filter.mpr ⟨List.mem_append_right _ (List.mem_of_getElem? (i := 398) (by decide +kernel)), by decide +kernel⟩
theorem g_399 : (.code ⟨"CopyHeapModel", "fail", "(I)I"⟩ prog_4_method_3_code 2 (some .int) : Cond) ∈ gT := List.mem_filter.mpr ⟨List.mem_append_right _ (List.mem_of_getElem? (i := 399) (by decide +kernel)), by decide +kernel⟩
theorem g_400 : (.methodLink "CopyHeapLaw" 71 ⟨"CopyHeapModel", "number", "(II)I"⟩ : Cond) ∈ gT := List.mem_filter.mpr ⟨List.mem_append_right _ (List.mem_of_getElem? (i := 400) (by decide +kernel)), by decide +kernel⟩
theorem g_401 : (.instanceMethod ⟨"CopyHeapModel", "number", "(II)I"⟩ : Cond) ∈ gT := List.mem_filter.mpr ⟨List.mem_append_right _ (List.mem_of_getElem? (i := 401) (by decide +kernel)), by decide +kernel⟩
theorem g_402 : (.selects "CopyHeapModel" ⟨"CopyHeapModel", "number", "(II)I"⟩ ⟨"CopyHeapModel", "number", "(II)I"⟩ : Cond) ∈ gT := List.mem_filter.mpr ⟨List.mem_append_right _ (List.mem_of_getElem? (i := 402) (by decide +kernel)), by decide +kernel⟩
theorem g_403 : (.code ⟨"CopyHeapModel", "number", "(II)I"⟩ prog_4_method_11_code 3 (some .int) : Cond) ∈ gT := List.mem_filter.mpr ⟨List.mem_append_right _ (List.mem_of_getElem? (i := 403) (by decide +kernel)), by decide +kernel⟩
theorem g_404 : (.methodLink "CopyHeapModel" 72 ⟨"CopyHeapModel", "kept", "(I)I"⟩ : Cond) ∈ gT := List.mem_filter.mpr ⟨List.mem_append_right _ (List.mem_of_getElem? (i := 404) (by decide +kernel)), by decide +kernel⟩
theorem g_405 : (.static ⟨"CopyHeapModel", "kept", "(I)I"⟩ : Cond) ∈ gT := List.mem_filter.mpr ⟨List.mem_append_right _ (List.mem_of_getElem? (i := 405) (by decide +kernel)), by decide +kernel⟩
theorem g_406 : (.code ⟨"CopyHeapModel", "kept", "(I)I"⟩ prog_4_method_5_code 1 (some .int) : Cond) ∈ gT := List.mem_filter.mpr ⟨List.mem_append_right _ (List.mem_of_getElem? (i := 406) (by decide +kernel)), by decide +kernel⟩
theorem g_407 : (.methodLink "CopyHeapLaw" 74 ⟨"CopyHeapModel", "copy", "(II)Z"⟩ : Cond) ∈ gT := List.mem_filter.mpr ⟨List.mem_append_right _ (List.mem_of_getElem? (i := 407) (by decide +kernel)), by decide +kernel⟩
theorem g_408 : (.instanceMethod ⟨"CopyHeapModel", "copy", "(II)Z"⟩ : Cond) ∈ gT := List.mem_filter.mpr ⟨List.mem_append_right _ (List.mem_of_getElem? (i := 408) (by decide +kernel)), by decide +kernel⟩
theorem g_409 : (.selects "CopyHeapModel" ⟨"CopyHeapModel", "copy", "(II)Z"⟩ ⟨"CopyHeapModel", "copy", "(II)Z"⟩ : Cond) ∈ gT := List.mem_filter.mpr ⟨List.mem_append_right _ (List.mem_of_getElem? (i := 409) (by decide +kernel)), by decide +kernel⟩
theorem g_410 : (.code ⟨"CopyHeapModel", "copy", "(II)Z"⟩ prog_4_method_12_code 3 (some .boolean) : Cond) ∈ gT := List.mem_filter.mpr ⟨List.mem_append_right _ (List.mem_of_getElem? (i := 410) (by decide +kernel)), by decide +kernel⟩
theorem g_411 : (.methodLink "CopyHeapLaw" 78 ⟨"CopyHeapModel", "put", "(III)V"⟩ : Cond) ∈ gT := List.mem_filter.mpr ⟨List.mem_append_right _ (List.mem_of_getElem? (i := 411) (by decide +kernel)), by decide +kernel⟩
theorem g_412 : (.instanceMethod ⟨"CopyHeapModel", "put", "(III)V"⟩ : Cond) ∈ gT := List.mem_filter.mpr ⟨List.mem_append_right _ (List.mem_of_getElem? (i := 412) (by decide +kernel)), by decide +kernel⟩
theorem g_413 : (.selects "CopyHeapModel" ⟨"CopyHeapModel", "put", "(III)V"⟩ ⟨"CopyHeapModel", "put", "(III)V"⟩ : Cond) ∈ gT := List.mem_filter.mpr ⟨List.mem_append_right _ (List.mem_of_getElem? (i := 413) (by decide +kernel)), by decide +kernel⟩
theorem g_414 : (.code ⟨"CopyHeapModel", "put", "(III)V"⟩ prog_4_method_15_code 7 (none) : Cond) ∈ gT := List.mem_filter.mpr ⟨List.mem_append_right _ (List.mem_of_getElem? (i := 414) (by decide +kernel)), by decide +kernel⟩
theorem g_415 : (.methodLink "CopyHeapModel" 75 ⟨"CopyHeapModel", "isRaw", "(I)Z"⟩ : Cond) ∈ gT := List.mem_filter.mpr ⟨List.mem_append_right _ (List.mem_of_getElem? (i := 415) (by decide +kernel)), by decide +kernel⟩
theorem g_417 : (.instanceMethod ⟨"CopyHeapModel", "isRaw", "(I)Z"⟩ : Cond) ∈ gT := List.mem_filter.mpr ⟨List.mem_append_right _ (List.mem_of_getElem? (i := 417) (by decide +kernel)), by decide +kernel⟩
theorem g_418 : (.code ⟨"CopyHeapModel", "isRaw", "(I)Z"⟩ prog_4_method_13_code 2 (some .boolean) : Cond) ∈ gT := List.mem_filter.mpr ⟨List.mem_append_right _ (List.mem_of_getElem? (i := 418) (by decide +kernel)), by decide +kernel⟩
theorem g_419 : (.methodLink "CopyHeapModel" 78 ⟨"CopyHeapModel", "hasField", "(II)Z"⟩ : Cond) ∈ gT := List.mem_filter.mpr ⟨List.mem_append_right _ (List.mem_of_getElem? (i := 419) (by decide +kernel)), by decide +kernel⟩
theorem g_421 : (.instanceMethod ⟨"CopyHeapModel", "hasField", "(II)Z"⟩ : Cond) ∈ gT := List.mem_filter.mpr ⟨List.mem_append_right _ (List.mem_of_getElem? (i := 421) (by decide +kernel)), by decide +kernel⟩
theorem g_422 : (.code ⟨"CopyHeapModel", "hasField", "(II)Z"⟩ prog_4_method_14_code 3 (some .boolean) : Cond) ∈ gT := List.mem_filter.mpr ⟨List.mem_append_right _ (List.mem_of_getElem? (i := 422) (by decide +kernel)), by decide +kernel⟩
theorem g_423 : (.methodLink "CopyHeapLaw" 81 ⟨"CopyHeapModel", "raw", "(III)I"⟩ : Cond) ∈ gT := List.mem_filter.mpr ⟨List.mem_append_right _ (List.mem_of_getElem? (i := 423) (by decide +kernel)), by decide +kernel⟩
theorem g_424 : (.instanceMethod ⟨"CopyHeapModel", "raw", "(III)I"⟩ : Cond) ∈ gT := List.mem_filter.mpr ⟨List.mem_append_right _ (List.mem_of_getElem? (i := 424) (by decide +kernel)), by decide +kernel⟩
theorem g_425 : (.selects "CopyHeapModel" ⟨"CopyHeapModel", "raw", "(III)I"⟩ ⟨"CopyHeapModel", "raw", "(III)I"⟩ : Cond) ∈ gT := List.mem_filter.mpr ⟨List.mem_append_right _ (List.mem_of_getElem? (i := 425) (by decide +kernel)), by decide +kernel⟩
theorem g_426 : (.code ⟨"CopyHeapModel", "raw", "(III)I"⟩ prog_4_method_16_code 6 (some .int) : Cond) ∈ gT := List.mem_filter.mpr ⟨List.mem_append_right _ (List.mem_of_getElem? (i := 426) (by decide +kernel)), by decide +kernel⟩
theorem g_427 : (.methodLink "CopyHeapLaw" 84 ⟨"CopyHeapModel", "get", "(III)Z"⟩ : Cond) ∈ gT := List.mem_filter.mpr ⟨List.mem_append_right _ (List.mem_of_getElem? (i := 427) (by decide +kernel)), by decide +kernel⟩
theorem g_428 : (.instanceMethod ⟨"CopyHeapModel", "get", "(III)Z"⟩ : Cond) ∈ gT := List.mem_filter.mpr ⟨List.mem_append_right _ (List.mem_of_getElem? (i := 428) (by decide +kernel)), by decide +kernel⟩
theorem g_429 : (.selects "CopyHeapModel" ⟨"CopyHeapModel", "get", "(III)Z"⟩ ⟨"CopyHeapModel", "get", "(III)Z"⟩ : Cond) ∈ gT := List.mem_filter.mpr ⟨List.mem_append_right _ (List.mem_of_getElem? (i := 429) (by decide +kernel)), by decide +kernel⟩
theorem g_430 : (.code ⟨"CopyHeapModel", "get", "(III)Z"⟩ prog_4_method_17_code 7 (some .boolean) : Cond) ∈ gT := List.mem_filter.mpr ⟨List.mem_append_right _ (List.mem_of_getElem? (i := 430) (by decide +kernel)), by decide +kernel⟩
theorem g_431 : (.methodLink "CopyHeapLaw" 91 ⟨"CopyHeapModel", "about", "(II)I"⟩ : Cond) ∈ gT := List.mem_filter.mpr ⟨List.mem_append_right _ (List.mem_of_getElem? (i := 431) (by decide +kernel)), by decide +kernel⟩
theorem g_432 : (.instanceMethod ⟨"CopyHeapModel", "about", "(II)I"⟩ : Cond) ∈ gT := List.mem_filter.mpr ⟨List.mem_append_right _ (List.mem_of_getElem? (i := 432) (by decide +kernel)), by decide +kernel⟩
theorem g_433 : (.selects "CopyHeapModel" ⟨"CopyHeapModel", "about", "(II)I"⟩ ⟨"CopyHeapModel", "about", "(II)I"⟩ : Cond) ∈ gT := List.mem_filter.mpr ⟨List.mem_append_right _ (List.mem_of_getElem? (i := 433) (by decide +kernel)), by decide +kernel⟩
theorem g_434 : (.code ⟨"CopyHeapModel", "about", "(II)I"⟩ prog_4_method_18_code 5 (some .int) : Cond) ∈ gT := List.mem_filter.mpr ⟨List.mem_append_right _ (List.mem_of_getElem? (i := 434) (by decide +kernel)), by decide +kernel⟩
theorem g_435 : (.methodLink "CopyHeapLaw" 94 ⟨"CopyHeapModel", "look", "(II)I"⟩ : Cond) ∈ gT := List.mem_filter.mpr ⟨List.mem_append_right _ (List.mem_of_getElem? (i := 435) (by decide +kernel)), by decide +kernel⟩
theorem g_436 : (.instanceMethod ⟨"CopyHeapModel", "look", "(II)I"⟩ : Cond) ∈ gT := List.mem_filter.mpr ⟨List.mem_append_right _ (List.mem_of_getElem? (i := 436) (by decide +kernel)), by decide +kernel⟩
theorem g_437 : (.selects "CopyHeapModel" ⟨"CopyHeapModel", "look", "(II)I"⟩ ⟨"CopyHeapModel", "look", "(II)I"⟩ : Cond) ∈ gT := List.mem_filter.mpr ⟨List.mem_append_right _ (List.mem_of_getElem? (i := 437) (by decide +kernel)), by decide +kernel⟩
theorem g_438 : (.code ⟨"CopyHeapModel", "look", "(II)I"⟩ prog_4_method_19_code 3 (some .int) : Cond) ∈ gT := List.mem_filter.mpr ⟨List.mem_append_right _ (List.mem_of_getElem? (i := 438) (by decide +kernel)), by decide +kernel⟩
theorem g_439 : (.methodLink "CopyHeapLaw" 98 ⟨"CopyHeapModel", "count", "(I)I"⟩ : Cond) ∈ gT := List.mem_filter.mpr ⟨List.mem_append_right _ (List.mem_of_getElem? (i := 439) (by decide +kernel)), by decide +kernel⟩
theorem g_440 : (.instanceMethod ⟨"CopyHeapModel", "count", "(I)I"⟩ : Cond) ∈ gT := List.mem_filter.mpr ⟨List.mem_append_right _ (List.mem_of_getElem? (i := 440) (by decide +kernel)), by decide +kernel⟩
theorem g_441 : (.selects "CopyHeapModel" ⟨"CopyHeapModel", "count", "(I)I"⟩ ⟨"CopyHeapModel", "count", "(I)I"⟩ : Cond) ∈ gT := List.mem_filter.mpr ⟨List.mem_append_right _ (List.mem_of_getElem? (i := 441) (by decide +kernel)), by decide +kernel⟩
theorem g_442 : (.code ⟨"CopyHeapModel", "count", "(I)I"⟩ prog_4_method_21_code 2 (some .int) : Cond) ∈ gT := List.mem_filter.mpr ⟨List.mem_append_right _ (List.mem_of_getElem? (i := 442) (by decide +kernel)), by decide +kernel⟩
theorem g_443 : (.methodLink "CopyHeapModel" 82 ⟨"CopyHeapModel", "objects", "()I"⟩ : Cond) ∈ gT := List.mem_filter.mpr ⟨List.mem_append_right _ (List.mem_of_getElem? (i := 443) (by decide +kernel)), by decide +kernel⟩
theorem g_445 : (.instanceMethod ⟨"CopyHeapModel", "objects", "()I"⟩ : Cond) ∈ gT := List.mem_filter.mpr ⟨List.mem_append_right _ (List.mem_of_getElem? (i := 445) (by decide +kernel)), by decide +kernel⟩
theorem g_446 : (.code ⟨"CopyHeapModel", "objects", "()I"⟩ prog_4_method_20_code 3 (some .int) : Cond) ∈ gT := List.mem_filter.mpr ⟨List.mem_append_right _ (List.mem_of_getElem? (i := 446) (by decide +kernel)), by decide +kernel⟩
theorem g_447 : (.arrayClass .long : Cond) ∈ gT := List.mem_filter.mpr ⟨List.mem_append_right _ (List.mem_of_getElem? (i := 447) (by decide +kernel)), by decide +kernel⟩
theorem g_448 : (.sameMethod "java/lang/Throwable" "java/lang/Throwable" "fillInStackTrace" "(I)Ljava/lang/Throwable;" : Cond) ∈ gT := List.mem_filter.mpr ⟨List.mem_append_right _ (List.mem_of_getElem? (i := 448) (by decide +kernel)), by decide +kernel⟩
theorem gs_0 : (.selects "CopyHeap" ⟨"CopyHeap", "moveToSpare", "()V"⟩ ⟨"CopyHeap", "moveToSpare", "()V"⟩ : Cond) ∈ gT := List.mem_filter.mpr ⟨List.mem_append_left _ (List.mem_of_getElem? (i := 0) (by decide +kernel)), by decide +kernel⟩
theorem gs_1 : (.selects "CopyHeap$Half" ⟨"CopyHeap$Half", "moveObject", "(ILCopyHeap$Half;)I"⟩ ⟨"CopyHeap$Half", "moveObject", "(ILCopyHeap$Half;)I"⟩ : Cond) ∈ gT := List.mem_filter.mpr ⟨List.mem_append_left _ (List.mem_of_getElem? (i := 1) (by decide +kernel)), by decide +kernel⟩
theorem gs_2 : (.selects "CopyHeap$Half" ⟨"CopyHeap$Half", "addWord", "(I)V"⟩ ⟨"CopyHeap$Half", "addWord", "(I)V"⟩ : Cond) ∈ gT := List.mem_filter.mpr ⟨List.mem_append_left _ (List.mem_of_getElem? (i := 2) (by decide +kernel)), by decide +kernel⟩
theorem gs_3 : (.selects "java/lang/Throwable" ⟨"java/lang/Throwable", "fillInStackTrace", "(I)Ljava/lang/Throwable;"⟩ ⟨"java/lang/Throwable", "fillInStackTrace", "(I)Ljava/lang/Throwable;"⟩ : Cond) ∈ gT := List.mem_filter.mpr ⟨List.mem_append_left _ (List.mem_of_getElem? (i := 3) (by decide +kernel)), by decide +kernel⟩
theorem gs_4 : (.selects "CopyHeap" ⟨"CopyHeap", "objectOf", "(I)I"⟩ ⟨"CopyHeap", "objectOf", "(I)I"⟩ : Cond) ∈ gT := List.mem_filter.mpr ⟨List.mem_append_left _ (List.mem_of_getElem? (i := 4) (by decide +kernel)), by decide +kernel⟩
theorem gs_5 : (.selects "CopyHeap" ⟨"CopyHeap", "requireField", "(II)V"⟩ ⟨"CopyHeap", "requireField", "(II)V"⟩ : Cond) ∈ gT := List.mem_filter.mpr ⟨List.mem_append_left _ (List.mem_of_getElem? (i := 5) (by decide +kernel)), by decide +kernel⟩
theorem gs_6 : (.selects "CopyHeapModel" ⟨"CopyHeapModel", "gather", "()I"⟩ ⟨"CopyHeapModel", "gather", "()I"⟩ : Cond) ∈ gT := List.mem_filter.mpr ⟨List.mem_append_left _ (List.mem_of_getElem? (i := 6) (by decide +kernel)), by decide +kernel⟩
theorem gs_7 : (.selects "CopyHeapModel" ⟨"CopyHeapModel", "keep", "(I)V"⟩ ⟨"CopyHeapModel", "keep", "(I)V"⟩ : Cond) ∈ gT := List.mem_filter.mpr ⟨List.mem_append_left _ (List.mem_of_getElem? (i := 7) (by decide +kernel)), by decide +kernel⟩
theorem gs_8 : (.selects "CopyHeapModel" ⟨"CopyHeapModel", "fieldsAt", "(I)I"⟩ ⟨"CopyHeapModel", "fieldsAt", "(I)I"⟩ : Cond) ∈ gT := List.mem_filter.mpr ⟨List.mem_append_left _ (List.mem_of_getElem? (i := 8) (by decide +kernel)), by decide +kernel⟩
theorem gs_9 : (.selects "CopyHeapModel" ⟨"CopyHeapModel", "fail", "(I)I"⟩ ⟨"CopyHeapModel", "fail", "(I)I"⟩ : Cond) ∈ gT := List.mem_filter.mpr ⟨List.mem_append_left _ (List.mem_of_getElem? (i := 9) (by decide +kernel)), by decide +kernel⟩
theorem gs_10 : (.selects "CopyHeapModel" ⟨"CopyHeapModel", "isRaw", "(I)Z"⟩ ⟨"CopyHeapModel", "isRaw", "(I)Z"⟩ : Cond) ∈ gT := List.mem_filter.mpr ⟨List.mem_append_left _ (List.mem_of_getElem? (i := 10) (by decide +kernel)), by decide +kernel⟩
theorem gs_11 : (.selects "CopyHeapModel" ⟨"CopyHeapModel", "hasField", "(II)Z"⟩ ⟨"CopyHeapModel", "hasField", "(II)Z"⟩ : Cond) ∈ gT := List.mem_filter.mpr ⟨List.mem_append_left _ (List.mem_of_getElem? (i := 11) (by decide +kernel)), by decide +kernel⟩
theorem gs_12 : (.selects "CopyHeapModel" ⟨"CopyHeapModel", "objects", "()I"⟩ ⟨"CopyHeapModel", "objects", "()I"⟩ : Cond) ∈ gT := List.mem_filter.mpr ⟨List.mem_append_left _ (List.mem_of_getElem? (i := 12) (by decide +kernel)), by decide +kernel⟩
abbrev cX1_init : ByteArray := prog_1_method_1_code
abbrev yX1_init : MethodName := ⟨"CopyHeap", "<init>", "(I)V"⟩
abbrev kX1_init : Cond := .code yX1_init cX1_init 2 none
theorem kinX1_init : kX1_init ∈ gT := g_14
theorem kTX1_init : ∀ w ∈ kX1_init :: gT, w ∈ gT := fun w h => (List.mem_cons.mp h).elim (fun e => by rw [e]; exact kinX1_init) id
abbrev cX0_init : ByteArray := prog_2_method_1_code
abbrev yX0_init : MethodName := ⟨"CopyHeap$Half", "<init>", "(I)V"⟩
abbrev kX0_init : Cond := .code yX0_init cX0_init 2 none
theorem kinX0_init : kX0_init ∈ gT := g_22
theorem kTX0_init : ∀ w ∈ kX0_init :: gT, w ∈ gT := fun w h => (List.mem_cons.mp h).elim (fun e => by rw [e]; exact kinX0_init) id
abbrev cX1_collect : ByteArray := prog_1_method_8_code
abbrev yX1_collect : MethodName := ⟨"CopyHeap", "collect", "()I"⟩
abbrev kX1_collect : Cond := .code yX1_collect cX1_collect 1 (some .int)
theorem kinX1_collect : kX1_collect ∈ gT := g_57
theorem kTX1_collect : ∀ w ∈ kX1_collect :: gT, w ∈ gT := fun w h => (List.mem_cons.mp h).elim (fun e => by rw [e]; exact kinX1_collect) id
abbrev cX1_moveToSpare : ByteArray := prog_1_method_19_code
abbrev yX1_moveToSpare : MethodName := ⟨"CopyHeap", "moveToSpare", "()V"⟩
abbrev kX1_moveToSpare : Cond := .code yX1_moveToSpare cX1_moveToSpare 4 none
theorem kinX1_moveToSpare : kX1_moveToSpare ∈ gT := g_61
theorem kTX1_moveToSpare : ∀ w ∈ kX1_moveToSpare :: gT, w ∈ gT := fun w h => (List.mem_cons.mp h).elim (fun e => by rw [e]; exact kinX1_moveToSpare) id
abbrev cX0_empty : ByteArray := prog_2_method_2_code
abbrev yX0_empty : MethodName := ⟨"CopyHeap$Half", "empty", "()V"⟩
abbrev kX0_empty : Cond := .code yX0_empty cX0_empty 1 none
theorem kinX0_empty : kX0_empty ∈ gT := g_65
theorem kTX0_empty : ∀ w ∈ kX0_empty :: gT, w ∈ gT := fun w h => (List.mem_cons.mp h).elim (fun e => by rw [e]; exact kinX0_empty) id
abbrev cX0_movedValue : ByteArray := prog_2_method_12_code
abbrev yX0_movedValue : MethodName := ⟨"CopyHeap$Half", "movedValue", "(ILCopyHeap$Half;)I"⟩
abbrev kX0_movedValue : Cond := .code yX0_movedValue cX0_movedValue 4 (some .int)
theorem kinX0_movedValue : kX0_movedValue ∈ gT := g_69
theorem kTX0_movedValue : ∀ w ∈ kX0_movedValue :: gT, w ∈ gT := fun w h => (List.mem_cons.mp h).elim (fun e => by rw [e]; exact kinX0_movedValue) id
abbrev cX1_isReference : ByteArray := prog_1_method_14_code
abbrev yX1_isReference : MethodName := ⟨"CopyHeap", "isReference", "(I)Z"⟩
abbrev kX1_isReference : Cond := .code yX1_isReference cX1_isReference 1 (some .boolean)
theorem kinX1_isReference : kX1_isReference ∈ gT := g_72
theorem kTX1_isReference : ∀ w ∈ kX1_isReference :: gT, w ∈ gT := fun w h => (List.mem_cons.mp h).elim (fun e => by rw [e]; exact kinX1_isReference) id
abbrev cX1_content : ByteArray := prog_1_method_15_code
abbrev yX1_content : MethodName := ⟨"CopyHeap", "content", "(I)I"⟩
abbrev kX1_content : Cond := .code yX1_content cX1_content 1 (some .int)
theorem kinX1_content : kX1_content ∈ gT := g_75
theorem kTX1_content : ∀ w ∈ kX1_content :: gT, w ∈ gT := fun w h => (List.mem_cons.mp h).elim (fun e => by rw [e]; exact kinX1_content) id
abbrev cX0_wordAt : ByteArray := prog_2_method_5_code
abbrev yX0_wordAt : MethodName := ⟨"CopyHeap$Half", "wordAt", "(I)I"⟩
abbrev kX0_wordAt : Cond := .code yX0_wordAt cX0_wordAt 2 (some .int)
theorem kinX0_wordAt : kX0_wordAt ∈ gT := g_79
theorem kTX0_wordAt : ∀ w ∈ kX0_wordAt :: gT, w ∈ gT := fun w h => (List.mem_cons.mp h).elim (fun e => by rw [e]; exact kinX0_wordAt) id
abbrev cX0_moveObject : ByteArray := prog_2_method_13_code
abbrev yX0_moveObject : MethodName := ⟨"CopyHeap$Half", "moveObject", "(ILCopyHeap$Half;)I"⟩
abbrev kX0_moveObject : Cond := .code yX0_moveObject cX0_moveObject 6 (some .int)
theorem kinX0_moveObject : kX0_moveObject ∈ gT := g_83
theorem kTX0_moveObject : ∀ w ∈ kX0_moveObject :: gT, w ∈ gT := fun w h => (List.mem_cons.mp h).elim (fun e => by rw [e]; exact kinX0_moveObject) id
abbrev cX0_fieldsAt : ByteArray := prog_2_method_8_code
abbrev yX0_fieldsAt : MethodName := ⟨"CopyHeap$Half", "fieldsAt", "(I)I"⟩
abbrev kX0_fieldsAt : Cond := .code yX0_fieldsAt cX0_fieldsAt 2 (some .int)
theorem kinX0_fieldsAt : kX0_fieldsAt ∈ gT := g_87
theorem kTX0_fieldsAt : ∀ w ∈ kX0_fieldsAt :: gT, w ∈ gT := fun w h => (List.mem_cons.mp h).elim (fun e => by rw [e]; exact kinX0_fieldsAt) id
abbrev cX0_addWord : ByteArray := prog_2_method_11_code
abbrev yX0_addWord : MethodName := ⟨"CopyHeap$Half", "addWord", "(I)V"⟩
abbrev kX0_addWord : Cond := .code yX0_addWord cX0_addWord 2 none
theorem kinX0_addWord : kX0_addWord ∈ gT := g_91
theorem kTX0_addWord : ∀ w ∈ kX0_addWord :: gT, w ∈ gT := fun w h => (List.mem_cons.mp h).elim (fun e => by rw [e]; exact kinX0_addWord) id
abbrev cX0_setWord : ByteArray := prog_2_method_6_code
abbrev yX0_setWord : MethodName := ⟨"CopyHeap$Half", "setWord", "(II)V"⟩
abbrev kX0_setWord : Cond := .code yX0_setWord cX0_setWord 3 none
theorem kinX0_setWord : kX0_setWord ∈ gT := g_95
theorem kTX0_setWord : ∀ w ∈ kX0_setWord :: gT, w ∈ gT := fun w h => (List.mem_cons.mp h).elim (fun e => by rw [e]; exact kinX0_setWord) id
abbrev cX1_asReference : ByteArray := prog_1_method_13_code
abbrev yX1_asReference : MethodName := ⟨"CopyHeap", "asReference", "(I)I"⟩
abbrev kX1_asReference : Cond := .code yX1_asReference cX1_asReference 1 (some .int)
theorem kinX1_asReference : kX1_asReference ∈ gT := g_98
theorem kTX1_asReference : ∀ w ∈ kX1_asReference :: gT, w ∈ gT := fun w h => (List.mem_cons.mp h).elim (fun e => by rw [e]; exact kinX1_asReference) id
abbrev cX1_moveWhatFieldsReferTo : ByteArray := prog_1_method_20_code
abbrev yX1_moveWhatFieldsReferTo : MethodName := ⟨"CopyHeap", "moveWhatFieldsReferTo", "(LCopyHeap$Half;LCopyHeap$Half;)V"⟩
abbrev kX1_moveWhatFieldsReferTo : Cond := .code yX1_moveWhatFieldsReferTo cX1_moveWhatFieldsReferTo 5 none
theorem kinX1_moveWhatFieldsReferTo : kX1_moveWhatFieldsReferTo ∈ gT := g_101
theorem kTX1_moveWhatFieldsReferTo : ∀ w ∈ kX1_moveWhatFieldsReferTo :: gT, w ∈ gT := fun w h => (List.mem_cons.mp h).elim (fun e => by rw [e]; exact kinX1_moveWhatFieldsReferTo) id
abbrev cX0_kindAt : ByteArray := prog_2_method_7_code
abbrev yX0_kindAt : MethodName := ⟨"CopyHeap$Half", "kindAt", "(I)I"⟩
abbrev kX0_kindAt : Cond := .code yX0_kindAt cX0_kindAt 2 (some .int)
theorem kinX0_kindAt : kX0_kindAt ∈ gT := g_105
theorem kTX0_kindAt : ∀ w ∈ kX0_kindAt :: gT, w ∈ gT := fun w h => (List.mem_cons.mp h).elim (fun e => by rw [e]; exact kinX0_kindAt) id
abbrev cL_cell : ByteArray := method_2_code
abbrev yL_cell : MethodName := ⟨"CopyHeapLaw", "cell", "([II)I"⟩
abbrev kL_cell : Cond := .code yL_cell cL_cell 2 (some .int)
theorem kinL_cell : kL_cell ∈ gT := g_111
theorem kTL_cell : ∀ w ∈ kL_cell :: gT, w ∈ gT := fun w h => (List.mem_cons.mp h).elim (fun e => by rw [e]; exact kinL_cell) id
abbrev cL_make : ByteArray := method_3_code
abbrev yL_make : MethodName := ⟨"CopyHeapLaw", "make", "(LCopyHeap;III[J)I"⟩
abbrev kL_make : Cond := .codeWith yL_make cL_make 6 (some .int) [(0, 12, 15, 13), (0, 12, 19, 15)]
theorem kinL_make : kL_make ∈ gT := g_114
theorem kTL_make : ∀ w ∈ kL_make :: gT, w ∈ gT := fun w h => (List.mem_cons.mp h).elim (fun e => by rw [e]; exact kinL_make) id
abbrev cX1_make : ByteArray := prog_1_method_2_code
abbrev yX1_make : MethodName := ⟨"CopyHeap", "make", "(III)I"⟩
abbrev kX1_make : Cond := .code yX1_make cX1_make 5 (some .int)
theorem kinX1_make : kX1_make ∈ gT := g_120
theorem kTX1_make : ∀ w ∈ kX1_make :: gT, w ∈ gT := fun w h => (List.mem_cons.mp h).elim (fun e => by rw [e]; exact kinX1_make) id
abbrev cX1_requireRegister : ByteArray := prog_1_method_16_code
abbrev yX1_requireRegister : MethodName := ⟨"CopyHeap", "requireRegister", "(I)V"⟩
abbrev kX1_requireRegister : Cond := .code yX1_requireRegister cX1_requireRegister 1 none
theorem kinX1_requireRegister : kX1_requireRegister ∈ gT := g_123
theorem kTX1_requireRegister : ∀ w ∈ kX1_requireRegister :: gT, w ∈ gT := fun w h => (List.mem_cons.mp h).elim (fun e => by rw [e]; exact kinX1_requireRegister) id
abbrev cX0_hasRoomFor : ByteArray := prog_2_method_3_code
abbrev yX0_hasRoomFor : MethodName := ⟨"CopyHeap$Half", "hasRoomFor", "(I)Z"⟩
abbrev kX0_hasRoomFor : Cond := .code yX0_hasRoomFor cX0_hasRoomFor 2 (some .boolean)
theorem kinX0_hasRoomFor : kX0_hasRoomFor ∈ gT := g_196
theorem kTX0_hasRoomFor : ∀ w ∈ kX0_hasRoomFor :: gT, w ∈ gT := fun w h => (List.mem_cons.mp h).elim (fun e => by rw [e]; exact kinX0_hasRoomFor) id
abbrev cX0_addObject : ByteArray := prog_2_method_10_code
abbrev yX0_addObject : MethodName := ⟨"CopyHeap$Half", "addObject", "(II)I"⟩
abbrev kX0_addObject : Cond := .code yX0_addObject cX0_addObject 5 (some .int)
theorem kinX0_addObject : kX0_addObject ∈ gT := g_216
theorem kTX0_addObject : ∀ w ∈ kX0_addObject :: gT, w ∈ gT := fun w h => (List.mem_cons.mp h).elim (fun e => by rw [e]; exact kinX0_addObject) id
abbrev cL_number : ByteArray := method_4_code
abbrev yL_number : MethodName := ⟨"CopyHeapLaw", "number", "(LCopyHeap;II[J)I"⟩
abbrev kL_number : Cond := .codeWith yL_number cL_number 5 (some .int) [(0, 10, 13, 13)]
theorem kinL_number : kL_number ∈ gT := g_220
theorem kTL_number : ∀ w ∈ kL_number :: gT, w ∈ gT := fun w h => (List.mem_cons.mp h).elim (fun e => by rw [e]; exact kinL_number) id
abbrev cX1_number : ByteArray := prog_1_method_3_code
abbrev yX1_number : MethodName := ⟨"CopyHeap", "number", "(II)I"⟩
abbrev kX1_number : Cond := .code yX1_number cX1_number 3 (some .int)
theorem kinX1_number : kX1_number ∈ gT := g_224
theorem kTX1_number : ∀ w ∈ kX1_number :: gT, w ∈ gT := fun w h => (List.mem_cons.mp h).elim (fun e => by rw [e]; exact kinX1_number) id
abbrev cX1_asNumber : ByteArray := prog_1_method_12_code
abbrev yX1_asNumber : MethodName := ⟨"CopyHeap", "asNumber", "(I)I"⟩
abbrev kX1_asNumber : Cond := .code yX1_asNumber cX1_asNumber 1 (some .int)
theorem kinX1_asNumber : kX1_asNumber ∈ gT := g_227
theorem kTX1_asNumber : ∀ w ∈ kX1_asNumber :: gT, w ∈ gT := fun w h => (List.mem_cons.mp h).elim (fun e => by rw [e]; exact kinX1_asNumber) id
abbrev cL_copy : ByteArray := method_5_code
abbrev yL_copy : MethodName := ⟨"CopyHeapLaw", "copy", "(LCopyHeap;II[J)I"⟩
abbrev kL_copy : Cond := .codeWith yL_copy cL_copy 5 (some .int) [(0, 17, 20, 13)]
theorem kinL_copy : kL_copy ∈ gT := g_231
theorem kTL_copy : ∀ w ∈ kL_copy :: gT, w ∈ gT := fun w h => (List.mem_cons.mp h).elim (fun e => by rw [e]; exact kinL_copy) id
abbrev cX1_copy : ByteArray := prog_1_method_4_code
abbrev yX1_copy : MethodName := ⟨"CopyHeap", "copy", "(II)Z"⟩
abbrev kX1_copy : Cond := .code yX1_copy cX1_copy 3 (some .boolean)
theorem kinX1_copy : kX1_copy ∈ gT := g_235
theorem kTX1_copy : ∀ w ∈ kX1_copy :: gT, w ∈ gT := fun w h => (List.mem_cons.mp h).elim (fun e => by rw [e]; exact kinX1_copy) id
abbrev cL_put : ByteArray := method_6_code
abbrev yL_put : MethodName := ⟨"CopyHeapLaw", "put", "(LCopyHeap;III)I"⟩
abbrev kL_put : Cond := .codeWith yL_put cL_put 5 (some .int) [(0, 7, 10, 13), (0, 7, 14, 15), (0, 7, 18, 29)]
theorem kinL_put : kL_put ∈ gT := g_239
theorem kTL_put : ∀ w ∈ kL_put :: gT, w ∈ gT := fun w h => (List.mem_cons.mp h).elim (fun e => by rw [e]; exact kinL_put) id
abbrev cX1_put : ByteArray := prog_1_method_5_code
abbrev yX1_put : MethodName := ⟨"CopyHeap", "put", "(III)V"⟩
abbrev kX1_put : Cond := .code yX1_put cX1_put 7 none
theorem kinX1_put : kX1_put ∈ gT := g_244
theorem kTX1_put : ∀ w ∈ kX1_put :: gT, w ∈ gT := fun w h => (List.mem_cons.mp h).elim (fun e => by rw [e]; exact kinX1_put) id
abbrev cX1_objectOf : ByteArray := prog_1_method_18_code
abbrev yX1_objectOf : MethodName := ⟨"CopyHeap", "objectOf", "(I)I"⟩
abbrev kX1_objectOf : Cond := .code yX1_objectOf cX1_objectOf 3 (some .int)
theorem kinX1_objectOf : kX1_objectOf ∈ gT := g_248
theorem kTX1_objectOf : ∀ w ∈ kX1_objectOf :: gT, w ∈ gT := fun w h => (List.mem_cons.mp h).elim (fun e => by rw [e]; exact kinX1_objectOf) id
abbrev cX1_requireField : ByteArray := prog_1_method_17_code
abbrev yX1_requireField : MethodName := ⟨"CopyHeap", "requireField", "(II)V"⟩
abbrev kX1_requireField : Cond := .code yX1_requireField cX1_requireField 3 none
theorem kinX1_requireField : kX1_requireField ∈ gT := g_254
theorem kTX1_requireField : ∀ w ∈ kX1_requireField :: gT, w ∈ gT := fun w h => (List.mem_cons.mp h).elim (fun e => by rw [e]; exact kinX1_requireField) id
abbrev cL_raw : ByteArray := method_7_code
abbrev yL_raw : MethodName := ⟨"CopyHeapLaw", "raw", "(LCopyHeap;III[J)I"⟩
abbrev kL_raw : Cond := .codeWith yL_raw cL_raw 6 (some .int) [(0, 12, 15, 13), (0, 12, 19, 15), (0, 12, 23, 29)]
theorem kinL_raw : kL_raw ∈ gT := g_273
theorem kTL_raw : ∀ w ∈ kL_raw :: gT, w ∈ gT := fun w h => (List.mem_cons.mp h).elim (fun e => by rw [e]; exact kinL_raw) id
abbrev cX1_raw : ByteArray := prog_1_method_6_code
abbrev yX1_raw : MethodName := ⟨"CopyHeap", "raw", "(III)I"⟩
abbrev kX1_raw : Cond := .code yX1_raw cX1_raw 6 (some .int)
theorem kinX1_raw : kX1_raw ∈ gT := g_277
theorem kTX1_raw : ∀ w ∈ kX1_raw :: gT, w ∈ gT := fun w h => (List.mem_cons.mp h).elim (fun e => by rw [e]; exact kinX1_raw) id
abbrev cL_get : ByteArray := method_8_code
abbrev yL_get : MethodName := ⟨"CopyHeapLaw", "get", "(LCopyHeap;III[J)I"⟩
abbrev kL_get : Cond := .codeWith yL_get cL_get 6 (some .int) [(0, 19, 22, 13), (0, 19, 26, 15), (0, 19, 30, 29)]
theorem kinL_get : kL_get ∈ gT := g_281
theorem kTL_get : ∀ w ∈ kL_get :: gT, w ∈ gT := fun w h => (List.mem_cons.mp h).elim (fun e => by rw [e]; exact kinL_get) id
abbrev cX1_get : ByteArray := prog_1_method_7_code
abbrev yX1_get : MethodName := ⟨"CopyHeap", "get", "(III)Z"⟩
abbrev kX1_get : Cond := .code yX1_get cX1_get 6 (some .boolean)
theorem kinX1_get : kX1_get ∈ gT := g_285
theorem kTX1_get : ∀ w ∈ kX1_get :: gT, w ∈ gT := fun w h => (List.mem_cons.mp h).elim (fun e => by rw [e]; exact kinX1_get) id
abbrev cL_about : ByteArray := method_9_code
abbrev yL_about : MethodName := ⟨"CopyHeapLaw", "about", "(LCopyHeap;II[J)I"⟩
abbrev kL_about : Cond := .codeWith yL_about cL_about 5 (some .int) [(0, 10, 13, 13), (0, 10, 17, 29)]
theorem kinL_about : kL_about ∈ gT := g_288
theorem kTL_about : ∀ w ∈ kL_about :: gT, w ∈ gT := fun w h => (List.mem_cons.mp h).elim (fun e => by rw [e]; exact kinL_about) id
abbrev cX1_about : ByteArray := prog_1_method_9_code
abbrev yX1_about : MethodName := ⟨"CopyHeap", "about", "(II)I"⟩
abbrev kX1_about : Cond := .code yX1_about cX1_about 6 (some .int)
theorem kinX1_about : kX1_about ∈ gT := g_292
theorem kTX1_about : ∀ w ∈ kX1_about :: gT, w ∈ gT := fun w h => (List.mem_cons.mp h).elim (fun e => by rw [e]; exact kinX1_about) id
abbrev cL_look : ByteArray := method_10_code
abbrev yL_look : MethodName := ⟨"CopyHeapLaw", "look", "(LCopyHeap;II[J)I"⟩
abbrev kL_look : Cond := .codeWith yL_look cL_look 5 (some .int) [(0, 10, 13, 29)]
theorem kinL_look : kL_look ∈ gT := g_296
theorem kTL_look : ∀ w ∈ kL_look :: gT, w ∈ gT := fun w h => (List.mem_cons.mp h).elim (fun e => by rw [e]; exact kinL_look) id
abbrev cX1_look : ByteArray := prog_1_method_10_code
abbrev yX1_look : MethodName := ⟨"CopyHeap", "look", "(II)I"⟩
abbrev kX1_look : Cond := .code yX1_look cX1_look 5 (some .int)
theorem kinX1_look : kX1_look ∈ gT := g_300
theorem kTX1_look : ∀ w ∈ kX1_look :: gT, w ∈ gT := fun w h => (List.mem_cons.mp h).elim (fun e => by rw [e]; exact kinX1_look) id
abbrev cX0_holds : ByteArray := prog_2_method_4_code
abbrev yX0_holds : MethodName := ⟨"CopyHeap$Half", "holds", "(I)Z"⟩
abbrev kX0_holds : Cond := .code yX0_holds cX0_holds 2 (some .boolean)
theorem kinX0_holds : kX0_holds ∈ gT := g_304
theorem kTX0_holds : ∀ w ∈ kX0_holds :: gT, w ∈ gT := fun w h => (List.mem_cons.mp h).elim (fun e => by rw [e]; exact kinX0_holds) id
abbrev cX0_sortAt : ByteArray := prog_2_method_9_code
abbrev yX0_sortAt : MethodName := ⟨"CopyHeap$Half", "sortAt", "(I)I"⟩
abbrev kX0_sortAt : Cond := .code yX0_sortAt cX0_sortAt 5 (some .int)
theorem kinX0_sortAt : kX0_sortAt ∈ gT := g_309
theorem kTX0_sortAt : ∀ w ∈ kX0_sortAt :: gT, w ∈ gT := fun w h => (List.mem_cons.mp h).elim (fun e => by rw [e]; exact kinX0_sortAt) id
abbrev cL_count : ByteArray := method_11_code
abbrev yL_count : MethodName := ⟨"CopyHeapLaw", "count", "(LCopyHeap;I[J)I"⟩
abbrev kL_count : Cond := .codeWith yL_count cL_count 4 (some .int) [(0, 9, 12, 29)]
theorem kinL_count : kL_count ∈ gT := g_314
theorem kTL_count : ∀ w ∈ kL_count :: gT, w ∈ gT := fun w h => (List.mem_cons.mp h).elim (fun e => by rw [e]; exact kinL_count) id
abbrev cX1_count : ByteArray := prog_1_method_11_code
abbrev yX1_count : MethodName := ⟨"CopyHeap", "count", "(I)I"⟩
abbrev kX1_count : Cond := .code yX1_count cX1_count 2 (some .int)
theorem kinX1_count : kX1_count ∈ gT := g_318
theorem kTX1_count : ∀ w ∈ kX1_count :: gT, w ∈ gT := fun w h => (List.mem_cons.mp h).elim (fun e => by rw [e]; exact kinX1_count) id
abbrev cX2_init : ByteArray := prog_4_method_1_code
abbrev yX2_init : MethodName := ⟨"CopyHeapModel", "<init>", "(I)V"⟩
abbrev kX2_init : Cond := .code yX2_init cX2_init 3 none
theorem kinX2_init : kX2_init ∈ gT := g_324
theorem kTX2_init : ∀ w ∈ kX2_init :: gT, w ∈ gT := fun w h => (List.mem_cons.mp h).elim (fun e => by rw [e]; exact kinX2_init) id
abbrev cX2_thrown : ByteArray := prog_4_method_2_code
abbrev yX2_thrown : MethodName := ⟨"CopyHeapModel", "thrown", "()I"⟩
abbrev kX2_thrown : Cond := .code yX2_thrown cX2_thrown 1 (some .int)
theorem kinX2_thrown : kX2_thrown ∈ gT := g_372
theorem kTX2_thrown : ∀ w ∈ kX2_thrown :: gT, w ∈ gT := fun w h => (List.mem_cons.mp h).elim (fun e => by rw [e]; exact kinX2_thrown) id
abbrev cX2_collect : ByteArray := prog_4_method_9_code
abbrev yX2_collect : MethodName := ⟨"CopyHeapModel", "collect", "()I"⟩
abbrev kX2_collect : Cond := .code yX2_collect cX2_collect 1 (some .int)
theorem kinX2_collect : kX2_collect ∈ gT := g_376
theorem kTX2_collect : ∀ w ∈ kX2_collect :: gT, w ∈ gT := fun w h => (List.mem_cons.mp h).elim (fun e => by rw [e]; exact kinX2_collect) id
abbrev cX2_gather : ByteArray := prog_4_method_8_code
abbrev yX2_gather : MethodName := ⟨"CopyHeapModel", "gather", "()I"⟩
abbrev kX2_gather : Cond := .code yX2_gather cX2_gather 6 (some .int)
theorem kinX2_gather : kX2_gather ∈ gT := g_380
theorem kTX2_gather : ∀ w ∈ kX2_gather :: gT, w ∈ gT := fun w h => (List.mem_cons.mp h).elim (fun e => by rw [e]; exact kinX2_gather) id
abbrev cX2_keep : ByteArray := prog_4_method_7_code
abbrev yX2_keep : MethodName := ⟨"CopyHeapModel", "keep", "(I)V"⟩
abbrev kX2_keep : Cond := .code yX2_keep cX2_keep 3 none
theorem kinX2_keep : kX2_keep ∈ gT := g_384
theorem kTX2_keep : ∀ w ∈ kX2_keep :: gT, w ∈ gT := fun w h => (List.mem_cons.mp h).elim (fun e => by rw [e]; exact kinX2_keep) id
abbrev cX2_fieldsAt : ByteArray := prog_4_method_6_code
abbrev yX2_fieldsAt : MethodName := ⟨"CopyHeapModel", "fieldsAt", "(I)I"⟩
abbrev kX2_fieldsAt : Cond := .code yX2_fieldsAt cX2_fieldsAt 2 (some .int)
theorem kinX2_fieldsAt : kX2_fieldsAt ∈ gT := g_388
theorem kTX2_fieldsAt : ∀ w ∈ kX2_fieldsAt :: gT, w ∈ gT := fun w h => (List.mem_cons.mp h).elim (fun e => by rw [e]; exact kinX2_fieldsAt) id
abbrev cX2_make : ByteArray := prog_4_method_10_code
abbrev yX2_make : MethodName := ⟨"CopyHeapModel", "make", "(III)I"⟩
abbrev kX2_make : Cond := .code yX2_make cX2_make 6 (some .int)
theorem kinX2_make : kX2_make ∈ gT := g_392
theorem kTX2_make : ∀ w ∈ kX2_make :: gT, w ∈ gT := fun w h => (List.mem_cons.mp h).elim (fun e => by rw [e]; exact kinX2_make) id
abbrev cX2_isRegister : ByteArray := prog_4_method_4_code
abbrev yX2_isRegister : MethodName := ⟨"CopyHeapModel", "isRegister", "(I)Z"⟩
abbrev kX2_isRegister : Cond := .code yX2_isRegister cX2_isRegister 1 (some .boolean)
theorem kinX2_isRegister : kX2_isRegister ∈ gT := g_395
theorem kTX2_isRegister : ∀ w ∈ kX2_isRegister :: gT, w ∈ gT := fun w h => (List.mem_cons.mp h).elim (fun e => by rw [e]; exact kinX2_isRegister) id
abbrev cX2_fail : ByteArray := prog_4_method_3_code
abbrev yX2_fail : MethodName := ⟨"CopyHeapModel", "fail", "(I)I"⟩
abbrev kX2_fail : Cond := .code yX2_fail cX2_fail 2 (some .int)
theorem kinX2_fail : kX2_fail ∈ gT := g_399
theorem kTX2_fail : ∀ w ∈ kX2_fail :: gT, w ∈ gT := fun w h => (List.mem_cons.mp h).elim (fun e => by rw [e]; exact kinX2_fail) id
abbrev cX2_number : ByteArray := prog_4_method_11_code
abbrev yX2_number : MethodName := ⟨"CopyHeapModel", "number", "(II)I"⟩
abbrev kX2_number : Cond := .code yX2_number cX2_number 3 (some .int)
theorem kinX2_number : kX2_number ∈ gT := g_403
theorem kTX2_number : ∀ w ∈ kX2_number :: gT, w ∈ gT := fun w h => (List.mem_cons.mp h).elim (fun e => by rw [e]; exact kinX2_number) id
abbrev cX2_kept : ByteArray := prog_4_method_5_code
abbrev yX2_kept : MethodName := ⟨"CopyHeapModel", "kept", "(I)I"⟩
abbrev kX2_kept : Cond := .code yX2_kept cX2_kept 1 (some .int)
theorem kinX2_kept : kX2_kept ∈ gT := g_406
theorem kTX2_kept : ∀ w ∈ kX2_kept :: gT, w ∈ gT := fun w h => (List.mem_cons.mp h).elim (fun e => by rw [e]; exact kinX2_kept) id
abbrev cX2_copy : ByteArray := prog_4_method_12_code
abbrev yX2_copy : MethodName := ⟨"CopyHeapModel", "copy", "(II)Z"⟩
abbrev kX2_copy : Cond := .code yX2_copy cX2_copy 3 (some .boolean)
theorem kinX2_copy : kX2_copy ∈ gT := g_410
theorem kTX2_copy : ∀ w ∈ kX2_copy :: gT, w ∈ gT := fun w h => (List.mem_cons.mp h).elim (fun e => by rw [e]; exact kinX2_copy) id
abbrev cX2_put : ByteArray := prog_4_method_15_code
abbrev yX2_put : MethodName := ⟨"CopyHeapModel", "put", "(III)V"⟩
abbrev kX2_put : Cond := .code yX2_put cX2_put 7 none
theorem kinX2_put : kX2_put ∈ gT := g_414
theorem kTX2_put : ∀ w ∈ kX2_put :: gT, w ∈ gT := fun w h => (List.mem_cons.mp h).elim (fun e => by rw [e]; exact kinX2_put) id
abbrev cX2_isRaw : ByteArray := prog_4_method_13_code
abbrev yX2_isRaw : MethodName := ⟨"CopyHeapModel", "isRaw", "(I)Z"⟩
abbrev kX2_isRaw : Cond := .code yX2_isRaw cX2_isRaw 2 (some .boolean)
theorem kinX2_isRaw : kX2_isRaw ∈ gT := g_418
theorem kTX2_isRaw : ∀ w ∈ kX2_isRaw :: gT, w ∈ gT := fun w h => (List.mem_cons.mp h).elim (fun e => by rw [e]; exact kinX2_isRaw) id
abbrev cX2_hasField : ByteArray := prog_4_method_14_code
abbrev yX2_hasField : MethodName := ⟨"CopyHeapModel", "hasField", "(II)Z"⟩
abbrev kX2_hasField : Cond := .code yX2_hasField cX2_hasField 3 (some .boolean)
theorem kinX2_hasField : kX2_hasField ∈ gT := g_422
theorem kTX2_hasField : ∀ w ∈ kX2_hasField :: gT, w ∈ gT := fun w h => (List.mem_cons.mp h).elim (fun e => by rw [e]; exact kinX2_hasField) id
abbrev cX2_raw : ByteArray := prog_4_method_16_code
abbrev yX2_raw : MethodName := ⟨"CopyHeapModel", "raw", "(III)I"⟩
abbrev kX2_raw : Cond := .code yX2_raw cX2_raw 6 (some .int)
theorem kinX2_raw : kX2_raw ∈ gT := g_426
theorem kTX2_raw : ∀ w ∈ kX2_raw :: gT, w ∈ gT := fun w h => (List.mem_cons.mp h).elim (fun e => by rw [e]; exact kinX2_raw) id
abbrev cX2_get : ByteArray := prog_4_method_17_code
abbrev yX2_get : MethodName := ⟨"CopyHeapModel", "get", "(III)Z"⟩
abbrev kX2_get : Cond := .code yX2_get cX2_get 7 (some .boolean)
theorem kinX2_get : kX2_get ∈ gT := g_430
theorem kTX2_get : ∀ w ∈ kX2_get :: gT, w ∈ gT := fun w h => (List.mem_cons.mp h).elim (fun e => by rw [e]; exact kinX2_get) id
abbrev cX2_about : ByteArray := prog_4_method_18_code
abbrev yX2_about : MethodName := ⟨"CopyHeapModel", "about", "(II)I"⟩
abbrev kX2_about : Cond := .code yX2_about cX2_about 5 (some .int)
theorem kinX2_about : kX2_about ∈ gT := g_434
theorem kTX2_about : ∀ w ∈ kX2_about :: gT, w ∈ gT := fun w h => (List.mem_cons.mp h).elim (fun e => by rw [e]; exact kinX2_about) id
abbrev cX2_look : ByteArray := prog_4_method_19_code
abbrev yX2_look : MethodName := ⟨"CopyHeapModel", "look", "(II)I"⟩
abbrev kX2_look : Cond := .code yX2_look cX2_look 3 (some .int)
theorem kinX2_look : kX2_look ∈ gT := g_438
theorem kTX2_look : ∀ w ∈ kX2_look :: gT, w ∈ gT := fun w h => (List.mem_cons.mp h).elim (fun e => by rw [e]; exact kinX2_look) id
abbrev cX2_count : ByteArray := prog_4_method_21_code
abbrev yX2_count : MethodName := ⟨"CopyHeapModel", "count", "(I)I"⟩
abbrev kX2_count : Cond := .code yX2_count cX2_count 2 (some .int)
theorem kinX2_count : kX2_count ∈ gT := g_442
theorem kTX2_count : ∀ w ∈ kX2_count :: gT, w ∈ gT := fun w h => (List.mem_cons.mp h).elim (fun e => by rw [e]; exact kinX2_count) id
abbrev cX2_objects : ByteArray := prog_4_method_20_code
abbrev yX2_objects : MethodName := ⟨"CopyHeapModel", "objects", "()I"⟩
abbrev kX2_objects : Cond := .code yX2_objects cX2_objects 3 (some .int)
theorem kinX2_objects : kX2_objects ∈ gT := g_446
theorem kTX2_objects : ∀ w ∈ kX2_objects :: gT, w ∈ gT := fun w h => (List.mem_cons.mp h).elim (fun e => by rw [e]; exact kinX2_objects) id
abbrev cL_law : ByteArray := code
abbrev yL_law : MethodName := ⟨"CopyHeapLaw", "law", "([I)Z"⟩
theorem gcL_54 : GoodIn gT (kX1_init :: gT) := gT_good kTX1_init
theorem gcX1_15 : GoodIn gT (kX0_init :: gT) := gT_good kTX0_init
theorem gcL_85 : GoodIn gT (wsV "CopyHeapLaw" 85 "CopyHeap" yX1_collect (kX1_collect :: gT)) := gT_good (List.forall_mem_append.mpr ⟨List.forall_mem_cons.mpr ⟨g_54, List.forall_mem_cons.mpr ⟨g_55, List.forall_mem_cons.mpr ⟨g_56, List.forall_mem_cons.mpr ⟨g_1, fun _ h => absurd h List.not_mem_nil⟩⟩⟩⟩, kTX1_collect⟩)
theorem gcX1_39 : GoodIn gT (wsV "CopyHeap" 39 "CopyHeap" yX1_moveToSpare (kX1_moveToSpare :: gT)) := gT_good (List.forall_mem_append.mpr ⟨List.forall_mem_cons.mpr ⟨g_58, List.forall_mem_cons.mpr ⟨g_60, List.forall_mem_cons.mpr ⟨gs_0, List.forall_mem_cons.mpr ⟨g_1, fun _ h => absurd h List.not_mem_nil⟩⟩⟩⟩, kTX1_moveToSpare⟩)
theorem gcX1_126 : GoodIn gT (wsV "CopyHeap" 126 "CopyHeap$Half" yX0_empty (kX0_empty :: gT)) := gT_good (List.forall_mem_append.mpr ⟨List.forall_mem_cons.mpr ⟨g_62, List.forall_mem_cons.mpr ⟨g_63, List.forall_mem_cons.mpr ⟨g_64, List.forall_mem_cons.mpr ⟨g_2, fun _ h => absurd h List.not_mem_nil⟩⟩⟩⟩, kTX0_empty⟩)
theorem gcX1_129 : GoodIn gT (wsV "CopyHeap" 129 "CopyHeap$Half" yX0_movedValue (kX0_movedValue :: gT)) := gT_good (List.forall_mem_append.mpr ⟨List.forall_mem_cons.mpr ⟨g_66, List.forall_mem_cons.mpr ⟨g_67, List.forall_mem_cons.mpr ⟨g_68, List.forall_mem_cons.mpr ⟨g_2, fun _ h => absurd h List.not_mem_nil⟩⟩⟩⟩, kTX0_movedValue⟩)
theorem gcX0_32 : GoodIn gT (kX1_isReference :: gT) := gT_good kTX1_isReference
theorem gcX0_44 : GoodIn gT (kX1_content :: gT) := gT_good kTX1_content
theorem gcX0_22 : GoodIn gT (wsV "CopyHeap$Half" 22 "CopyHeap$Half" yX0_wordAt (kX0_wordAt :: gT)) := gT_good (List.forall_mem_append.mpr ⟨List.forall_mem_cons.mpr ⟨g_76, List.forall_mem_cons.mpr ⟨g_77, List.forall_mem_cons.mpr ⟨g_78, List.forall_mem_cons.mpr ⟨g_2, fun _ h => absurd h List.not_mem_nil⟩⟩⟩⟩, kTX0_wordAt⟩)
theorem gcX0_47 : GoodIn gT (wsV "CopyHeap$Half" 47 "CopyHeap$Half" yX0_moveObject (kX0_moveObject :: gT)) := gT_good (List.forall_mem_append.mpr ⟨List.forall_mem_cons.mpr ⟨g_80, List.forall_mem_cons.mpr ⟨g_82, List.forall_mem_cons.mpr ⟨gs_1, List.forall_mem_cons.mpr ⟨g_2, fun _ h => absurd h List.not_mem_nil⟩⟩⟩⟩, kTX0_moveObject⟩)
theorem gcX0_26 : GoodIn gT (wsV "CopyHeap$Half" 26 "CopyHeap$Half" yX0_fieldsAt (kX0_fieldsAt :: gT)) := gT_good (List.forall_mem_append.mpr ⟨List.forall_mem_cons.mpr ⟨g_84, List.forall_mem_cons.mpr ⟨g_85, List.forall_mem_cons.mpr ⟨g_86, List.forall_mem_cons.mpr ⟨g_2, fun _ h => absurd h List.not_mem_nil⟩⟩⟩⟩, kTX0_fieldsAt⟩)
theorem gcX0_36 : GoodIn gT (wsV "CopyHeap$Half" 36 "CopyHeap$Half" yX0_addWord (kX0_addWord :: gT)) := gT_good (List.forall_mem_append.mpr ⟨List.forall_mem_cons.mpr ⟨g_88, List.forall_mem_cons.mpr ⟨g_90, List.forall_mem_cons.mpr ⟨gs_2, List.forall_mem_cons.mpr ⟨g_2, fun _ h => absurd h List.not_mem_nil⟩⟩⟩⟩, kTX0_addWord⟩)
theorem gcX0_40 : GoodIn gT (wsV "CopyHeap$Half" 40 "CopyHeap$Half" yX0_setWord (kX0_setWord :: gT)) := gT_good (List.forall_mem_append.mpr ⟨List.forall_mem_cons.mpr ⟨g_92, List.forall_mem_cons.mpr ⟨g_93, List.forall_mem_cons.mpr ⟨g_94, List.forall_mem_cons.mpr ⟨g_2, fun _ h => absurd h List.not_mem_nil⟩⟩⟩⟩, kTX0_setWord⟩)
theorem gcX0_51 : GoodIn gT (kX1_asReference :: gT) := gT_good kTX1_asReference
theorem gcX1_133 : GoodIn gT (wsS "CopyHeap" 133 yX1_moveWhatFieldsReferTo (kX1_moveWhatFieldsReferTo :: gT)) := gT_good (List.forall_mem_append.mpr ⟨List.forall_mem_cons.mpr ⟨g_99, List.forall_mem_cons.mpr ⟨g_100, List.forall_mem_cons.mpr ⟨g_1, fun _ h => absurd h List.not_mem_nil⟩⟩⟩, kTX1_moveWhatFieldsReferTo⟩)
theorem gcX1_67 : GoodIn gT (wsV "CopyHeap" 67 "CopyHeap$Half" yX0_kindAt (kX0_kindAt :: gT)) := gT_good (List.forall_mem_append.mpr ⟨List.forall_mem_cons.mpr ⟨g_102, List.forall_mem_cons.mpr ⟨g_103, List.forall_mem_cons.mpr ⟨g_104, List.forall_mem_cons.mpr ⟨g_2, fun _ h => absurd h List.not_mem_nil⟩⟩⟩⟩, kTX0_kindAt⟩)
theorem gcX1_88 : GoodIn gT (wsV "CopyHeap" 88 "CopyHeap$Half" yX0_fieldsAt (kX0_fieldsAt :: gT)) := gT_good (List.forall_mem_append.mpr ⟨List.forall_mem_cons.mpr ⟨g_106, List.forall_mem_cons.mpr ⟨g_85, List.forall_mem_cons.mpr ⟨g_86, List.forall_mem_cons.mpr ⟨g_2, fun _ h => absurd h List.not_mem_nil⟩⟩⟩⟩, kTX0_fieldsAt⟩)
theorem gcX1_81 : GoodIn gT (wsV "CopyHeap" 81 "CopyHeap$Half" yX0_wordAt (kX0_wordAt :: gT)) := gT_good (List.forall_mem_append.mpr ⟨List.forall_mem_cons.mpr ⟨g_107, List.forall_mem_cons.mpr ⟨g_77, List.forall_mem_cons.mpr ⟨g_78, List.forall_mem_cons.mpr ⟨g_2, fun _ h => absurd h List.not_mem_nil⟩⟩⟩⟩, kTX0_wordAt⟩)
theorem gcX1_76 : GoodIn gT (wsV "CopyHeap" 76 "CopyHeap$Half" yX0_setWord (kX0_setWord :: gT)) := gT_good (List.forall_mem_append.mpr ⟨List.forall_mem_cons.mpr ⟨g_108, List.forall_mem_cons.mpr ⟨g_93, List.forall_mem_cons.mpr ⟨g_94, List.forall_mem_cons.mpr ⟨g_2, fun _ h => absurd h List.not_mem_nil⟩⟩⟩⟩, kTX0_setWord⟩)
theorem gcL_48 : GoodIn gT (wsS "CopyHeapLaw" 48 yL_cell (kL_cell :: gT)) := gT_good (List.forall_mem_append.mpr ⟨List.forall_mem_cons.mpr ⟨g_109, List.forall_mem_cons.mpr ⟨g_110, List.forall_mem_cons.mpr ⟨g_0, fun _ h => absurd h List.not_mem_nil⟩⟩⟩, kTL_cell⟩)
theorem gcL_60 : GoodIn gT (va_wsS "CopyHeapLaw" 60 yL_make (kL_make :: gT)) := gT_good (fun w h => by
  unfold va_wsS at h
  rcases List.mem_append.mp h with h | h
  · revert w; decide +kernel
  · exact kTL_make w h)
theorem gcL_7 : GoodIn gT (wsV "CopyHeapLaw" 7 "CopyHeap" yX1_make (kX1_make :: gT)) := gT_good (List.forall_mem_append.mpr ⟨List.forall_mem_cons.mpr ⟨g_117, List.forall_mem_cons.mpr ⟨g_118, List.forall_mem_cons.mpr ⟨g_119, List.forall_mem_cons.mpr ⟨g_1, fun _ h => absurd h List.not_mem_nil⟩⟩⟩⟩, kTX1_make⟩)
theorem gcX1_25 : GoodIn gT (wsS "CopyHeap" 25 yX1_requireRegister (kX1_requireRegister :: gT)) := gT_good (List.forall_mem_append.mpr ⟨List.forall_mem_cons.mpr ⟨g_121, List.forall_mem_cons.mpr ⟨g_122, List.forall_mem_cons.mpr ⟨g_1, fun _ h => absurd h List.not_mem_nil⟩⟩⟩, kTX1_requireRegister⟩)
theorem gcX1_35 : GoodIn gT (wsV "CopyHeap" 35 "CopyHeap$Half" yX0_hasRoomFor (kX0_hasRoomFor :: gT)) := gT_good (List.forall_mem_append.mpr ⟨List.forall_mem_cons.mpr ⟨g_193, List.forall_mem_cons.mpr ⟨g_194, List.forall_mem_cons.mpr ⟨g_195, List.forall_mem_cons.mpr ⟨g_2, fun _ h => absurd h List.not_mem_nil⟩⟩⟩⟩, kTX0_hasRoomFor⟩)
theorem gcX1_47 : GoodIn gT (wsV "CopyHeap" 47 "CopyHeap$Half" yX0_addObject (kX0_addObject :: gT)) := gT_good (List.forall_mem_append.mpr ⟨List.forall_mem_cons.mpr ⟨g_213, List.forall_mem_cons.mpr ⟨g_214, List.forall_mem_cons.mpr ⟨g_215, List.forall_mem_cons.mpr ⟨g_2, fun _ h => absurd h List.not_mem_nil⟩⟩⟩⟩, kTX0_addObject⟩)
theorem gcX1_51 : GoodIn gT (wsS "CopyHeap" 51 yX1_asReference (kX1_asReference :: gT)) := gT_good (List.forall_mem_append.mpr ⟨List.forall_mem_cons.mpr ⟨g_217, List.forall_mem_cons.mpr ⟨g_97, List.forall_mem_cons.mpr ⟨g_1, fun _ h => absurd h List.not_mem_nil⟩⟩⟩, kTX1_asReference⟩)
theorem gcL_68 : GoodIn gT (va_wsS "CopyHeapLaw" 68 yL_number (kL_number :: gT)) := gT_good (fun w h => by
  unfold va_wsS at h
  rcases List.mem_append.mp h with h | h
  · revert w; decide +kernel
  · exact kTL_number w h)
theorem gcL_17 : GoodIn gT (wsV "CopyHeapLaw" 17 "CopyHeap" yX1_number (kX1_number :: gT)) := gT_good (List.forall_mem_append.mpr ⟨List.forall_mem_cons.mpr ⟨g_221, List.forall_mem_cons.mpr ⟨g_222, List.forall_mem_cons.mpr ⟨g_223, List.forall_mem_cons.mpr ⟨g_1, fun _ h => absurd h List.not_mem_nil⟩⟩⟩⟩, kTX1_number⟩)
theorem gcX1_55 : GoodIn gT (wsS "CopyHeap" 55 yX1_asNumber (kX1_asNumber :: gT)) := gT_good (List.forall_mem_append.mpr ⟨List.forall_mem_cons.mpr ⟨g_225, List.forall_mem_cons.mpr ⟨g_226, List.forall_mem_cons.mpr ⟨g_1, fun _ h => absurd h List.not_mem_nil⟩⟩⟩, kTX1_asNumber⟩)
theorem gcX1_58 : GoodIn gT (wsS "CopyHeap" 58 yX1_content (kX1_content :: gT)) := gT_good (List.forall_mem_append.mpr ⟨List.forall_mem_cons.mpr ⟨g_228, List.forall_mem_cons.mpr ⟨g_74, List.forall_mem_cons.mpr ⟨g_1, fun _ h => absurd h List.not_mem_nil⟩⟩⟩, kTX1_content⟩)
theorem gcL_72 : GoodIn gT (va_wsS "CopyHeapLaw" 72 yL_copy (kL_copy :: gT)) := gT_good (fun w h => by
  unfold va_wsS at h
  rcases List.mem_append.mp h with h | h
  · revert w; decide +kernel
  · exact kTL_copy w h)
theorem gcL_21 : GoodIn gT (wsV "CopyHeapLaw" 21 "CopyHeap" yX1_copy (kX1_copy :: gT)) := gT_good (List.forall_mem_append.mpr ⟨List.forall_mem_cons.mpr ⟨g_232, List.forall_mem_cons.mpr ⟨g_233, List.forall_mem_cons.mpr ⟨g_234, List.forall_mem_cons.mpr ⟨g_1, fun _ h => absurd h List.not_mem_nil⟩⟩⟩⟩, kTX1_copy⟩)
theorem gcX1_61 : GoodIn gT (wsS "CopyHeap" 61 yX1_isReference (kX1_isReference :: gT)) := gT_good (List.forall_mem_append.mpr ⟨List.forall_mem_cons.mpr ⟨g_236, List.forall_mem_cons.mpr ⟨g_71, List.forall_mem_cons.mpr ⟨g_1, fun _ h => absurd h List.not_mem_nil⟩⟩⟩, kTX1_isReference⟩)
theorem gcL_75 : GoodIn gT (va_wsS "CopyHeapLaw" 75 yL_put (kL_put :: gT)) := gT_good (fun w h => by
  unfold va_wsS at h
  rcases List.mem_append.mp h with h | h
  · revert w; decide +kernel
  · exact kTL_put w h)
theorem gcL_25 : GoodIn gT (wsV "CopyHeapLaw" 25 "CopyHeap" yX1_put (kX1_put :: gT)) := gT_good (List.forall_mem_append.mpr ⟨List.forall_mem_cons.mpr ⟨g_241, List.forall_mem_cons.mpr ⟨g_242, List.forall_mem_cons.mpr ⟨g_243, List.forall_mem_cons.mpr ⟨g_1, fun _ h => absurd h List.not_mem_nil⟩⟩⟩⟩, kTX1_put⟩)
theorem gcX1_64 : GoodIn gT (wsV "CopyHeap" 64 "CopyHeap" yX1_objectOf (kX1_objectOf :: gT)) := gT_good (List.forall_mem_append.mpr ⟨List.forall_mem_cons.mpr ⟨g_245, List.forall_mem_cons.mpr ⟨g_247, List.forall_mem_cons.mpr ⟨gs_4, List.forall_mem_cons.mpr ⟨g_1, fun _ h => absurd h List.not_mem_nil⟩⟩⟩⟩, kTX1_objectOf⟩)
theorem gcX1_72 : GoodIn gT (wsV "CopyHeap" 72 "CopyHeap" yX1_requireField (kX1_requireField :: gT)) := gT_good (List.forall_mem_append.mpr ⟨List.forall_mem_cons.mpr ⟨g_251, List.forall_mem_cons.mpr ⟨g_253, List.forall_mem_cons.mpr ⟨gs_5, List.forall_mem_cons.mpr ⟨g_1, fun _ h => absurd h List.not_mem_nil⟩⟩⟩⟩, kTX1_requireField⟩)
theorem gcL_79 : GoodIn gT (va_wsS "CopyHeapLaw" 79 yL_raw (kL_raw :: gT)) := gT_good (fun w h => by
  unfold va_wsS at h
  rcases List.mem_append.mp h with h | h
  · revert w; decide +kernel
  · exact kTL_raw w h)
theorem gcL_31 : GoodIn gT (wsV "CopyHeapLaw" 31 "CopyHeap" yX1_raw (kX1_raw :: gT)) := gT_good (List.forall_mem_append.mpr ⟨List.forall_mem_cons.mpr ⟨g_274, List.forall_mem_cons.mpr ⟨g_275, List.forall_mem_cons.mpr ⟨g_276, List.forall_mem_cons.mpr ⟨g_1, fun _ h => absurd h List.not_mem_nil⟩⟩⟩⟩, kTX1_raw⟩)
theorem gcL_82 : GoodIn gT (va_wsS "CopyHeapLaw" 82 yL_get (kL_get :: gT)) := gT_good (fun w h => by
  unfold va_wsS at h
  rcases List.mem_append.mp h with h | h
  · revert w; decide +kernel
  · exact kTL_get w h)
theorem gcL_34 : GoodIn gT (wsV "CopyHeapLaw" 34 "CopyHeap" yX1_get (kX1_get :: gT)) := gT_good (List.forall_mem_append.mpr ⟨List.forall_mem_cons.mpr ⟨g_282, List.forall_mem_cons.mpr ⟨g_283, List.forall_mem_cons.mpr ⟨g_284, List.forall_mem_cons.mpr ⟨g_1, fun _ h => absurd h List.not_mem_nil⟩⟩⟩⟩, kTX1_get⟩)
theorem gcL_89 : GoodIn gT (va_wsS "CopyHeapLaw" 89 yL_about (kL_about :: gT)) := gT_good (fun w h => by
  unfold va_wsS at h
  rcases List.mem_append.mp h with h | h
  · revert w; decide +kernel
  · exact kTL_about w h)
theorem gcL_38 : GoodIn gT (wsV "CopyHeapLaw" 38 "CopyHeap" yX1_about (kX1_about :: gT)) := gT_good (List.forall_mem_append.mpr ⟨List.forall_mem_cons.mpr ⟨g_289, List.forall_mem_cons.mpr ⟨g_290, List.forall_mem_cons.mpr ⟨g_291, List.forall_mem_cons.mpr ⟨g_1, fun _ h => absurd h List.not_mem_nil⟩⟩⟩⟩, kTX1_about⟩)
theorem gcL_92 : GoodIn gT (va_wsS "CopyHeapLaw" 92 yL_look (kL_look :: gT)) := gT_good (fun w h => by
  unfold va_wsS at h
  rcases List.mem_append.mp h with h | h
  · revert w; decide +kernel
  · exact kTL_look w h)
theorem gcL_41 : GoodIn gT (wsV "CopyHeapLaw" 41 "CopyHeap" yX1_look (kX1_look :: gT)) := gT_good (List.forall_mem_append.mpr ⟨List.forall_mem_cons.mpr ⟨g_297, List.forall_mem_cons.mpr ⟨g_298, List.forall_mem_cons.mpr ⟨g_299, List.forall_mem_cons.mpr ⟨g_1, fun _ h => absurd h List.not_mem_nil⟩⟩⟩⟩, kTX1_look⟩)
theorem gcX1_96 : GoodIn gT (wsV "CopyHeap" 96 "CopyHeap$Half" yX0_holds (kX0_holds :: gT)) := gT_good (List.forall_mem_append.mpr ⟨List.forall_mem_cons.mpr ⟨g_301, List.forall_mem_cons.mpr ⟨g_302, List.forall_mem_cons.mpr ⟨g_303, List.forall_mem_cons.mpr ⟨g_2, fun _ h => absurd h List.not_mem_nil⟩⟩⟩⟩, kTX0_holds⟩)
theorem gcX1_101 : GoodIn gT (wsV "CopyHeap" 101 "CopyHeap$Half" yX0_sortAt (kX0_sortAt :: gT)) := gT_good (List.forall_mem_append.mpr ⟨List.forall_mem_cons.mpr ⟨g_306, List.forall_mem_cons.mpr ⟨g_307, List.forall_mem_cons.mpr ⟨g_308, List.forall_mem_cons.mpr ⟨g_2, fun _ h => absurd h List.not_mem_nil⟩⟩⟩⟩, kTX0_sortAt⟩)
theorem gcX0_29 : GoodIn gT (wsV "CopyHeap$Half" 29 "CopyHeap$Half" yX0_kindAt (kX0_kindAt :: gT)) := gT_good (List.forall_mem_append.mpr ⟨List.forall_mem_cons.mpr ⟨g_310, List.forall_mem_cons.mpr ⟨g_103, List.forall_mem_cons.mpr ⟨g_104, List.forall_mem_cons.mpr ⟨g_2, fun _ h => absurd h List.not_mem_nil⟩⟩⟩⟩, kTX0_kindAt⟩)
theorem gcL_95 : GoodIn gT (va_wsS "CopyHeapLaw" 95 yL_count (kL_count :: gT)) := gT_good (fun w h => by
  unfold va_wsS at h
  rcases List.mem_append.mp h with h | h
  · revert w; decide +kernel
  · exact kTL_count w h)
theorem gcL_44 : GoodIn gT (wsV "CopyHeapLaw" 44 "CopyHeap" yX1_count (kX1_count :: gT)) := gT_good (List.forall_mem_append.mpr ⟨List.forall_mem_cons.mpr ⟨g_315, List.forall_mem_cons.mpr ⟨g_316, List.forall_mem_cons.mpr ⟨g_317, List.forall_mem_cons.mpr ⟨g_1, fun _ h => absurd h List.not_mem_nil⟩⟩⟩⟩, kTX1_count⟩)
theorem gcL_59 : GoodIn gT (kX2_init :: gT) := gT_good kTX2_init
theorem gcL_64 : GoodIn gT (wsV "CopyHeapLaw" 64 "CopyHeapModel" yX2_thrown (kX2_thrown :: gT)) := gT_good (List.forall_mem_append.mpr ⟨List.forall_mem_cons.mpr ⟨g_369, List.forall_mem_cons.mpr ⟨g_370, List.forall_mem_cons.mpr ⟨g_371, List.forall_mem_cons.mpr ⟨g_3, fun _ h => absurd h List.not_mem_nil⟩⟩⟩⟩, kTX2_thrown⟩)
theorem gcL_88 : GoodIn gT (wsV "CopyHeapLaw" 88 "CopyHeapModel" yX2_collect (kX2_collect :: gT)) := gT_good (List.forall_mem_append.mpr ⟨List.forall_mem_cons.mpr ⟨g_373, List.forall_mem_cons.mpr ⟨g_374, List.forall_mem_cons.mpr ⟨g_375, List.forall_mem_cons.mpr ⟨g_3, fun _ h => absurd h List.not_mem_nil⟩⟩⟩⟩, kTX2_collect⟩)
theorem gcX2_61 : GoodIn gT (wsV "CopyHeapModel" 61 "CopyHeapModel" yX2_gather (kX2_gather :: gT)) := gT_good (List.forall_mem_append.mpr ⟨List.forall_mem_cons.mpr ⟨g_377, List.forall_mem_cons.mpr ⟨g_379, List.forall_mem_cons.mpr ⟨gs_6, List.forall_mem_cons.mpr ⟨g_3, fun _ h => absurd h List.not_mem_nil⟩⟩⟩⟩, kTX2_gather⟩)
theorem gcX2_51 : GoodIn gT (wsV "CopyHeapModel" 51 "CopyHeapModel" yX2_keep (kX2_keep :: gT)) := gT_good (List.forall_mem_append.mpr ⟨List.forall_mem_cons.mpr ⟨g_381, List.forall_mem_cons.mpr ⟨g_383, List.forall_mem_cons.mpr ⟨gs_7, List.forall_mem_cons.mpr ⟨g_3, fun _ h => absurd h List.not_mem_nil⟩⟩⟩⟩, kTX2_keep⟩)
theorem gcX2_44 : GoodIn gT (wsV "CopyHeapModel" 44 "CopyHeapModel" yX2_fieldsAt (kX2_fieldsAt :: gT)) := gT_good (List.forall_mem_append.mpr ⟨List.forall_mem_cons.mpr ⟨g_385, List.forall_mem_cons.mpr ⟨g_387, List.forall_mem_cons.mpr ⟨gs_8, List.forall_mem_cons.mpr ⟨g_3, fun _ h => absurd h List.not_mem_nil⟩⟩⟩⟩, kTX2_fieldsAt⟩)
theorem gcL_63 : GoodIn gT (wsV "CopyHeapLaw" 63 "CopyHeapModel" yX2_make (kX2_make :: gT)) := gT_good (List.forall_mem_append.mpr ⟨List.forall_mem_cons.mpr ⟨g_389, List.forall_mem_cons.mpr ⟨g_390, List.forall_mem_cons.mpr ⟨g_391, List.forall_mem_cons.mpr ⟨g_3, fun _ h => absurd h List.not_mem_nil⟩⟩⟩⟩, kTX2_make⟩)
theorem gcX2_65 : GoodIn gT (wsS "CopyHeapModel" 65 yX2_isRegister (kX2_isRegister :: gT)) := gT_good (List.forall_mem_append.mpr ⟨List.forall_mem_cons.mpr ⟨g_393, List.forall_mem_cons.mpr ⟨g_394, List.forall_mem_cons.mpr ⟨g_3, fun _ h => absurd h List.not_mem_nil⟩⟩⟩, kTX2_isRegister⟩)
theorem gcX2_69 : GoodIn gT (wsV "CopyHeapModel" 69 "CopyHeapModel" yX2_fail (kX2_fail :: gT)) := gT_good (List.forall_mem_append.mpr ⟨List.forall_mem_cons.mpr ⟨g_396, List.forall_mem_cons.mpr ⟨g_398, List.forall_mem_cons.mpr ⟨gs_9, List.forall_mem_cons.mpr ⟨g_3, fun _ h => absurd h List.not_mem_nil⟩⟩⟩⟩, kTX2_fail⟩)
theorem gcL_71 : GoodIn gT (wsV "CopyHeapLaw" 71 "CopyHeapModel" yX2_number (kX2_number :: gT)) := gT_good (List.forall_mem_append.mpr ⟨List.forall_mem_cons.mpr ⟨g_400, List.forall_mem_cons.mpr ⟨g_401, List.forall_mem_cons.mpr ⟨g_402, List.forall_mem_cons.mpr ⟨g_3, fun _ h => absurd h List.not_mem_nil⟩⟩⟩⟩, kTX2_number⟩)
theorem gcX2_72 : GoodIn gT (wsS "CopyHeapModel" 72 yX2_kept (kX2_kept :: gT)) := gT_good (List.forall_mem_append.mpr ⟨List.forall_mem_cons.mpr ⟨g_404, List.forall_mem_cons.mpr ⟨g_405, List.forall_mem_cons.mpr ⟨g_3, fun _ h => absurd h List.not_mem_nil⟩⟩⟩, kTX2_kept⟩)
theorem gcL_74 : GoodIn gT (wsV "CopyHeapLaw" 74 "CopyHeapModel" yX2_copy (kX2_copy :: gT)) := gT_good (List.forall_mem_append.mpr ⟨List.forall_mem_cons.mpr ⟨g_407, List.forall_mem_cons.mpr ⟨g_408, List.forall_mem_cons.mpr ⟨g_409, List.forall_mem_cons.mpr ⟨g_3, fun _ h => absurd h List.not_mem_nil⟩⟩⟩⟩, kTX2_copy⟩)
theorem gcL_78 : GoodIn gT (wsV "CopyHeapLaw" 78 "CopyHeapModel" yX2_put (kX2_put :: gT)) := gT_good (List.forall_mem_append.mpr ⟨List.forall_mem_cons.mpr ⟨g_411, List.forall_mem_cons.mpr ⟨g_412, List.forall_mem_cons.mpr ⟨g_413, List.forall_mem_cons.mpr ⟨g_3, fun _ h => absurd h List.not_mem_nil⟩⟩⟩⟩, kTX2_put⟩)
theorem gcX2_75 : GoodIn gT (wsV "CopyHeapModel" 75 "CopyHeapModel" yX2_isRaw (kX2_isRaw :: gT)) := gT_good (List.forall_mem_append.mpr ⟨List.forall_mem_cons.mpr ⟨g_415, List.forall_mem_cons.mpr ⟨g_417, List.forall_mem_cons.mpr ⟨gs_10, List.forall_mem_cons.mpr ⟨g_3, fun _ h => absurd h List.not_mem_nil⟩⟩⟩⟩, kTX2_isRaw⟩)
theorem gcX2_78 : GoodIn gT (wsV "CopyHeapModel" 78 "CopyHeapModel" yX2_hasField (kX2_hasField :: gT)) := gT_good (List.forall_mem_append.mpr ⟨List.forall_mem_cons.mpr ⟨g_419, List.forall_mem_cons.mpr ⟨g_421, List.forall_mem_cons.mpr ⟨gs_11, List.forall_mem_cons.mpr ⟨g_3, fun _ h => absurd h List.not_mem_nil⟩⟩⟩⟩, kTX2_hasField⟩)
theorem gcL_81 : GoodIn gT (wsV "CopyHeapLaw" 81 "CopyHeapModel" yX2_raw (kX2_raw :: gT)) := gT_good (List.forall_mem_append.mpr ⟨List.forall_mem_cons.mpr ⟨g_423, List.forall_mem_cons.mpr ⟨g_424, List.forall_mem_cons.mpr ⟨g_425, List.forall_mem_cons.mpr ⟨g_3, fun _ h => absurd h List.not_mem_nil⟩⟩⟩⟩, kTX2_raw⟩)
theorem gcL_84 : GoodIn gT (wsV "CopyHeapLaw" 84 "CopyHeapModel" yX2_get (kX2_get :: gT)) := gT_good (List.forall_mem_append.mpr ⟨List.forall_mem_cons.mpr ⟨g_427, List.forall_mem_cons.mpr ⟨g_428, List.forall_mem_cons.mpr ⟨g_429, List.forall_mem_cons.mpr ⟨g_3, fun _ h => absurd h List.not_mem_nil⟩⟩⟩⟩, kTX2_get⟩)
theorem gcL_91 : GoodIn gT (wsV "CopyHeapLaw" 91 "CopyHeapModel" yX2_about (kX2_about :: gT)) := gT_good (List.forall_mem_append.mpr ⟨List.forall_mem_cons.mpr ⟨g_431, List.forall_mem_cons.mpr ⟨g_432, List.forall_mem_cons.mpr ⟨g_433, List.forall_mem_cons.mpr ⟨g_3, fun _ h => absurd h List.not_mem_nil⟩⟩⟩⟩, kTX2_about⟩)
theorem gcL_94 : GoodIn gT (wsV "CopyHeapLaw" 94 "CopyHeapModel" yX2_look (kX2_look :: gT)) := gT_good (List.forall_mem_append.mpr ⟨List.forall_mem_cons.mpr ⟨g_435, List.forall_mem_cons.mpr ⟨g_436, List.forall_mem_cons.mpr ⟨g_437, List.forall_mem_cons.mpr ⟨g_3, fun _ h => absurd h List.not_mem_nil⟩⟩⟩⟩, kTX2_look⟩)
theorem gcL_98 : GoodIn gT (wsV "CopyHeapLaw" 98 "CopyHeapModel" yX2_count (kX2_count :: gT)) := gT_good (List.forall_mem_append.mpr ⟨List.forall_mem_cons.mpr ⟨g_439, List.forall_mem_cons.mpr ⟨g_440, List.forall_mem_cons.mpr ⟨g_441, List.forall_mem_cons.mpr ⟨g_3, fun _ h => absurd h List.not_mem_nil⟩⟩⟩⟩, kTX2_count⟩)
theorem gcX2_82 : GoodIn gT (wsV "CopyHeapModel" 82 "CopyHeapModel" yX2_objects (kX2_objects :: gT)) := gT_good (List.forall_mem_append.mpr ⟨List.forall_mem_cons.mpr ⟨g_443, List.forall_mem_cons.mpr ⟨g_445, List.forall_mem_cons.mpr ⟨gs_12, List.forall_mem_cons.mpr ⟨g_3, fun _ h => absurd h List.not_mem_nil⟩⟩⟩⟩, kTX2_objects⟩)
end
section
/-! decode rows (printed) -/
theorem dX1_init_0 : decode cX1_init 0 = .ok (.aload_n 0, 1) := by decide +kernel
theorem dX1_init_1 : decode cX1_init 1 = .ok (.invokespecial 1, 3) := by decide +kernel
theorem dX1_init_4 : decode cX1_init 4 = .ok (.aload_n 0, 1) := by decide +kernel
theorem dX1_init_5 : decode cX1_init 5 = .ok (.bipush 8, 2) := by decide +kernel
theorem dX1_init_7 : decode cX1_init 7 = .ok (.newarray .int, 2) := by decide +kernel
theorem dX1_init_9 : decode cX1_init 9 = .ok (.putfield 9, 3) := by decide +kernel
theorem dX1_init_12 : decode cX1_init 12 = .ok (.aload_n 0, 1) := by decide +kernel
theorem dX1_init_13 : decode cX1_init 13 = .ok (.new 13, 3) := by decide +kernel
theorem dX1_init_16 : decode cX1_init 16 = .ok (.dup, 1) := by decide +kernel
theorem dX1_init_17 : decode cX1_init 17 = .ok (.iload_n 1, 1) := by decide +kernel
theorem dX1_init_18 : decode cX1_init 18 = .ok (.invokespecial 15, 3) := by decide +kernel
theorem dX1_init_21 : decode cX1_init 21 = .ok (.putfield 18, 3) := by decide +kernel
theorem dX1_init_24 : decode cX1_init 24 = .ok (.aload_n 0, 1) := by decide +kernel
theorem dX1_init_25 : decode cX1_init 25 = .ok (.new 13, 3) := by decide +kernel
theorem dX1_init_28 : decode cX1_init 28 = .ok (.dup, 1) := by decide +kernel
theorem dX1_init_29 : decode cX1_init 29 = .ok (.iload_n 1, 1) := by decide +kernel
theorem dX1_init_30 : decode cX1_init 30 = .ok (.invokespecial 15, 3) := by decide +kernel
theorem dX1_init_33 : decode cX1_init 33 = .ok (.putfield 22, 3) := by decide +kernel
theorem dX1_init_36 : decode cX1_init 36 = .ok (.return_, 1) := by decide +kernel
theorem dX0_init_0 : decode cX0_init 0 = .ok (.aload_n 0, 1) := by decide +kernel
theorem dX0_init_1 : decode cX0_init 1 = .ok (.invokespecial 3, 3) := by decide +kernel
theorem dX0_init_4 : decode cX0_init 4 = .ok (.aload_n 0, 1) := by decide +kernel
theorem dX0_init_5 : decode cX0_init 5 = .ok (.bipush 16, 2) := by decide +kernel
theorem dX0_init_7 : decode cX0_init 7 = .ok (.iload_n 1, 1) := by decide +kernel
theorem dX0_init_8 : decode cX0_init 8 = .ok (.sipush 2047, 3) := by decide +kernel
theorem dX0_init_11 : decode cX0_init 11 = .ok (.iand, 1) := by decide +kernel
theorem dX0_init_12 : decode cX0_init 12 = .ok (.iadd, 1) := by decide +kernel
theorem dX0_init_13 : decode cX0_init 13 = .ok (.newarray .int, 2) := by decide +kernel
theorem dX0_init_15 : decode cX0_init 15 = .ok (.putfield 11, 3) := by decide +kernel
theorem dX0_init_18 : decode cX0_init 18 = .ok (.return_, 1) := by decide +kernel
theorem dX1_collect_0 : decode cX1_collect 0 = .ok (.aload_n 0, 1) := by decide +kernel
theorem dX1_collect_1 : decode cX1_collect 1 = .ok (.invokevirtual 39, 3) := by decide +kernel
theorem dX1_collect_4 : decode cX1_collect 4 = .ok (.aload_n 0, 1) := by decide +kernel
theorem dX1_collect_5 : decode cX1_collect 5 = .ok (.getfield 18, 3) := by decide +kernel
theorem dX1_collect_8 : decode cX1_collect 8 = .ok (.getfield 84, 3) := by decide +kernel
theorem dX1_collect_11 : decode cX1_collect 11 = .ok (.ireturn, 1) := by decide +kernel
theorem dX1_moveToSpare_0 : decode cX1_moveToSpare 0 = .ok (.aload_n 0, 1) := by decide +kernel
theorem dX1_moveToSpare_1 : decode cX1_moveToSpare 1 = .ok (.getfield 18, 3) := by decide +kernel
theorem dX1_moveToSpare_4 : decode cX1_moveToSpare 4 = .ok (.astore_n 1, 1) := by decide +kernel
theorem dX1_moveToSpare_5 : decode cX1_moveToSpare 5 = .ok (.aload_n 0, 1) := by decide +kernel
theorem dX1_moveToSpare_6 : decode cX1_moveToSpare 6 = .ok (.getfield 22, 3) := by decide +kernel
theorem dX1_moveToSpare_9 : decode cX1_moveToSpare 9 = .ok (.astore_n 2, 1) := by decide +kernel
theorem dX1_moveToSpare_10 : decode cX1_moveToSpare 10 = .ok (.aload_n 2, 1) := by decide +kernel
theorem dX1_moveToSpare_11 : decode cX1_moveToSpare 11 = .ok (.invokevirtual 126, 3) := by decide +kernel
theorem dX1_moveToSpare_14 : decode cX1_moveToSpare 14 = .ok (.iconst 0, 1) := by decide +kernel
theorem dX1_moveToSpare_15 : decode cX1_moveToSpare 15 = .ok (.istore_n 3, 1) := by decide +kernel
theorem dX1_moveToSpare_16 : decode cX1_moveToSpare 16 = .ok (.iload_n 3, 1) := by decide +kernel
theorem dX1_moveToSpare_17 : decode cX1_moveToSpare 17 = .ok (.bipush 8, 2) := by decide +kernel
theorem dX1_moveToSpare_19 : decode cX1_moveToSpare 19 = .ok (.if_icmp .ge 26, 3) := by decide +kernel
theorem dX1_moveToSpare_22 : decode cX1_moveToSpare 22 = .ok (.aload_n 0, 1) := by decide +kernel
theorem dX1_moveToSpare_23 : decode cX1_moveToSpare 23 = .ok (.getfield 9, 3) := by decide +kernel
theorem dX1_moveToSpare_26 : decode cX1_moveToSpare 26 = .ok (.iload_n 3, 1) := by decide +kernel
theorem dX1_moveToSpare_27 : decode cX1_moveToSpare 27 = .ok (.aload_n 1, 1) := by decide +kernel
theorem dX1_moveToSpare_28 : decode cX1_moveToSpare 28 = .ok (.aload_n 0, 1) := by decide +kernel
theorem dX1_moveToSpare_29 : decode cX1_moveToSpare 29 = .ok (.getfield 9, 3) := by decide +kernel
theorem dX1_moveToSpare_32 : decode cX1_moveToSpare 32 = .ok (.iload_n 3, 1) := by decide +kernel
theorem dX1_moveToSpare_33 : decode cX1_moveToSpare 33 = .ok (.iaload, 1) := by decide +kernel
theorem dX1_moveToSpare_34 : decode cX1_moveToSpare 34 = .ok (.aload_n 2, 1) := by decide +kernel
theorem dX1_moveToSpare_35 : decode cX1_moveToSpare 35 = .ok (.invokevirtual 129, 3) := by decide +kernel
theorem dX1_moveToSpare_38 : decode cX1_moveToSpare 38 = .ok (.iastore, 1) := by decide +kernel
theorem dX1_moveToSpare_39 : decode cX1_moveToSpare 39 = .ok (.iinc 3 1, 3) := by decide +kernel
theorem dX1_moveToSpare_42 : decode cX1_moveToSpare 42 = .ok (.goto (-26), 3) := by decide +kernel
theorem dX1_moveToSpare_45 : decode cX1_moveToSpare 45 = .ok (.aload_n 1, 1) := by decide +kernel
theorem dX1_moveToSpare_46 : decode cX1_moveToSpare 46 = .ok (.aload_n 2, 1) := by decide +kernel
theorem dX1_moveToSpare_47 : decode cX1_moveToSpare 47 = .ok (.invokestatic 133, 3) := by decide +kernel
theorem dX1_moveToSpare_50 : decode cX1_moveToSpare 50 = .ok (.aload_n 0, 1) := by decide +kernel
theorem dX1_moveToSpare_51 : decode cX1_moveToSpare 51 = .ok (.aload_n 2, 1) := by decide +kernel
theorem dX1_moveToSpare_52 : decode cX1_moveToSpare 52 = .ok (.putfield 18, 3) := by decide +kernel
theorem dX1_moveToSpare_55 : decode cX1_moveToSpare 55 = .ok (.aload_n 0, 1) := by decide +kernel
theorem dX1_moveToSpare_56 : decode cX1_moveToSpare 56 = .ok (.aload_n 1, 1) := by decide +kernel
theorem dX1_moveToSpare_57 : decode cX1_moveToSpare 57 = .ok (.putfield 22, 3) := by decide +kernel
theorem dX1_moveToSpare_60 : decode cX1_moveToSpare 60 = .ok (.aload_n 0, 1) := by decide +kernel
theorem dX1_moveToSpare_61 : decode cX1_moveToSpare 61 = .ok (.dup, 1) := by decide +kernel
theorem dX1_moveToSpare_62 : decode cX1_moveToSpare 62 = .ok (.getfield 109, 3) := by decide +kernel
theorem dX1_moveToSpare_65 : decode cX1_moveToSpare 65 = .ok (.iconst 1, 1) := by decide +kernel
theorem dX1_moveToSpare_66 : decode cX1_moveToSpare 66 = .ok (.iadd, 1) := by decide +kernel
theorem dX1_moveToSpare_67 : decode cX1_moveToSpare 67 = .ok (.putfield 109, 3) := by decide +kernel
theorem dX1_moveToSpare_70 : decode cX1_moveToSpare 70 = .ok (.aload_n 0, 1) := by decide +kernel
theorem dX1_moveToSpare_71 : decode cX1_moveToSpare 71 = .ok (.dup, 1) := by decide +kernel
theorem dX1_moveToSpare_72 : decode cX1_moveToSpare 72 = .ok (.getfield 112, 3) := by decide +kernel
theorem dX1_moveToSpare_75 : decode cX1_moveToSpare 75 = .ok (.aload_n 2, 1) := by decide +kernel
theorem dX1_moveToSpare_76 : decode cX1_moveToSpare 76 = .ok (.getfield 84, 3) := by decide +kernel
theorem dX1_moveToSpare_79 : decode cX1_moveToSpare 79 = .ok (.iadd, 1) := by decide +kernel
theorem dX1_moveToSpare_80 : decode cX1_moveToSpare 80 = .ok (.putfield 112, 3) := by decide +kernel
theorem dX1_moveToSpare_83 : decode cX1_moveToSpare 83 = .ok (.return_, 1) := by decide +kernel
theorem dX0_empty_0 : decode cX0_empty 0 = .ok (.aload_n 0, 1) := by decide +kernel
theorem dX0_empty_1 : decode cX0_empty 1 = .ok (.iconst 0, 1) := by decide +kernel
theorem dX0_empty_2 : decode cX0_empty 2 = .ok (.putfield 15, 3) := by decide +kernel
theorem dX0_empty_5 : decode cX0_empty 5 = .ok (.aload_n 0, 1) := by decide +kernel
theorem dX0_empty_6 : decode cX0_empty 6 = .ok (.iconst 0, 1) := by decide +kernel
theorem dX0_empty_7 : decode cX0_empty 7 = .ok (.putfield 19, 3) := by decide +kernel
theorem dX0_empty_10 : decode cX0_empty 10 = .ok (.return_, 1) := by decide +kernel
theorem dX0_movedValue_0 : decode cX0_movedValue 0 = .ok (.iload_n 1, 1) := by decide +kernel
theorem dX0_movedValue_1 : decode cX0_movedValue 1 = .ok (.invokestatic 32, 3) := by decide +kernel
theorem dX0_movedValue_4 : decode cX0_movedValue 4 = .ok (.ifCond .ne 5, 3) := by decide +kernel
theorem dX0_movedValue_7 : decode cX0_movedValue 7 = .ok (.iload_n 1, 1) := by decide +kernel
theorem dX0_movedValue_8 : decode cX0_movedValue 8 = .ok (.ireturn, 1) := by decide +kernel
theorem dX0_movedValue_9 : decode cX0_movedValue 9 = .ok (.iload_n 1, 1) := by decide +kernel
theorem dX0_movedValue_10 : decode cX0_movedValue 10 = .ok (.invokestatic 44, 3) := by decide +kernel
theorem dX0_movedValue_13 : decode cX0_movedValue 13 = .ok (.istore_n 3, 1) := by decide +kernel
theorem dX0_movedValue_14 : decode cX0_movedValue 14 = .ok (.aload_n 0, 1) := by decide +kernel
theorem dX0_movedValue_15 : decode cX0_movedValue 15 = .ok (.iload_n 3, 1) := by decide +kernel
theorem dX0_movedValue_16 : decode cX0_movedValue 16 = .ok (.invokevirtual 22, 3) := by decide +kernel
theorem dX0_movedValue_19 : decode cX0_movedValue 19 = .ok (.ifCond .lt 16, 3) := by decide +kernel
theorem dX0_movedValue_22 : decode cX0_movedValue 22 = .ok (.aload_n 0, 1) := by decide +kernel
theorem dX0_movedValue_23 : decode cX0_movedValue 23 = .ok (.iload_n 3, 1) := by decide +kernel
theorem dX0_movedValue_24 : decode cX0_movedValue 24 = .ok (.aload_n 0, 1) := by decide +kernel
theorem dX0_movedValue_25 : decode cX0_movedValue 25 = .ok (.iload_n 3, 1) := by decide +kernel
theorem dX0_movedValue_26 : decode cX0_movedValue 26 = .ok (.aload_n 2, 1) := by decide +kernel
theorem dX0_movedValue_27 : decode cX0_movedValue 27 = .ok (.invokevirtual 47, 3) := by decide +kernel
theorem dX0_movedValue_30 : decode cX0_movedValue 30 = .ok (.iconst (-1), 1) := by decide +kernel
theorem dX0_movedValue_31 : decode cX0_movedValue 31 = .ok (.ixor, 1) := by decide +kernel
theorem dX0_movedValue_32 : decode cX0_movedValue 32 = .ok (.invokevirtual 40, 3) := by decide +kernel
theorem dX0_movedValue_35 : decode cX0_movedValue 35 = .ok (.aload_n 0, 1) := by decide +kernel
theorem dX0_movedValue_36 : decode cX0_movedValue 36 = .ok (.iload_n 3, 1) := by decide +kernel
theorem dX0_movedValue_37 : decode cX0_movedValue 37 = .ok (.invokevirtual 22, 3) := by decide +kernel
theorem dX0_movedValue_40 : decode cX0_movedValue 40 = .ok (.iconst (-1), 1) := by decide +kernel
theorem dX0_movedValue_41 : decode cX0_movedValue 41 = .ok (.ixor, 1) := by decide +kernel
theorem dX0_movedValue_42 : decode cX0_movedValue 42 = .ok (.invokestatic 51, 3) := by decide +kernel
theorem dX0_movedValue_45 : decode cX0_movedValue 45 = .ok (.ireturn, 1) := by decide +kernel
theorem dX1_isReference_0 : decode cX1_isReference 0 = .ok (.iload_n 0, 1) := by decide +kernel
theorem dX1_isReference_1 : decode cX1_isReference 1 = .ok (.iconst 1, 1) := by decide +kernel
theorem dX1_isReference_2 : decode cX1_isReference 2 = .ok (.iand, 1) := by decide +kernel
theorem dX1_isReference_3 : decode cX1_isReference 3 = .ok (.ifCond .eq 7, 3) := by decide +kernel
theorem dX1_isReference_6 : decode cX1_isReference 6 = .ok (.iconst 1, 1) := by decide +kernel
theorem dX1_isReference_7 : decode cX1_isReference 7 = .ok (.goto 4, 3) := by decide +kernel
theorem dX1_isReference_10 : decode cX1_isReference 10 = .ok (.iconst 0, 1) := by decide +kernel
theorem dX1_isReference_11 : decode cX1_isReference 11 = .ok (.ireturn, 1) := by decide +kernel
theorem dX1_content_0 : decode cX1_content 0 = .ok (.iload_n 0, 1) := by decide +kernel
theorem dX1_content_1 : decode cX1_content 1 = .ok (.iconst 1, 1) := by decide +kernel
theorem dX1_content_2 : decode cX1_content 2 = .ok (.ishr, 1) := by decide +kernel
theorem dX1_content_3 : decode cX1_content 3 = .ok (.ireturn, 1) := by decide +kernel
theorem dX0_wordAt_0 : decode cX0_wordAt 0 = .ok (.iload_n 1, 1) := by decide +kernel
theorem dX0_wordAt_1 : decode cX0_wordAt 1 = .ok (.ifCond .lt 21, 3) := by decide +kernel
theorem dX0_wordAt_4 : decode cX0_wordAt 4 = .ok (.iload_n 1, 1) := by decide +kernel
theorem dX0_wordAt_5 : decode cX0_wordAt 5 = .ok (.aload_n 0, 1) := by decide +kernel
theorem dX0_wordAt_6 : decode cX0_wordAt 6 = .ok (.getfield 11, 3) := by decide +kernel
theorem dX0_wordAt_9 : decode cX0_wordAt 9 = .ok (.arraylength, 1) := by decide +kernel
theorem dX0_wordAt_10 : decode cX0_wordAt 10 = .ok (.if_icmp .ge 12, 3) := by decide +kernel
theorem dX0_wordAt_13 : decode cX0_wordAt 13 = .ok (.aload_n 0, 1) := by decide +kernel
theorem dX0_wordAt_14 : decode cX0_wordAt 14 = .ok (.getfield 11, 3) := by decide +kernel
theorem dX0_wordAt_17 : decode cX0_wordAt 17 = .ok (.iload_n 1, 1) := by decide +kernel
theorem dX0_wordAt_18 : decode cX0_wordAt 18 = .ok (.iaload, 1) := by decide +kernel
theorem dX0_wordAt_19 : decode cX0_wordAt 19 = .ok (.goto 4, 3) := by decide +kernel
theorem dX0_wordAt_22 : decode cX0_wordAt 22 = .ok (.iconst 0, 1) := by decide +kernel
theorem dX0_wordAt_23 : decode cX0_wordAt 23 = .ok (.ireturn, 1) := by decide +kernel
theorem dX0_moveObject_0 : decode cX0_moveObject 0 = .ok (.aload_n 2, 1) := by decide +kernel
theorem dX0_moveObject_1 : decode cX0_moveObject 1 = .ok (.getfield 15, 3) := by decide +kernel
theorem dX0_moveObject_4 : decode cX0_moveObject 4 = .ok (.istore_n 3, 1) := by decide +kernel
theorem dX0_moveObject_5 : decode cX0_moveObject 5 = .ok (.aload_n 0, 1) := by decide +kernel
theorem dX0_moveObject_6 : decode cX0_moveObject 6 = .ok (.iload_n 1, 1) := by decide +kernel
theorem dX0_moveObject_7 : decode cX0_moveObject 7 = .ok (.invokevirtual 26, 3) := by decide +kernel
theorem dX0_moveObject_10 : decode cX0_moveObject 10 = .ok (.istore 4, 2) := by decide +kernel
theorem dX0_moveObject_12 : decode cX0_moveObject 12 = .ok (.iconst 0, 1) := by decide +kernel
theorem dX0_moveObject_13 : decode cX0_moveObject 13 = .ok (.istore 5, 2) := by decide +kernel
theorem dX0_moveObject_15 : decode cX0_moveObject 15 = .ok (.iload 5, 2) := by decide +kernel
theorem dX0_moveObject_17 : decode cX0_moveObject 17 = .ok (.iload 4, 2) := by decide +kernel
theorem dX0_moveObject_19 : decode cX0_moveObject 19 = .ok (.if_icmp .gt 21, 3) := by decide +kernel
theorem dX0_moveObject_22 : decode cX0_moveObject 22 = .ok (.aload_n 2, 1) := by decide +kernel
theorem dX0_moveObject_23 : decode cX0_moveObject 23 = .ok (.aload_n 0, 1) := by decide +kernel
theorem dX0_moveObject_24 : decode cX0_moveObject 24 = .ok (.iload_n 1, 1) := by decide +kernel
theorem dX0_moveObject_25 : decode cX0_moveObject 25 = .ok (.iload 5, 2) := by decide +kernel
theorem dX0_moveObject_27 : decode cX0_moveObject 27 = .ok (.iadd, 1) := by decide +kernel
theorem dX0_moveObject_28 : decode cX0_moveObject 28 = .ok (.invokevirtual 22, 3) := by decide +kernel
theorem dX0_moveObject_31 : decode cX0_moveObject 31 = .ok (.invokevirtual 36, 3) := by decide +kernel
theorem dX0_moveObject_34 : decode cX0_moveObject 34 = .ok (.iinc 5 1, 3) := by decide +kernel
theorem dX0_moveObject_37 : decode cX0_moveObject 37 = .ok (.goto (-22), 3) := by decide +kernel
theorem dX0_moveObject_40 : decode cX0_moveObject 40 = .ok (.aload_n 2, 1) := by decide +kernel
theorem dX0_moveObject_41 : decode cX0_moveObject 41 = .ok (.dup, 1) := by decide +kernel
theorem dX0_moveObject_42 : decode cX0_moveObject 42 = .ok (.getfield 19, 3) := by decide +kernel
theorem dX0_moveObject_45 : decode cX0_moveObject 45 = .ok (.iconst 1, 1) := by decide +kernel
theorem dX0_moveObject_46 : decode cX0_moveObject 46 = .ok (.iadd, 1) := by decide +kernel
theorem dX0_moveObject_47 : decode cX0_moveObject 47 = .ok (.putfield 19, 3) := by decide +kernel
theorem dX0_moveObject_50 : decode cX0_moveObject 50 = .ok (.iload_n 3, 1) := by decide +kernel
theorem dX0_moveObject_51 : decode cX0_moveObject 51 = .ok (.ireturn, 1) := by decide +kernel
theorem dX0_fieldsAt_0 : decode cX0_fieldsAt 0 = .ok (.aload_n 0, 1) := by decide +kernel
theorem dX0_fieldsAt_1 : decode cX0_fieldsAt 1 = .ok (.iload_n 1, 1) := by decide +kernel
theorem dX0_fieldsAt_2 : decode cX0_fieldsAt 2 = .ok (.invokevirtual 22, 3) := by decide +kernel
theorem dX0_fieldsAt_5 : decode cX0_fieldsAt 5 = .ok (.iconst 1, 1) := by decide +kernel
theorem dX0_fieldsAt_6 : decode cX0_fieldsAt 6 = .ok (.ishr, 1) := by decide +kernel
theorem dX0_fieldsAt_7 : decode cX0_fieldsAt 7 = .ok (.ireturn, 1) := by decide +kernel
theorem dX0_addWord_0 : decode cX0_addWord 0 = .ok (.aload_n 0, 1) := by decide +kernel
theorem dX0_addWord_1 : decode cX0_addWord 1 = .ok (.aload_n 0, 1) := by decide +kernel
theorem dX0_addWord_2 : decode cX0_addWord 2 = .ok (.getfield 15, 3) := by decide +kernel
theorem dX0_addWord_5 : decode cX0_addWord 5 = .ok (.iload_n 1, 1) := by decide +kernel
theorem dX0_addWord_6 : decode cX0_addWord 6 = .ok (.invokevirtual 40, 3) := by decide +kernel
theorem dX0_addWord_9 : decode cX0_addWord 9 = .ok (.aload_n 0, 1) := by decide +kernel
theorem dX0_addWord_10 : decode cX0_addWord 10 = .ok (.dup, 1) := by decide +kernel
theorem dX0_addWord_11 : decode cX0_addWord 11 = .ok (.getfield 15, 3) := by decide +kernel
theorem dX0_addWord_14 : decode cX0_addWord 14 = .ok (.iconst 1, 1) := by decide +kernel
theorem dX0_addWord_15 : decode cX0_addWord 15 = .ok (.iadd, 1) := by decide +kernel
theorem dX0_addWord_16 : decode cX0_addWord 16 = .ok (.putfield 15, 3) := by decide +kernel
theorem dX0_addWord_19 : decode cX0_addWord 19 = .ok (.return_, 1) := by decide +kernel
theorem dX0_setWord_0 : decode cX0_setWord 0 = .ok (.iload_n 1, 1) := by decide +kernel
theorem dX0_setWord_1 : decode cX0_setWord 1 = .ok (.ifCond .lt 19, 3) := by decide +kernel
theorem dX0_setWord_4 : decode cX0_setWord 4 = .ok (.iload_n 1, 1) := by decide +kernel
theorem dX0_setWord_5 : decode cX0_setWord 5 = .ok (.aload_n 0, 1) := by decide +kernel
theorem dX0_setWord_6 : decode cX0_setWord 6 = .ok (.getfield 11, 3) := by decide +kernel
theorem dX0_setWord_9 : decode cX0_setWord 9 = .ok (.arraylength, 1) := by decide +kernel
theorem dX0_setWord_10 : decode cX0_setWord 10 = .ok (.if_icmp .ge 10, 3) := by decide +kernel
theorem dX0_setWord_13 : decode cX0_setWord 13 = .ok (.aload_n 0, 1) := by decide +kernel
theorem dX0_setWord_14 : decode cX0_setWord 14 = .ok (.getfield 11, 3) := by decide +kernel
theorem dX0_setWord_17 : decode cX0_setWord 17 = .ok (.iload_n 1, 1) := by decide +kernel
theorem dX0_setWord_18 : decode cX0_setWord 18 = .ok (.iload_n 2, 1) := by decide +kernel
theorem dX0_setWord_19 : decode cX0_setWord 19 = .ok (.iastore, 1) := by decide +kernel
theorem dX0_setWord_20 : decode cX0_setWord 20 = .ok (.return_, 1) := by decide +kernel
theorem dX1_asReference_0 : decode cX1_asReference 0 = .ok (.iload_n 0, 1) := by decide +kernel
theorem dX1_asReference_1 : decode cX1_asReference 1 = .ok (.iconst 1, 1) := by decide +kernel
theorem dX1_asReference_2 : decode cX1_asReference 2 = .ok (.ishl, 1) := by decide +kernel
theorem dX1_asReference_3 : decode cX1_asReference 3 = .ok (.iconst 1, 1) := by decide +kernel
theorem dX1_asReference_4 : decode cX1_asReference 4 = .ok (.ior, 1) := by decide +kernel
theorem dX1_asReference_5 : decode cX1_asReference 5 = .ok (.ireturn, 1) := by decide +kernel
theorem dX1_moveWhatFieldsReferTo_0 : decode cX1_moveWhatFieldsReferTo 0 = .ok (.iconst 0, 1) := by decide +kernel
theorem dX1_moveWhatFieldsReferTo_1 : decode cX1_moveWhatFieldsReferTo 1 = .ok (.istore_n 2, 1) := by decide +kernel
theorem dX1_moveWhatFieldsReferTo_2 : decode cX1_moveWhatFieldsReferTo 2 = .ok (.iconst 0, 1) := by decide +kernel
theorem dX1_moveWhatFieldsReferTo_3 : decode cX1_moveWhatFieldsReferTo 3 = .ok (.istore_n 3, 1) := by decide +kernel
theorem dX1_moveWhatFieldsReferTo_4 : decode cX1_moveWhatFieldsReferTo 4 = .ok (.iconst 0, 1) := by decide +kernel
theorem dX1_moveWhatFieldsReferTo_5 : decode cX1_moveWhatFieldsReferTo 5 = .ok (.istore 4, 2) := by decide +kernel
theorem dX1_moveWhatFieldsReferTo_7 : decode cX1_moveWhatFieldsReferTo 7 = .ok (.iload 4, 2) := by decide +kernel
theorem dX1_moveWhatFieldsReferTo_9 : decode cX1_moveWhatFieldsReferTo 9 = .ok (.aload_n 1, 1) := by decide +kernel
theorem dX1_moveWhatFieldsReferTo_10 : decode cX1_moveWhatFieldsReferTo 10 = .ok (.getfield 106, 3) := by decide +kernel
theorem dX1_moveWhatFieldsReferTo_13 : decode cX1_moveWhatFieldsReferTo 13 = .ok (.arraylength, 1) := by decide +kernel
theorem dX1_moveWhatFieldsReferTo_14 : decode cX1_moveWhatFieldsReferTo 14 = .ok (.if_icmp .ge 67, 3) := by decide +kernel
theorem dX1_moveWhatFieldsReferTo_17 : decode cX1_moveWhatFieldsReferTo 17 = .ok (.iload 4, 2) := by decide +kernel
theorem dX1_moveWhatFieldsReferTo_19 : decode cX1_moveWhatFieldsReferTo 19 = .ok (.aload_n 1, 1) := by decide +kernel
theorem dX1_moveWhatFieldsReferTo_20 : decode cX1_moveWhatFieldsReferTo 20 = .ok (.getfield 84, 3) := by decide +kernel
theorem dX1_moveWhatFieldsReferTo_23 : decode cX1_moveWhatFieldsReferTo 23 = .ok (.if_icmp .ge 58, 3) := by decide +kernel
theorem dX1_moveWhatFieldsReferTo_26 : decode cX1_moveWhatFieldsReferTo 26 = .ok (.iload 4, 2) := by decide +kernel
theorem dX1_moveWhatFieldsReferTo_28 : decode cX1_moveWhatFieldsReferTo 28 = .ok (.iload_n 3, 1) := by decide +kernel
theorem dX1_moveWhatFieldsReferTo_29 : decode cX1_moveWhatFieldsReferTo 29 = .ok (.if_icmp .ne 25, 3) := by decide +kernel
theorem dX1_moveWhatFieldsReferTo_32 : decode cX1_moveWhatFieldsReferTo 32 = .ok (.aload_n 1, 1) := by decide +kernel
theorem dX1_moveWhatFieldsReferTo_33 : decode cX1_moveWhatFieldsReferTo 33 = .ok (.iload 4, 2) := by decide +kernel
theorem dX1_moveWhatFieldsReferTo_35 : decode cX1_moveWhatFieldsReferTo 35 = .ok (.invokevirtual 67, 3) := by decide +kernel
theorem dX1_moveWhatFieldsReferTo_38 : decode cX1_moveWhatFieldsReferTo 38 = .ok (.istore_n 2, 1) := by decide +kernel
theorem dX1_moveWhatFieldsReferTo_39 : decode cX1_moveWhatFieldsReferTo 39 = .ok (.iload 4, 2) := by decide +kernel
theorem dX1_moveWhatFieldsReferTo_41 : decode cX1_moveWhatFieldsReferTo 41 = .ok (.iconst 1, 1) := by decide +kernel
theorem dX1_moveWhatFieldsReferTo_42 : decode cX1_moveWhatFieldsReferTo 42 = .ok (.iadd, 1) := by decide +kernel
theorem dX1_moveWhatFieldsReferTo_43 : decode cX1_moveWhatFieldsReferTo 43 = .ok (.aload_n 1, 1) := by decide +kernel
theorem dX1_moveWhatFieldsReferTo_44 : decode cX1_moveWhatFieldsReferTo 44 = .ok (.iload 4, 2) := by decide +kernel
theorem dX1_moveWhatFieldsReferTo_46 : decode cX1_moveWhatFieldsReferTo 46 = .ok (.invokevirtual 88, 3) := by decide +kernel
theorem dX1_moveWhatFieldsReferTo_49 : decode cX1_moveWhatFieldsReferTo 49 = .ok (.iadd, 1) := by decide +kernel
theorem dX1_moveWhatFieldsReferTo_50 : decode cX1_moveWhatFieldsReferTo 50 = .ok (.istore_n 3, 1) := by decide +kernel
theorem dX1_moveWhatFieldsReferTo_51 : decode cX1_moveWhatFieldsReferTo 51 = .ok (.goto 24, 3) := by decide +kernel
theorem dX1_moveWhatFieldsReferTo_54 : decode cX1_moveWhatFieldsReferTo 54 = .ok (.iload_n 2, 1) := by decide +kernel
theorem dX1_moveWhatFieldsReferTo_55 : decode cX1_moveWhatFieldsReferTo 55 = .ok (.ifCond .ne 20, 3) := by decide +kernel
theorem dX1_moveWhatFieldsReferTo_58 : decode cX1_moveWhatFieldsReferTo 58 = .ok (.aload_n 1, 1) := by decide +kernel
theorem dX1_moveWhatFieldsReferTo_59 : decode cX1_moveWhatFieldsReferTo 59 = .ok (.iload 4, 2) := by decide +kernel
theorem dX1_moveWhatFieldsReferTo_61 : decode cX1_moveWhatFieldsReferTo 61 = .ok (.aload_n 0, 1) := by decide +kernel
theorem dX1_moveWhatFieldsReferTo_62 : decode cX1_moveWhatFieldsReferTo 62 = .ok (.aload_n 1, 1) := by decide +kernel
theorem dX1_moveWhatFieldsReferTo_63 : decode cX1_moveWhatFieldsReferTo 63 = .ok (.iload 4, 2) := by decide +kernel
theorem dX1_moveWhatFieldsReferTo_65 : decode cX1_moveWhatFieldsReferTo 65 = .ok (.invokevirtual 81, 3) := by decide +kernel
theorem dX1_moveWhatFieldsReferTo_68 : decode cX1_moveWhatFieldsReferTo 68 = .ok (.aload_n 1, 1) := by decide +kernel
theorem dX1_moveWhatFieldsReferTo_69 : decode cX1_moveWhatFieldsReferTo 69 = .ok (.invokevirtual 129, 3) := by decide +kernel
theorem dX1_moveWhatFieldsReferTo_72 : decode cX1_moveWhatFieldsReferTo 72 = .ok (.invokevirtual 76, 3) := by decide +kernel
theorem dX1_moveWhatFieldsReferTo_75 : decode cX1_moveWhatFieldsReferTo 75 = .ok (.iinc 4 1, 3) := by decide +kernel
theorem dX1_moveWhatFieldsReferTo_78 : decode cX1_moveWhatFieldsReferTo 78 = .ok (.goto (-71), 3) := by decide +kernel
theorem dX1_moveWhatFieldsReferTo_81 : decode cX1_moveWhatFieldsReferTo 81 = .ok (.return_, 1) := by decide +kernel
theorem dX0_kindAt_0 : decode cX0_kindAt 0 = .ok (.aload_n 0, 1) := by decide +kernel
theorem dX0_kindAt_1 : decode cX0_kindAt 1 = .ok (.iload_n 1, 1) := by decide +kernel
theorem dX0_kindAt_2 : decode cX0_kindAt 2 = .ok (.invokevirtual 22, 3) := by decide +kernel
theorem dX0_kindAt_5 : decode cX0_kindAt 5 = .ok (.iconst 1, 1) := by decide +kernel
theorem dX0_kindAt_6 : decode cX0_kindAt 6 = .ok (.iand, 1) := by decide +kernel
theorem dX0_kindAt_7 : decode cX0_kindAt 7 = .ok (.ireturn, 1) := by decide +kernel
theorem dX1_make_0 : decode cX1_make 0 = .ok (.iload_n 1, 1) := by decide +kernel
theorem dX1_make_1 : decode cX1_make 1 = .ok (.invokestatic 25, 3) := by decide +kernel
theorem dX1_make_4 : decode cX1_make 4 = .ok (.iload_n 2, 1) := by decide +kernel
theorem dX1_make_5 : decode cX1_make 5 = .ok (.ifCond .eq 8, 3) := by decide +kernel
theorem dX1_make_8 : decode cX1_make 8 = .ok (.iload_n 2, 1) := by decide +kernel
theorem dX1_make_9 : decode cX1_make 9 = .ok (.iconst 1, 1) := by decide +kernel
theorem dX1_make_10 : decode cX1_make 10 = .ok (.if_icmp .ne 14, 3) := by decide +kernel
theorem dX1_make_13 : decode cX1_make 13 = .ok (.iload_n 3, 1) := by decide +kernel
theorem dX1_make_14 : decode cX1_make 14 = .ok (.ifCond .lt 10, 3) := by decide +kernel
theorem dX1_make_17 : decode cX1_make 17 = .ok (.iload_n 3, 1) := by decide +kernel
theorem dX1_make_18 : decode cX1_make 18 = .ok (.sipush 200, 3) := by decide +kernel
theorem dX1_make_21 : decode cX1_make 21 = .ok (.if_icmp .le 13, 3) := by decide +kernel
theorem dX1_make_24 : decode cX1_make 24 = .ok (.new 28, 3) := by decide +kernel
theorem dX1_make_27 : decode cX1_make 27 = .ok (.dup, 1) := by decide +kernel
theorem dX1_make_28 : decode cX1_make 28 = .ok (.ldc 30, 2) := by decide +kernel
theorem dX1_make_30 : decode cX1_make 30 = .ok (.invokespecial 32, 3) := by decide +kernel
theorem dX1_make_33 : decode cX1_make 33 = .ok (.athrow, 1) := by decide +kernel
theorem dX1_make_34 : decode cX1_make 34 = .ok (.aload_n 0, 1) := by decide +kernel
theorem dX1_make_35 : decode cX1_make 35 = .ok (.getfield 18, 3) := by decide +kernel
theorem dX1_make_38 : decode cX1_make 38 = .ok (.iconst 1, 1) := by decide +kernel
theorem dX1_make_39 : decode cX1_make 39 = .ok (.iload_n 3, 1) := by decide +kernel
theorem dX1_make_40 : decode cX1_make 40 = .ok (.iadd, 1) := by decide +kernel
theorem dX1_make_41 : decode cX1_make 41 = .ok (.invokevirtual 35, 3) := by decide +kernel
theorem dX1_make_44 : decode cX1_make 44 = .ok (.ifCond .ne 7, 3) := by decide +kernel
theorem dX1_make_47 : decode cX1_make 47 = .ok (.aload_n 0, 1) := by decide +kernel
theorem dX1_make_48 : decode cX1_make 48 = .ok (.invokevirtual 39, 3) := by decide +kernel
theorem dX1_make_51 : decode cX1_make 51 = .ok (.aload_n 0, 1) := by decide +kernel
theorem dX1_make_52 : decode cX1_make 52 = .ok (.getfield 18, 3) := by decide +kernel
theorem dX1_make_55 : decode cX1_make 55 = .ok (.iconst 1, 1) := by decide +kernel
theorem dX1_make_56 : decode cX1_make 56 = .ok (.iload_n 3, 1) := by decide +kernel
theorem dX1_make_57 : decode cX1_make 57 = .ok (.iadd, 1) := by decide +kernel
theorem dX1_make_58 : decode cX1_make 58 = .ok (.invokevirtual 35, 3) := by decide +kernel
theorem dX1_make_61 : decode cX1_make 61 = .ok (.ifCond .ne 13, 3) := by decide +kernel
theorem dX1_make_64 : decode cX1_make 64 = .ok (.new 42, 3) := by decide +kernel
theorem dX1_make_67 : decode cX1_make 67 = .ok (.dup, 1) := by decide +kernel
theorem dX1_make_68 : decode cX1_make 68 = .ok (.ldc 44, 2) := by decide +kernel
theorem dX1_make_70 : decode cX1_make 70 = .ok (.invokespecial 46, 3) := by decide +kernel
theorem dX1_make_73 : decode cX1_make 73 = .ok (.athrow, 1) := by decide +kernel
theorem dX1_make_74 : decode cX1_make 74 = .ok (.aload_n 0, 1) := by decide +kernel
theorem dX1_make_75 : decode cX1_make 75 = .ok (.getfield 18, 3) := by decide +kernel
theorem dX1_make_78 : decode cX1_make 78 = .ok (.iload_n 2, 1) := by decide +kernel
theorem dX1_make_79 : decode cX1_make 79 = .ok (.iload_n 3, 1) := by decide +kernel
theorem dX1_make_80 : decode cX1_make 80 = .ok (.invokevirtual 47, 3) := by decide +kernel
theorem dX1_make_83 : decode cX1_make 83 = .ok (.istore 4, 2) := by decide +kernel
theorem dX1_make_85 : decode cX1_make 85 = .ok (.aload_n 0, 1) := by decide +kernel
theorem dX1_make_86 : decode cX1_make 86 = .ok (.getfield 9, 3) := by decide +kernel
theorem dX1_make_89 : decode cX1_make 89 = .ok (.iload_n 1, 1) := by decide +kernel
theorem dX1_make_90 : decode cX1_make 90 = .ok (.iload 4, 2) := by decide +kernel
theorem dX1_make_92 : decode cX1_make 92 = .ok (.invokestatic 51, 3) := by decide +kernel
theorem dX1_make_95 : decode cX1_make 95 = .ok (.iastore, 1) := by decide +kernel
theorem dX1_make_96 : decode cX1_make 96 = .ok (.iload 4, 2) := by decide +kernel
theorem dX1_make_98 : decode cX1_make 98 = .ok (.ireturn, 1) := by decide +kernel
theorem dX1_requireRegister_0 : decode cX1_requireRegister 0 = .ok (.iload_n 0, 1) := by decide +kernel
theorem dX1_requireRegister_1 : decode cX1_requireRegister 1 = .ok (.ifCond .lt 9, 3) := by decide +kernel
theorem dX1_requireRegister_4 : decode cX1_requireRegister 4 = .ok (.iload_n 0, 1) := by decide +kernel
theorem dX1_requireRegister_5 : decode cX1_requireRegister 5 = .ok (.bipush 8, 2) := by decide +kernel
theorem dX1_requireRegister_7 : decode cX1_requireRegister 7 = .ok (.if_icmp .lt 13, 3) := by decide +kernel
theorem dX1_requireRegister_10 : decode cX1_requireRegister 10 = .ok (.new 28, 3) := by decide +kernel
theorem dX1_requireRegister_13 : decode cX1_requireRegister 13 = .ok (.dup, 1) := by decide +kernel
theorem dX1_requireRegister_14 : decode cX1_requireRegister 14 = .ok (.ldc 120, 2) := by decide +kernel
theorem dX1_requireRegister_16 : decode cX1_requireRegister 16 = .ok (.invokespecial 32, 3) := by decide +kernel
theorem dX1_requireRegister_19 : decode cX1_requireRegister 19 = .ok (.athrow, 1) := by decide +kernel
theorem dX1_requireRegister_20 : decode cX1_requireRegister 20 = .ok (.return_, 1) := by decide +kernel
theorem dX0_hasRoomFor_0 : decode cX0_hasRoomFor 0 = .ok (.iload_n 1, 1) := by decide +kernel
theorem dX0_hasRoomFor_1 : decode cX0_hasRoomFor 1 = .ok (.aload_n 0, 1) := by decide +kernel
theorem dX0_hasRoomFor_2 : decode cX0_hasRoomFor 2 = .ok (.getfield 11, 3) := by decide +kernel
theorem dX0_hasRoomFor_5 : decode cX0_hasRoomFor 5 = .ok (.arraylength, 1) := by decide +kernel
theorem dX0_hasRoomFor_6 : decode cX0_hasRoomFor 6 = .ok (.aload_n 0, 1) := by decide +kernel
theorem dX0_hasRoomFor_7 : decode cX0_hasRoomFor 7 = .ok (.getfield 15, 3) := by decide +kernel
theorem dX0_hasRoomFor_10 : decode cX0_hasRoomFor 10 = .ok (.isub, 1) := by decide +kernel
theorem dX0_hasRoomFor_11 : decode cX0_hasRoomFor 11 = .ok (.if_icmp .gt 7, 3) := by decide +kernel
theorem dX0_hasRoomFor_14 : decode cX0_hasRoomFor 14 = .ok (.iconst 1, 1) := by decide +kernel
theorem dX0_hasRoomFor_15 : decode cX0_hasRoomFor 15 = .ok (.goto 4, 3) := by decide +kernel
theorem dX0_hasRoomFor_18 : decode cX0_hasRoomFor 18 = .ok (.iconst 0, 1) := by decide +kernel
theorem dX0_hasRoomFor_19 : decode cX0_hasRoomFor 19 = .ok (.ireturn, 1) := by decide +kernel
theorem dX0_addObject_0 : decode cX0_addObject 0 = .ok (.aload_n 0, 1) := by decide +kernel
theorem dX0_addObject_1 : decode cX0_addObject 1 = .ok (.getfield 15, 3) := by decide +kernel
theorem dX0_addObject_4 : decode cX0_addObject 4 = .ok (.istore_n 3, 1) := by decide +kernel
theorem dX0_addObject_5 : decode cX0_addObject 5 = .ok (.aload_n 0, 1) := by decide +kernel
theorem dX0_addObject_6 : decode cX0_addObject 6 = .ok (.iload_n 2, 1) := by decide +kernel
theorem dX0_addObject_7 : decode cX0_addObject 7 = .ok (.iconst 1, 1) := by decide +kernel
theorem dX0_addObject_8 : decode cX0_addObject 8 = .ok (.ishl, 1) := by decide +kernel
theorem dX0_addObject_9 : decode cX0_addObject 9 = .ok (.iload_n 1, 1) := by decide +kernel
theorem dX0_addObject_10 : decode cX0_addObject 10 = .ok (.ior, 1) := by decide +kernel
theorem dX0_addObject_11 : decode cX0_addObject 11 = .ok (.invokevirtual 36, 3) := by decide +kernel
theorem dX0_addObject_14 : decode cX0_addObject 14 = .ok (.iconst 0, 1) := by decide +kernel
theorem dX0_addObject_15 : decode cX0_addObject 15 = .ok (.istore 4, 2) := by decide +kernel
theorem dX0_addObject_17 : decode cX0_addObject 17 = .ok (.iload 4, 2) := by decide +kernel
theorem dX0_addObject_19 : decode cX0_addObject 19 = .ok (.iload_n 2, 1) := by decide +kernel
theorem dX0_addObject_20 : decode cX0_addObject 20 = .ok (.if_icmp .ge 14, 3) := by decide +kernel
theorem dX0_addObject_23 : decode cX0_addObject 23 = .ok (.aload_n 0, 1) := by decide +kernel
theorem dX0_addObject_24 : decode cX0_addObject 24 = .ok (.iconst 0, 1) := by decide +kernel
theorem dX0_addObject_25 : decode cX0_addObject 25 = .ok (.invokevirtual 36, 3) := by decide +kernel
theorem dX0_addObject_28 : decode cX0_addObject 28 = .ok (.iinc 4 1, 3) := by decide +kernel
theorem dX0_addObject_31 : decode cX0_addObject 31 = .ok (.goto (-14), 3) := by decide +kernel
theorem dX0_addObject_34 : decode cX0_addObject 34 = .ok (.aload_n 0, 1) := by decide +kernel
theorem dX0_addObject_35 : decode cX0_addObject 35 = .ok (.dup, 1) := by decide +kernel
theorem dX0_addObject_36 : decode cX0_addObject 36 = .ok (.getfield 19, 3) := by decide +kernel
theorem dX0_addObject_39 : decode cX0_addObject 39 = .ok (.iconst 1, 1) := by decide +kernel
theorem dX0_addObject_40 : decode cX0_addObject 40 = .ok (.iadd, 1) := by decide +kernel
theorem dX0_addObject_41 : decode cX0_addObject 41 = .ok (.putfield 19, 3) := by decide +kernel
theorem dX0_addObject_44 : decode cX0_addObject 44 = .ok (.iload_n 3, 1) := by decide +kernel
theorem dX0_addObject_45 : decode cX0_addObject 45 = .ok (.ireturn, 1) := by decide +kernel
theorem dX1_number_0 : decode cX1_number 0 = .ok (.iload_n 1, 1) := by decide +kernel
theorem dX1_number_1 : decode cX1_number 1 = .ok (.invokestatic 25, 3) := by decide +kernel
theorem dX1_number_4 : decode cX1_number 4 = .ok (.aload_n 0, 1) := by decide +kernel
theorem dX1_number_5 : decode cX1_number 5 = .ok (.getfield 9, 3) := by decide +kernel
theorem dX1_number_8 : decode cX1_number 8 = .ok (.iload_n 1, 1) := by decide +kernel
theorem dX1_number_9 : decode cX1_number 9 = .ok (.iload_n 2, 1) := by decide +kernel
theorem dX1_number_10 : decode cX1_number 10 = .ok (.invokestatic 55, 3) := by decide +kernel
theorem dX1_number_13 : decode cX1_number 13 = .ok (.iastore, 1) := by decide +kernel
theorem dX1_number_14 : decode cX1_number 14 = .ok (.aload_n 0, 1) := by decide +kernel
theorem dX1_number_15 : decode cX1_number 15 = .ok (.getfield 9, 3) := by decide +kernel
theorem dX1_number_18 : decode cX1_number 18 = .ok (.iload_n 1, 1) := by decide +kernel
theorem dX1_number_19 : decode cX1_number 19 = .ok (.iaload, 1) := by decide +kernel
theorem dX1_number_20 : decode cX1_number 20 = .ok (.invokestatic 58, 3) := by decide +kernel
theorem dX1_number_23 : decode cX1_number 23 = .ok (.ireturn, 1) := by decide +kernel
theorem dX1_asNumber_0 : decode cX1_asNumber 0 = .ok (.iload_n 0, 1) := by decide +kernel
theorem dX1_asNumber_1 : decode cX1_asNumber 1 = .ok (.iconst 1, 1) := by decide +kernel
theorem dX1_asNumber_2 : decode cX1_asNumber 2 = .ok (.ishl, 1) := by decide +kernel
theorem dX1_asNumber_3 : decode cX1_asNumber 3 = .ok (.ireturn, 1) := by decide +kernel
theorem dX1_copy_0 : decode cX1_copy 0 = .ok (.iload_n 1, 1) := by decide +kernel
theorem dX1_copy_1 : decode cX1_copy 1 = .ok (.invokestatic 25, 3) := by decide +kernel
theorem dX1_copy_4 : decode cX1_copy 4 = .ok (.iload_n 2, 1) := by decide +kernel
theorem dX1_copy_5 : decode cX1_copy 5 = .ok (.invokestatic 25, 3) := by decide +kernel
theorem dX1_copy_8 : decode cX1_copy 8 = .ok (.aload_n 0, 1) := by decide +kernel
theorem dX1_copy_9 : decode cX1_copy 9 = .ok (.getfield 9, 3) := by decide +kernel
theorem dX1_copy_12 : decode cX1_copy 12 = .ok (.iload_n 1, 1) := by decide +kernel
theorem dX1_copy_13 : decode cX1_copy 13 = .ok (.aload_n 0, 1) := by decide +kernel
theorem dX1_copy_14 : decode cX1_copy 14 = .ok (.getfield 9, 3) := by decide +kernel
theorem dX1_copy_17 : decode cX1_copy 17 = .ok (.iload_n 2, 1) := by decide +kernel
theorem dX1_copy_18 : decode cX1_copy 18 = .ok (.iaload, 1) := by decide +kernel
theorem dX1_copy_19 : decode cX1_copy 19 = .ok (.iastore, 1) := by decide +kernel
theorem dX1_copy_20 : decode cX1_copy 20 = .ok (.aload_n 0, 1) := by decide +kernel
theorem dX1_copy_21 : decode cX1_copy 21 = .ok (.getfield 9, 3) := by decide +kernel
theorem dX1_copy_24 : decode cX1_copy 24 = .ok (.iload_n 1, 1) := by decide +kernel
theorem dX1_copy_25 : decode cX1_copy 25 = .ok (.iaload, 1) := by decide +kernel
theorem dX1_copy_26 : decode cX1_copy 26 = .ok (.invokestatic 61, 3) := by decide +kernel
theorem dX1_copy_29 : decode cX1_copy 29 = .ok (.ireturn, 1) := by decide +kernel
theorem dX1_put_0 : decode cX1_put 0 = .ok (.iload_n 1, 1) := by decide +kernel
theorem dX1_put_1 : decode cX1_put 1 = .ok (.invokestatic 25, 3) := by decide +kernel
theorem dX1_put_4 : decode cX1_put 4 = .ok (.iload_n 3, 1) := by decide +kernel
theorem dX1_put_5 : decode cX1_put 5 = .ok (.invokestatic 25, 3) := by decide +kernel
theorem dX1_put_8 : decode cX1_put 8 = .ok (.aload_n 0, 1) := by decide +kernel
theorem dX1_put_9 : decode cX1_put 9 = .ok (.iload_n 1, 1) := by decide +kernel
theorem dX1_put_10 : decode cX1_put 10 = .ok (.invokevirtual 64, 3) := by decide +kernel
theorem dX1_put_13 : decode cX1_put 13 = .ok (.istore 4, 2) := by decide +kernel
theorem dX1_put_15 : decode cX1_put 15 = .ok (.aload_n 0, 1) := by decide +kernel
theorem dX1_put_16 : decode cX1_put 16 = .ok (.getfield 9, 3) := by decide +kernel
theorem dX1_put_19 : decode cX1_put 19 = .ok (.iload_n 3, 1) := by decide +kernel
theorem dX1_put_20 : decode cX1_put 20 = .ok (.iaload, 1) := by decide +kernel
theorem dX1_put_21 : decode cX1_put 21 = .ok (.istore 5, 2) := by decide +kernel
theorem dX1_put_23 : decode cX1_put 23 = .ok (.aload_n 0, 1) := by decide +kernel
theorem dX1_put_24 : decode cX1_put 24 = .ok (.getfield 18, 3) := by decide +kernel
theorem dX1_put_27 : decode cX1_put 27 = .ok (.iload 4, 2) := by decide +kernel
theorem dX1_put_29 : decode cX1_put 29 = .ok (.invokevirtual 67, 3) := by decide +kernel
theorem dX1_put_32 : decode cX1_put 32 = .ok (.iconst 1, 1) := by decide +kernel
theorem dX1_put_33 : decode cX1_put 33 = .ok (.if_icmp .ne 7, 3) := by decide +kernel
theorem dX1_put_36 : decode cX1_put 36 = .ok (.iconst 1, 1) := by decide +kernel
theorem dX1_put_37 : decode cX1_put 37 = .ok (.goto 4, 3) := by decide +kernel
theorem dX1_put_40 : decode cX1_put 40 = .ok (.iconst 0, 1) := by decide +kernel
theorem dX1_put_41 : decode cX1_put 41 = .ok (.istore 6, 2) := by decide +kernel
theorem dX1_put_43 : decode cX1_put 43 = .ok (.iload 6, 2) := by decide +kernel
theorem dX1_put_45 : decode cX1_put 45 = .ok (.ifCond .eq 21, 3) := by decide +kernel
theorem dX1_put_48 : decode cX1_put 48 = .ok (.iload 5, 2) := by decide +kernel
theorem dX1_put_50 : decode cX1_put 50 = .ok (.invokestatic 61, 3) := by decide +kernel
theorem dX1_put_53 : decode cX1_put 53 = .ok (.ifCond .eq 13, 3) := by decide +kernel
theorem dX1_put_56 : decode cX1_put 56 = .ok (.new 42, 3) := by decide +kernel
theorem dX1_put_59 : decode cX1_put 59 = .ok (.dup, 1) := by decide +kernel
theorem dX1_put_60 : decode cX1_put 60 = .ok (.ldc 70, 2) := by decide +kernel
theorem dX1_put_62 : decode cX1_put 62 = .ok (.invokespecial 46, 3) := by decide +kernel
theorem dX1_put_65 : decode cX1_put 65 = .ok (.athrow, 1) := by decide +kernel
theorem dX1_put_66 : decode cX1_put 66 = .ok (.aload_n 0, 1) := by decide +kernel
theorem dX1_put_67 : decode cX1_put 67 = .ok (.iload 4, 2) := by decide +kernel
theorem dX1_put_69 : decode cX1_put 69 = .ok (.iload_n 2, 1) := by decide +kernel
theorem dX1_put_70 : decode cX1_put 70 = .ok (.invokevirtual 72, 3) := by decide +kernel
theorem dX1_put_73 : decode cX1_put 73 = .ok (.aload_n 0, 1) := by decide +kernel
theorem dX1_put_74 : decode cX1_put 74 = .ok (.getfield 18, 3) := by decide +kernel
theorem dX1_put_77 : decode cX1_put 77 = .ok (.iload 4, 2) := by decide +kernel
theorem dX1_put_79 : decode cX1_put 79 = .ok (.iconst 1, 1) := by decide +kernel
theorem dX1_put_80 : decode cX1_put 80 = .ok (.iadd, 1) := by decide +kernel
theorem dX1_put_81 : decode cX1_put 81 = .ok (.iload_n 2, 1) := by decide +kernel
theorem dX1_put_82 : decode cX1_put 82 = .ok (.iadd, 1) := by decide +kernel
theorem dX1_put_83 : decode cX1_put 83 = .ok (.iload 6, 2) := by decide +kernel
theorem dX1_put_85 : decode cX1_put 85 = .ok (.ifCond .eq 11, 3) := by decide +kernel
theorem dX1_put_88 : decode cX1_put 88 = .ok (.iload 5, 2) := by decide +kernel
theorem dX1_put_90 : decode cX1_put 90 = .ok (.invokestatic 58, 3) := by decide +kernel
theorem dX1_put_93 : decode cX1_put 93 = .ok (.goto 5, 3) := by decide +kernel
theorem dX1_put_96 : decode cX1_put 96 = .ok (.iload 5, 2) := by decide +kernel
theorem dX1_put_98 : decode cX1_put 98 = .ok (.invokevirtual 76, 3) := by decide +kernel
theorem dX1_put_101 : decode cX1_put 101 = .ok (.return_, 1) := by decide +kernel
theorem dX1_objectOf_0 : decode cX1_objectOf 0 = .ok (.aload_n 0, 1) := by decide +kernel
theorem dX1_objectOf_1 : decode cX1_objectOf 1 = .ok (.getfield 9, 3) := by decide +kernel
theorem dX1_objectOf_4 : decode cX1_objectOf 4 = .ok (.iload_n 1, 1) := by decide +kernel
theorem dX1_objectOf_5 : decode cX1_objectOf 5 = .ok (.iaload, 1) := by decide +kernel
theorem dX1_objectOf_6 : decode cX1_objectOf 6 = .ok (.istore_n 2, 1) := by decide +kernel
theorem dX1_objectOf_7 : decode cX1_objectOf 7 = .ok (.iload_n 2, 1) := by decide +kernel
theorem dX1_objectOf_8 : decode cX1_objectOf 8 = .ok (.invokestatic 61, 3) := by decide +kernel
theorem dX1_objectOf_11 : decode cX1_objectOf 11 = .ok (.ifCond .ne 13, 3) := by decide +kernel
theorem dX1_objectOf_14 : decode cX1_objectOf 14 = .ok (.new 42, 3) := by decide +kernel
theorem dX1_objectOf_17 : decode cX1_objectOf 17 = .ok (.dup, 1) := by decide +kernel
theorem dX1_objectOf_18 : decode cX1_objectOf 18 = .ok (.ldc 124, 2) := by decide +kernel
theorem dX1_objectOf_20 : decode cX1_objectOf 20 = .ok (.invokespecial 46, 3) := by decide +kernel
theorem dX1_objectOf_23 : decode cX1_objectOf 23 = .ok (.athrow, 1) := by decide +kernel
theorem dX1_objectOf_24 : decode cX1_objectOf 24 = .ok (.iload_n 2, 1) := by decide +kernel
theorem dX1_objectOf_25 : decode cX1_objectOf 25 = .ok (.invokestatic 58, 3) := by decide +kernel
theorem dX1_objectOf_28 : decode cX1_objectOf 28 = .ok (.ireturn, 1) := by decide +kernel
theorem dX1_requireField_0 : decode cX1_requireField 0 = .ok (.iload_n 2, 1) := by decide +kernel
theorem dX1_requireField_1 : decode cX1_requireField 1 = .ok (.ifCond .lt 15, 3) := by decide +kernel
theorem dX1_requireField_4 : decode cX1_requireField 4 = .ok (.iload_n 2, 1) := by decide +kernel
theorem dX1_requireField_5 : decode cX1_requireField 5 = .ok (.aload_n 0, 1) := by decide +kernel
theorem dX1_requireField_6 : decode cX1_requireField 6 = .ok (.getfield 18, 3) := by decide +kernel
theorem dX1_requireField_9 : decode cX1_requireField 9 = .ok (.iload_n 1, 1) := by decide +kernel
theorem dX1_requireField_10 : decode cX1_requireField 10 = .ok (.invokevirtual 88, 3) := by decide +kernel
theorem dX1_requireField_13 : decode cX1_requireField 13 = .ok (.if_icmp .lt 13, 3) := by decide +kernel
theorem dX1_requireField_16 : decode cX1_requireField 16 = .ok (.new 91, 3) := by decide +kernel
theorem dX1_requireField_19 : decode cX1_requireField 19 = .ok (.dup, 1) := by decide +kernel
theorem dX1_requireField_20 : decode cX1_requireField 20 = .ok (.ldc 122, 2) := by decide +kernel
theorem dX1_requireField_22 : decode cX1_requireField 22 = .ok (.invokespecial 95, 3) := by decide +kernel
theorem dX1_requireField_25 : decode cX1_requireField 25 = .ok (.athrow, 1) := by decide +kernel
theorem dX1_requireField_26 : decode cX1_requireField 26 = .ok (.return_, 1) := by decide +kernel
theorem dX1_raw_0 : decode cX1_raw 0 = .ok (.iload_n 1, 1) := by decide +kernel
theorem dX1_raw_1 : decode cX1_raw 1 = .ok (.invokestatic 25, 3) := by decide +kernel
theorem dX1_raw_4 : decode cX1_raw 4 = .ok (.aload_n 0, 1) := by decide +kernel
theorem dX1_raw_5 : decode cX1_raw 5 = .ok (.iload_n 1, 1) := by decide +kernel
theorem dX1_raw_6 : decode cX1_raw 6 = .ok (.invokevirtual 64, 3) := by decide +kernel
theorem dX1_raw_9 : decode cX1_raw 9 = .ok (.istore 4, 2) := by decide +kernel
theorem dX1_raw_11 : decode cX1_raw 11 = .ok (.aload_n 0, 1) := by decide +kernel
theorem dX1_raw_12 : decode cX1_raw 12 = .ok (.getfield 18, 3) := by decide +kernel
theorem dX1_raw_15 : decode cX1_raw 15 = .ok (.iload 4, 2) := by decide +kernel
theorem dX1_raw_17 : decode cX1_raw 17 = .ok (.invokevirtual 67, 3) := by decide +kernel
theorem dX1_raw_20 : decode cX1_raw 20 = .ok (.iconst 1, 1) := by decide +kernel
theorem dX1_raw_21 : decode cX1_raw 21 = .ok (.if_icmp .eq 13, 3) := by decide +kernel
theorem dX1_raw_24 : decode cX1_raw 24 = .ok (.new 42, 3) := by decide +kernel
theorem dX1_raw_27 : decode cX1_raw 27 = .ok (.dup, 1) := by decide +kernel
theorem dX1_raw_28 : decode cX1_raw 28 = .ok (.ldc 79, 2) := by decide +kernel
theorem dX1_raw_30 : decode cX1_raw 30 = .ok (.invokespecial 46, 3) := by decide +kernel
theorem dX1_raw_33 : decode cX1_raw 33 = .ok (.athrow, 1) := by decide +kernel
theorem dX1_raw_34 : decode cX1_raw 34 = .ok (.aload_n 0, 1) := by decide +kernel
theorem dX1_raw_35 : decode cX1_raw 35 = .ok (.iload 4, 2) := by decide +kernel
theorem dX1_raw_37 : decode cX1_raw 37 = .ok (.iload_n 2, 1) := by decide +kernel
theorem dX1_raw_38 : decode cX1_raw 38 = .ok (.invokevirtual 72, 3) := by decide +kernel
theorem dX1_raw_41 : decode cX1_raw 41 = .ok (.aload_n 0, 1) := by decide +kernel
theorem dX1_raw_42 : decode cX1_raw 42 = .ok (.getfield 18, 3) := by decide +kernel
theorem dX1_raw_45 : decode cX1_raw 45 = .ok (.iload 4, 2) := by decide +kernel
theorem dX1_raw_47 : decode cX1_raw 47 = .ok (.iconst 1, 1) := by decide +kernel
theorem dX1_raw_48 : decode cX1_raw 48 = .ok (.iadd, 1) := by decide +kernel
theorem dX1_raw_49 : decode cX1_raw 49 = .ok (.iload_n 2, 1) := by decide +kernel
theorem dX1_raw_50 : decode cX1_raw 50 = .ok (.iadd, 1) := by decide +kernel
theorem dX1_raw_51 : decode cX1_raw 51 = .ok (.invokevirtual 81, 3) := by decide +kernel
theorem dX1_raw_54 : decode cX1_raw 54 = .ok (.istore 5, 2) := by decide +kernel
theorem dX1_raw_56 : decode cX1_raw 56 = .ok (.aload_n 0, 1) := by decide +kernel
theorem dX1_raw_57 : decode cX1_raw 57 = .ok (.getfield 18, 3) := by decide +kernel
theorem dX1_raw_60 : decode cX1_raw 60 = .ok (.iload 4, 2) := by decide +kernel
theorem dX1_raw_62 : decode cX1_raw 62 = .ok (.iconst 1, 1) := by decide +kernel
theorem dX1_raw_63 : decode cX1_raw 63 = .ok (.iadd, 1) := by decide +kernel
theorem dX1_raw_64 : decode cX1_raw 64 = .ok (.iload_n 2, 1) := by decide +kernel
theorem dX1_raw_65 : decode cX1_raw 65 = .ok (.iadd, 1) := by decide +kernel
theorem dX1_raw_66 : decode cX1_raw 66 = .ok (.iload_n 3, 1) := by decide +kernel
theorem dX1_raw_67 : decode cX1_raw 67 = .ok (.invokevirtual 76, 3) := by decide +kernel
theorem dX1_raw_70 : decode cX1_raw 70 = .ok (.iload 5, 2) := by decide +kernel
theorem dX1_raw_72 : decode cX1_raw 72 = .ok (.ireturn, 1) := by decide +kernel
theorem dX1_get_0 : decode cX1_get 0 = .ok (.iload_n 1, 1) := by decide +kernel
theorem dX1_get_1 : decode cX1_get 1 = .ok (.invokestatic 25, 3) := by decide +kernel
theorem dX1_get_4 : decode cX1_get 4 = .ok (.iload_n 2, 1) := by decide +kernel
theorem dX1_get_5 : decode cX1_get 5 = .ok (.invokestatic 25, 3) := by decide +kernel
theorem dX1_get_8 : decode cX1_get 8 = .ok (.aload_n 0, 1) := by decide +kernel
theorem dX1_get_9 : decode cX1_get 9 = .ok (.iload_n 2, 1) := by decide +kernel
theorem dX1_get_10 : decode cX1_get 10 = .ok (.invokevirtual 64, 3) := by decide +kernel
theorem dX1_get_13 : decode cX1_get 13 = .ok (.istore 4, 2) := by decide +kernel
theorem dX1_get_15 : decode cX1_get 15 = .ok (.aload_n 0, 1) := by decide +kernel
theorem dX1_get_16 : decode cX1_get 16 = .ok (.iload 4, 2) := by decide +kernel
theorem dX1_get_18 : decode cX1_get 18 = .ok (.iload_n 3, 1) := by decide +kernel
theorem dX1_get_19 : decode cX1_get 19 = .ok (.invokevirtual 72, 3) := by decide +kernel
theorem dX1_get_22 : decode cX1_get 22 = .ok (.aload_n 0, 1) := by decide +kernel
theorem dX1_get_23 : decode cX1_get 23 = .ok (.getfield 18, 3) := by decide +kernel
theorem dX1_get_26 : decode cX1_get 26 = .ok (.iload 4, 2) := by decide +kernel
theorem dX1_get_28 : decode cX1_get 28 = .ok (.iconst 1, 1) := by decide +kernel
theorem dX1_get_29 : decode cX1_get 29 = .ok (.iadd, 1) := by decide +kernel
theorem dX1_get_30 : decode cX1_get 30 = .ok (.iload_n 3, 1) := by decide +kernel
theorem dX1_get_31 : decode cX1_get 31 = .ok (.iadd, 1) := by decide +kernel
theorem dX1_get_32 : decode cX1_get 32 = .ok (.invokevirtual 81, 3) := by decide +kernel
theorem dX1_get_35 : decode cX1_get 35 = .ok (.istore 5, 2) := by decide +kernel
theorem dX1_get_37 : decode cX1_get 37 = .ok (.aload_n 0, 1) := by decide +kernel
theorem dX1_get_38 : decode cX1_get 38 = .ok (.getfield 9, 3) := by decide +kernel
theorem dX1_get_41 : decode cX1_get 41 = .ok (.iload_n 1, 1) := by decide +kernel
theorem dX1_get_42 : decode cX1_get 42 = .ok (.aload_n 0, 1) := by decide +kernel
theorem dX1_get_43 : decode cX1_get 43 = .ok (.getfield 18, 3) := by decide +kernel
theorem dX1_get_46 : decode cX1_get 46 = .ok (.iload 4, 2) := by decide +kernel
theorem dX1_get_48 : decode cX1_get 48 = .ok (.invokevirtual 67, 3) := by decide +kernel
theorem dX1_get_51 : decode cX1_get 51 = .ok (.iconst 1, 1) := by decide +kernel
theorem dX1_get_52 : decode cX1_get 52 = .ok (.if_icmp .ne 11, 3) := by decide +kernel
theorem dX1_get_55 : decode cX1_get 55 = .ok (.iload 5, 2) := by decide +kernel
theorem dX1_get_57 : decode cX1_get 57 = .ok (.invokestatic 55, 3) := by decide +kernel
theorem dX1_get_60 : decode cX1_get 60 = .ok (.goto 5, 3) := by decide +kernel
theorem dX1_get_63 : decode cX1_get 63 = .ok (.iload 5, 2) := by decide +kernel
theorem dX1_get_65 : decode cX1_get 65 = .ok (.iastore, 1) := by decide +kernel
theorem dX1_get_66 : decode cX1_get 66 = .ok (.aload_n 0, 1) := by decide +kernel
theorem dX1_get_67 : decode cX1_get 67 = .ok (.getfield 9, 3) := by decide +kernel
theorem dX1_get_70 : decode cX1_get 70 = .ok (.iload_n 1, 1) := by decide +kernel
theorem dX1_get_71 : decode cX1_get 71 = .ok (.iaload, 1) := by decide +kernel
theorem dX1_get_72 : decode cX1_get 72 = .ok (.invokestatic 61, 3) := by decide +kernel
theorem dX1_get_75 : decode cX1_get 75 = .ok (.ireturn, 1) := by decide +kernel
theorem dX1_about_0 : decode cX1_about 0 = .ok (.iload_n 1, 1) := by decide +kernel
theorem dX1_about_1 : decode cX1_about 1 = .ok (.invokestatic 25, 3) := by decide +kernel
theorem dX1_about_4 : decode cX1_about 4 = .ok (.aload_n 0, 1) := by decide +kernel
theorem dX1_about_5 : decode cX1_about 5 = .ok (.getfield 9, 3) := by decide +kernel
theorem dX1_about_8 : decode cX1_about 8 = .ok (.iload_n 1, 1) := by decide +kernel
theorem dX1_about_9 : decode cX1_about 9 = .ok (.iaload, 1) := by decide +kernel
theorem dX1_about_10 : decode cX1_about 10 = .ok (.istore_n 3, 1) := by decide +kernel
theorem dX1_about_11 : decode cX1_about 11 = .ok (.iload_n 3, 1) := by decide +kernel
theorem dX1_about_12 : decode cX1_about 12 = .ok (.invokestatic 61, 3) := by decide +kernel
theorem dX1_about_15 : decode cX1_about 15 = .ok (.istore 4, 2) := by decide +kernel
theorem dX1_about_17 : decode cX1_about 17 = .ok (.iload_n 3, 1) := by decide +kernel
theorem dX1_about_18 : decode cX1_about 18 = .ok (.invokestatic 58, 3) := by decide +kernel
theorem dX1_about_21 : decode cX1_about 21 = .ok (.istore 5, 2) := by decide +kernel
theorem dX1_about_23 : decode cX1_about 23 = .ok (.iload_n 2, 1) := by decide +kernel
theorem dX1_about_24 : decode cX1_about 24 = .ok (.tableswitch 94 0 3 #[32, 44, 56, 75], 32) := by decide +kernel
theorem dX1_about_56 : decode cX1_about 56 = .ok (.iload 4, 2) := by decide +kernel
theorem dX1_about_58 : decode cX1_about 58 = .ok (.ifCond .eq 8, 3) := by decide +kernel
theorem dX1_about_61 : decode cX1_about 61 = .ok (.iload 5, 2) := by decide +kernel
theorem dX1_about_63 : decode cX1_about 63 = .ok (.goto 4, 3) := by decide +kernel
theorem dX1_about_66 : decode cX1_about 66 = .ok (.iconst (-1), 1) := by decide +kernel
theorem dX1_about_67 : decode cX1_about 67 = .ok (.ireturn, 1) := by decide +kernel
theorem dX1_about_68 : decode cX1_about 68 = .ok (.iload 4, 2) := by decide +kernel
theorem dX1_about_70 : decode cX1_about 70 = .ok (.ifCond .eq 7, 3) := by decide +kernel
theorem dX1_about_73 : decode cX1_about 73 = .ok (.iconst 0, 1) := by decide +kernel
theorem dX1_about_74 : decode cX1_about 74 = .ok (.goto 5, 3) := by decide +kernel
theorem dX1_about_77 : decode cX1_about 77 = .ok (.iload 5, 2) := by decide +kernel
theorem dX1_about_79 : decode cX1_about 79 = .ok (.ireturn, 1) := by decide +kernel
theorem dX1_about_80 : decode cX1_about 80 = .ok (.iload 4, 2) := by decide +kernel
theorem dX1_about_82 : decode cX1_about 82 = .ok (.ifCond .eq 15, 3) := by decide +kernel
theorem dX1_about_85 : decode cX1_about 85 = .ok (.aload_n 0, 1) := by decide +kernel
theorem dX1_about_86 : decode cX1_about 86 = .ok (.getfield 18, 3) := by decide +kernel
theorem dX1_about_89 : decode cX1_about 89 = .ok (.iload 5, 2) := by decide +kernel
theorem dX1_about_91 : decode cX1_about 91 = .ok (.invokevirtual 67, 3) := by decide +kernel
theorem dX1_about_94 : decode cX1_about 94 = .ok (.goto 4, 3) := by decide +kernel
theorem dX1_about_97 : decode cX1_about 97 = .ok (.iconst (-1), 1) := by decide +kernel
theorem dX1_about_98 : decode cX1_about 98 = .ok (.ireturn, 1) := by decide +kernel
theorem dX1_about_99 : decode cX1_about 99 = .ok (.iload 4, 2) := by decide +kernel
theorem dX1_about_101 : decode cX1_about 101 = .ok (.ifCond .eq 15, 3) := by decide +kernel
theorem dX1_about_104 : decode cX1_about 104 = .ok (.aload_n 0, 1) := by decide +kernel
theorem dX1_about_105 : decode cX1_about 105 = .ok (.getfield 18, 3) := by decide +kernel
theorem dX1_about_108 : decode cX1_about 108 = .ok (.iload 5, 2) := by decide +kernel
theorem dX1_about_110 : decode cX1_about 110 = .ok (.invokevirtual 88, 3) := by decide +kernel
theorem dX1_about_113 : decode cX1_about 113 = .ok (.goto 4, 3) := by decide +kernel
theorem dX1_about_116 : decode cX1_about 116 = .ok (.iconst (-1), 1) := by decide +kernel
theorem dX1_about_117 : decode cX1_about 117 = .ok (.ireturn, 1) := by decide +kernel
theorem dX1_about_118 : decode cX1_about 118 = .ok (.new 91, 3) := by decide +kernel
theorem dX1_about_121 : decode cX1_about 121 = .ok (.dup, 1) := by decide +kernel
theorem dX1_about_122 : decode cX1_about 122 = .ok (.ldc 93, 2) := by decide +kernel
theorem dX1_about_124 : decode cX1_about 124 = .ok (.invokespecial 95, 3) := by decide +kernel
theorem dX1_about_127 : decode cX1_about 127 = .ok (.athrow, 1) := by decide +kernel
theorem dX1_look_0 : decode cX1_look 0 = .ok (.aload_n 0, 1) := by decide +kernel
theorem dX1_look_1 : decode cX1_look 1 = .ok (.getfield 18, 3) := by decide +kernel
theorem dX1_look_4 : decode cX1_look 4 = .ok (.iload_n 1, 1) := by decide +kernel
theorem dX1_look_5 : decode cX1_look 5 = .ok (.invokevirtual 96, 3) := by decide +kernel
theorem dX1_look_8 : decode cX1_look 8 = .ok (.ifCond .ne 13, 3) := by decide +kernel
theorem dX1_look_11 : decode cX1_look 11 = .ok (.new 91, 3) := by decide +kernel
theorem dX1_look_14 : decode cX1_look 14 = .ok (.dup, 1) := by decide +kernel
theorem dX1_look_15 : decode cX1_look 15 = .ok (.ldc 99, 2) := by decide +kernel
theorem dX1_look_17 : decode cX1_look 17 = .ok (.invokespecial 95, 3) := by decide +kernel
theorem dX1_look_20 : decode cX1_look 20 = .ok (.athrow, 1) := by decide +kernel
theorem dX1_look_21 : decode cX1_look 21 = .ok (.aload_n 0, 1) := by decide +kernel
theorem dX1_look_22 : decode cX1_look 22 = .ok (.getfield 18, 3) := by decide +kernel
theorem dX1_look_25 : decode cX1_look 25 = .ok (.iload_n 1, 1) := by decide +kernel
theorem dX1_look_26 : decode cX1_look 26 = .ok (.invokevirtual 101, 3) := by decide +kernel
theorem dX1_look_29 : decode cX1_look 29 = .ok (.istore_n 3, 1) := by decide +kernel
theorem dX1_look_30 : decode cX1_look 30 = .ok (.aload_n 0, 1) := by decide +kernel
theorem dX1_look_31 : decode cX1_look 31 = .ok (.getfield 18, 3) := by decide +kernel
theorem dX1_look_34 : decode cX1_look 34 = .ok (.iload_n 1, 1) := by decide +kernel
theorem dX1_look_35 : decode cX1_look 35 = .ok (.invokevirtual 81, 3) := by decide +kernel
theorem dX1_look_38 : decode cX1_look 38 = .ok (.istore 4, 2) := by decide +kernel
theorem dX1_look_40 : decode cX1_look 40 = .ok (.iload_n 2, 1) := by decide +kernel
theorem dX1_look_41 : decode cX1_look 41 = .ok (.lookupswitch 50 #[(0, 27), (1, 29)], 27) := by decide +kernel
theorem dX1_look_68 : decode cX1_look 68 = .ok (.iload_n 3, 1) := by decide +kernel
theorem dX1_look_69 : decode cX1_look 69 = .ok (.ireturn, 1) := by decide +kernel
theorem dX1_look_70 : decode cX1_look 70 = .ok (.iload_n 3, 1) := by decide +kernel
theorem dX1_look_71 : decode cX1_look 71 = .ok (.iconst 1, 1) := by decide +kernel
theorem dX1_look_72 : decode cX1_look 72 = .ok (.if_icmp .eq 8, 3) := by decide +kernel
theorem dX1_look_75 : decode cX1_look 75 = .ok (.iload_n 3, 1) := by decide +kernel
theorem dX1_look_76 : decode cX1_look 76 = .ok (.iconst 2, 1) := by decide +kernel
theorem dX1_look_77 : decode cX1_look 77 = .ok (.if_icmp .ne 11, 3) := by decide +kernel
theorem dX1_look_80 : decode cX1_look 80 = .ok (.iload 4, 2) := by decide +kernel
theorem dX1_look_82 : decode cX1_look 82 = .ok (.invokestatic 58, 3) := by decide +kernel
theorem dX1_look_85 : decode cX1_look 85 = .ok (.goto 5, 3) := by decide +kernel
theorem dX1_look_88 : decode cX1_look 88 = .ok (.iload 4, 2) := by decide +kernel
theorem dX1_look_90 : decode cX1_look 90 = .ok (.ireturn, 1) := by decide +kernel
theorem dX1_look_91 : decode cX1_look 91 = .ok (.new 91, 3) := by decide +kernel
theorem dX1_look_94 : decode cX1_look 94 = .ok (.dup, 1) := by decide +kernel
theorem dX1_look_95 : decode cX1_look 95 = .ok (.ldc 104, 2) := by decide +kernel
theorem dX1_look_97 : decode cX1_look 97 = .ok (.invokespecial 95, 3) := by decide +kernel
theorem dX1_look_100 : decode cX1_look 100 = .ok (.athrow, 1) := by decide +kernel
theorem dX0_holds_0 : decode cX0_holds 0 = .ok (.iload_n 1, 1) := by decide +kernel
theorem dX0_holds_1 : decode cX0_holds 1 = .ok (.ifCond .lt 15, 3) := by decide +kernel
theorem dX0_holds_4 : decode cX0_holds 4 = .ok (.iload_n 1, 1) := by decide +kernel
theorem dX0_holds_5 : decode cX0_holds 5 = .ok (.aload_n 0, 1) := by decide +kernel
theorem dX0_holds_6 : decode cX0_holds 6 = .ok (.getfield 15, 3) := by decide +kernel
theorem dX0_holds_9 : decode cX0_holds 9 = .ok (.if_icmp .ge 7, 3) := by decide +kernel
theorem dX0_holds_12 : decode cX0_holds 12 = .ok (.iconst 1, 1) := by decide +kernel
theorem dX0_holds_13 : decode cX0_holds 13 = .ok (.goto 4, 3) := by decide +kernel
theorem dX0_holds_16 : decode cX0_holds 16 = .ok (.iconst 0, 1) := by decide +kernel
theorem dX0_holds_17 : decode cX0_holds 17 = .ok (.ireturn, 1) := by decide +kernel
theorem dX0_sortAt_0 : decode cX0_sortAt 0 = .ok (.iconst 0, 1) := by decide +kernel
theorem dX0_sortAt_1 : decode cX0_sortAt 1 = .ok (.istore_n 2, 1) := by decide +kernel
theorem dX0_sortAt_2 : decode cX0_sortAt 2 = .ok (.iconst 0, 1) := by decide +kernel
theorem dX0_sortAt_3 : decode cX0_sortAt 3 = .ok (.istore_n 3, 1) := by decide +kernel
theorem dX0_sortAt_4 : decode cX0_sortAt 4 = .ok (.iconst 0, 1) := by decide +kernel
theorem dX0_sortAt_5 : decode cX0_sortAt 5 = .ok (.istore 4, 2) := by decide +kernel
theorem dX0_sortAt_7 : decode cX0_sortAt 7 = .ok (.iload 4, 2) := by decide +kernel
theorem dX0_sortAt_9 : decode cX0_sortAt 9 = .ok (.iload_n 1, 1) := by decide +kernel
theorem dX0_sortAt_10 : decode cX0_sortAt 10 = .ok (.if_icmp .gt 39, 3) := by decide +kernel
theorem dX0_sortAt_13 : decode cX0_sortAt 13 = .ok (.iload 4, 2) := by decide +kernel
theorem dX0_sortAt_15 : decode cX0_sortAt 15 = .ok (.aload_n 0, 1) := by decide +kernel
theorem dX0_sortAt_16 : decode cX0_sortAt 16 = .ok (.getfield 15, 3) := by decide +kernel
theorem dX0_sortAt_19 : decode cX0_sortAt 19 = .ok (.if_icmp .ge 30, 3) := by decide +kernel
theorem dX0_sortAt_22 : decode cX0_sortAt 22 = .ok (.iload 4, 2) := by decide +kernel
theorem dX0_sortAt_24 : decode cX0_sortAt 24 = .ok (.iload_n 3, 1) := by decide +kernel
theorem dX0_sortAt_25 : decode cX0_sortAt 25 = .ok (.if_icmp .ne 18, 3) := by decide +kernel
theorem dX0_sortAt_28 : decode cX0_sortAt 28 = .ok (.iload 4, 2) := by decide +kernel
theorem dX0_sortAt_30 : decode cX0_sortAt 30 = .ok (.istore_n 2, 1) := by decide +kernel
theorem dX0_sortAt_31 : decode cX0_sortAt 31 = .ok (.iload 4, 2) := by decide +kernel
theorem dX0_sortAt_33 : decode cX0_sortAt 33 = .ok (.iconst 1, 1) := by decide +kernel
theorem dX0_sortAt_34 : decode cX0_sortAt 34 = .ok (.iadd, 1) := by decide +kernel
theorem dX0_sortAt_35 : decode cX0_sortAt 35 = .ok (.aload_n 0, 1) := by decide +kernel
theorem dX0_sortAt_36 : decode cX0_sortAt 36 = .ok (.iload 4, 2) := by decide +kernel
theorem dX0_sortAt_38 : decode cX0_sortAt 38 = .ok (.invokevirtual 26, 3) := by decide +kernel
theorem dX0_sortAt_41 : decode cX0_sortAt 41 = .ok (.iadd, 1) := by decide +kernel
theorem dX0_sortAt_42 : decode cX0_sortAt 42 = .ok (.istore_n 3, 1) := by decide +kernel
theorem dX0_sortAt_43 : decode cX0_sortAt 43 = .ok (.iinc 4 1, 3) := by decide +kernel
theorem dX0_sortAt_46 : decode cX0_sortAt 46 = .ok (.goto (-39), 3) := by decide +kernel
theorem dX0_sortAt_49 : decode cX0_sortAt 49 = .ok (.iload_n 1, 1) := by decide +kernel
theorem dX0_sortAt_50 : decode cX0_sortAt 50 = .ok (.iload_n 2, 1) := by decide +kernel
theorem dX0_sortAt_51 : decode cX0_sortAt 51 = .ok (.if_icmp .ne 5, 3) := by decide +kernel
theorem dX0_sortAt_54 : decode cX0_sortAt 54 = .ok (.iconst 0, 1) := by decide +kernel
theorem dX0_sortAt_55 : decode cX0_sortAt 55 = .ok (.ireturn, 1) := by decide +kernel
theorem dX0_sortAt_56 : decode cX0_sortAt 56 = .ok (.aload_n 0, 1) := by decide +kernel
theorem dX0_sortAt_57 : decode cX0_sortAt 57 = .ok (.iload_n 2, 1) := by decide +kernel
theorem dX0_sortAt_58 : decode cX0_sortAt 58 = .ok (.invokevirtual 29, 3) := by decide +kernel
theorem dX0_sortAt_61 : decode cX0_sortAt 61 = .ok (.iconst 1, 1) := by decide +kernel
theorem dX0_sortAt_62 : decode cX0_sortAt 62 = .ok (.if_icmp .ne 5, 3) := by decide +kernel
theorem dX0_sortAt_65 : decode cX0_sortAt 65 = .ok (.iconst 3, 1) := by decide +kernel
theorem dX0_sortAt_66 : decode cX0_sortAt 66 = .ok (.ireturn, 1) := by decide +kernel
theorem dX0_sortAt_67 : decode cX0_sortAt 67 = .ok (.aload_n 0, 1) := by decide +kernel
theorem dX0_sortAt_68 : decode cX0_sortAt 68 = .ok (.iload_n 1, 1) := by decide +kernel
theorem dX0_sortAt_69 : decode cX0_sortAt 69 = .ok (.invokevirtual 22, 3) := by decide +kernel
theorem dX0_sortAt_72 : decode cX0_sortAt 72 = .ok (.invokestatic 32, 3) := by decide +kernel
theorem dX0_sortAt_75 : decode cX0_sortAt 75 = .ok (.ifCond .eq 7, 3) := by decide +kernel
theorem dX0_sortAt_78 : decode cX0_sortAt 78 = .ok (.iconst 2, 1) := by decide +kernel
theorem dX0_sortAt_79 : decode cX0_sortAt 79 = .ok (.goto 4, 3) := by decide +kernel
theorem dX0_sortAt_82 : decode cX0_sortAt 82 = .ok (.iconst 1, 1) := by decide +kernel
theorem dX0_sortAt_83 : decode cX0_sortAt 83 = .ok (.ireturn, 1) := by decide +kernel
theorem dX1_count_0 : decode cX1_count 0 = .ok (.iload_n 1, 1) := by decide +kernel
theorem dX1_count_1 : decode cX1_count 1 = .ok (.tableswitch 70 0 4 #[35, 44, 52, 57, 62], 35) := by decide +kernel
theorem dX1_count_36 : decode cX1_count 36 = .ok (.aload_n 0, 1) := by decide +kernel
theorem dX1_count_37 : decode cX1_count 37 = .ok (.getfield 18, 3) := by decide +kernel
theorem dX1_count_40 : decode cX1_count 40 = .ok (.getfield 106, 3) := by decide +kernel
theorem dX1_count_43 : decode cX1_count 43 = .ok (.arraylength, 1) := by decide +kernel
theorem dX1_count_44 : decode cX1_count 44 = .ok (.ireturn, 1) := by decide +kernel
theorem dX1_count_45 : decode cX1_count 45 = .ok (.aload_n 0, 1) := by decide +kernel
theorem dX1_count_46 : decode cX1_count 46 = .ok (.getfield 18, 3) := by decide +kernel
theorem dX1_count_49 : decode cX1_count 49 = .ok (.getfield 84, 3) := by decide +kernel
theorem dX1_count_52 : decode cX1_count 52 = .ok (.ireturn, 1) := by decide +kernel
theorem dX1_count_53 : decode cX1_count 53 = .ok (.aload_n 0, 1) := by decide +kernel
theorem dX1_count_54 : decode cX1_count 54 = .ok (.getfield 109, 3) := by decide +kernel
theorem dX1_count_57 : decode cX1_count 57 = .ok (.ireturn, 1) := by decide +kernel
theorem dX1_count_58 : decode cX1_count 58 = .ok (.aload_n 0, 1) := by decide +kernel
theorem dX1_count_59 : decode cX1_count 59 = .ok (.getfield 112, 3) := by decide +kernel
theorem dX1_count_62 : decode cX1_count 62 = .ok (.ireturn, 1) := by decide +kernel
theorem dX1_count_63 : decode cX1_count 63 = .ok (.aload_n 0, 1) := by decide +kernel
theorem dX1_count_64 : decode cX1_count 64 = .ok (.getfield 18, 3) := by decide +kernel
theorem dX1_count_67 : decode cX1_count 67 = .ok (.getfield 115, 3) := by decide +kernel
theorem dX1_count_70 : decode cX1_count 70 = .ok (.ireturn, 1) := by decide +kernel
theorem dX1_count_71 : decode cX1_count 71 = .ok (.new 91, 3) := by decide +kernel
theorem dX1_count_74 : decode cX1_count 74 = .ok (.dup, 1) := by decide +kernel
theorem dX1_count_75 : decode cX1_count 75 = .ok (.ldc 118, 2) := by decide +kernel
theorem dX1_count_77 : decode cX1_count 77 = .ok (.invokespecial 95, 3) := by decide +kernel
theorem dX1_count_80 : decode cX1_count 80 = .ok (.athrow, 1) := by decide +kernel
end
section
/-! decode rows (printed) -/
theorem dX2_init_0 : decode cX2_init 0 = .ok (.aload_n 0, 1) := by decide +kernel
theorem dX2_init_1 : decode cX2_init 1 = .ok (.invokespecial 1, 3) := by decide +kernel
theorem dX2_init_4 : decode cX2_init 4 = .ok (.aload_n 0, 1) := by decide +kernel
theorem dX2_init_5 : decode cX2_init 5 = .ok (.sipush 2100, 3) := by decide +kernel
theorem dX2_init_8 : decode cX2_init 8 = .ok (.newarray .int, 2) := by decide +kernel
theorem dX2_init_10 : decode cX2_init 10 = .ok (.putfield 7, 3) := by decide +kernel
theorem dX2_init_13 : decode cX2_init 13 = .ok (.aload_n 0, 1) := by decide +kernel
theorem dX2_init_14 : decode cX2_init 14 = .ok (.sipush 2100, 3) := by decide +kernel
theorem dX2_init_17 : decode cX2_init 17 = .ok (.newarray .int, 2) := by decide +kernel
theorem dX2_init_19 : decode cX2_init 19 = .ok (.putfield 13, 3) := by decide +kernel
theorem dX2_init_22 : decode cX2_init 22 = .ok (.aload_n 0, 1) := by decide +kernel
theorem dX2_init_23 : decode cX2_init 23 = .ok (.sipush 2100, 3) := by decide +kernel
theorem dX2_init_26 : decode cX2_init 26 = .ok (.newarray .int, 2) := by decide +kernel
theorem dX2_init_28 : decode cX2_init 28 = .ok (.putfield 16, 3) := by decide +kernel
theorem dX2_init_31 : decode cX2_init 31 = .ok (.aload_n 0, 1) := by decide +kernel
theorem dX2_init_32 : decode cX2_init 32 = .ok (.sipush 2100, 3) := by decide +kernel
theorem dX2_init_35 : decode cX2_init 35 = .ok (.newarray .int, 2) := by decide +kernel
theorem dX2_init_37 : decode cX2_init 37 = .ok (.putfield 19, 3) := by decide +kernel
theorem dX2_init_40 : decode cX2_init 40 = .ok (.aload_n 0, 1) := by decide +kernel
theorem dX2_init_41 : decode cX2_init 41 = .ok (.bipush 8, 2) := by decide +kernel
theorem dX2_init_43 : decode cX2_init 43 = .ok (.newarray .int, 2) := by decide +kernel
theorem dX2_init_45 : decode cX2_init 45 = .ok (.putfield 22, 3) := by decide +kernel
theorem dX2_init_48 : decode cX2_init 48 = .ok (.aload_n 0, 1) := by decide +kernel
theorem dX2_init_49 : decode cX2_init 49 = .ok (.bipush 8, 2) := by decide +kernel
theorem dX2_init_51 : decode cX2_init 51 = .ok (.newarray .int, 2) := by decide +kernel
theorem dX2_init_53 : decode cX2_init 53 = .ok (.putfield 25, 3) := by decide +kernel
theorem dX2_init_56 : decode cX2_init 56 = .ok (.aload_n 0, 1) := by decide +kernel
theorem dX2_init_57 : decode cX2_init 57 = .ok (.sipush 2100, 3) := by decide +kernel
theorem dX2_init_60 : decode cX2_init 60 = .ok (.newarray .int, 2) := by decide +kernel
theorem dX2_init_62 : decode cX2_init 62 = .ok (.putfield 28, 3) := by decide +kernel
theorem dX2_init_65 : decode cX2_init 65 = .ok (.aload_n 0, 1) := by decide +kernel
theorem dX2_init_66 : decode cX2_init 66 = .ok (.sipush 2100, 3) := by decide +kernel
theorem dX2_init_69 : decode cX2_init 69 = .ok (.newarray .int, 2) := by decide +kernel
theorem dX2_init_71 : decode cX2_init 71 = .ok (.putfield 31, 3) := by decide +kernel
theorem dX2_init_74 : decode cX2_init 74 = .ok (.aload_n 0, 1) := by decide +kernel
theorem dX2_init_75 : decode cX2_init 75 = .ok (.bipush 16, 2) := by decide +kernel
theorem dX2_init_77 : decode cX2_init 77 = .ok (.iload_n 1, 1) := by decide +kernel
theorem dX2_init_78 : decode cX2_init 78 = .ok (.sipush 2047, 3) := by decide +kernel
theorem dX2_init_81 : decode cX2_init 81 = .ok (.iand, 1) := by decide +kernel
theorem dX2_init_82 : decode cX2_init 82 = .ok (.iadd, 1) := by decide +kernel
theorem dX2_init_83 : decode cX2_init 83 = .ok (.putfield 34, 3) := by decide +kernel
theorem dX2_init_86 : decode cX2_init 86 = .ok (.iconst 0, 1) := by decide +kernel
theorem dX2_init_87 : decode cX2_init 87 = .ok (.istore_n 2, 1) := by decide +kernel
theorem dX2_init_88 : decode cX2_init 88 = .ok (.iload_n 2, 1) := by decide +kernel
theorem dX2_init_89 : decode cX2_init 89 = .ok (.bipush 8, 2) := by decide +kernel
theorem dX2_init_91 : decode cX2_init 91 = .ok (.if_icmp .ge 16, 3) := by decide +kernel
theorem dX2_init_94 : decode cX2_init 94 = .ok (.aload_n 0, 1) := by decide +kernel
theorem dX2_init_95 : decode cX2_init 95 = .ok (.getfield 22, 3) := by decide +kernel
theorem dX2_init_98 : decode cX2_init 98 = .ok (.iload_n 2, 1) := by decide +kernel
theorem dX2_init_99 : decode cX2_init 99 = .ok (.iconst 1, 1) := by decide +kernel
theorem dX2_init_100 : decode cX2_init 100 = .ok (.iastore, 1) := by decide +kernel
theorem dX2_init_101 : decode cX2_init 101 = .ok (.iinc 2 1, 3) := by decide +kernel
theorem dX2_init_104 : decode cX2_init 104 = .ok (.goto (-16), 3) := by decide +kernel
theorem dX2_init_107 : decode cX2_init 107 = .ok (.return_, 1) := by decide +kernel
theorem dX2_thrown_0 : decode cX2_thrown 0 = .ok (.aload_n 0, 1) := by decide +kernel
theorem dX2_thrown_1 : decode cX2_thrown 1 = .ok (.getfield 38, 3) := by decide +kernel
theorem dX2_thrown_4 : decode cX2_thrown 4 = .ok (.ireturn, 1) := by decide +kernel
theorem dX2_collect_0 : decode cX2_collect 0 = .ok (.aload_n 0, 1) := by decide +kernel
theorem dX2_collect_1 : decode cX2_collect 1 = .ok (.iconst 0, 1) := by decide +kernel
theorem dX2_collect_2 : decode cX2_collect 2 = .ok (.putfield 38, 3) := by decide +kernel
theorem dX2_collect_5 : decode cX2_collect 5 = .ok (.aload_n 0, 1) := by decide +kernel
theorem dX2_collect_6 : decode cX2_collect 6 = .ok (.invokevirtual 61, 3) := by decide +kernel
theorem dX2_collect_9 : decode cX2_collect 9 = .ok (.ireturn, 1) := by decide +kernel
theorem dX2_gather_0 : decode cX2_gather 0 = .ok (.aload_n 0, 1) := by decide +kernel
theorem dX2_gather_1 : decode cX2_gather 1 = .ok (.iconst 0, 1) := by decide +kernel
theorem dX2_gather_2 : decode cX2_gather 2 = .ok (.putfield 41, 3) := by decide +kernel
theorem dX2_gather_5 : decode cX2_gather 5 = .ok (.iconst 0, 1) := by decide +kernel
theorem dX2_gather_6 : decode cX2_gather 6 = .ok (.istore_n 1, 1) := by decide +kernel
theorem dX2_gather_7 : decode cX2_gather 7 = .ok (.iload_n 1, 1) := by decide +kernel
theorem dX2_gather_8 : decode cX2_gather 8 = .ok (.aload_n 0, 1) := by decide +kernel
theorem dX2_gather_9 : decode cX2_gather 9 = .ok (.getfield 48, 3) := by decide +kernel
theorem dX2_gather_12 : decode cX2_gather 12 = .ok (.if_icmp .ge 16, 3) := by decide +kernel
theorem dX2_gather_15 : decode cX2_gather 15 = .ok (.aload_n 0, 1) := by decide +kernel
theorem dX2_gather_16 : decode cX2_gather 16 = .ok (.getfield 31, 3) := by decide +kernel
theorem dX2_gather_19 : decode cX2_gather 19 = .ok (.iload_n 1, 1) := by decide +kernel
theorem dX2_gather_20 : decode cX2_gather 20 = .ok (.iconst (-1), 1) := by decide +kernel
theorem dX2_gather_21 : decode cX2_gather 21 = .ok (.iastore, 1) := by decide +kernel
theorem dX2_gather_22 : decode cX2_gather 22 = .ok (.iinc 1 1, 3) := by decide +kernel
theorem dX2_gather_25 : decode cX2_gather 25 = .ok (.goto (-18), 3) := by decide +kernel
theorem dX2_gather_28 : decode cX2_gather 28 = .ok (.iconst 0, 1) := by decide +kernel
theorem dX2_gather_29 : decode cX2_gather 29 = .ok (.istore_n 1, 1) := by decide +kernel
theorem dX2_gather_30 : decode cX2_gather 30 = .ok (.iload_n 1, 1) := by decide +kernel
theorem dX2_gather_31 : decode cX2_gather 31 = .ok (.bipush 8, 2) := by decide +kernel
theorem dX2_gather_33 : decode cX2_gather 33 = .ok (.if_icmp .ge 29, 3) := by decide +kernel
theorem dX2_gather_36 : decode cX2_gather 36 = .ok (.aload_n 0, 1) := by decide +kernel
theorem dX2_gather_37 : decode cX2_gather 37 = .ok (.getfield 22, 3) := by decide +kernel
theorem dX2_gather_40 : decode cX2_gather 40 = .ok (.iload_n 1, 1) := by decide +kernel
theorem dX2_gather_41 : decode cX2_gather 41 = .ok (.iaload, 1) := by decide +kernel
theorem dX2_gather_42 : decode cX2_gather 42 = .ok (.iconst 2, 1) := by decide +kernel
theorem dX2_gather_43 : decode cX2_gather 43 = .ok (.if_icmp .ne 13, 3) := by decide +kernel
theorem dX2_gather_46 : decode cX2_gather 46 = .ok (.aload_n 0, 1) := by decide +kernel
theorem dX2_gather_47 : decode cX2_gather 47 = .ok (.aload_n 0, 1) := by decide +kernel
theorem dX2_gather_48 : decode cX2_gather 48 = .ok (.getfield 25, 3) := by decide +kernel
theorem dX2_gather_51 : decode cX2_gather 51 = .ok (.iload_n 1, 1) := by decide +kernel
theorem dX2_gather_52 : decode cX2_gather 52 = .ok (.iaload, 1) := by decide +kernel
theorem dX2_gather_53 : decode cX2_gather 53 = .ok (.invokevirtual 51, 3) := by decide +kernel
theorem dX2_gather_56 : decode cX2_gather 56 = .ok (.iinc 1 1, 3) := by decide +kernel
theorem dX2_gather_59 : decode cX2_gather 59 = .ok (.goto (-29), 3) := by decide +kernel
theorem dX2_gather_62 : decode cX2_gather 62 = .ok (.iconst 0, 1) := by decide +kernel
theorem dX2_gather_63 : decode cX2_gather 63 = .ok (.istore_n 1, 1) := by decide +kernel
theorem dX2_gather_64 : decode cX2_gather 64 = .ok (.iload_n 1, 1) := by decide +kernel
theorem dX2_gather_65 : decode cX2_gather 65 = .ok (.aload_n 0, 1) := by decide +kernel
theorem dX2_gather_66 : decode cX2_gather 66 = .ok (.getfield 41, 3) := by decide +kernel
theorem dX2_gather_69 : decode cX2_gather 69 = .ok (.if_icmp .ge 57, 3) := by decide +kernel
theorem dX2_gather_72 : decode cX2_gather 72 = .ok (.aload_n 0, 1) := by decide +kernel
theorem dX2_gather_73 : decode cX2_gather 73 = .ok (.getfield 28, 3) := by decide +kernel
theorem dX2_gather_76 : decode cX2_gather 76 = .ok (.iload_n 1, 1) := by decide +kernel
theorem dX2_gather_77 : decode cX2_gather 77 = .ok (.iaload, 1) := by decide +kernel
theorem dX2_gather_78 : decode cX2_gather 78 = .ok (.istore_n 2, 1) := by decide +kernel
theorem dX2_gather_79 : decode cX2_gather 79 = .ok (.iconst 1, 1) := by decide +kernel
theorem dX2_gather_80 : decode cX2_gather 80 = .ok (.istore_n 3, 1) := by decide +kernel
theorem dX2_gather_81 : decode cX2_gather 81 = .ok (.iload_n 3, 1) := by decide +kernel
theorem dX2_gather_82 : decode cX2_gather 82 = .ok (.aload_n 0, 1) := by decide +kernel
theorem dX2_gather_83 : decode cX2_gather 83 = .ok (.iload_n 2, 1) := by decide +kernel
theorem dX2_gather_84 : decode cX2_gather 84 = .ok (.invokevirtual 44, 3) := by decide +kernel
theorem dX2_gather_87 : decode cX2_gather 87 = .ok (.if_icmp .gt 33, 3) := by decide +kernel
theorem dX2_gather_90 : decode cX2_gather 90 = .ok (.aload_n 0, 1) := by decide +kernel
theorem dX2_gather_91 : decode cX2_gather 91 = .ok (.getfield 7, 3) := by decide +kernel
theorem dX2_gather_94 : decode cX2_gather 94 = .ok (.iload_n 2, 1) := by decide +kernel
theorem dX2_gather_95 : decode cX2_gather 95 = .ok (.iload_n 3, 1) := by decide +kernel
theorem dX2_gather_96 : decode cX2_gather 96 = .ok (.iadd, 1) := by decide +kernel
theorem dX2_gather_97 : decode cX2_gather 97 = .ok (.iaload, 1) := by decide +kernel
theorem dX2_gather_98 : decode cX2_gather 98 = .ok (.iconst 2, 1) := by decide +kernel
theorem dX2_gather_99 : decode cX2_gather 99 = .ok (.if_icmp .ne 15, 3) := by decide +kernel
theorem dX2_gather_102 : decode cX2_gather 102 = .ok (.aload_n 0, 1) := by decide +kernel
theorem dX2_gather_103 : decode cX2_gather 103 = .ok (.aload_n 0, 1) := by decide +kernel
theorem dX2_gather_104 : decode cX2_gather 104 = .ok (.getfield 13, 3) := by decide +kernel
theorem dX2_gather_107 : decode cX2_gather 107 = .ok (.iload_n 2, 1) := by decide +kernel
theorem dX2_gather_108 : decode cX2_gather 108 = .ok (.iload_n 3, 1) := by decide +kernel
theorem dX2_gather_109 : decode cX2_gather 109 = .ok (.iadd, 1) := by decide +kernel
theorem dX2_gather_110 : decode cX2_gather 110 = .ok (.iaload, 1) := by decide +kernel
theorem dX2_gather_111 : decode cX2_gather 111 = .ok (.invokevirtual 51, 3) := by decide +kernel
theorem dX2_gather_114 : decode cX2_gather 114 = .ok (.iinc 3 1, 3) := by decide +kernel
theorem dX2_gather_117 : decode cX2_gather 117 = .ok (.goto (-36), 3) := by decide +kernel
theorem dX2_gather_120 : decode cX2_gather 120 = .ok (.iinc 1 1, 3) := by decide +kernel
theorem dX2_gather_123 : decode cX2_gather 123 = .ok (.goto (-59), 3) := by decide +kernel
theorem dX2_gather_126 : decode cX2_gather 126 = .ok (.iconst 0, 1) := by decide +kernel
theorem dX2_gather_127 : decode cX2_gather 127 = .ok (.istore_n 1, 1) := by decide +kernel
theorem dX2_gather_128 : decode cX2_gather 128 = .ok (.iconst 0, 1) := by decide +kernel
theorem dX2_gather_129 : decode cX2_gather 129 = .ok (.istore_n 2, 1) := by decide +kernel
theorem dX2_gather_130 : decode cX2_gather 130 = .ok (.iload_n 2, 1) := by decide +kernel
theorem dX2_gather_131 : decode cX2_gather 131 = .ok (.aload_n 0, 1) := by decide +kernel
theorem dX2_gather_132 : decode cX2_gather 132 = .ok (.getfield 41, 3) := by decide +kernel
theorem dX2_gather_135 : decode cX2_gather 135 = .ok (.if_icmp .ge 103, 3) := by decide +kernel
theorem dX2_gather_138 : decode cX2_gather 138 = .ok (.iconst 1, 1) := by decide +kernel
theorem dX2_gather_139 : decode cX2_gather 139 = .ok (.aload_n 0, 1) := by decide +kernel
theorem dX2_gather_140 : decode cX2_gather 140 = .ok (.aload_n 0, 1) := by decide +kernel
theorem dX2_gather_141 : decode cX2_gather 141 = .ok (.getfield 28, 3) := by decide +kernel
theorem dX2_gather_144 : decode cX2_gather 144 = .ok (.iload_n 2, 1) := by decide +kernel
theorem dX2_gather_145 : decode cX2_gather 145 = .ok (.iaload, 1) := by decide +kernel
theorem dX2_gather_146 : decode cX2_gather 146 = .ok (.invokevirtual 44, 3) := by decide +kernel
theorem dX2_gather_149 : decode cX2_gather 149 = .ok (.iadd, 1) := by decide +kernel
theorem dX2_gather_150 : decode cX2_gather 150 = .ok (.istore_n 3, 1) := by decide +kernel
theorem dX2_gather_151 : decode cX2_gather 151 = .ok (.iconst 0, 1) := by decide +kernel
theorem dX2_gather_152 : decode cX2_gather 152 = .ok (.istore 4, 2) := by decide +kernel
theorem dX2_gather_154 : decode cX2_gather 154 = .ok (.iload 4, 2) := by decide +kernel
theorem dX2_gather_156 : decode cX2_gather 156 = .ok (.iload_n 3, 1) := by decide +kernel
theorem dX2_gather_157 : decode cX2_gather 157 = .ok (.if_icmp .ge 75, 3) := by decide +kernel
theorem dX2_gather_160 : decode cX2_gather 160 = .ok (.aload_n 0, 1) := by decide +kernel
theorem dX2_gather_161 : decode cX2_gather 161 = .ok (.getfield 28, 3) := by decide +kernel
theorem dX2_gather_164 : decode cX2_gather 164 = .ok (.iload_n 2, 1) := by decide +kernel
theorem dX2_gather_165 : decode cX2_gather 165 = .ok (.iaload, 1) := by decide +kernel
theorem dX2_gather_166 : decode cX2_gather 166 = .ok (.iload 4, 2) := by decide +kernel
theorem dX2_gather_168 : decode cX2_gather 168 = .ok (.iadd, 1) := by decide +kernel
theorem dX2_gather_169 : decode cX2_gather 169 = .ok (.istore 5, 2) := by decide +kernel
theorem dX2_gather_171 : decode cX2_gather 171 = .ok (.aload_n 0, 1) := by decide +kernel
theorem dX2_gather_172 : decode cX2_gather 172 = .ok (.getfield 16, 3) := by decide +kernel
theorem dX2_gather_175 : decode cX2_gather 175 = .ok (.iload_n 1, 1) := by decide +kernel
theorem dX2_gather_176 : decode cX2_gather 176 = .ok (.aload_n 0, 1) := by decide +kernel
theorem dX2_gather_177 : decode cX2_gather 177 = .ok (.getfield 7, 3) := by decide +kernel
theorem dX2_gather_180 : decode cX2_gather 180 = .ok (.iload 5, 2) := by decide +kernel
theorem dX2_gather_182 : decode cX2_gather 182 = .ok (.iaload, 1) := by decide +kernel
theorem dX2_gather_183 : decode cX2_gather 183 = .ok (.iastore, 1) := by decide +kernel
theorem dX2_gather_184 : decode cX2_gather 184 = .ok (.aload_n 0, 1) := by decide +kernel
theorem dX2_gather_185 : decode cX2_gather 185 = .ok (.getfield 19, 3) := by decide +kernel
theorem dX2_gather_188 : decode cX2_gather 188 = .ok (.iload_n 1, 1) := by decide +kernel
theorem dX2_gather_189 : decode cX2_gather 189 = .ok (.aload_n 0, 1) := by decide +kernel
theorem dX2_gather_190 : decode cX2_gather 190 = .ok (.getfield 7, 3) := by decide +kernel
theorem dX2_gather_193 : decode cX2_gather 193 = .ok (.iload 5, 2) := by decide +kernel
theorem dX2_gather_195 : decode cX2_gather 195 = .ok (.iaload, 1) := by decide +kernel
theorem dX2_gather_196 : decode cX2_gather 196 = .ok (.iconst 2, 1) := by decide +kernel
theorem dX2_gather_197 : decode cX2_gather 197 = .ok (.if_icmp .ne 18, 3) := by decide +kernel
theorem dX2_gather_200 : decode cX2_gather 200 = .ok (.aload_n 0, 1) := by decide +kernel
theorem dX2_gather_201 : decode cX2_gather 201 = .ok (.getfield 31, 3) := by decide +kernel
theorem dX2_gather_204 : decode cX2_gather 204 = .ok (.aload_n 0, 1) := by decide +kernel
theorem dX2_gather_205 : decode cX2_gather 205 = .ok (.getfield 13, 3) := by decide +kernel
theorem dX2_gather_208 : decode cX2_gather 208 = .ok (.iload 5, 2) := by decide +kernel
theorem dX2_gather_210 : decode cX2_gather 210 = .ok (.iaload, 1) := by decide +kernel
theorem dX2_gather_211 : decode cX2_gather 211 = .ok (.iaload, 1) := by decide +kernel
theorem dX2_gather_212 : decode cX2_gather 212 = .ok (.goto 10, 3) := by decide +kernel
theorem dX2_gather_215 : decode cX2_gather 215 = .ok (.aload_n 0, 1) := by decide +kernel
theorem dX2_gather_216 : decode cX2_gather 216 = .ok (.getfield 13, 3) := by decide +kernel
theorem dX2_gather_219 : decode cX2_gather 219 = .ok (.iload 5, 2) := by decide +kernel
theorem dX2_gather_221 : decode cX2_gather 221 = .ok (.iaload, 1) := by decide +kernel
theorem dX2_gather_222 : decode cX2_gather 222 = .ok (.iastore, 1) := by decide +kernel
theorem dX2_gather_223 : decode cX2_gather 223 = .ok (.iinc 1 1, 3) := by decide +kernel
theorem dX2_gather_226 : decode cX2_gather 226 = .ok (.iinc 4 1, 3) := by decide +kernel
theorem dX2_gather_229 : decode cX2_gather 229 = .ok (.goto (-75), 3) := by decide +kernel
theorem dX2_gather_232 : decode cX2_gather 232 = .ok (.iinc 2 1, 3) := by decide +kernel
theorem dX2_gather_235 : decode cX2_gather 235 = .ok (.goto (-105), 3) := by decide +kernel
theorem dX2_gather_238 : decode cX2_gather 238 = .ok (.iconst 0, 1) := by decide +kernel
theorem dX2_gather_239 : decode cX2_gather 239 = .ok (.istore_n 2, 1) := by decide +kernel
theorem dX2_gather_240 : decode cX2_gather 240 = .ok (.iload_n 2, 1) := by decide +kernel
theorem dX2_gather_241 : decode cX2_gather 241 = .ok (.bipush 8, 2) := by decide +kernel
theorem dX2_gather_243 : decode cX2_gather 243 = .ok (.if_icmp .ge 36, 3) := by decide +kernel
theorem dX2_gather_246 : decode cX2_gather 246 = .ok (.aload_n 0, 1) := by decide +kernel
theorem dX2_gather_247 : decode cX2_gather 247 = .ok (.getfield 22, 3) := by decide +kernel
theorem dX2_gather_250 : decode cX2_gather 250 = .ok (.iload_n 2, 1) := by decide +kernel
theorem dX2_gather_251 : decode cX2_gather 251 = .ok (.iaload, 1) := by decide +kernel
theorem dX2_gather_252 : decode cX2_gather 252 = .ok (.iconst 2, 1) := by decide +kernel
theorem dX2_gather_253 : decode cX2_gather 253 = .ok (.if_icmp .ne 20, 3) := by decide +kernel
theorem dX2_gather_256 : decode cX2_gather 256 = .ok (.aload_n 0, 1) := by decide +kernel
theorem dX2_gather_257 : decode cX2_gather 257 = .ok (.getfield 25, 3) := by decide +kernel
theorem dX2_gather_260 : decode cX2_gather 260 = .ok (.iload_n 2, 1) := by decide +kernel
theorem dX2_gather_261 : decode cX2_gather 261 = .ok (.aload_n 0, 1) := by decide +kernel
theorem dX2_gather_262 : decode cX2_gather 262 = .ok (.getfield 31, 3) := by decide +kernel
theorem dX2_gather_265 : decode cX2_gather 265 = .ok (.aload_n 0, 1) := by decide +kernel
theorem dX2_gather_266 : decode cX2_gather 266 = .ok (.getfield 25, 3) := by decide +kernel
theorem dX2_gather_269 : decode cX2_gather 269 = .ok (.iload_n 2, 1) := by decide +kernel
theorem dX2_gather_270 : decode cX2_gather 270 = .ok (.iaload, 1) := by decide +kernel
theorem dX2_gather_271 : decode cX2_gather 271 = .ok (.iaload, 1) := by decide +kernel
theorem dX2_gather_272 : decode cX2_gather 272 = .ok (.iastore, 1) := by decide +kernel
theorem dX2_gather_273 : decode cX2_gather 273 = .ok (.iinc 2 1, 3) := by decide +kernel
theorem dX2_gather_276 : decode cX2_gather 276 = .ok (.goto (-36), 3) := by decide +kernel
theorem dX2_gather_279 : decode cX2_gather 279 = .ok (.iconst 0, 1) := by decide +kernel
theorem dX2_gather_280 : decode cX2_gather 280 = .ok (.istore_n 2, 1) := by decide +kernel
theorem dX2_gather_281 : decode cX2_gather 281 = .ok (.iload_n 2, 1) := by decide +kernel
theorem dX2_gather_282 : decode cX2_gather 282 = .ok (.iload_n 1, 1) := by decide +kernel
theorem dX2_gather_283 : decode cX2_gather 283 = .ok (.if_icmp .ge 33, 3) := by decide +kernel
theorem dX2_gather_286 : decode cX2_gather 286 = .ok (.aload_n 0, 1) := by decide +kernel
theorem dX2_gather_287 : decode cX2_gather 287 = .ok (.getfield 7, 3) := by decide +kernel
theorem dX2_gather_290 : decode cX2_gather 290 = .ok (.iload_n 2, 1) := by decide +kernel
theorem dX2_gather_291 : decode cX2_gather 291 = .ok (.aload_n 0, 1) := by decide +kernel
theorem dX2_gather_292 : decode cX2_gather 292 = .ok (.getfield 16, 3) := by decide +kernel
theorem dX2_gather_295 : decode cX2_gather 295 = .ok (.iload_n 2, 1) := by decide +kernel
theorem dX2_gather_296 : decode cX2_gather 296 = .ok (.iaload, 1) := by decide +kernel
theorem dX2_gather_297 : decode cX2_gather 297 = .ok (.iastore, 1) := by decide +kernel
theorem dX2_gather_298 : decode cX2_gather 298 = .ok (.aload_n 0, 1) := by decide +kernel
theorem dX2_gather_299 : decode cX2_gather 299 = .ok (.getfield 13, 3) := by decide +kernel
theorem dX2_gather_302 : decode cX2_gather 302 = .ok (.iload_n 2, 1) := by decide +kernel
theorem dX2_gather_303 : decode cX2_gather 303 = .ok (.aload_n 0, 1) := by decide +kernel
theorem dX2_gather_304 : decode cX2_gather 304 = .ok (.getfield 19, 3) := by decide +kernel
theorem dX2_gather_307 : decode cX2_gather 307 = .ok (.iload_n 2, 1) := by decide +kernel
theorem dX2_gather_308 : decode cX2_gather 308 = .ok (.iaload, 1) := by decide +kernel
theorem dX2_gather_309 : decode cX2_gather 309 = .ok (.iastore, 1) := by decide +kernel
theorem dX2_gather_310 : decode cX2_gather 310 = .ok (.iinc 2 1, 3) := by decide +kernel
theorem dX2_gather_313 : decode cX2_gather 313 = .ok (.goto (-32), 3) := by decide +kernel
theorem dX2_gather_316 : decode cX2_gather 316 = .ok (.aload_n 0, 1) := by decide +kernel
theorem dX2_gather_317 : decode cX2_gather 317 = .ok (.iload_n 1, 1) := by decide +kernel
theorem dX2_gather_318 : decode cX2_gather 318 = .ok (.putfield 48, 3) := by decide +kernel
theorem dX2_gather_321 : decode cX2_gather 321 = .ok (.aload_n 0, 1) := by decide +kernel
theorem dX2_gather_322 : decode cX2_gather 322 = .ok (.dup, 1) := by decide +kernel
theorem dX2_gather_323 : decode cX2_gather 323 = .ok (.getfield 55, 3) := by decide +kernel
theorem dX2_gather_326 : decode cX2_gather 326 = .ok (.iconst 1, 1) := by decide +kernel
theorem dX2_gather_327 : decode cX2_gather 327 = .ok (.iadd, 1) := by decide +kernel
theorem dX2_gather_328 : decode cX2_gather 328 = .ok (.putfield 55, 3) := by decide +kernel
theorem dX2_gather_331 : decode cX2_gather 331 = .ok (.aload_n 0, 1) := by decide +kernel
theorem dX2_gather_332 : decode cX2_gather 332 = .ok (.dup, 1) := by decide +kernel
theorem dX2_gather_333 : decode cX2_gather 333 = .ok (.getfield 58, 3) := by decide +kernel
theorem dX2_gather_336 : decode cX2_gather 336 = .ok (.iload_n 1, 1) := by decide +kernel
theorem dX2_gather_337 : decode cX2_gather 337 = .ok (.iadd, 1) := by decide +kernel
theorem dX2_gather_338 : decode cX2_gather 338 = .ok (.putfield 58, 3) := by decide +kernel
theorem dX2_gather_341 : decode cX2_gather 341 = .ok (.iload_n 1, 1) := by decide +kernel
theorem dX2_gather_342 : decode cX2_gather 342 = .ok (.ireturn, 1) := by decide +kernel
theorem dX2_keep_0 : decode cX2_keep 0 = .ok (.aload_n 0, 1) := by decide +kernel
theorem dX2_keep_1 : decode cX2_keep 1 = .ok (.getfield 31, 3) := by decide +kernel
theorem dX2_keep_4 : decode cX2_keep 4 = .ok (.iload_n 1, 1) := by decide +kernel
theorem dX2_keep_5 : decode cX2_keep 5 = .ok (.iaload, 1) := by decide +kernel
theorem dX2_keep_6 : decode cX2_keep 6 = .ok (.iconst (-1), 1) := by decide +kernel
theorem dX2_keep_7 : decode cX2_keep 7 = .ok (.if_icmp .eq 4, 3) := by decide +kernel
theorem dX2_keep_10 : decode cX2_keep 10 = .ok (.return_, 1) := by decide +kernel
theorem dX2_keep_11 : decode cX2_keep 11 = .ok (.iconst 0, 1) := by decide +kernel
theorem dX2_keep_12 : decode cX2_keep 12 = .ok (.istore_n 2, 1) := by decide +kernel
theorem dX2_keep_13 : decode cX2_keep 13 = .ok (.aload_n 0, 1) := by decide +kernel
theorem dX2_keep_14 : decode cX2_keep 14 = .ok (.getfield 41, 3) := by decide +kernel
theorem dX2_keep_17 : decode cX2_keep 17 = .ok (.ifCond .le 38, 3) := by decide +kernel
theorem dX2_keep_20 : decode cX2_keep 20 = .ok (.aload_n 0, 1) := by decide +kernel
theorem dX2_keep_21 : decode cX2_keep 21 = .ok (.getfield 31, 3) := by decide +kernel
theorem dX2_keep_24 : decode cX2_keep 24 = .ok (.aload_n 0, 1) := by decide +kernel
theorem dX2_keep_25 : decode cX2_keep 25 = .ok (.getfield 28, 3) := by decide +kernel
theorem dX2_keep_28 : decode cX2_keep 28 = .ok (.aload_n 0, 1) := by decide +kernel
theorem dX2_keep_29 : decode cX2_keep 29 = .ok (.getfield 41, 3) := by decide +kernel
theorem dX2_keep_32 : decode cX2_keep 32 = .ok (.iconst 1, 1) := by decide +kernel
theorem dX2_keep_33 : decode cX2_keep 33 = .ok (.isub, 1) := by decide +kernel
theorem dX2_keep_34 : decode cX2_keep 34 = .ok (.iaload, 1) := by decide +kernel
theorem dX2_keep_35 : decode cX2_keep 35 = .ok (.iaload, 1) := by decide +kernel
theorem dX2_keep_36 : decode cX2_keep 36 = .ok (.iconst 1, 1) := by decide +kernel
theorem dX2_keep_37 : decode cX2_keep 37 = .ok (.iadd, 1) := by decide +kernel
theorem dX2_keep_38 : decode cX2_keep 38 = .ok (.aload_n 0, 1) := by decide +kernel
theorem dX2_keep_39 : decode cX2_keep 39 = .ok (.aload_n 0, 1) := by decide +kernel
theorem dX2_keep_40 : decode cX2_keep 40 = .ok (.getfield 28, 3) := by decide +kernel
theorem dX2_keep_43 : decode cX2_keep 43 = .ok (.aload_n 0, 1) := by decide +kernel
theorem dX2_keep_44 : decode cX2_keep 44 = .ok (.getfield 41, 3) := by decide +kernel
theorem dX2_keep_47 : decode cX2_keep 47 = .ok (.iconst 1, 1) := by decide +kernel
theorem dX2_keep_48 : decode cX2_keep 48 = .ok (.isub, 1) := by decide +kernel
theorem dX2_keep_49 : decode cX2_keep 49 = .ok (.iaload, 1) := by decide +kernel
theorem dX2_keep_50 : decode cX2_keep 50 = .ok (.invokevirtual 44, 3) := by decide +kernel
theorem dX2_keep_53 : decode cX2_keep 53 = .ok (.iadd, 1) := by decide +kernel
theorem dX2_keep_54 : decode cX2_keep 54 = .ok (.istore_n 2, 1) := by decide +kernel
theorem dX2_keep_55 : decode cX2_keep 55 = .ok (.aload_n 0, 1) := by decide +kernel
theorem dX2_keep_56 : decode cX2_keep 56 = .ok (.getfield 31, 3) := by decide +kernel
theorem dX2_keep_59 : decode cX2_keep 59 = .ok (.iload_n 1, 1) := by decide +kernel
theorem dX2_keep_60 : decode cX2_keep 60 = .ok (.iload_n 2, 1) := by decide +kernel
theorem dX2_keep_61 : decode cX2_keep 61 = .ok (.iastore, 1) := by decide +kernel
theorem dX2_keep_62 : decode cX2_keep 62 = .ok (.aload_n 0, 1) := by decide +kernel
theorem dX2_keep_63 : decode cX2_keep 63 = .ok (.getfield 28, 3) := by decide +kernel
theorem dX2_keep_66 : decode cX2_keep 66 = .ok (.aload_n 0, 1) := by decide +kernel
theorem dX2_keep_67 : decode cX2_keep 67 = .ok (.getfield 41, 3) := by decide +kernel
theorem dX2_keep_70 : decode cX2_keep 70 = .ok (.iload_n 1, 1) := by decide +kernel
theorem dX2_keep_71 : decode cX2_keep 71 = .ok (.iastore, 1) := by decide +kernel
theorem dX2_keep_72 : decode cX2_keep 72 = .ok (.aload_n 0, 1) := by decide +kernel
theorem dX2_keep_73 : decode cX2_keep 73 = .ok (.dup, 1) := by decide +kernel
theorem dX2_keep_74 : decode cX2_keep 74 = .ok (.getfield 41, 3) := by decide +kernel
theorem dX2_keep_77 : decode cX2_keep 77 = .ok (.iconst 1, 1) := by decide +kernel
theorem dX2_keep_78 : decode cX2_keep 78 = .ok (.iadd, 1) := by decide +kernel
theorem dX2_keep_79 : decode cX2_keep 79 = .ok (.putfield 41, 3) := by decide +kernel
theorem dX2_keep_82 : decode cX2_keep 82 = .ok (.return_, 1) := by decide +kernel
theorem dX2_fieldsAt_0 : decode cX2_fieldsAt 0 = .ok (.aload_n 0, 1) := by decide +kernel
theorem dX2_fieldsAt_1 : decode cX2_fieldsAt 1 = .ok (.getfield 13, 3) := by decide +kernel
theorem dX2_fieldsAt_4 : decode cX2_fieldsAt 4 = .ok (.iload_n 1, 1) := by decide +kernel
theorem dX2_fieldsAt_5 : decode cX2_fieldsAt 5 = .ok (.iaload, 1) := by decide +kernel
theorem dX2_fieldsAt_6 : decode cX2_fieldsAt 6 = .ok (.iconst 1, 1) := by decide +kernel
theorem dX2_fieldsAt_7 : decode cX2_fieldsAt 7 = .ok (.ishr, 1) := by decide +kernel
theorem dX2_fieldsAt_8 : decode cX2_fieldsAt 8 = .ok (.ireturn, 1) := by decide +kernel
theorem dX2_make_0 : decode cX2_make 0 = .ok (.aload_n 0, 1) := by decide +kernel
theorem dX2_make_1 : decode cX2_make 1 = .ok (.iconst 0, 1) := by decide +kernel
theorem dX2_make_2 : decode cX2_make 2 = .ok (.putfield 38, 3) := by decide +kernel
theorem dX2_make_5 : decode cX2_make 5 = .ok (.iload_n 1, 1) := by decide +kernel
theorem dX2_make_6 : decode cX2_make 6 = .ok (.invokestatic 65, 3) := by decide +kernel
theorem dX2_make_9 : decode cX2_make 9 = .ok (.ifCond .eq 23, 3) := by decide +kernel
theorem dX2_make_12 : decode cX2_make 12 = .ok (.iload_n 2, 1) := by decide +kernel
theorem dX2_make_13 : decode cX2_make 13 = .ok (.ifCond .lt 19, 3) := by decide +kernel
theorem dX2_make_16 : decode cX2_make 16 = .ok (.iload_n 2, 1) := by decide +kernel
theorem dX2_make_17 : decode cX2_make 17 = .ok (.iconst 1, 1) := by decide +kernel
theorem dX2_make_18 : decode cX2_make 18 = .ok (.if_icmp .gt 14, 3) := by decide +kernel
theorem dX2_make_21 : decode cX2_make 21 = .ok (.iload_n 3, 1) := by decide +kernel
theorem dX2_make_22 : decode cX2_make 22 = .ok (.ifCond .lt 10, 3) := by decide +kernel
theorem dX2_make_25 : decode cX2_make 25 = .ok (.iload_n 3, 1) := by decide +kernel
theorem dX2_make_26 : decode cX2_make 26 = .ok (.sipush 200, 3) := by decide +kernel
theorem dX2_make_29 : decode cX2_make 29 = .ok (.if_icmp .le 9, 3) := by decide +kernel
theorem dX2_make_32 : decode cX2_make 32 = .ok (.aload_n 0, 1) := by decide +kernel
theorem dX2_make_33 : decode cX2_make 33 = .ok (.iconst 1, 1) := by decide +kernel
theorem dX2_make_34 : decode cX2_make 34 = .ok (.invokevirtual 69, 3) := by decide +kernel
theorem dX2_make_37 : decode cX2_make 37 = .ok (.ireturn, 1) := by decide +kernel
theorem dX2_make_38 : decode cX2_make 38 = .ok (.aload_n 0, 1) := by decide +kernel
theorem dX2_make_39 : decode cX2_make 39 = .ok (.getfield 48, 3) := by decide +kernel
theorem dX2_make_42 : decode cX2_make 42 = .ok (.iconst 1, 1) := by decide +kernel
theorem dX2_make_43 : decode cX2_make 43 = .ok (.iadd, 1) := by decide +kernel
theorem dX2_make_44 : decode cX2_make 44 = .ok (.iload_n 3, 1) := by decide +kernel
theorem dX2_make_45 : decode cX2_make 45 = .ok (.iadd, 1) := by decide +kernel
theorem dX2_make_46 : decode cX2_make 46 = .ok (.aload_n 0, 1) := by decide +kernel
theorem dX2_make_47 : decode cX2_make 47 = .ok (.getfield 34, 3) := by decide +kernel
theorem dX2_make_50 : decode cX2_make 50 = .ok (.if_icmp .le 8, 3) := by decide +kernel
theorem dX2_make_53 : decode cX2_make 53 = .ok (.aload_n 0, 1) := by decide +kernel
theorem dX2_make_54 : decode cX2_make 54 = .ok (.invokevirtual 61, 3) := by decide +kernel
theorem dX2_make_57 : decode cX2_make 57 = .ok (.pop, 1) := by decide +kernel
theorem dX2_make_58 : decode cX2_make 58 = .ok (.aload_n 0, 1) := by decide +kernel
theorem dX2_make_59 : decode cX2_make 59 = .ok (.getfield 48, 3) := by decide +kernel
theorem dX2_make_62 : decode cX2_make 62 = .ok (.iconst 1, 1) := by decide +kernel
theorem dX2_make_63 : decode cX2_make 63 = .ok (.iadd, 1) := by decide +kernel
theorem dX2_make_64 : decode cX2_make 64 = .ok (.iload_n 3, 1) := by decide +kernel
theorem dX2_make_65 : decode cX2_make 65 = .ok (.iadd, 1) := by decide +kernel
theorem dX2_make_66 : decode cX2_make 66 = .ok (.aload_n 0, 1) := by decide +kernel
theorem dX2_make_67 : decode cX2_make 67 = .ok (.getfield 34, 3) := by decide +kernel
theorem dX2_make_70 : decode cX2_make 70 = .ok (.if_icmp .le 9, 3) := by decide +kernel
theorem dX2_make_73 : decode cX2_make 73 = .ok (.aload_n 0, 1) := by decide +kernel
theorem dX2_make_74 : decode cX2_make 74 = .ok (.iconst 2, 1) := by decide +kernel
theorem dX2_make_75 : decode cX2_make 75 = .ok (.invokevirtual 69, 3) := by decide +kernel
theorem dX2_make_78 : decode cX2_make 78 = .ok (.ireturn, 1) := by decide +kernel
theorem dX2_make_79 : decode cX2_make 79 = .ok (.aload_n 0, 1) := by decide +kernel
theorem dX2_make_80 : decode cX2_make 80 = .ok (.getfield 48, 3) := by decide +kernel
theorem dX2_make_83 : decode cX2_make 83 = .ok (.istore 4, 2) := by decide +kernel
theorem dX2_make_85 : decode cX2_make 85 = .ok (.aload_n 0, 1) := by decide +kernel
theorem dX2_make_86 : decode cX2_make 86 = .ok (.getfield 7, 3) := by decide +kernel
theorem dX2_make_89 : decode cX2_make 89 = .ok (.iload 4, 2) := by decide +kernel
theorem dX2_make_91 : decode cX2_make 91 = .ok (.iconst 0, 1) := by decide +kernel
theorem dX2_make_92 : decode cX2_make 92 = .ok (.iastore, 1) := by decide +kernel
theorem dX2_make_93 : decode cX2_make 93 = .ok (.aload_n 0, 1) := by decide +kernel
theorem dX2_make_94 : decode cX2_make 94 = .ok (.getfield 13, 3) := by decide +kernel
theorem dX2_make_97 : decode cX2_make 97 = .ok (.iload 4, 2) := by decide +kernel
theorem dX2_make_99 : decode cX2_make 99 = .ok (.iconst 2, 1) := by decide +kernel
theorem dX2_make_100 : decode cX2_make 100 = .ok (.iload_n 3, 1) := by decide +kernel
theorem dX2_make_101 : decode cX2_make 101 = .ok (.imul, 1) := by decide +kernel
theorem dX2_make_102 : decode cX2_make 102 = .ok (.iload_n 2, 1) := by decide +kernel
theorem dX2_make_103 : decode cX2_make 103 = .ok (.iadd, 1) := by decide +kernel
theorem dX2_make_104 : decode cX2_make 104 = .ok (.iastore, 1) := by decide +kernel
theorem dX2_make_105 : decode cX2_make 105 = .ok (.iconst 1, 1) := by decide +kernel
theorem dX2_make_106 : decode cX2_make 106 = .ok (.istore 5, 2) := by decide +kernel
theorem dX2_make_108 : decode cX2_make 108 = .ok (.iload 5, 2) := by decide +kernel
theorem dX2_make_110 : decode cX2_make 110 = .ok (.iload_n 3, 1) := by decide +kernel
theorem dX2_make_111 : decode cX2_make 111 = .ok (.if_icmp .gt 40, 3) := by decide +kernel
theorem dX2_make_114 : decode cX2_make 114 = .ok (.aload_n 0, 1) := by decide +kernel
theorem dX2_make_115 : decode cX2_make 115 = .ok (.getfield 7, 3) := by decide +kernel
theorem dX2_make_118 : decode cX2_make 118 = .ok (.iload 4, 2) := by decide +kernel
theorem dX2_make_120 : decode cX2_make 120 = .ok (.iload 5, 2) := by decide +kernel
theorem dX2_make_122 : decode cX2_make 122 = .ok (.iadd, 1) := by decide +kernel
theorem dX2_make_123 : decode cX2_make 123 = .ok (.iload_n 2, 1) := by decide +kernel
theorem dX2_make_124 : decode cX2_make 124 = .ok (.iconst 1, 1) := by decide +kernel
theorem dX2_make_125 : decode cX2_make 125 = .ok (.if_icmp .ne 7, 3) := by decide +kernel
theorem dX2_make_128 : decode cX2_make 128 = .ok (.iconst 3, 1) := by decide +kernel
theorem dX2_make_129 : decode cX2_make 129 = .ok (.goto 4, 3) := by decide +kernel
theorem dX2_make_132 : decode cX2_make 132 = .ok (.iconst 1, 1) := by decide +kernel
theorem dX2_make_133 : decode cX2_make 133 = .ok (.iastore, 1) := by decide +kernel
theorem dX2_make_134 : decode cX2_make 134 = .ok (.aload_n 0, 1) := by decide +kernel
theorem dX2_make_135 : decode cX2_make 135 = .ok (.getfield 13, 3) := by decide +kernel
theorem dX2_make_138 : decode cX2_make 138 = .ok (.iload 4, 2) := by decide +kernel
theorem dX2_make_140 : decode cX2_make 140 = .ok (.iload 5, 2) := by decide +kernel
theorem dX2_make_142 : decode cX2_make 142 = .ok (.iadd, 1) := by decide +kernel
theorem dX2_make_143 : decode cX2_make 143 = .ok (.iconst 0, 1) := by decide +kernel
theorem dX2_make_144 : decode cX2_make 144 = .ok (.iastore, 1) := by decide +kernel
theorem dX2_make_145 : decode cX2_make 145 = .ok (.iinc 5 1, 3) := by decide +kernel
theorem dX2_make_148 : decode cX2_make 148 = .ok (.goto (-40), 3) := by decide +kernel
theorem dX2_make_151 : decode cX2_make 151 = .ok (.aload_n 0, 1) := by decide +kernel
theorem dX2_make_152 : decode cX2_make 152 = .ok (.dup, 1) := by decide +kernel
theorem dX2_make_153 : decode cX2_make 153 = .ok (.getfield 48, 3) := by decide +kernel
theorem dX2_make_156 : decode cX2_make 156 = .ok (.iconst 1, 1) := by decide +kernel
theorem dX2_make_157 : decode cX2_make 157 = .ok (.iload_n 3, 1) := by decide +kernel
theorem dX2_make_158 : decode cX2_make 158 = .ok (.iadd, 1) := by decide +kernel
theorem dX2_make_159 : decode cX2_make 159 = .ok (.iadd, 1) := by decide +kernel
theorem dX2_make_160 : decode cX2_make 160 = .ok (.putfield 48, 3) := by decide +kernel
theorem dX2_make_163 : decode cX2_make 163 = .ok (.aload_n 0, 1) := by decide +kernel
theorem dX2_make_164 : decode cX2_make 164 = .ok (.getfield 22, 3) := by decide +kernel
theorem dX2_make_167 : decode cX2_make 167 = .ok (.iload_n 1, 1) := by decide +kernel
theorem dX2_make_168 : decode cX2_make 168 = .ok (.iconst 2, 1) := by decide +kernel
theorem dX2_make_169 : decode cX2_make 169 = .ok (.iastore, 1) := by decide +kernel
theorem dX2_make_170 : decode cX2_make 170 = .ok (.aload_n 0, 1) := by decide +kernel
theorem dX2_make_171 : decode cX2_make 171 = .ok (.getfield 25, 3) := by decide +kernel
theorem dX2_make_174 : decode cX2_make 174 = .ok (.iload_n 1, 1) := by decide +kernel
theorem dX2_make_175 : decode cX2_make 175 = .ok (.iload 4, 2) := by decide +kernel
theorem dX2_make_177 : decode cX2_make 177 = .ok (.iastore, 1) := by decide +kernel
theorem dX2_make_178 : decode cX2_make 178 = .ok (.iload 4, 2) := by decide +kernel
theorem dX2_make_180 : decode cX2_make 180 = .ok (.ireturn, 1) := by decide +kernel
theorem dX2_isRegister_0 : decode cX2_isRegister 0 = .ok (.iload_n 0, 1) := by decide +kernel
theorem dX2_isRegister_1 : decode cX2_isRegister 1 = .ok (.ifCond .lt 13, 3) := by decide +kernel
theorem dX2_isRegister_4 : decode cX2_isRegister 4 = .ok (.iload_n 0, 1) := by decide +kernel
theorem dX2_isRegister_5 : decode cX2_isRegister 5 = .ok (.bipush 8, 2) := by decide +kernel
theorem dX2_isRegister_7 : decode cX2_isRegister 7 = .ok (.if_icmp .ge 7, 3) := by decide +kernel
theorem dX2_isRegister_10 : decode cX2_isRegister 10 = .ok (.iconst 1, 1) := by decide +kernel
theorem dX2_isRegister_11 : decode cX2_isRegister 11 = .ok (.goto 4, 3) := by decide +kernel
theorem dX2_isRegister_14 : decode cX2_isRegister 14 = .ok (.iconst 0, 1) := by decide +kernel
theorem dX2_isRegister_15 : decode cX2_isRegister 15 = .ok (.ireturn, 1) := by decide +kernel
theorem dX2_fail_0 : decode cX2_fail 0 = .ok (.aload_n 0, 1) := by decide +kernel
theorem dX2_fail_1 : decode cX2_fail 1 = .ok (.iload_n 1, 1) := by decide +kernel
theorem dX2_fail_2 : decode cX2_fail 2 = .ok (.putfield 38, 3) := by decide +kernel
theorem dX2_fail_5 : decode cX2_fail 5 = .ok (.iconst 0, 1) := by decide +kernel
theorem dX2_fail_6 : decode cX2_fail 6 = .ok (.ireturn, 1) := by decide +kernel
theorem dX2_number_0 : decode cX2_number 0 = .ok (.aload_n 0, 1) := by decide +kernel
theorem dX2_number_1 : decode cX2_number 1 = .ok (.iconst 0, 1) := by decide +kernel
theorem dX2_number_2 : decode cX2_number 2 = .ok (.putfield 38, 3) := by decide +kernel
theorem dX2_number_5 : decode cX2_number 5 = .ok (.iload_n 1, 1) := by decide +kernel
theorem dX2_number_6 : decode cX2_number 6 = .ok (.invokestatic 65, 3) := by decide +kernel
theorem dX2_number_9 : decode cX2_number 9 = .ok (.ifCond .ne 9, 3) := by decide +kernel
theorem dX2_number_12 : decode cX2_number 12 = .ok (.aload_n 0, 1) := by decide +kernel
theorem dX2_number_13 : decode cX2_number 13 = .ok (.iconst 1, 1) := by decide +kernel
theorem dX2_number_14 : decode cX2_number 14 = .ok (.invokevirtual 69, 3) := by decide +kernel
theorem dX2_number_17 : decode cX2_number 17 = .ok (.ireturn, 1) := by decide +kernel
theorem dX2_number_18 : decode cX2_number 18 = .ok (.aload_n 0, 1) := by decide +kernel
theorem dX2_number_19 : decode cX2_number 19 = .ok (.getfield 22, 3) := by decide +kernel
theorem dX2_number_22 : decode cX2_number 22 = .ok (.iload_n 1, 1) := by decide +kernel
theorem dX2_number_23 : decode cX2_number 23 = .ok (.iconst 1, 1) := by decide +kernel
theorem dX2_number_24 : decode cX2_number 24 = .ok (.iastore, 1) := by decide +kernel
theorem dX2_number_25 : decode cX2_number 25 = .ok (.aload_n 0, 1) := by decide +kernel
theorem dX2_number_26 : decode cX2_number 26 = .ok (.getfield 25, 3) := by decide +kernel
theorem dX2_number_29 : decode cX2_number 29 = .ok (.iload_n 1, 1) := by decide +kernel
theorem dX2_number_30 : decode cX2_number 30 = .ok (.iload_n 2, 1) := by decide +kernel
theorem dX2_number_31 : decode cX2_number 31 = .ok (.invokestatic 72, 3) := by decide +kernel
theorem dX2_number_34 : decode cX2_number 34 = .ok (.iastore, 1) := by decide +kernel
theorem dX2_number_35 : decode cX2_number 35 = .ok (.iload_n 2, 1) := by decide +kernel
theorem dX2_number_36 : decode cX2_number 36 = .ok (.invokestatic 72, 3) := by decide +kernel
theorem dX2_number_39 : decode cX2_number 39 = .ok (.ireturn, 1) := by decide +kernel
theorem dX2_kept_0 : decode cX2_kept 0 = .ok (.iload_n 0, 1) := by decide +kernel
theorem dX2_kept_1 : decode cX2_kept 1 = .ok (.iconst 1, 1) := by decide +kernel
theorem dX2_kept_2 : decode cX2_kept 2 = .ok (.ishl, 1) := by decide +kernel
theorem dX2_kept_3 : decode cX2_kept 3 = .ok (.iconst 1, 1) := by decide +kernel
theorem dX2_kept_4 : decode cX2_kept 4 = .ok (.ishr, 1) := by decide +kernel
theorem dX2_kept_5 : decode cX2_kept 5 = .ok (.ireturn, 1) := by decide +kernel
theorem dX2_copy_0 : decode cX2_copy 0 = .ok (.aload_n 0, 1) := by decide +kernel
theorem dX2_copy_1 : decode cX2_copy 1 = .ok (.iconst 0, 1) := by decide +kernel
theorem dX2_copy_2 : decode cX2_copy 2 = .ok (.putfield 38, 3) := by decide +kernel
theorem dX2_copy_5 : decode cX2_copy 5 = .ok (.iload_n 1, 1) := by decide +kernel
theorem dX2_copy_6 : decode cX2_copy 6 = .ok (.invokestatic 65, 3) := by decide +kernel
theorem dX2_copy_9 : decode cX2_copy 9 = .ok (.ifCond .eq 10, 3) := by decide +kernel
theorem dX2_copy_12 : decode cX2_copy 12 = .ok (.iload_n 2, 1) := by decide +kernel
theorem dX2_copy_13 : decode cX2_copy 13 = .ok (.invokestatic 65, 3) := by decide +kernel
theorem dX2_copy_16 : decode cX2_copy 16 = .ok (.ifCond .ne 17, 3) := by decide +kernel
theorem dX2_copy_19 : decode cX2_copy 19 = .ok (.aload_n 0, 1) := by decide +kernel
theorem dX2_copy_20 : decode cX2_copy 20 = .ok (.iconst 1, 1) := by decide +kernel
theorem dX2_copy_21 : decode cX2_copy 21 = .ok (.invokevirtual 69, 3) := by decide +kernel
theorem dX2_copy_24 : decode cX2_copy 24 = .ok (.ifCond .le 7, 3) := by decide +kernel
theorem dX2_copy_27 : decode cX2_copy 27 = .ok (.iconst 1, 1) := by decide +kernel
theorem dX2_copy_28 : decode cX2_copy 28 = .ok (.goto 4, 3) := by decide +kernel
theorem dX2_copy_31 : decode cX2_copy 31 = .ok (.iconst 0, 1) := by decide +kernel
theorem dX2_copy_32 : decode cX2_copy 32 = .ok (.ireturn, 1) := by decide +kernel
theorem dX2_copy_33 : decode cX2_copy 33 = .ok (.aload_n 0, 1) := by decide +kernel
theorem dX2_copy_34 : decode cX2_copy 34 = .ok (.getfield 22, 3) := by decide +kernel
theorem dX2_copy_37 : decode cX2_copy 37 = .ok (.iload_n 1, 1) := by decide +kernel
theorem dX2_copy_38 : decode cX2_copy 38 = .ok (.aload_n 0, 1) := by decide +kernel
theorem dX2_copy_39 : decode cX2_copy 39 = .ok (.getfield 22, 3) := by decide +kernel
theorem dX2_copy_42 : decode cX2_copy 42 = .ok (.iload_n 2, 1) := by decide +kernel
theorem dX2_copy_43 : decode cX2_copy 43 = .ok (.iaload, 1) := by decide +kernel
theorem dX2_copy_44 : decode cX2_copy 44 = .ok (.iastore, 1) := by decide +kernel
theorem dX2_copy_45 : decode cX2_copy 45 = .ok (.aload_n 0, 1) := by decide +kernel
theorem dX2_copy_46 : decode cX2_copy 46 = .ok (.getfield 25, 3) := by decide +kernel
theorem dX2_copy_49 : decode cX2_copy 49 = .ok (.iload_n 1, 1) := by decide +kernel
theorem dX2_copy_50 : decode cX2_copy 50 = .ok (.aload_n 0, 1) := by decide +kernel
theorem dX2_copy_51 : decode cX2_copy 51 = .ok (.getfield 25, 3) := by decide +kernel
theorem dX2_copy_54 : decode cX2_copy 54 = .ok (.iload_n 2, 1) := by decide +kernel
theorem dX2_copy_55 : decode cX2_copy 55 = .ok (.iaload, 1) := by decide +kernel
theorem dX2_copy_56 : decode cX2_copy 56 = .ok (.iastore, 1) := by decide +kernel
theorem dX2_copy_57 : decode cX2_copy 57 = .ok (.aload_n 0, 1) := by decide +kernel
theorem dX2_copy_58 : decode cX2_copy 58 = .ok (.getfield 22, 3) := by decide +kernel
theorem dX2_copy_61 : decode cX2_copy 61 = .ok (.iload_n 1, 1) := by decide +kernel
theorem dX2_copy_62 : decode cX2_copy 62 = .ok (.iaload, 1) := by decide +kernel
theorem dX2_copy_63 : decode cX2_copy 63 = .ok (.iconst 2, 1) := by decide +kernel
theorem dX2_copy_64 : decode cX2_copy 64 = .ok (.if_icmp .ne 7, 3) := by decide +kernel
theorem dX2_copy_67 : decode cX2_copy 67 = .ok (.iconst 1, 1) := by decide +kernel
theorem dX2_copy_68 : decode cX2_copy 68 = .ok (.goto 4, 3) := by decide +kernel
theorem dX2_copy_71 : decode cX2_copy 71 = .ok (.iconst 0, 1) := by decide +kernel
theorem dX2_copy_72 : decode cX2_copy 72 = .ok (.ireturn, 1) := by decide +kernel
theorem dX2_put_0 : decode cX2_put 0 = .ok (.aload_n 0, 1) := by decide +kernel
theorem dX2_put_1 : decode cX2_put 1 = .ok (.iconst 0, 1) := by decide +kernel
theorem dX2_put_2 : decode cX2_put 2 = .ok (.putfield 38, 3) := by decide +kernel
theorem dX2_put_5 : decode cX2_put 5 = .ok (.iload_n 1, 1) := by decide +kernel
theorem dX2_put_6 : decode cX2_put 6 = .ok (.invokestatic 65, 3) := by decide +kernel
theorem dX2_put_9 : decode cX2_put 9 = .ok (.ifCond .eq 14, 3) := by decide +kernel
theorem dX2_put_12 : decode cX2_put 12 = .ok (.iload_n 3, 1) := by decide +kernel
theorem dX2_put_13 : decode cX2_put 13 = .ok (.invokestatic 65, 3) := by decide +kernel
theorem dX2_put_16 : decode cX2_put 16 = .ok (.ifCond .eq 7, 3) := by decide +kernel
theorem dX2_put_19 : decode cX2_put 19 = .ok (.iconst 1, 1) := by decide +kernel
theorem dX2_put_20 : decode cX2_put 20 = .ok (.goto 4, 3) := by decide +kernel
theorem dX2_put_23 : decode cX2_put 23 = .ok (.iconst 0, 1) := by decide +kernel
theorem dX2_put_24 : decode cX2_put 24 = .ok (.istore 4, 2) := by decide +kernel
theorem dX2_put_26 : decode cX2_put 26 = .ok (.iload 4, 2) := by decide +kernel
theorem dX2_put_28 : decode cX2_put 28 = .ok (.ifCond .eq 17, 3) := by decide +kernel
theorem dX2_put_31 : decode cX2_put 31 = .ok (.aload_n 0, 1) := by decide +kernel
theorem dX2_put_32 : decode cX2_put 32 = .ok (.getfield 22, 3) := by decide +kernel
theorem dX2_put_35 : decode cX2_put 35 = .ok (.iload_n 1, 1) := by decide +kernel
theorem dX2_put_36 : decode cX2_put 36 = .ok (.iaload, 1) := by decide +kernel
theorem dX2_put_37 : decode cX2_put 37 = .ok (.iconst 2, 1) := by decide +kernel
theorem dX2_put_38 : decode cX2_put 38 = .ok (.if_icmp .ne 7, 3) := by decide +kernel
theorem dX2_put_41 : decode cX2_put 41 = .ok (.iconst 1, 1) := by decide +kernel
theorem dX2_put_42 : decode cX2_put 42 = .ok (.goto 4, 3) := by decide +kernel
theorem dX2_put_45 : decode cX2_put 45 = .ok (.iconst 0, 1) := by decide +kernel
theorem dX2_put_46 : decode cX2_put 46 = .ok (.istore 5, 2) := by decide +kernel
theorem dX2_put_48 : decode cX2_put 48 = .ok (.iload 4, 2) := by decide +kernel
theorem dX2_put_50 : decode cX2_put 50 = .ok (.ifCond .ne 11, 3) := by decide +kernel
theorem dX2_put_53 : decode cX2_put 53 = .ok (.aload_n 0, 1) := by decide +kernel
theorem dX2_put_54 : decode cX2_put 54 = .ok (.iconst 1, 1) := by decide +kernel
theorem dX2_put_55 : decode cX2_put 55 = .ok (.putfield 38, 3) := by decide +kernel
theorem dX2_put_58 : decode cX2_put 58 = .ok (.goto 101, 3) := by decide +kernel
theorem dX2_put_61 : decode cX2_put 61 = .ok (.iload 5, 2) := by decide +kernel
theorem dX2_put_63 : decode cX2_put 63 = .ok (.ifCond .eq 21, 3) := by decide +kernel
theorem dX2_put_66 : decode cX2_put 66 = .ok (.aload_n 0, 1) := by decide +kernel
theorem dX2_put_67 : decode cX2_put 67 = .ok (.iload_n 1, 1) := by decide +kernel
theorem dX2_put_68 : decode cX2_put 68 = .ok (.invokevirtual 75, 3) := by decide +kernel
theorem dX2_put_71 : decode cX2_put 71 = .ok (.ifCond .eq 21, 3) := by decide +kernel
theorem dX2_put_74 : decode cX2_put 74 = .ok (.aload_n 0, 1) := by decide +kernel
theorem dX2_put_75 : decode cX2_put 75 = .ok (.getfield 22, 3) := by decide +kernel
theorem dX2_put_78 : decode cX2_put 78 = .ok (.iload_n 3, 1) := by decide +kernel
theorem dX2_put_79 : decode cX2_put 79 = .ok (.iaload, 1) := by decide +kernel
theorem dX2_put_80 : decode cX2_put 80 = .ok (.iconst 2, 1) := by decide +kernel
theorem dX2_put_81 : decode cX2_put 81 = .ok (.if_icmp .ne 11, 3) := by decide +kernel
theorem dX2_put_84 : decode cX2_put 84 = .ok (.aload_n 0, 1) := by decide +kernel
theorem dX2_put_85 : decode cX2_put 85 = .ok (.iconst 2, 1) := by decide +kernel
theorem dX2_put_86 : decode cX2_put 86 = .ok (.putfield 38, 3) := by decide +kernel
theorem dX2_put_89 : decode cX2_put 89 = .ok (.goto 70, 3) := by decide +kernel
theorem dX2_put_92 : decode cX2_put 92 = .ok (.aload_n 0, 1) := by decide +kernel
theorem dX2_put_93 : decode cX2_put 93 = .ok (.iload_n 1, 1) := by decide +kernel
theorem dX2_put_94 : decode cX2_put 94 = .ok (.iload_n 2, 1) := by decide +kernel
theorem dX2_put_95 : decode cX2_put 95 = .ok (.invokevirtual 78, 3) := by decide +kernel
theorem dX2_put_98 : decode cX2_put 98 = .ok (.ifCond .ne 11, 3) := by decide +kernel
theorem dX2_put_101 : decode cX2_put 101 = .ok (.aload_n 0, 1) := by decide +kernel
theorem dX2_put_102 : decode cX2_put 102 = .ok (.iconst 3, 1) := by decide +kernel
theorem dX2_put_103 : decode cX2_put 103 = .ok (.putfield 38, 3) := by decide +kernel
theorem dX2_put_106 : decode cX2_put 106 = .ok (.goto 53, 3) := by decide +kernel
theorem dX2_put_109 : decode cX2_put 109 = .ok (.aload_n 0, 1) := by decide +kernel
theorem dX2_put_110 : decode cX2_put 110 = .ok (.getfield 25, 3) := by decide +kernel
theorem dX2_put_113 : decode cX2_put 113 = .ok (.iload_n 1, 1) := by decide +kernel
theorem dX2_put_114 : decode cX2_put 114 = .ok (.iaload, 1) := by decide +kernel
theorem dX2_put_115 : decode cX2_put 115 = .ok (.iconst 1, 1) := by decide +kernel
theorem dX2_put_116 : decode cX2_put 116 = .ok (.iadd, 1) := by decide +kernel
theorem dX2_put_117 : decode cX2_put 117 = .ok (.iload_n 2, 1) := by decide +kernel
theorem dX2_put_118 : decode cX2_put 118 = .ok (.iadd, 1) := by decide +kernel
theorem dX2_put_119 : decode cX2_put 119 = .ok (.istore 6, 2) := by decide +kernel
theorem dX2_put_121 : decode cX2_put 121 = .ok (.aload_n 0, 1) := by decide +kernel
theorem dX2_put_122 : decode cX2_put 122 = .ok (.getfield 7, 3) := by decide +kernel
theorem dX2_put_125 : decode cX2_put 125 = .ok (.iload 6, 2) := by decide +kernel
theorem dX2_put_127 : decode cX2_put 127 = .ok (.aload_n 0, 1) := by decide +kernel
theorem dX2_put_128 : decode cX2_put 128 = .ok (.iload_n 1, 1) := by decide +kernel
theorem dX2_put_129 : decode cX2_put 129 = .ok (.invokevirtual 75, 3) := by decide +kernel
theorem dX2_put_132 : decode cX2_put 132 = .ok (.ifCond .eq 7, 3) := by decide +kernel
theorem dX2_put_135 : decode cX2_put 135 = .ok (.iconst 3, 1) := by decide +kernel
theorem dX2_put_136 : decode cX2_put 136 = .ok (.goto 9, 3) := by decide +kernel
theorem dX2_put_139 : decode cX2_put 139 = .ok (.aload_n 0, 1) := by decide +kernel
theorem dX2_put_140 : decode cX2_put 140 = .ok (.getfield 22, 3) := by decide +kernel
theorem dX2_put_143 : decode cX2_put 143 = .ok (.iload_n 3, 1) := by decide +kernel
theorem dX2_put_144 : decode cX2_put 144 = .ok (.iaload, 1) := by decide +kernel
theorem dX2_put_145 : decode cX2_put 145 = .ok (.iastore, 1) := by decide +kernel
theorem dX2_put_146 : decode cX2_put 146 = .ok (.aload_n 0, 1) := by decide +kernel
theorem dX2_put_147 : decode cX2_put 147 = .ok (.getfield 13, 3) := by decide +kernel
theorem dX2_put_150 : decode cX2_put 150 = .ok (.iload 6, 2) := by decide +kernel
theorem dX2_put_152 : decode cX2_put 152 = .ok (.aload_n 0, 1) := by decide +kernel
theorem dX2_put_153 : decode cX2_put 153 = .ok (.getfield 25, 3) := by decide +kernel
theorem dX2_put_156 : decode cX2_put 156 = .ok (.iload_n 3, 1) := by decide +kernel
theorem dX2_put_157 : decode cX2_put 157 = .ok (.iaload, 1) := by decide +kernel
theorem dX2_put_158 : decode cX2_put 158 = .ok (.iastore, 1) := by decide +kernel
theorem dX2_put_159 : decode cX2_put 159 = .ok (.return_, 1) := by decide +kernel
theorem dX2_isRaw_0 : decode cX2_isRaw 0 = .ok (.aload_n 0, 1) := by decide +kernel
theorem dX2_isRaw_1 : decode cX2_isRaw 1 = .ok (.getfield 22, 3) := by decide +kernel
theorem dX2_isRaw_4 : decode cX2_isRaw 4 = .ok (.iload_n 1, 1) := by decide +kernel
theorem dX2_isRaw_5 : decode cX2_isRaw 5 = .ok (.iaload, 1) := by decide +kernel
theorem dX2_isRaw_6 : decode cX2_isRaw 6 = .ok (.iconst 2, 1) := by decide +kernel
theorem dX2_isRaw_7 : decode cX2_isRaw 7 = .ok (.if_icmp .ne 24, 3) := by decide +kernel
theorem dX2_isRaw_10 : decode cX2_isRaw 10 = .ok (.aload_n 0, 1) := by decide +kernel
theorem dX2_isRaw_11 : decode cX2_isRaw 11 = .ok (.getfield 13, 3) := by decide +kernel
theorem dX2_isRaw_14 : decode cX2_isRaw 14 = .ok (.aload_n 0, 1) := by decide +kernel
theorem dX2_isRaw_15 : decode cX2_isRaw 15 = .ok (.getfield 25, 3) := by decide +kernel
theorem dX2_isRaw_18 : decode cX2_isRaw 18 = .ok (.iload_n 1, 1) := by decide +kernel
theorem dX2_isRaw_19 : decode cX2_isRaw 19 = .ok (.iaload, 1) := by decide +kernel
theorem dX2_isRaw_20 : decode cX2_isRaw 20 = .ok (.iaload, 1) := by decide +kernel
theorem dX2_isRaw_21 : decode cX2_isRaw 21 = .ok (.iconst 1, 1) := by decide +kernel
theorem dX2_isRaw_22 : decode cX2_isRaw 22 = .ok (.iand, 1) := by decide +kernel
theorem dX2_isRaw_23 : decode cX2_isRaw 23 = .ok (.iconst 1, 1) := by decide +kernel
theorem dX2_isRaw_24 : decode cX2_isRaw 24 = .ok (.if_icmp .ne 7, 3) := by decide +kernel
theorem dX2_isRaw_27 : decode cX2_isRaw 27 = .ok (.iconst 1, 1) := by decide +kernel
theorem dX2_isRaw_28 : decode cX2_isRaw 28 = .ok (.goto 4, 3) := by decide +kernel
theorem dX2_isRaw_31 : decode cX2_isRaw 31 = .ok (.iconst 0, 1) := by decide +kernel
theorem dX2_isRaw_32 : decode cX2_isRaw 32 = .ok (.ireturn, 1) := by decide +kernel
theorem dX2_hasField_0 : decode cX2_hasField 0 = .ok (.iload_n 2, 1) := by decide +kernel
theorem dX2_hasField_1 : decode cX2_hasField 1 = .ok (.ifCond .lt 21, 3) := by decide +kernel
theorem dX2_hasField_4 : decode cX2_hasField 4 = .ok (.iload_n 2, 1) := by decide +kernel
theorem dX2_hasField_5 : decode cX2_hasField 5 = .ok (.aload_n 0, 1) := by decide +kernel
theorem dX2_hasField_6 : decode cX2_hasField 6 = .ok (.aload_n 0, 1) := by decide +kernel
theorem dX2_hasField_7 : decode cX2_hasField 7 = .ok (.getfield 25, 3) := by decide +kernel
theorem dX2_hasField_10 : decode cX2_hasField 10 = .ok (.iload_n 1, 1) := by decide +kernel
theorem dX2_hasField_11 : decode cX2_hasField 11 = .ok (.iaload, 1) := by decide +kernel
theorem dX2_hasField_12 : decode cX2_hasField 12 = .ok (.invokevirtual 44, 3) := by decide +kernel
theorem dX2_hasField_15 : decode cX2_hasField 15 = .ok (.if_icmp .ge 7, 3) := by decide +kernel
theorem dX2_hasField_18 : decode cX2_hasField 18 = .ok (.iconst 1, 1) := by decide +kernel
theorem dX2_hasField_19 : decode cX2_hasField 19 = .ok (.goto 4, 3) := by decide +kernel
theorem dX2_hasField_22 : decode cX2_hasField 22 = .ok (.iconst 0, 1) := by decide +kernel
theorem dX2_hasField_23 : decode cX2_hasField 23 = .ok (.ireturn, 1) := by decide +kernel
theorem dX2_raw_0 : decode cX2_raw 0 = .ok (.aload_n 0, 1) := by decide +kernel
theorem dX2_raw_1 : decode cX2_raw 1 = .ok (.iconst 0, 1) := by decide +kernel
theorem dX2_raw_2 : decode cX2_raw 2 = .ok (.putfield 38, 3) := by decide +kernel
theorem dX2_raw_5 : decode cX2_raw 5 = .ok (.iload_n 1, 1) := by decide +kernel
theorem dX2_raw_6 : decode cX2_raw 6 = .ok (.invokestatic 65, 3) := by decide +kernel
theorem dX2_raw_9 : decode cX2_raw 9 = .ok (.ifCond .ne 9, 3) := by decide +kernel
theorem dX2_raw_12 : decode cX2_raw 12 = .ok (.aload_n 0, 1) := by decide +kernel
theorem dX2_raw_13 : decode cX2_raw 13 = .ok (.iconst 1, 1) := by decide +kernel
theorem dX2_raw_14 : decode cX2_raw 14 = .ok (.invokevirtual 69, 3) := by decide +kernel
theorem dX2_raw_17 : decode cX2_raw 17 = .ok (.ireturn, 1) := by decide +kernel
theorem dX2_raw_18 : decode cX2_raw 18 = .ok (.aload_n 0, 1) := by decide +kernel
theorem dX2_raw_19 : decode cX2_raw 19 = .ok (.iload_n 1, 1) := by decide +kernel
theorem dX2_raw_20 : decode cX2_raw 20 = .ok (.invokevirtual 75, 3) := by decide +kernel
theorem dX2_raw_23 : decode cX2_raw 23 = .ok (.ifCond .ne 9, 3) := by decide +kernel
theorem dX2_raw_26 : decode cX2_raw 26 = .ok (.aload_n 0, 1) := by decide +kernel
theorem dX2_raw_27 : decode cX2_raw 27 = .ok (.iconst 2, 1) := by decide +kernel
theorem dX2_raw_28 : decode cX2_raw 28 = .ok (.invokevirtual 69, 3) := by decide +kernel
theorem dX2_raw_31 : decode cX2_raw 31 = .ok (.ireturn, 1) := by decide +kernel
theorem dX2_raw_32 : decode cX2_raw 32 = .ok (.aload_n 0, 1) := by decide +kernel
theorem dX2_raw_33 : decode cX2_raw 33 = .ok (.iload_n 1, 1) := by decide +kernel
theorem dX2_raw_34 : decode cX2_raw 34 = .ok (.iload_n 2, 1) := by decide +kernel
theorem dX2_raw_35 : decode cX2_raw 35 = .ok (.invokevirtual 78, 3) := by decide +kernel
theorem dX2_raw_38 : decode cX2_raw 38 = .ok (.ifCond .ne 9, 3) := by decide +kernel
theorem dX2_raw_41 : decode cX2_raw 41 = .ok (.aload_n 0, 1) := by decide +kernel
theorem dX2_raw_42 : decode cX2_raw 42 = .ok (.iconst 3, 1) := by decide +kernel
theorem dX2_raw_43 : decode cX2_raw 43 = .ok (.invokevirtual 69, 3) := by decide +kernel
theorem dX2_raw_46 : decode cX2_raw 46 = .ok (.ireturn, 1) := by decide +kernel
theorem dX2_raw_47 : decode cX2_raw 47 = .ok (.aload_n 0, 1) := by decide +kernel
theorem dX2_raw_48 : decode cX2_raw 48 = .ok (.getfield 25, 3) := by decide +kernel
theorem dX2_raw_51 : decode cX2_raw 51 = .ok (.iload_n 1, 1) := by decide +kernel
theorem dX2_raw_52 : decode cX2_raw 52 = .ok (.iaload, 1) := by decide +kernel
theorem dX2_raw_53 : decode cX2_raw 53 = .ok (.iconst 1, 1) := by decide +kernel
theorem dX2_raw_54 : decode cX2_raw 54 = .ok (.iadd, 1) := by decide +kernel
theorem dX2_raw_55 : decode cX2_raw 55 = .ok (.iload_n 2, 1) := by decide +kernel
theorem dX2_raw_56 : decode cX2_raw 56 = .ok (.iadd, 1) := by decide +kernel
theorem dX2_raw_57 : decode cX2_raw 57 = .ok (.istore 4, 2) := by decide +kernel
theorem dX2_raw_59 : decode cX2_raw 59 = .ok (.aload_n 0, 1) := by decide +kernel
theorem dX2_raw_60 : decode cX2_raw 60 = .ok (.getfield 13, 3) := by decide +kernel
theorem dX2_raw_63 : decode cX2_raw 63 = .ok (.iload 4, 2) := by decide +kernel
theorem dX2_raw_65 : decode cX2_raw 65 = .ok (.iaload, 1) := by decide +kernel
theorem dX2_raw_66 : decode cX2_raw 66 = .ok (.istore 5, 2) := by decide +kernel
theorem dX2_raw_68 : decode cX2_raw 68 = .ok (.aload_n 0, 1) := by decide +kernel
theorem dX2_raw_69 : decode cX2_raw 69 = .ok (.getfield 13, 3) := by decide +kernel
theorem dX2_raw_72 : decode cX2_raw 72 = .ok (.iload 4, 2) := by decide +kernel
theorem dX2_raw_74 : decode cX2_raw 74 = .ok (.iload_n 3, 1) := by decide +kernel
theorem dX2_raw_75 : decode cX2_raw 75 = .ok (.iastore, 1) := by decide +kernel
theorem dX2_raw_76 : decode cX2_raw 76 = .ok (.iload 5, 2) := by decide +kernel
theorem dX2_raw_78 : decode cX2_raw 78 = .ok (.ireturn, 1) := by decide +kernel
theorem dX2_get_0 : decode cX2_get 0 = .ok (.aload_n 0, 1) := by decide +kernel
theorem dX2_get_1 : decode cX2_get 1 = .ok (.iconst 0, 1) := by decide +kernel
theorem dX2_get_2 : decode cX2_get 2 = .ok (.putfield 38, 3) := by decide +kernel
theorem dX2_get_5 : decode cX2_get 5 = .ok (.iload_n 1, 1) := by decide +kernel
theorem dX2_get_6 : decode cX2_get 6 = .ok (.invokestatic 65, 3) := by decide +kernel
theorem dX2_get_9 : decode cX2_get 9 = .ok (.ifCond .eq 10, 3) := by decide +kernel
theorem dX2_get_12 : decode cX2_get 12 = .ok (.iload_n 2, 1) := by decide +kernel
theorem dX2_get_13 : decode cX2_get 13 = .ok (.invokestatic 65, 3) := by decide +kernel
theorem dX2_get_16 : decode cX2_get 16 = .ok (.ifCond .ne 17, 3) := by decide +kernel
theorem dX2_get_19 : decode cX2_get 19 = .ok (.aload_n 0, 1) := by decide +kernel
theorem dX2_get_20 : decode cX2_get 20 = .ok (.iconst 1, 1) := by decide +kernel
theorem dX2_get_21 : decode cX2_get 21 = .ok (.invokevirtual 69, 3) := by decide +kernel
theorem dX2_get_24 : decode cX2_get 24 = .ok (.ifCond .le 7, 3) := by decide +kernel
theorem dX2_get_27 : decode cX2_get 27 = .ok (.iconst 1, 1) := by decide +kernel
theorem dX2_get_28 : decode cX2_get 28 = .ok (.goto 4, 3) := by decide +kernel
theorem dX2_get_31 : decode cX2_get 31 = .ok (.iconst 0, 1) := by decide +kernel
theorem dX2_get_32 : decode cX2_get 32 = .ok (.ireturn, 1) := by decide +kernel
theorem dX2_get_33 : decode cX2_get 33 = .ok (.aload_n 0, 1) := by decide +kernel
theorem dX2_get_34 : decode cX2_get 34 = .ok (.getfield 22, 3) := by decide +kernel
theorem dX2_get_37 : decode cX2_get 37 = .ok (.iload_n 2, 1) := by decide +kernel
theorem dX2_get_38 : decode cX2_get 38 = .ok (.iaload, 1) := by decide +kernel
theorem dX2_get_39 : decode cX2_get 39 = .ok (.iconst 2, 1) := by decide +kernel
theorem dX2_get_40 : decode cX2_get 40 = .ok (.if_icmp .eq 17, 3) := by decide +kernel
theorem dX2_get_43 : decode cX2_get 43 = .ok (.aload_n 0, 1) := by decide +kernel
theorem dX2_get_44 : decode cX2_get 44 = .ok (.iconst 2, 1) := by decide +kernel
theorem dX2_get_45 : decode cX2_get 45 = .ok (.invokevirtual 69, 3) := by decide +kernel
theorem dX2_get_48 : decode cX2_get 48 = .ok (.ifCond .le 7, 3) := by decide +kernel
theorem dX2_get_51 : decode cX2_get 51 = .ok (.iconst 1, 1) := by decide +kernel
theorem dX2_get_52 : decode cX2_get 52 = .ok (.goto 4, 3) := by decide +kernel
theorem dX2_get_55 : decode cX2_get 55 = .ok (.iconst 0, 1) := by decide +kernel
theorem dX2_get_56 : decode cX2_get 56 = .ok (.ireturn, 1) := by decide +kernel
theorem dX2_get_57 : decode cX2_get 57 = .ok (.aload_n 0, 1) := by decide +kernel
theorem dX2_get_58 : decode cX2_get 58 = .ok (.iload_n 2, 1) := by decide +kernel
theorem dX2_get_59 : decode cX2_get 59 = .ok (.iload_n 3, 1) := by decide +kernel
theorem dX2_get_60 : decode cX2_get 60 = .ok (.invokevirtual 78, 3) := by decide +kernel
theorem dX2_get_63 : decode cX2_get 63 = .ok (.ifCond .ne 17, 3) := by decide +kernel
theorem dX2_get_66 : decode cX2_get 66 = .ok (.aload_n 0, 1) := by decide +kernel
theorem dX2_get_67 : decode cX2_get 67 = .ok (.iconst 3, 1) := by decide +kernel
theorem dX2_get_68 : decode cX2_get 68 = .ok (.invokevirtual 69, 3) := by decide +kernel
theorem dX2_get_71 : decode cX2_get 71 = .ok (.ifCond .le 7, 3) := by decide +kernel
theorem dX2_get_74 : decode cX2_get 74 = .ok (.iconst 1, 1) := by decide +kernel
theorem dX2_get_75 : decode cX2_get 75 = .ok (.goto 4, 3) := by decide +kernel
theorem dX2_get_78 : decode cX2_get 78 = .ok (.iconst 0, 1) := by decide +kernel
theorem dX2_get_79 : decode cX2_get 79 = .ok (.ireturn, 1) := by decide +kernel
theorem dX2_get_80 : decode cX2_get 80 = .ok (.aload_n 0, 1) := by decide +kernel
theorem dX2_get_81 : decode cX2_get 81 = .ok (.getfield 25, 3) := by decide +kernel
theorem dX2_get_84 : decode cX2_get 84 = .ok (.iload_n 2, 1) := by decide +kernel
theorem dX2_get_85 : decode cX2_get 85 = .ok (.iaload, 1) := by decide +kernel
theorem dX2_get_86 : decode cX2_get 86 = .ok (.iconst 1, 1) := by decide +kernel
theorem dX2_get_87 : decode cX2_get 87 = .ok (.iadd, 1) := by decide +kernel
theorem dX2_get_88 : decode cX2_get 88 = .ok (.iload_n 3, 1) := by decide +kernel
theorem dX2_get_89 : decode cX2_get 89 = .ok (.iadd, 1) := by decide +kernel
theorem dX2_get_90 : decode cX2_get 90 = .ok (.istore 4, 2) := by decide +kernel
theorem dX2_get_92 : decode cX2_get 92 = .ok (.aload_n 0, 1) := by decide +kernel
theorem dX2_get_93 : decode cX2_get 93 = .ok (.getfield 7, 3) := by decide +kernel
theorem dX2_get_96 : decode cX2_get 96 = .ok (.iload 4, 2) := by decide +kernel
theorem dX2_get_98 : decode cX2_get 98 = .ok (.iaload, 1) := by decide +kernel
theorem dX2_get_99 : decode cX2_get 99 = .ok (.iconst 3, 1) := by decide +kernel
theorem dX2_get_100 : decode cX2_get 100 = .ok (.if_icmp .ne 7, 3) := by decide +kernel
theorem dX2_get_103 : decode cX2_get 103 = .ok (.iconst 1, 1) := by decide +kernel
theorem dX2_get_104 : decode cX2_get 104 = .ok (.goto 4, 3) := by decide +kernel
theorem dX2_get_107 : decode cX2_get 107 = .ok (.iconst 0, 1) := by decide +kernel
theorem dX2_get_108 : decode cX2_get 108 = .ok (.istore 5, 2) := by decide +kernel
theorem dX2_get_110 : decode cX2_get 110 = .ok (.aload_n 0, 1) := by decide +kernel
theorem dX2_get_111 : decode cX2_get 111 = .ok (.getfield 13, 3) := by decide +kernel
theorem dX2_get_114 : decode cX2_get 114 = .ok (.iload 4, 2) := by decide +kernel
theorem dX2_get_116 : decode cX2_get 116 = .ok (.iaload, 1) := by decide +kernel
theorem dX2_get_117 : decode cX2_get 117 = .ok (.istore 6, 2) := by decide +kernel
theorem dX2_get_119 : decode cX2_get 119 = .ok (.aload_n 0, 1) := by decide +kernel
theorem dX2_get_120 : decode cX2_get 120 = .ok (.getfield 22, 3) := by decide +kernel
theorem dX2_get_123 : decode cX2_get 123 = .ok (.iload_n 1, 1) := by decide +kernel
theorem dX2_get_124 : decode cX2_get 124 = .ok (.iload 5, 2) := by decide +kernel
theorem dX2_get_126 : decode cX2_get 126 = .ok (.ifCond .eq 7, 3) := by decide +kernel
theorem dX2_get_129 : decode cX2_get 129 = .ok (.iconst 1, 1) := by decide +kernel
theorem dX2_get_130 : decode cX2_get 130 = .ok (.goto 10, 3) := by decide +kernel
theorem dX2_get_133 : decode cX2_get 133 = .ok (.aload_n 0, 1) := by decide +kernel
theorem dX2_get_134 : decode cX2_get 134 = .ok (.getfield 7, 3) := by decide +kernel
theorem dX2_get_137 : decode cX2_get 137 = .ok (.iload 4, 2) := by decide +kernel
theorem dX2_get_139 : decode cX2_get 139 = .ok (.iaload, 1) := by decide +kernel
theorem dX2_get_140 : decode cX2_get 140 = .ok (.iastore, 1) := by decide +kernel
theorem dX2_get_141 : decode cX2_get 141 = .ok (.aload_n 0, 1) := by decide +kernel
theorem dX2_get_142 : decode cX2_get 142 = .ok (.getfield 25, 3) := by decide +kernel
theorem dX2_get_145 : decode cX2_get 145 = .ok (.iload_n 1, 1) := by decide +kernel
theorem dX2_get_146 : decode cX2_get 146 = .ok (.iload 5, 2) := by decide +kernel
theorem dX2_get_148 : decode cX2_get 148 = .ok (.ifCond .eq 11, 3) := by decide +kernel
theorem dX2_get_151 : decode cX2_get 151 = .ok (.iload 6, 2) := by decide +kernel
theorem dX2_get_153 : decode cX2_get 153 = .ok (.invokestatic 72, 3) := by decide +kernel
theorem dX2_get_156 : decode cX2_get 156 = .ok (.goto 5, 3) := by decide +kernel
theorem dX2_get_159 : decode cX2_get 159 = .ok (.iload 6, 2) := by decide +kernel
theorem dX2_get_161 : decode cX2_get 161 = .ok (.iastore, 1) := by decide +kernel
theorem dX2_get_162 : decode cX2_get 162 = .ok (.aload_n 0, 1) := by decide +kernel
theorem dX2_get_163 : decode cX2_get 163 = .ok (.getfield 22, 3) := by decide +kernel
theorem dX2_get_166 : decode cX2_get 166 = .ok (.iload_n 1, 1) := by decide +kernel
theorem dX2_get_167 : decode cX2_get 167 = .ok (.iaload, 1) := by decide +kernel
theorem dX2_get_168 : decode cX2_get 168 = .ok (.iconst 2, 1) := by decide +kernel
theorem dX2_get_169 : decode cX2_get 169 = .ok (.if_icmp .ne 7, 3) := by decide +kernel
theorem dX2_get_172 : decode cX2_get 172 = .ok (.iconst 1, 1) := by decide +kernel
theorem dX2_get_173 : decode cX2_get 173 = .ok (.goto 4, 3) := by decide +kernel
theorem dX2_get_176 : decode cX2_get 176 = .ok (.iconst 0, 1) := by decide +kernel
theorem dX2_get_177 : decode cX2_get 177 = .ok (.ireturn, 1) := by decide +kernel
theorem dX2_about_0 : decode cX2_about 0 = .ok (.aload_n 0, 1) := by decide +kernel
theorem dX2_about_1 : decode cX2_about 1 = .ok (.iconst 0, 1) := by decide +kernel
theorem dX2_about_2 : decode cX2_about 2 = .ok (.putfield 38, 3) := by decide +kernel
theorem dX2_about_5 : decode cX2_about 5 = .ok (.iload_n 1, 1) := by decide +kernel
theorem dX2_about_6 : decode cX2_about 6 = .ok (.invokestatic 65, 3) := by decide +kernel
theorem dX2_about_9 : decode cX2_about 9 = .ok (.ifCond .ne 9, 3) := by decide +kernel
theorem dX2_about_12 : decode cX2_about 12 = .ok (.aload_n 0, 1) := by decide +kernel
theorem dX2_about_13 : decode cX2_about 13 = .ok (.iconst 1, 1) := by decide +kernel
theorem dX2_about_14 : decode cX2_about 14 = .ok (.invokevirtual 69, 3) := by decide +kernel
theorem dX2_about_17 : decode cX2_about 17 = .ok (.ireturn, 1) := by decide +kernel
theorem dX2_about_18 : decode cX2_about 18 = .ok (.iload_n 2, 1) := by decide +kernel
theorem dX2_about_19 : decode cX2_about 19 = .ok (.ifCond .lt 8, 3) := by decide +kernel
theorem dX2_about_22 : decode cX2_about 22 = .ok (.iload_n 2, 1) := by decide +kernel
theorem dX2_about_23 : decode cX2_about 23 = .ok (.iconst 3, 1) := by decide +kernel
theorem dX2_about_24 : decode cX2_about 24 = .ok (.if_icmp .le 9, 3) := by decide +kernel
theorem dX2_about_27 : decode cX2_about 27 = .ok (.aload_n 0, 1) := by decide +kernel
theorem dX2_about_28 : decode cX2_about 28 = .ok (.iconst 2, 1) := by decide +kernel
theorem dX2_about_29 : decode cX2_about 29 = .ok (.invokevirtual 69, 3) := by decide +kernel
theorem dX2_about_32 : decode cX2_about 32 = .ok (.ireturn, 1) := by decide +kernel
theorem dX2_about_33 : decode cX2_about 33 = .ok (.aload_n 0, 1) := by decide +kernel
theorem dX2_about_34 : decode cX2_about 34 = .ok (.getfield 22, 3) := by decide +kernel
theorem dX2_about_37 : decode cX2_about 37 = .ok (.iload_n 1, 1) := by decide +kernel
theorem dX2_about_38 : decode cX2_about 38 = .ok (.iaload, 1) := by decide +kernel
theorem dX2_about_39 : decode cX2_about 39 = .ok (.iconst 2, 1) := by decide +kernel
theorem dX2_about_40 : decode cX2_about 40 = .ok (.if_icmp .ne 7, 3) := by decide +kernel
theorem dX2_about_43 : decode cX2_about 43 = .ok (.iconst 1, 1) := by decide +kernel
theorem dX2_about_44 : decode cX2_about 44 = .ok (.goto 4, 3) := by decide +kernel
theorem dX2_about_47 : decode cX2_about 47 = .ok (.iconst 0, 1) := by decide +kernel
theorem dX2_about_48 : decode cX2_about 48 = .ok (.istore_n 3, 1) := by decide +kernel
theorem dX2_about_49 : decode cX2_about 49 = .ok (.aload_n 0, 1) := by decide +kernel
theorem dX2_about_50 : decode cX2_about 50 = .ok (.getfield 25, 3) := by decide +kernel
theorem dX2_about_53 : decode cX2_about 53 = .ok (.iload_n 1, 1) := by decide +kernel
theorem dX2_about_54 : decode cX2_about 54 = .ok (.iaload, 1) := by decide +kernel
theorem dX2_about_55 : decode cX2_about 55 = .ok (.istore 4, 2) := by decide +kernel
theorem dX2_about_57 : decode cX2_about 57 = .ok (.iload_n 2, 1) := by decide +kernel
theorem dX2_about_58 : decode cX2_about 58 = .ok (.ifCond .ne 14, 3) := by decide +kernel
theorem dX2_about_61 : decode cX2_about 61 = .ok (.iload_n 3, 1) := by decide +kernel
theorem dX2_about_62 : decode cX2_about 62 = .ok (.ifCond .eq 8, 3) := by decide +kernel
theorem dX2_about_65 : decode cX2_about 65 = .ok (.iload 4, 2) := by decide +kernel
theorem dX2_about_67 : decode cX2_about 67 = .ok (.goto 4, 3) := by decide +kernel
theorem dX2_about_70 : decode cX2_about 70 = .ok (.iconst (-1), 1) := by decide +kernel
theorem dX2_about_71 : decode cX2_about 71 = .ok (.ireturn, 1) := by decide +kernel
theorem dX2_about_72 : decode cX2_about 72 = .ok (.iload_n 2, 1) := by decide +kernel
theorem dX2_about_73 : decode cX2_about 73 = .ok (.iconst 1, 1) := by decide +kernel
theorem dX2_about_74 : decode cX2_about 74 = .ok (.if_icmp .ne 14, 3) := by decide +kernel
theorem dX2_about_77 : decode cX2_about 77 = .ok (.iload_n 3, 1) := by decide +kernel
theorem dX2_about_78 : decode cX2_about 78 = .ok (.ifCond .eq 7, 3) := by decide +kernel
theorem dX2_about_81 : decode cX2_about 81 = .ok (.iconst 0, 1) := by decide +kernel
theorem dX2_about_82 : decode cX2_about 82 = .ok (.goto 5, 3) := by decide +kernel
theorem dX2_about_85 : decode cX2_about 85 = .ok (.iload 4, 2) := by decide +kernel
theorem dX2_about_87 : decode cX2_about 87 = .ok (.ireturn, 1) := by decide +kernel
theorem dX2_about_88 : decode cX2_about 88 = .ok (.iload_n 3, 1) := by decide +kernel
theorem dX2_about_89 : decode cX2_about 89 = .ok (.ifCond .ne 5, 3) := by decide +kernel
theorem dX2_about_92 : decode cX2_about 92 = .ok (.iconst (-1), 1) := by decide +kernel
theorem dX2_about_93 : decode cX2_about 93 = .ok (.ireturn, 1) := by decide +kernel
theorem dX2_about_94 : decode cX2_about 94 = .ok (.iload_n 2, 1) := by decide +kernel
theorem dX2_about_95 : decode cX2_about 95 = .ok (.iconst 2, 1) := by decide +kernel
theorem dX2_about_96 : decode cX2_about 96 = .ok (.if_icmp .ne 15, 3) := by decide +kernel
theorem dX2_about_99 : decode cX2_about 99 = .ok (.aload_n 0, 1) := by decide +kernel
theorem dX2_about_100 : decode cX2_about 100 = .ok (.getfield 13, 3) := by decide +kernel
theorem dX2_about_103 : decode cX2_about 103 = .ok (.iload 4, 2) := by decide +kernel
theorem dX2_about_105 : decode cX2_about 105 = .ok (.iaload, 1) := by decide +kernel
theorem dX2_about_106 : decode cX2_about 106 = .ok (.iconst 1, 1) := by decide +kernel
theorem dX2_about_107 : decode cX2_about 107 = .ok (.iand, 1) := by decide +kernel
theorem dX2_about_108 : decode cX2_about 108 = .ok (.goto 9, 3) := by decide +kernel
theorem dX2_about_111 : decode cX2_about 111 = .ok (.aload_n 0, 1) := by decide +kernel
theorem dX2_about_112 : decode cX2_about 112 = .ok (.iload 4, 2) := by decide +kernel
theorem dX2_about_114 : decode cX2_about 114 = .ok (.invokevirtual 44, 3) := by decide +kernel
theorem dX2_about_117 : decode cX2_about 117 = .ok (.ireturn, 1) := by decide +kernel
theorem dX2_look_0 : decode cX2_look 0 = .ok (.aload_n 0, 1) := by decide +kernel
theorem dX2_look_1 : decode cX2_look 1 = .ok (.iconst 0, 1) := by decide +kernel
theorem dX2_look_2 : decode cX2_look 2 = .ok (.putfield 38, 3) := by decide +kernel
theorem dX2_look_5 : decode cX2_look 5 = .ok (.iload_n 1, 1) := by decide +kernel
theorem dX2_look_6 : decode cX2_look 6 = .ok (.ifCond .lt 20, 3) := by decide +kernel
theorem dX2_look_9 : decode cX2_look 9 = .ok (.iload_n 1, 1) := by decide +kernel
theorem dX2_look_10 : decode cX2_look 10 = .ok (.aload_n 0, 1) := by decide +kernel
theorem dX2_look_11 : decode cX2_look 11 = .ok (.getfield 48, 3) := by decide +kernel
theorem dX2_look_14 : decode cX2_look 14 = .ok (.if_icmp .ge 12, 3) := by decide +kernel
theorem dX2_look_17 : decode cX2_look 17 = .ok (.iload_n 2, 1) := by decide +kernel
theorem dX2_look_18 : decode cX2_look 18 = .ok (.ifCond .lt 8, 3) := by decide +kernel
theorem dX2_look_21 : decode cX2_look 21 = .ok (.iload_n 2, 1) := by decide +kernel
theorem dX2_look_22 : decode cX2_look 22 = .ok (.iconst 1, 1) := by decide +kernel
theorem dX2_look_23 : decode cX2_look 23 = .ok (.if_icmp .le 9, 3) := by decide +kernel
theorem dX2_look_26 : decode cX2_look 26 = .ok (.aload_n 0, 1) := by decide +kernel
theorem dX2_look_27 : decode cX2_look 27 = .ok (.iconst 1, 1) := by decide +kernel
theorem dX2_look_28 : decode cX2_look 28 = .ok (.invokevirtual 69, 3) := by decide +kernel
theorem dX2_look_31 : decode cX2_look 31 = .ok (.ireturn, 1) := by decide +kernel
theorem dX2_look_32 : decode cX2_look 32 = .ok (.iload_n 2, 1) := by decide +kernel
theorem dX2_look_33 : decode cX2_look 33 = .ok (.ifCond .ne 12, 3) := by decide +kernel
theorem dX2_look_36 : decode cX2_look 36 = .ok (.aload_n 0, 1) := by decide +kernel
theorem dX2_look_37 : decode cX2_look 37 = .ok (.getfield 7, 3) := by decide +kernel
theorem dX2_look_40 : decode cX2_look 40 = .ok (.iload_n 1, 1) := by decide +kernel
theorem dX2_look_41 : decode cX2_look 41 = .ok (.iaload, 1) := by decide +kernel
theorem dX2_look_42 : decode cX2_look 42 = .ok (.goto 9, 3) := by decide +kernel
theorem dX2_look_45 : decode cX2_look 45 = .ok (.aload_n 0, 1) := by decide +kernel
theorem dX2_look_46 : decode cX2_look 46 = .ok (.getfield 13, 3) := by decide +kernel
theorem dX2_look_49 : decode cX2_look 49 = .ok (.iload_n 1, 1) := by decide +kernel
theorem dX2_look_50 : decode cX2_look 50 = .ok (.iaload, 1) := by decide +kernel
theorem dX2_look_51 : decode cX2_look 51 = .ok (.ireturn, 1) := by decide +kernel
theorem dX2_count_0 : decode cX2_count 0 = .ok (.aload_n 0, 1) := by decide +kernel
theorem dX2_count_1 : decode cX2_count 1 = .ok (.iconst 0, 1) := by decide +kernel
theorem dX2_count_2 : decode cX2_count 2 = .ok (.putfield 38, 3) := by decide +kernel
theorem dX2_count_5 : decode cX2_count 5 = .ok (.iload_n 1, 1) := by decide +kernel
theorem dX2_count_6 : decode cX2_count 6 = .ok (.ifCond .lt 8, 3) := by decide +kernel
theorem dX2_count_9 : decode cX2_count 9 = .ok (.iload_n 1, 1) := by decide +kernel
theorem dX2_count_10 : decode cX2_count 10 = .ok (.iconst 4, 1) := by decide +kernel
theorem dX2_count_11 : decode cX2_count 11 = .ok (.if_icmp .le 9, 3) := by decide +kernel
theorem dX2_count_14 : decode cX2_count 14 = .ok (.aload_n 0, 1) := by decide +kernel
theorem dX2_count_15 : decode cX2_count 15 = .ok (.iconst 1, 1) := by decide +kernel
theorem dX2_count_16 : decode cX2_count 16 = .ok (.invokevirtual 69, 3) := by decide +kernel
theorem dX2_count_19 : decode cX2_count 19 = .ok (.ireturn, 1) := by decide +kernel
theorem dX2_count_20 : decode cX2_count 20 = .ok (.iload_n 1, 1) := by decide +kernel
theorem dX2_count_21 : decode cX2_count 21 = .ok (.ifCond .ne 10, 3) := by decide +kernel
theorem dX2_count_24 : decode cX2_count 24 = .ok (.aload_n 0, 1) := by decide +kernel
theorem dX2_count_25 : decode cX2_count 25 = .ok (.getfield 34, 3) := by decide +kernel
theorem dX2_count_28 : decode cX2_count 28 = .ok (.goto 43, 3) := by decide +kernel
theorem dX2_count_31 : decode cX2_count 31 = .ok (.iload_n 1, 1) := by decide +kernel
theorem dX2_count_32 : decode cX2_count 32 = .ok (.iconst 1, 1) := by decide +kernel
theorem dX2_count_33 : decode cX2_count 33 = .ok (.if_icmp .ne 10, 3) := by decide +kernel
theorem dX2_count_36 : decode cX2_count 36 = .ok (.aload_n 0, 1) := by decide +kernel
theorem dX2_count_37 : decode cX2_count 37 = .ok (.getfield 48, 3) := by decide +kernel
theorem dX2_count_40 : decode cX2_count 40 = .ok (.goto 31, 3) := by decide +kernel
theorem dX2_count_43 : decode cX2_count 43 = .ok (.iload_n 1, 1) := by decide +kernel
theorem dX2_count_44 : decode cX2_count 44 = .ok (.iconst 2, 1) := by decide +kernel
theorem dX2_count_45 : decode cX2_count 45 = .ok (.if_icmp .ne 10, 3) := by decide +kernel
theorem dX2_count_48 : decode cX2_count 48 = .ok (.aload_n 0, 1) := by decide +kernel
theorem dX2_count_49 : decode cX2_count 49 = .ok (.getfield 55, 3) := by decide +kernel
theorem dX2_count_52 : decode cX2_count 52 = .ok (.goto 19, 3) := by decide +kernel
theorem dX2_count_55 : decode cX2_count 55 = .ok (.iload_n 1, 1) := by decide +kernel
theorem dX2_count_56 : decode cX2_count 56 = .ok (.iconst 3, 1) := by decide +kernel
theorem dX2_count_57 : decode cX2_count 57 = .ok (.if_icmp .ne 10, 3) := by decide +kernel
theorem dX2_count_60 : decode cX2_count 60 = .ok (.aload_n 0, 1) := by decide +kernel
theorem dX2_count_61 : decode cX2_count 61 = .ok (.getfield 58, 3) := by decide +kernel
theorem dX2_count_64 : decode cX2_count 64 = .ok (.goto 7, 3) := by decide +kernel
theorem dX2_count_67 : decode cX2_count 67 = .ok (.aload_n 0, 1) := by decide +kernel
theorem dX2_count_68 : decode cX2_count 68 = .ok (.invokevirtual 82, 3) := by decide +kernel
theorem dX2_count_71 : decode cX2_count 71 = .ok (.ireturn, 1) := by decide +kernel
theorem dX2_objects_0 : decode cX2_objects 0 = .ok (.iconst 0, 1) := by decide +kernel
theorem dX2_objects_1 : decode cX2_objects 1 = .ok (.istore_n 1, 1) := by decide +kernel
theorem dX2_objects_2 : decode cX2_objects 2 = .ok (.iconst 0, 1) := by decide +kernel
theorem dX2_objects_3 : decode cX2_objects 3 = .ok (.istore_n 2, 1) := by decide +kernel
theorem dX2_objects_4 : decode cX2_objects 4 = .ok (.iload_n 2, 1) := by decide +kernel
theorem dX2_objects_5 : decode cX2_objects 5 = .ok (.aload_n 0, 1) := by decide +kernel
theorem dX2_objects_6 : decode cX2_objects 6 = .ok (.getfield 48, 3) := by decide +kernel
theorem dX2_objects_9 : decode cX2_objects 9 = .ok (.if_icmp .ge 26, 3) := by decide +kernel
theorem dX2_objects_12 : decode cX2_objects 12 = .ok (.iload_n 1, 1) := by decide +kernel
theorem dX2_objects_13 : decode cX2_objects 13 = .ok (.aload_n 0, 1) := by decide +kernel
theorem dX2_objects_14 : decode cX2_objects 14 = .ok (.getfield 7, 3) := by decide +kernel
theorem dX2_objects_17 : decode cX2_objects 17 = .ok (.iload_n 2, 1) := by decide +kernel
theorem dX2_objects_18 : decode cX2_objects 18 = .ok (.iaload, 1) := by decide +kernel
theorem dX2_objects_19 : decode cX2_objects 19 = .ok (.ifCond .ne 7, 3) := by decide +kernel
theorem dX2_objects_22 : decode cX2_objects 22 = .ok (.iconst 1, 1) := by decide +kernel
theorem dX2_objects_23 : decode cX2_objects 23 = .ok (.goto 4, 3) := by decide +kernel
theorem dX2_objects_26 : decode cX2_objects 26 = .ok (.iconst 0, 1) := by decide +kernel
theorem dX2_objects_27 : decode cX2_objects 27 = .ok (.iadd, 1) := by decide +kernel
theorem dX2_objects_28 : decode cX2_objects 28 = .ok (.istore_n 1, 1) := by decide +kernel
theorem dX2_objects_29 : decode cX2_objects 29 = .ok (.iinc 2 1, 3) := by decide +kernel
theorem dX2_objects_32 : decode cX2_objects 32 = .ok (.goto (-28), 3) := by decide +kernel
theorem dX2_objects_35 : decode cX2_objects 35 = .ok (.iload_n 1, 1) := by decide +kernel
theorem dX2_objects_36 : decode cX2_objects 36 = .ok (.ireturn, 1) := by decide +kernel
end
section
/-! decode rows (printed) -/
theorem dL_cell_0 : decode cL_cell 0 = .ok (.iload_n 1, 1) := by decide +kernel
theorem dL_cell_1 : decode cL_cell 1 = .ok (.aload_n 0, 1) := by decide +kernel
theorem dL_cell_2 : decode cL_cell 2 = .ok (.arraylength, 1) := by decide +kernel
theorem dL_cell_3 : decode cL_cell 3 = .ok (.if_icmp .ge 9, 3) := by decide +kernel
theorem dL_cell_6 : decode cL_cell 6 = .ok (.aload_n 0, 1) := by decide +kernel
theorem dL_cell_7 : decode cL_cell 7 = .ok (.iload_n 1, 1) := by decide +kernel
theorem dL_cell_8 : decode cL_cell 8 = .ok (.iaload, 1) := by decide +kernel
theorem dL_cell_9 : decode cL_cell 9 = .ok (.goto 4, 3) := by decide +kernel
theorem dL_cell_12 : decode cL_cell 12 = .ok (.iconst 0, 1) := by decide +kernel
theorem dL_cell_13 : decode cL_cell 13 = .ok (.ireturn, 1) := by decide +kernel
theorem dL_make_0 : decode cL_make 0 = .ok (.aload 4, 2) := by decide +kernel
theorem dL_make_2 : decode cL_make 2 = .ok (.iconst 0, 1) := by decide +kernel
theorem dL_make_3 : decode cL_make 3 = .ok (.aload_n 0, 1) := by decide +kernel
theorem dL_make_4 : decode cL_make 4 = .ok (.iload_n 1, 1) := by decide +kernel
theorem dL_make_5 : decode cL_make 5 = .ok (.iload_n 2, 1) := by decide +kernel
theorem dL_make_6 : decode cL_make 6 = .ok (.iload_n 3, 1) := by decide +kernel
theorem dL_make_7 : decode cL_make 7 = .ok (.invokevirtual 7, 3) := by decide +kernel
theorem dL_make_10 : decode cL_make 10 = .ok (.i2l, 1) := by decide +kernel
theorem dL_make_11 : decode cL_make 11 = .ok (.lastore, 1) := by decide +kernel
theorem dL_make_12 : decode cL_make 12 = .ok (.goto 11, 3) := by decide +kernel
theorem dL_make_15 : decode cL_make 15 = .ok (.astore 5, 2) := by decide +kernel
theorem dL_make_17 : decode cL_make 17 = .ok (.iconst 1, 1) := by decide +kernel
theorem dL_make_18 : decode cL_make 18 = .ok (.ireturn, 1) := by decide +kernel
theorem dL_make_19 : decode cL_make 19 = .ok (.astore 5, 2) := by decide +kernel
theorem dL_make_21 : decode cL_make 21 = .ok (.iconst 2, 1) := by decide +kernel
theorem dL_make_22 : decode cL_make 22 = .ok (.ireturn, 1) := by decide +kernel
theorem dL_make_23 : decode cL_make 23 = .ok (.iconst 0, 1) := by decide +kernel
theorem dL_make_24 : decode cL_make 24 = .ok (.ireturn, 1) := by decide +kernel
theorem dL_number_0 : decode cL_number 0 = .ok (.aload_n 3, 1) := by decide +kernel
theorem dL_number_1 : decode cL_number 1 = .ok (.iconst 0, 1) := by decide +kernel
theorem dL_number_2 : decode cL_number 2 = .ok (.aload_n 0, 1) := by decide +kernel
theorem dL_number_3 : decode cL_number 3 = .ok (.iload_n 1, 1) := by decide +kernel
theorem dL_number_4 : decode cL_number 4 = .ok (.iload_n 2, 1) := by decide +kernel
theorem dL_number_5 : decode cL_number 5 = .ok (.invokevirtual 17, 3) := by decide +kernel
theorem dL_number_8 : decode cL_number 8 = .ok (.i2l, 1) := by decide +kernel
theorem dL_number_9 : decode cL_number 9 = .ok (.lastore, 1) := by decide +kernel
theorem dL_number_10 : decode cL_number 10 = .ok (.goto 7, 3) := by decide +kernel
theorem dL_number_13 : decode cL_number 13 = .ok (.astore 4, 2) := by decide +kernel
theorem dL_number_15 : decode cL_number 15 = .ok (.iconst 1, 1) := by decide +kernel
theorem dL_number_16 : decode cL_number 16 = .ok (.ireturn, 1) := by decide +kernel
theorem dL_number_17 : decode cL_number 17 = .ok (.iconst 0, 1) := by decide +kernel
theorem dL_number_18 : decode cL_number 18 = .ok (.ireturn, 1) := by decide +kernel
theorem dL_copy_0 : decode cL_copy 0 = .ok (.aload_n 3, 1) := by decide +kernel
theorem dL_copy_1 : decode cL_copy 1 = .ok (.iconst 0, 1) := by decide +kernel
theorem dL_copy_2 : decode cL_copy 2 = .ok (.aload_n 0, 1) := by decide +kernel
theorem dL_copy_3 : decode cL_copy 3 = .ok (.iload_n 1, 1) := by decide +kernel
theorem dL_copy_4 : decode cL_copy 4 = .ok (.iload_n 2, 1) := by decide +kernel
theorem dL_copy_5 : decode cL_copy 5 = .ok (.invokevirtual 21, 3) := by decide +kernel
theorem dL_copy_8 : decode cL_copy 8 = .ok (.ifCond .eq 7, 3) := by decide +kernel
theorem dL_copy_11 : decode cL_copy 11 = .ok (.lconst 1, 1) := by decide +kernel
theorem dL_copy_12 : decode cL_copy 12 = .ok (.goto 4, 3) := by decide +kernel
theorem dL_copy_15 : decode cL_copy 15 = .ok (.lconst 0, 1) := by decide +kernel
theorem dL_copy_16 : decode cL_copy 16 = .ok (.lastore, 1) := by decide +kernel
theorem dL_copy_17 : decode cL_copy 17 = .ok (.goto 7, 3) := by decide +kernel
theorem dL_copy_20 : decode cL_copy 20 = .ok (.astore 4, 2) := by decide +kernel
theorem dL_copy_22 : decode cL_copy 22 = .ok (.iconst 1, 1) := by decide +kernel
theorem dL_copy_23 : decode cL_copy 23 = .ok (.ireturn, 1) := by decide +kernel
theorem dL_copy_24 : decode cL_copy 24 = .ok (.iconst 0, 1) := by decide +kernel
theorem dL_copy_25 : decode cL_copy 25 = .ok (.ireturn, 1) := by decide +kernel
theorem dL_put_0 : decode cL_put 0 = .ok (.aload_n 0, 1) := by decide +kernel
theorem dL_put_1 : decode cL_put 1 = .ok (.iload_n 1, 1) := by decide +kernel
theorem dL_put_2 : decode cL_put 2 = .ok (.iload_n 2, 1) := by decide +kernel
theorem dL_put_3 : decode cL_put 3 = .ok (.iload_n 3, 1) := by decide +kernel
theorem dL_put_4 : decode cL_put 4 = .ok (.invokevirtual 25, 3) := by decide +kernel
theorem dL_put_7 : decode cL_put 7 = .ok (.goto 15, 3) := by decide +kernel
theorem dL_put_10 : decode cL_put 10 = .ok (.astore 4, 2) := by decide +kernel
theorem dL_put_12 : decode cL_put 12 = .ok (.iconst 1, 1) := by decide +kernel
theorem dL_put_13 : decode cL_put 13 = .ok (.ireturn, 1) := by decide +kernel
theorem dL_put_14 : decode cL_put 14 = .ok (.astore 4, 2) := by decide +kernel
theorem dL_put_16 : decode cL_put 16 = .ok (.iconst 2, 1) := by decide +kernel
theorem dL_put_17 : decode cL_put 17 = .ok (.ireturn, 1) := by decide +kernel
theorem dL_put_18 : decode cL_put 18 = .ok (.astore 4, 2) := by decide +kernel
theorem dL_put_20 : decode cL_put 20 = .ok (.iconst 3, 1) := by decide +kernel
theorem dL_put_21 : decode cL_put 21 = .ok (.ireturn, 1) := by decide +kernel
theorem dL_put_22 : decode cL_put 22 = .ok (.iconst 0, 1) := by decide +kernel
theorem dL_put_23 : decode cL_put 23 = .ok (.ireturn, 1) := by decide +kernel
theorem dL_raw_0 : decode cL_raw 0 = .ok (.aload 4, 2) := by decide +kernel
theorem dL_raw_2 : decode cL_raw 2 = .ok (.iconst 0, 1) := by decide +kernel
theorem dL_raw_3 : decode cL_raw 3 = .ok (.aload_n 0, 1) := by decide +kernel
theorem dL_raw_4 : decode cL_raw 4 = .ok (.iload_n 1, 1) := by decide +kernel
theorem dL_raw_5 : decode cL_raw 5 = .ok (.iload_n 2, 1) := by decide +kernel
theorem dL_raw_6 : decode cL_raw 6 = .ok (.iload_n 3, 1) := by decide +kernel
theorem dL_raw_7 : decode cL_raw 7 = .ok (.invokevirtual 31, 3) := by decide +kernel
theorem dL_raw_10 : decode cL_raw 10 = .ok (.i2l, 1) := by decide +kernel
theorem dL_raw_11 : decode cL_raw 11 = .ok (.lastore, 1) := by decide +kernel
theorem dL_raw_12 : decode cL_raw 12 = .ok (.goto 15, 3) := by decide +kernel
theorem dL_raw_15 : decode cL_raw 15 = .ok (.astore 5, 2) := by decide +kernel
theorem dL_raw_17 : decode cL_raw 17 = .ok (.iconst 1, 1) := by decide +kernel
theorem dL_raw_18 : decode cL_raw 18 = .ok (.ireturn, 1) := by decide +kernel
theorem dL_raw_19 : decode cL_raw 19 = .ok (.astore 5, 2) := by decide +kernel
theorem dL_raw_21 : decode cL_raw 21 = .ok (.iconst 2, 1) := by decide +kernel
theorem dL_raw_22 : decode cL_raw 22 = .ok (.ireturn, 1) := by decide +kernel
theorem dL_raw_23 : decode cL_raw 23 = .ok (.astore 5, 2) := by decide +kernel
theorem dL_raw_25 : decode cL_raw 25 = .ok (.iconst 3, 1) := by decide +kernel
theorem dL_raw_26 : decode cL_raw 26 = .ok (.ireturn, 1) := by decide +kernel
theorem dL_raw_27 : decode cL_raw 27 = .ok (.iconst 0, 1) := by decide +kernel
theorem dL_raw_28 : decode cL_raw 28 = .ok (.ireturn, 1) := by decide +kernel
theorem dL_get_0 : decode cL_get 0 = .ok (.aload 4, 2) := by decide +kernel
theorem dL_get_2 : decode cL_get 2 = .ok (.iconst 0, 1) := by decide +kernel
theorem dL_get_3 : decode cL_get 3 = .ok (.aload_n 0, 1) := by decide +kernel
theorem dL_get_4 : decode cL_get 4 = .ok (.iload_n 1, 1) := by decide +kernel
theorem dL_get_5 : decode cL_get 5 = .ok (.iload_n 2, 1) := by decide +kernel
theorem dL_get_6 : decode cL_get 6 = .ok (.iload_n 3, 1) := by decide +kernel
theorem dL_get_7 : decode cL_get 7 = .ok (.invokevirtual 34, 3) := by decide +kernel
theorem dL_get_10 : decode cL_get 10 = .ok (.ifCond .eq 7, 3) := by decide +kernel
theorem dL_get_13 : decode cL_get 13 = .ok (.lconst 1, 1) := by decide +kernel
theorem dL_get_14 : decode cL_get 14 = .ok (.goto 4, 3) := by decide +kernel
theorem dL_get_17 : decode cL_get 17 = .ok (.lconst 0, 1) := by decide +kernel
theorem dL_get_18 : decode cL_get 18 = .ok (.lastore, 1) := by decide +kernel
theorem dL_get_19 : decode cL_get 19 = .ok (.goto 15, 3) := by decide +kernel
theorem dL_get_22 : decode cL_get 22 = .ok (.astore 5, 2) := by decide +kernel
theorem dL_get_24 : decode cL_get 24 = .ok (.iconst 1, 1) := by decide +kernel
theorem dL_get_25 : decode cL_get 25 = .ok (.ireturn, 1) := by decide +kernel
theorem dL_get_26 : decode cL_get 26 = .ok (.astore 5, 2) := by decide +kernel
theorem dL_get_28 : decode cL_get 28 = .ok (.iconst 2, 1) := by decide +kernel
theorem dL_get_29 : decode cL_get 29 = .ok (.ireturn, 1) := by decide +kernel
theorem dL_get_30 : decode cL_get 30 = .ok (.astore 5, 2) := by decide +kernel
theorem dL_get_32 : decode cL_get 32 = .ok (.iconst 3, 1) := by decide +kernel
theorem dL_get_33 : decode cL_get 33 = .ok (.ireturn, 1) := by decide +kernel
theorem dL_get_34 : decode cL_get 34 = .ok (.iconst 0, 1) := by decide +kernel
theorem dL_get_35 : decode cL_get 35 = .ok (.ireturn, 1) := by decide +kernel
theorem dL_about_0 : decode cL_about 0 = .ok (.aload_n 3, 1) := by decide +kernel
theorem dL_about_1 : decode cL_about 1 = .ok (.iconst 0, 1) := by decide +kernel
theorem dL_about_2 : decode cL_about 2 = .ok (.aload_n 0, 1) := by decide +kernel
theorem dL_about_3 : decode cL_about 3 = .ok (.iload_n 1, 1) := by decide +kernel
theorem dL_about_4 : decode cL_about 4 = .ok (.iload_n 2, 1) := by decide +kernel
theorem dL_about_5 : decode cL_about 5 = .ok (.invokevirtual 38, 3) := by decide +kernel
theorem dL_about_8 : decode cL_about 8 = .ok (.i2l, 1) := by decide +kernel
theorem dL_about_9 : decode cL_about 9 = .ok (.lastore, 1) := by decide +kernel
theorem dL_about_10 : decode cL_about 10 = .ok (.goto 11, 3) := by decide +kernel
theorem dL_about_13 : decode cL_about 13 = .ok (.astore 4, 2) := by decide +kernel
theorem dL_about_15 : decode cL_about 15 = .ok (.iconst 1, 1) := by decide +kernel
theorem dL_about_16 : decode cL_about 16 = .ok (.ireturn, 1) := by decide +kernel
theorem dL_about_17 : decode cL_about 17 = .ok (.astore 4, 2) := by decide +kernel
theorem dL_about_19 : decode cL_about 19 = .ok (.iconst 2, 1) := by decide +kernel
theorem dL_about_20 : decode cL_about 20 = .ok (.ireturn, 1) := by decide +kernel
theorem dL_about_21 : decode cL_about 21 = .ok (.iconst 0, 1) := by decide +kernel
theorem dL_about_22 : decode cL_about 22 = .ok (.ireturn, 1) := by decide +kernel
theorem dL_look_0 : decode cL_look 0 = .ok (.aload_n 3, 1) := by decide +kernel
theorem dL_look_1 : decode cL_look 1 = .ok (.iconst 0, 1) := by decide +kernel
theorem dL_look_2 : decode cL_look 2 = .ok (.aload_n 0, 1) := by decide +kernel
theorem dL_look_3 : decode cL_look 3 = .ok (.iload_n 1, 1) := by decide +kernel
theorem dL_look_4 : decode cL_look 4 = .ok (.iload_n 2, 1) := by decide +kernel
theorem dL_look_5 : decode cL_look 5 = .ok (.invokevirtual 41, 3) := by decide +kernel
theorem dL_look_8 : decode cL_look 8 = .ok (.i2l, 1) := by decide +kernel
theorem dL_look_9 : decode cL_look 9 = .ok (.lastore, 1) := by decide +kernel
theorem dL_look_10 : decode cL_look 10 = .ok (.goto 7, 3) := by decide +kernel
theorem dL_look_13 : decode cL_look 13 = .ok (.astore 4, 2) := by decide +kernel
theorem dL_look_15 : decode cL_look 15 = .ok (.iconst 1, 1) := by decide +kernel
theorem dL_look_16 : decode cL_look 16 = .ok (.ireturn, 1) := by decide +kernel
theorem dL_look_17 : decode cL_look 17 = .ok (.iconst 0, 1) := by decide +kernel
theorem dL_look_18 : decode cL_look 18 = .ok (.ireturn, 1) := by decide +kernel
theorem dL_count_0 : decode cL_count 0 = .ok (.aload_n 2, 1) := by decide +kernel
theorem dL_count_1 : decode cL_count 1 = .ok (.iconst 0, 1) := by decide +kernel
theorem dL_count_2 : decode cL_count 2 = .ok (.aload_n 0, 1) := by decide +kernel
theorem dL_count_3 : decode cL_count 3 = .ok (.iload_n 1, 1) := by decide +kernel
theorem dL_count_4 : decode cL_count 4 = .ok (.invokevirtual 44, 3) := by decide +kernel
theorem dL_count_7 : decode cL_count 7 = .ok (.i2l, 1) := by decide +kernel
theorem dL_count_8 : decode cL_count 8 = .ok (.lastore, 1) := by decide +kernel
theorem dL_count_9 : decode cL_count 9 = .ok (.goto 6, 3) := by decide +kernel
theorem dL_count_12 : decode cL_count 12 = .ok (.astore_n 3, 1) := by decide +kernel
theorem dL_count_13 : decode cL_count 13 = .ok (.iconst 1, 1) := by decide +kernel
theorem dL_count_14 : decode cL_count 14 = .ok (.ireturn, 1) := by decide +kernel
theorem dL_count_15 : decode cL_count 15 = .ok (.iconst 0, 1) := by decide +kernel
theorem dL_count_16 : decode cL_count 16 = .ok (.ireturn, 1) := by decide +kernel
theorem dL_law_0 : decode cL_law 0 = .ok (.new 8, 3) := by decide +kernel
theorem dL_law_3 : decode cL_law 3 = .ok (.dup, 1) := by decide +kernel
theorem dL_law_4 : decode cL_law 4 = .ok (.aload_n 0, 1) := by decide +kernel
theorem dL_law_5 : decode cL_law 5 = .ok (.iconst 0, 1) := by decide +kernel
theorem dL_law_6 : decode cL_law 6 = .ok (.invokestatic 48, 3) := by decide +kernel
theorem dL_law_9 : decode cL_law 9 = .ok (.invokespecial 54, 3) := by decide +kernel
theorem dL_law_12 : decode cL_law 12 = .ok (.astore_n 1, 1) := by decide +kernel
theorem dL_law_13 : decode cL_law 13 = .ok (.new 57, 3) := by decide +kernel
theorem dL_law_16 : decode cL_law 16 = .ok (.dup, 1) := by decide +kernel
theorem dL_law_17 : decode cL_law 17 = .ok (.aload_n 0, 1) := by decide +kernel
theorem dL_law_18 : decode cL_law 18 = .ok (.iconst 0, 1) := by decide +kernel
theorem dL_law_19 : decode cL_law 19 = .ok (.invokestatic 48, 3) := by decide +kernel
theorem dL_law_22 : decode cL_law 22 = .ok (.invokespecial 59, 3) := by decide +kernel
theorem dL_law_25 : decode cL_law 25 = .ok (.astore_n 2, 1) := by decide +kernel
theorem dL_law_26 : decode cL_law 26 = .ok (.iconst 1, 1) := by decide +kernel
theorem dL_law_27 : decode cL_law 27 = .ok (.newarray .long, 2) := by decide +kernel
theorem dL_law_29 : decode cL_law 29 = .ok (.astore_n 3, 1) := by decide +kernel
theorem dL_law_30 : decode cL_law 30 = .ok (.iconst 1, 1) := by decide +kernel
theorem dL_law_31 : decode cL_law 31 = .ok (.istore 4, 2) := by decide +kernel
theorem dL_law_33 : decode cL_law 33 = .ok (.iload 4, 2) := by decide +kernel
theorem dL_law_35 : decode cL_law 35 = .ok (.aload_n 0, 1) := by decide +kernel
theorem dL_law_36 : decode cL_law 36 = .ok (.arraylength, 1) := by decide +kernel
theorem dL_law_37 : decode cL_law 37 = .ok (.iconst 4, 1) := by decide +kernel
theorem dL_law_38 : decode cL_law 38 = .ok (.isub, 1) := by decide +kernel
theorem dL_law_39 : decode cL_law 39 = .ok (.if_icmp .gt 726, 3) := by decide +kernel
theorem dL_law_42 : decode cL_law 42 = .ok (.aload_n 0, 1) := by decide +kernel
theorem dL_law_43 : decode cL_law 43 = .ok (.iload 4, 2) := by decide +kernel
theorem dL_law_45 : decode cL_law 45 = .ok (.iaload, 1) := by decide +kernel
theorem dL_law_46 : decode cL_law 46 = .ok (.bipush 15, 2) := by decide +kernel
theorem dL_law_48 : decode cL_law 48 = .ok (.iand, 1) := by decide +kernel
theorem dL_law_49 : decode cL_law 49 = .ok (.tableswitch 710 0 9 #[55, 135, 203, 278, 338, 418, 505, 518, 586, 654], 55) := by decide +kernel
theorem dL_law_104 : decode cL_law 104 = .ok (.aload_n 1, 1) := by decide +kernel
theorem dL_law_105 : decode cL_law 105 = .ok (.aload_n 0, 1) := by decide +kernel
theorem dL_law_106 : decode cL_law 106 = .ok (.iload 4, 2) := by decide +kernel
theorem dL_law_108 : decode cL_law 108 = .ok (.iconst 1, 1) := by decide +kernel
theorem dL_law_109 : decode cL_law 109 = .ok (.iadd, 1) := by decide +kernel
theorem dL_law_110 : decode cL_law 110 = .ok (.iaload, 1) := by decide +kernel
theorem dL_law_111 : decode cL_law 111 = .ok (.aload_n 0, 1) := by decide +kernel
theorem dL_law_112 : decode cL_law 112 = .ok (.iload 4, 2) := by decide +kernel
theorem dL_law_114 : decode cL_law 114 = .ok (.iconst 2, 1) := by decide +kernel
theorem dL_law_115 : decode cL_law 115 = .ok (.iadd, 1) := by decide +kernel
theorem dL_law_116 : decode cL_law 116 = .ok (.iaload, 1) := by decide +kernel
theorem dL_law_117 : decode cL_law 117 = .ok (.aload_n 0, 1) := by decide +kernel
theorem dL_law_118 : decode cL_law 118 = .ok (.iload 4, 2) := by decide +kernel
theorem dL_law_120 : decode cL_law 120 = .ok (.iconst 3, 1) := by decide +kernel
theorem dL_law_121 : decode cL_law 121 = .ok (.iadd, 1) := by decide +kernel
theorem dL_law_122 : decode cL_law 122 = .ok (.iaload, 1) := by decide +kernel
theorem dL_law_123 : decode cL_law 123 = .ok (.aload_n 3, 1) := by decide +kernel
theorem dL_law_124 : decode cL_law 124 = .ok (.invokestatic 60, 3) := by decide +kernel
theorem dL_law_127 : decode cL_law 127 = .ok (.istore 5, 2) := by decide +kernel
theorem dL_law_129 : decode cL_law 129 = .ok (.aload_n 2, 1) := by decide +kernel
theorem dL_law_130 : decode cL_law 130 = .ok (.aload_n 0, 1) := by decide +kernel
theorem dL_law_131 : decode cL_law 131 = .ok (.iload 4, 2) := by decide +kernel
theorem dL_law_133 : decode cL_law 133 = .ok (.iconst 1, 1) := by decide +kernel
theorem dL_law_134 : decode cL_law 134 = .ok (.iadd, 1) := by decide +kernel
theorem dL_law_135 : decode cL_law 135 = .ok (.iaload, 1) := by decide +kernel
theorem dL_law_136 : decode cL_law 136 = .ok (.aload_n 0, 1) := by decide +kernel
theorem dL_law_137 : decode cL_law 137 = .ok (.iload 4, 2) := by decide +kernel
theorem dL_law_139 : decode cL_law 139 = .ok (.iconst 2, 1) := by decide +kernel
theorem dL_law_140 : decode cL_law 140 = .ok (.iadd, 1) := by decide +kernel
theorem dL_law_141 : decode cL_law 141 = .ok (.iaload, 1) := by decide +kernel
theorem dL_law_142 : decode cL_law 142 = .ok (.aload_n 0, 1) := by decide +kernel
theorem dL_law_143 : decode cL_law 143 = .ok (.iload 4, 2) := by decide +kernel
theorem dL_law_145 : decode cL_law 145 = .ok (.iconst 3, 1) := by decide +kernel
theorem dL_law_146 : decode cL_law 146 = .ok (.iadd, 1) := by decide +kernel
theorem dL_law_147 : decode cL_law 147 = .ok (.iaload, 1) := by decide +kernel
theorem dL_law_148 : decode cL_law 148 = .ok (.invokevirtual 63, 3) := by decide +kernel
theorem dL_law_151 : decode cL_law 151 = .ok (.istore 6, 2) := by decide +kernel
theorem dL_law_153 : decode cL_law 153 = .ok (.aload_n 2, 1) := by decide +kernel
theorem dL_law_154 : decode cL_law 154 = .ok (.invokevirtual 64, 3) := by decide +kernel
theorem dL_law_157 : decode cL_law 157 = .ok (.iload 5, 2) := by decide +kernel
theorem dL_law_159 : decode cL_law 159 = .ok (.if_icmp .eq 5, 3) := by decide +kernel
theorem dL_law_162 : decode cL_law 162 = .ok (.iconst 0, 1) := by decide +kernel
theorem dL_law_163 : decode cL_law 163 = .ok (.ireturn, 1) := by decide +kernel
theorem dL_law_164 : decode cL_law 164 = .ok (.iload 5, 2) := by decide +kernel
theorem dL_law_166 : decode cL_law 166 = .ok (.ifCond .ne 15, 3) := by decide +kernel
theorem dL_law_169 : decode cL_law 169 = .ok (.aload_n 3, 1) := by decide +kernel
theorem dL_law_170 : decode cL_law 170 = .ok (.iconst 0, 1) := by decide +kernel
theorem dL_law_171 : decode cL_law 171 = .ok (.laload, 1) := by decide +kernel
theorem dL_law_172 : decode cL_law 172 = .ok (.iload 6, 2) := by decide +kernel
theorem dL_law_174 : decode cL_law 174 = .ok (.i2l, 1) := by decide +kernel
theorem dL_law_175 : decode cL_law 175 = .ok (.lcmp, 1) := by decide +kernel
theorem dL_law_176 : decode cL_law 176 = .ok (.ifCond .eq 5, 3) := by decide +kernel
theorem dL_law_179 : decode cL_law 179 = .ok (.iconst 0, 1) := by decide +kernel
theorem dL_law_180 : decode cL_law 180 = .ok (.ireturn, 1) := by decide +kernel
theorem dL_law_181 : decode cL_law 181 = .ok (.goto 578, 3) := by decide +kernel
theorem dL_law_184 : decode cL_law 184 = .ok (.aload_n 1, 1) := by decide +kernel
theorem dL_law_185 : decode cL_law 185 = .ok (.aload_n 0, 1) := by decide +kernel
theorem dL_law_186 : decode cL_law 186 = .ok (.iload 4, 2) := by decide +kernel
theorem dL_law_188 : decode cL_law 188 = .ok (.iconst 1, 1) := by decide +kernel
theorem dL_law_189 : decode cL_law 189 = .ok (.iadd, 1) := by decide +kernel
theorem dL_law_190 : decode cL_law 190 = .ok (.iaload, 1) := by decide +kernel
theorem dL_law_191 : decode cL_law 191 = .ok (.aload_n 0, 1) := by decide +kernel
theorem dL_law_192 : decode cL_law 192 = .ok (.iload 4, 2) := by decide +kernel
theorem dL_law_194 : decode cL_law 194 = .ok (.iconst 2, 1) := by decide +kernel
theorem dL_law_195 : decode cL_law 195 = .ok (.iadd, 1) := by decide +kernel
theorem dL_law_196 : decode cL_law 196 = .ok (.iaload, 1) := by decide +kernel
theorem dL_law_197 : decode cL_law 197 = .ok (.aload_n 3, 1) := by decide +kernel
theorem dL_law_198 : decode cL_law 198 = .ok (.invokestatic 68, 3) := by decide +kernel
theorem dL_law_201 : decode cL_law 201 = .ok (.istore 5, 2) := by decide +kernel
theorem dL_law_203 : decode cL_law 203 = .ok (.aload_n 2, 1) := by decide +kernel
theorem dL_law_204 : decode cL_law 204 = .ok (.aload_n 0, 1) := by decide +kernel
theorem dL_law_205 : decode cL_law 205 = .ok (.iload 4, 2) := by decide +kernel
theorem dL_law_207 : decode cL_law 207 = .ok (.iconst 1, 1) := by decide +kernel
theorem dL_law_208 : decode cL_law 208 = .ok (.iadd, 1) := by decide +kernel
theorem dL_law_209 : decode cL_law 209 = .ok (.iaload, 1) := by decide +kernel
theorem dL_law_210 : decode cL_law 210 = .ok (.aload_n 0, 1) := by decide +kernel
theorem dL_law_211 : decode cL_law 211 = .ok (.iload 4, 2) := by decide +kernel
theorem dL_law_213 : decode cL_law 213 = .ok (.iconst 2, 1) := by decide +kernel
theorem dL_law_214 : decode cL_law 214 = .ok (.iadd, 1) := by decide +kernel
theorem dL_law_215 : decode cL_law 215 = .ok (.iaload, 1) := by decide +kernel
theorem dL_law_216 : decode cL_law 216 = .ok (.invokevirtual 71, 3) := by decide +kernel
theorem dL_law_219 : decode cL_law 219 = .ok (.istore 6, 2) := by decide +kernel
theorem dL_law_221 : decode cL_law 221 = .ok (.aload_n 2, 1) := by decide +kernel
theorem dL_law_222 : decode cL_law 222 = .ok (.invokevirtual 64, 3) := by decide +kernel
theorem dL_law_225 : decode cL_law 225 = .ok (.iload 5, 2) := by decide +kernel
theorem dL_law_227 : decode cL_law 227 = .ok (.if_icmp .eq 5, 3) := by decide +kernel
theorem dL_law_230 : decode cL_law 230 = .ok (.iconst 0, 1) := by decide +kernel
theorem dL_law_231 : decode cL_law 231 = .ok (.ireturn, 1) := by decide +kernel
theorem dL_law_232 : decode cL_law 232 = .ok (.iload 5, 2) := by decide +kernel
theorem dL_law_234 : decode cL_law 234 = .ok (.ifCond .ne 15, 3) := by decide +kernel
theorem dL_law_237 : decode cL_law 237 = .ok (.aload_n 3, 1) := by decide +kernel
theorem dL_law_238 : decode cL_law 238 = .ok (.iconst 0, 1) := by decide +kernel
theorem dL_law_239 : decode cL_law 239 = .ok (.laload, 1) := by decide +kernel
theorem dL_law_240 : decode cL_law 240 = .ok (.iload 6, 2) := by decide +kernel
theorem dL_law_242 : decode cL_law 242 = .ok (.i2l, 1) := by decide +kernel
theorem dL_law_243 : decode cL_law 243 = .ok (.lcmp, 1) := by decide +kernel
theorem dL_law_244 : decode cL_law 244 = .ok (.ifCond .eq 5, 3) := by decide +kernel
theorem dL_law_247 : decode cL_law 247 = .ok (.iconst 0, 1) := by decide +kernel
theorem dL_law_248 : decode cL_law 248 = .ok (.ireturn, 1) := by decide +kernel
theorem dL_law_249 : decode cL_law 249 = .ok (.goto 510, 3) := by decide +kernel
theorem dL_law_252 : decode cL_law 252 = .ok (.aload_n 1, 1) := by decide +kernel
theorem dL_law_253 : decode cL_law 253 = .ok (.aload_n 0, 1) := by decide +kernel
theorem dL_law_254 : decode cL_law 254 = .ok (.iload 4, 2) := by decide +kernel
theorem dL_law_256 : decode cL_law 256 = .ok (.iconst 1, 1) := by decide +kernel
theorem dL_law_257 : decode cL_law 257 = .ok (.iadd, 1) := by decide +kernel
theorem dL_law_258 : decode cL_law 258 = .ok (.iaload, 1) := by decide +kernel
theorem dL_law_259 : decode cL_law 259 = .ok (.aload_n 0, 1) := by decide +kernel
theorem dL_law_260 : decode cL_law 260 = .ok (.iload 4, 2) := by decide +kernel
theorem dL_law_262 : decode cL_law 262 = .ok (.iconst 2, 1) := by decide +kernel
theorem dL_law_263 : decode cL_law 263 = .ok (.iadd, 1) := by decide +kernel
theorem dL_law_264 : decode cL_law 264 = .ok (.iaload, 1) := by decide +kernel
theorem dL_law_265 : decode cL_law 265 = .ok (.aload_n 3, 1) := by decide +kernel
theorem dL_law_266 : decode cL_law 266 = .ok (.invokestatic 72, 3) := by decide +kernel
theorem dL_law_269 : decode cL_law 269 = .ok (.istore 5, 2) := by decide +kernel
theorem dL_law_271 : decode cL_law 271 = .ok (.aload_n 2, 1) := by decide +kernel
theorem dL_law_272 : decode cL_law 272 = .ok (.aload_n 0, 1) := by decide +kernel
theorem dL_law_273 : decode cL_law 273 = .ok (.iload 4, 2) := by decide +kernel
theorem dL_law_275 : decode cL_law 275 = .ok (.iconst 1, 1) := by decide +kernel
theorem dL_law_276 : decode cL_law 276 = .ok (.iadd, 1) := by decide +kernel
theorem dL_law_277 : decode cL_law 277 = .ok (.iaload, 1) := by decide +kernel
theorem dL_law_278 : decode cL_law 278 = .ok (.aload_n 0, 1) := by decide +kernel
theorem dL_law_279 : decode cL_law 279 = .ok (.iload 4, 2) := by decide +kernel
theorem dL_law_281 : decode cL_law 281 = .ok (.iconst 2, 1) := by decide +kernel
theorem dL_law_282 : decode cL_law 282 = .ok (.iadd, 1) := by decide +kernel
theorem dL_law_283 : decode cL_law 283 = .ok (.iaload, 1) := by decide +kernel
theorem dL_law_284 : decode cL_law 284 = .ok (.invokevirtual 74, 3) := by decide +kernel
theorem dL_law_287 : decode cL_law 287 = .ok (.istore 6, 2) := by decide +kernel
theorem dL_law_289 : decode cL_law 289 = .ok (.aload_n 2, 1) := by decide +kernel
theorem dL_law_290 : decode cL_law 290 = .ok (.invokevirtual 64, 3) := by decide +kernel
theorem dL_law_293 : decode cL_law 293 = .ok (.iload 5, 2) := by decide +kernel
theorem dL_law_295 : decode cL_law 295 = .ok (.if_icmp .eq 5, 3) := by decide +kernel
theorem dL_law_298 : decode cL_law 298 = .ok (.iconst 0, 1) := by decide +kernel
theorem dL_law_299 : decode cL_law 299 = .ok (.ireturn, 1) := by decide +kernel
theorem dL_law_300 : decode cL_law 300 = .ok (.iload 5, 2) := by decide +kernel
theorem dL_law_302 : decode cL_law 302 = .ok (.ifCond .ne 22, 3) := by decide +kernel
theorem dL_law_305 : decode cL_law 305 = .ok (.aload_n 3, 1) := by decide +kernel
theorem dL_law_306 : decode cL_law 306 = .ok (.iconst 0, 1) := by decide +kernel
theorem dL_law_307 : decode cL_law 307 = .ok (.laload, 1) := by decide +kernel
theorem dL_law_308 : decode cL_law 308 = .ok (.iload 6, 2) := by decide +kernel
theorem dL_law_310 : decode cL_law 310 = .ok (.ifCond .eq 7, 3) := by decide +kernel
theorem dL_law_313 : decode cL_law 313 = .ok (.lconst 1, 1) := by decide +kernel
theorem dL_law_314 : decode cL_law 314 = .ok (.goto 4, 3) := by decide +kernel
theorem dL_law_317 : decode cL_law 317 = .ok (.lconst 0, 1) := by decide +kernel
theorem dL_law_318 : decode cL_law 318 = .ok (.lcmp, 1) := by decide +kernel
theorem dL_law_319 : decode cL_law 319 = .ok (.ifCond .eq 5, 3) := by decide +kernel
theorem dL_law_322 : decode cL_law 322 = .ok (.iconst 0, 1) := by decide +kernel
theorem dL_law_323 : decode cL_law 323 = .ok (.ireturn, 1) := by decide +kernel
theorem dL_law_324 : decode cL_law 324 = .ok (.goto 435, 3) := by decide +kernel
theorem dL_law_327 : decode cL_law 327 = .ok (.aload_n 1, 1) := by decide +kernel
theorem dL_law_328 : decode cL_law 328 = .ok (.aload_n 0, 1) := by decide +kernel
theorem dL_law_329 : decode cL_law 329 = .ok (.iload 4, 2) := by decide +kernel
theorem dL_law_331 : decode cL_law 331 = .ok (.iconst 1, 1) := by decide +kernel
theorem dL_law_332 : decode cL_law 332 = .ok (.iadd, 1) := by decide +kernel
theorem dL_law_333 : decode cL_law 333 = .ok (.iaload, 1) := by decide +kernel
theorem dL_law_334 : decode cL_law 334 = .ok (.aload_n 0, 1) := by decide +kernel
theorem dL_law_335 : decode cL_law 335 = .ok (.iload 4, 2) := by decide +kernel
theorem dL_law_337 : decode cL_law 337 = .ok (.iconst 2, 1) := by decide +kernel
theorem dL_law_338 : decode cL_law 338 = .ok (.iadd, 1) := by decide +kernel
theorem dL_law_339 : decode cL_law 339 = .ok (.iaload, 1) := by decide +kernel
theorem dL_law_340 : decode cL_law 340 = .ok (.aload_n 0, 1) := by decide +kernel
theorem dL_law_341 : decode cL_law 341 = .ok (.iload 4, 2) := by decide +kernel
theorem dL_law_343 : decode cL_law 343 = .ok (.iconst 3, 1) := by decide +kernel
theorem dL_law_344 : decode cL_law 344 = .ok (.iadd, 1) := by decide +kernel
theorem dL_law_345 : decode cL_law 345 = .ok (.iaload, 1) := by decide +kernel
theorem dL_law_346 : decode cL_law 346 = .ok (.invokestatic 75, 3) := by decide +kernel
theorem dL_law_349 : decode cL_law 349 = .ok (.istore 5, 2) := by decide +kernel
theorem dL_law_351 : decode cL_law 351 = .ok (.aload_n 2, 1) := by decide +kernel
theorem dL_law_352 : decode cL_law 352 = .ok (.aload_n 0, 1) := by decide +kernel
theorem dL_law_353 : decode cL_law 353 = .ok (.iload 4, 2) := by decide +kernel
theorem dL_law_355 : decode cL_law 355 = .ok (.iconst 1, 1) := by decide +kernel
theorem dL_law_356 : decode cL_law 356 = .ok (.iadd, 1) := by decide +kernel
theorem dL_law_357 : decode cL_law 357 = .ok (.iaload, 1) := by decide +kernel
theorem dL_law_358 : decode cL_law 358 = .ok (.aload_n 0, 1) := by decide +kernel
theorem dL_law_359 : decode cL_law 359 = .ok (.iload 4, 2) := by decide +kernel
theorem dL_law_361 : decode cL_law 361 = .ok (.iconst 2, 1) := by decide +kernel
theorem dL_law_362 : decode cL_law 362 = .ok (.iadd, 1) := by decide +kernel
theorem dL_law_363 : decode cL_law 363 = .ok (.iaload, 1) := by decide +kernel
theorem dL_law_364 : decode cL_law 364 = .ok (.aload_n 0, 1) := by decide +kernel
theorem dL_law_365 : decode cL_law 365 = .ok (.iload 4, 2) := by decide +kernel
theorem dL_law_367 : decode cL_law 367 = .ok (.iconst 3, 1) := by decide +kernel
theorem dL_law_368 : decode cL_law 368 = .ok (.iadd, 1) := by decide +kernel
theorem dL_law_369 : decode cL_law 369 = .ok (.iaload, 1) := by decide +kernel
theorem dL_law_370 : decode cL_law 370 = .ok (.invokevirtual 78, 3) := by decide +kernel
theorem dL_law_373 : decode cL_law 373 = .ok (.aload_n 2, 1) := by decide +kernel
theorem dL_law_374 : decode cL_law 374 = .ok (.invokevirtual 64, 3) := by decide +kernel
theorem dL_law_377 : decode cL_law 377 = .ok (.iload 5, 2) := by decide +kernel
theorem dL_law_379 : decode cL_law 379 = .ok (.if_icmp .eq 5, 3) := by decide +kernel
theorem dL_law_382 : decode cL_law 382 = .ok (.iconst 0, 1) := by decide +kernel
theorem dL_law_383 : decode cL_law 383 = .ok (.ireturn, 1) := by decide +kernel
theorem dL_law_384 : decode cL_law 384 = .ok (.goto 375, 3) := by decide +kernel
theorem dL_law_387 : decode cL_law 387 = .ok (.aload_n 1, 1) := by decide +kernel
theorem dL_law_388 : decode cL_law 388 = .ok (.aload_n 0, 1) := by decide +kernel
theorem dL_law_389 : decode cL_law 389 = .ok (.iload 4, 2) := by decide +kernel
theorem dL_law_391 : decode cL_law 391 = .ok (.iconst 1, 1) := by decide +kernel
theorem dL_law_392 : decode cL_law 392 = .ok (.iadd, 1) := by decide +kernel
theorem dL_law_393 : decode cL_law 393 = .ok (.iaload, 1) := by decide +kernel
theorem dL_law_394 : decode cL_law 394 = .ok (.aload_n 0, 1) := by decide +kernel
theorem dL_law_395 : decode cL_law 395 = .ok (.iload 4, 2) := by decide +kernel
theorem dL_law_397 : decode cL_law 397 = .ok (.iconst 2, 1) := by decide +kernel
theorem dL_law_398 : decode cL_law 398 = .ok (.iadd, 1) := by decide +kernel
theorem dL_law_399 : decode cL_law 399 = .ok (.iaload, 1) := by decide +kernel
theorem dL_law_400 : decode cL_law 400 = .ok (.aload_n 0, 1) := by decide +kernel
theorem dL_law_401 : decode cL_law 401 = .ok (.iload 4, 2) := by decide +kernel
theorem dL_law_403 : decode cL_law 403 = .ok (.iconst 3, 1) := by decide +kernel
theorem dL_law_404 : decode cL_law 404 = .ok (.iadd, 1) := by decide +kernel
theorem dL_law_405 : decode cL_law 405 = .ok (.iaload, 1) := by decide +kernel
theorem dL_law_406 : decode cL_law 406 = .ok (.aload_n 3, 1) := by decide +kernel
theorem dL_law_407 : decode cL_law 407 = .ok (.invokestatic 79, 3) := by decide +kernel
theorem dL_law_410 : decode cL_law 410 = .ok (.istore 5, 2) := by decide +kernel
theorem dL_law_412 : decode cL_law 412 = .ok (.aload_n 2, 1) := by decide +kernel
theorem dL_law_413 : decode cL_law 413 = .ok (.aload_n 0, 1) := by decide +kernel
theorem dL_law_414 : decode cL_law 414 = .ok (.iload 4, 2) := by decide +kernel
theorem dL_law_416 : decode cL_law 416 = .ok (.iconst 1, 1) := by decide +kernel
theorem dL_law_417 : decode cL_law 417 = .ok (.iadd, 1) := by decide +kernel
theorem dL_law_418 : decode cL_law 418 = .ok (.iaload, 1) := by decide +kernel
theorem dL_law_419 : decode cL_law 419 = .ok (.aload_n 0, 1) := by decide +kernel
theorem dL_law_420 : decode cL_law 420 = .ok (.iload 4, 2) := by decide +kernel
theorem dL_law_422 : decode cL_law 422 = .ok (.iconst 2, 1) := by decide +kernel
theorem dL_law_423 : decode cL_law 423 = .ok (.iadd, 1) := by decide +kernel
theorem dL_law_424 : decode cL_law 424 = .ok (.iaload, 1) := by decide +kernel
theorem dL_law_425 : decode cL_law 425 = .ok (.aload_n 0, 1) := by decide +kernel
theorem dL_law_426 : decode cL_law 426 = .ok (.iload 4, 2) := by decide +kernel
theorem dL_law_428 : decode cL_law 428 = .ok (.iconst 3, 1) := by decide +kernel
theorem dL_law_429 : decode cL_law 429 = .ok (.iadd, 1) := by decide +kernel
theorem dL_law_430 : decode cL_law 430 = .ok (.iaload, 1) := by decide +kernel
theorem dL_law_431 : decode cL_law 431 = .ok (.invokevirtual 81, 3) := by decide +kernel
theorem dL_law_434 : decode cL_law 434 = .ok (.istore 6, 2) := by decide +kernel
theorem dL_law_436 : decode cL_law 436 = .ok (.aload_n 2, 1) := by decide +kernel
theorem dL_law_437 : decode cL_law 437 = .ok (.invokevirtual 64, 3) := by decide +kernel
theorem dL_law_440 : decode cL_law 440 = .ok (.iload 5, 2) := by decide +kernel
theorem dL_law_442 : decode cL_law 442 = .ok (.if_icmp .eq 5, 3) := by decide +kernel
theorem dL_law_445 : decode cL_law 445 = .ok (.iconst 0, 1) := by decide +kernel
theorem dL_law_446 : decode cL_law 446 = .ok (.ireturn, 1) := by decide +kernel
theorem dL_law_447 : decode cL_law 447 = .ok (.iload 5, 2) := by decide +kernel
theorem dL_law_449 : decode cL_law 449 = .ok (.ifCond .ne 15, 3) := by decide +kernel
theorem dL_law_452 : decode cL_law 452 = .ok (.aload_n 3, 1) := by decide +kernel
theorem dL_law_453 : decode cL_law 453 = .ok (.iconst 0, 1) := by decide +kernel
theorem dL_law_454 : decode cL_law 454 = .ok (.laload, 1) := by decide +kernel
theorem dL_law_455 : decode cL_law 455 = .ok (.iload 6, 2) := by decide +kernel
theorem dL_law_457 : decode cL_law 457 = .ok (.i2l, 1) := by decide +kernel
theorem dL_law_458 : decode cL_law 458 = .ok (.lcmp, 1) := by decide +kernel
theorem dL_law_459 : decode cL_law 459 = .ok (.ifCond .eq 5, 3) := by decide +kernel
theorem dL_law_462 : decode cL_law 462 = .ok (.iconst 0, 1) := by decide +kernel
theorem dL_law_463 : decode cL_law 463 = .ok (.ireturn, 1) := by decide +kernel
theorem dL_law_464 : decode cL_law 464 = .ok (.goto 295, 3) := by decide +kernel
theorem dL_law_467 : decode cL_law 467 = .ok (.aload_n 1, 1) := by decide +kernel
theorem dL_law_468 : decode cL_law 468 = .ok (.aload_n 0, 1) := by decide +kernel
theorem dL_law_469 : decode cL_law 469 = .ok (.iload 4, 2) := by decide +kernel
theorem dL_law_471 : decode cL_law 471 = .ok (.iconst 1, 1) := by decide +kernel
theorem dL_law_472 : decode cL_law 472 = .ok (.iadd, 1) := by decide +kernel
theorem dL_law_473 : decode cL_law 473 = .ok (.iaload, 1) := by decide +kernel
theorem dL_law_474 : decode cL_law 474 = .ok (.aload_n 0, 1) := by decide +kernel
theorem dL_law_475 : decode cL_law 475 = .ok (.iload 4, 2) := by decide +kernel
theorem dL_law_477 : decode cL_law 477 = .ok (.iconst 2, 1) := by decide +kernel
theorem dL_law_478 : decode cL_law 478 = .ok (.iadd, 1) := by decide +kernel
theorem dL_law_479 : decode cL_law 479 = .ok (.iaload, 1) := by decide +kernel
theorem dL_law_480 : decode cL_law 480 = .ok (.aload_n 0, 1) := by decide +kernel
theorem dL_law_481 : decode cL_law 481 = .ok (.iload 4, 2) := by decide +kernel
theorem dL_law_483 : decode cL_law 483 = .ok (.iconst 3, 1) := by decide +kernel
theorem dL_law_484 : decode cL_law 484 = .ok (.iadd, 1) := by decide +kernel
theorem dL_law_485 : decode cL_law 485 = .ok (.iaload, 1) := by decide +kernel
theorem dL_law_486 : decode cL_law 486 = .ok (.aload_n 3, 1) := by decide +kernel
theorem dL_law_487 : decode cL_law 487 = .ok (.invokestatic 82, 3) := by decide +kernel
theorem dL_law_490 : decode cL_law 490 = .ok (.istore 5, 2) := by decide +kernel
theorem dL_law_492 : decode cL_law 492 = .ok (.aload_n 2, 1) := by decide +kernel
theorem dL_law_493 : decode cL_law 493 = .ok (.aload_n 0, 1) := by decide +kernel
theorem dL_law_494 : decode cL_law 494 = .ok (.iload 4, 2) := by decide +kernel
theorem dL_law_496 : decode cL_law 496 = .ok (.iconst 1, 1) := by decide +kernel
theorem dL_law_497 : decode cL_law 497 = .ok (.iadd, 1) := by decide +kernel
theorem dL_law_498 : decode cL_law 498 = .ok (.iaload, 1) := by decide +kernel
theorem dL_law_499 : decode cL_law 499 = .ok (.aload_n 0, 1) := by decide +kernel
theorem dL_law_500 : decode cL_law 500 = .ok (.iload 4, 2) := by decide +kernel
theorem dL_law_502 : decode cL_law 502 = .ok (.iconst 2, 1) := by decide +kernel
theorem dL_law_503 : decode cL_law 503 = .ok (.iadd, 1) := by decide +kernel
theorem dL_law_504 : decode cL_law 504 = .ok (.iaload, 1) := by decide +kernel
theorem dL_law_505 : decode cL_law 505 = .ok (.aload_n 0, 1) := by decide +kernel
theorem dL_law_506 : decode cL_law 506 = .ok (.iload 4, 2) := by decide +kernel
theorem dL_law_508 : decode cL_law 508 = .ok (.iconst 3, 1) := by decide +kernel
theorem dL_law_509 : decode cL_law 509 = .ok (.iadd, 1) := by decide +kernel
theorem dL_law_510 : decode cL_law 510 = .ok (.iaload, 1) := by decide +kernel
theorem dL_law_511 : decode cL_law 511 = .ok (.invokevirtual 84, 3) := by decide +kernel
theorem dL_law_514 : decode cL_law 514 = .ok (.istore 6, 2) := by decide +kernel
theorem dL_law_516 : decode cL_law 516 = .ok (.aload_n 2, 1) := by decide +kernel
theorem dL_law_517 : decode cL_law 517 = .ok (.invokevirtual 64, 3) := by decide +kernel
theorem dL_law_520 : decode cL_law 520 = .ok (.iload 5, 2) := by decide +kernel
theorem dL_law_522 : decode cL_law 522 = .ok (.if_icmp .eq 5, 3) := by decide +kernel
theorem dL_law_525 : decode cL_law 525 = .ok (.iconst 0, 1) := by decide +kernel
theorem dL_law_526 : decode cL_law 526 = .ok (.ireturn, 1) := by decide +kernel
theorem dL_law_527 : decode cL_law 527 = .ok (.iload 5, 2) := by decide +kernel
theorem dL_law_529 : decode cL_law 529 = .ok (.ifCond .ne 22, 3) := by decide +kernel
theorem dL_law_532 : decode cL_law 532 = .ok (.aload_n 3, 1) := by decide +kernel
theorem dL_law_533 : decode cL_law 533 = .ok (.iconst 0, 1) := by decide +kernel
theorem dL_law_534 : decode cL_law 534 = .ok (.laload, 1) := by decide +kernel
theorem dL_law_535 : decode cL_law 535 = .ok (.iload 6, 2) := by decide +kernel
theorem dL_law_537 : decode cL_law 537 = .ok (.ifCond .eq 7, 3) := by decide +kernel
theorem dL_law_540 : decode cL_law 540 = .ok (.lconst 1, 1) := by decide +kernel
theorem dL_law_541 : decode cL_law 541 = .ok (.goto 4, 3) := by decide +kernel
theorem dL_law_544 : decode cL_law 544 = .ok (.lconst 0, 1) := by decide +kernel
theorem dL_law_545 : decode cL_law 545 = .ok (.lcmp, 1) := by decide +kernel
theorem dL_law_546 : decode cL_law 546 = .ok (.ifCond .eq 5, 3) := by decide +kernel
theorem dL_law_549 : decode cL_law 549 = .ok (.iconst 0, 1) := by decide +kernel
theorem dL_law_550 : decode cL_law 550 = .ok (.ireturn, 1) := by decide +kernel
theorem dL_law_551 : decode cL_law 551 = .ok (.goto 208, 3) := by decide +kernel
theorem dL_law_554 : decode cL_law 554 = .ok (.aload_n 1, 1) := by decide +kernel
theorem dL_law_555 : decode cL_law 555 = .ok (.invokevirtual 85, 3) := by decide +kernel
theorem dL_law_558 : decode cL_law 558 = .ok (.aload_n 2, 1) := by decide +kernel
theorem dL_law_559 : decode cL_law 559 = .ok (.invokevirtual 88, 3) := by decide +kernel
theorem dL_law_562 : decode cL_law 562 = .ok (.if_icmp .eq 197, 3) := by decide +kernel
theorem dL_law_565 : decode cL_law 565 = .ok (.iconst 0, 1) := by decide +kernel
theorem dL_law_566 : decode cL_law 566 = .ok (.ireturn, 1) := by decide +kernel
theorem dL_law_567 : decode cL_law 567 = .ok (.aload_n 1, 1) := by decide +kernel
theorem dL_law_568 : decode cL_law 568 = .ok (.aload_n 0, 1) := by decide +kernel
theorem dL_law_569 : decode cL_law 569 = .ok (.iload 4, 2) := by decide +kernel
theorem dL_law_571 : decode cL_law 571 = .ok (.iconst 1, 1) := by decide +kernel
theorem dL_law_572 : decode cL_law 572 = .ok (.iadd, 1) := by decide +kernel
theorem dL_law_573 : decode cL_law 573 = .ok (.iaload, 1) := by decide +kernel
theorem dL_law_574 : decode cL_law 574 = .ok (.aload_n 0, 1) := by decide +kernel
theorem dL_law_575 : decode cL_law 575 = .ok (.iload 4, 2) := by decide +kernel
theorem dL_law_577 : decode cL_law 577 = .ok (.iconst 2, 1) := by decide +kernel
theorem dL_law_578 : decode cL_law 578 = .ok (.iadd, 1) := by decide +kernel
theorem dL_law_579 : decode cL_law 579 = .ok (.iaload, 1) := by decide +kernel
theorem dL_law_580 : decode cL_law 580 = .ok (.aload_n 3, 1) := by decide +kernel
theorem dL_law_581 : decode cL_law 581 = .ok (.invokestatic 89, 3) := by decide +kernel
theorem dL_law_584 : decode cL_law 584 = .ok (.istore 5, 2) := by decide +kernel
theorem dL_law_586 : decode cL_law 586 = .ok (.aload_n 2, 1) := by decide +kernel
theorem dL_law_587 : decode cL_law 587 = .ok (.aload_n 0, 1) := by decide +kernel
theorem dL_law_588 : decode cL_law 588 = .ok (.iload 4, 2) := by decide +kernel
theorem dL_law_590 : decode cL_law 590 = .ok (.iconst 1, 1) := by decide +kernel
theorem dL_law_591 : decode cL_law 591 = .ok (.iadd, 1) := by decide +kernel
theorem dL_law_592 : decode cL_law 592 = .ok (.iaload, 1) := by decide +kernel
theorem dL_law_593 : decode cL_law 593 = .ok (.aload_n 0, 1) := by decide +kernel
theorem dL_law_594 : decode cL_law 594 = .ok (.iload 4, 2) := by decide +kernel
theorem dL_law_596 : decode cL_law 596 = .ok (.iconst 2, 1) := by decide +kernel
theorem dL_law_597 : decode cL_law 597 = .ok (.iadd, 1) := by decide +kernel
theorem dL_law_598 : decode cL_law 598 = .ok (.iaload, 1) := by decide +kernel
theorem dL_law_599 : decode cL_law 599 = .ok (.invokevirtual 91, 3) := by decide +kernel
theorem dL_law_602 : decode cL_law 602 = .ok (.istore 6, 2) := by decide +kernel
theorem dL_law_604 : decode cL_law 604 = .ok (.aload_n 2, 1) := by decide +kernel
theorem dL_law_605 : decode cL_law 605 = .ok (.invokevirtual 64, 3) := by decide +kernel
theorem dL_law_608 : decode cL_law 608 = .ok (.iload 5, 2) := by decide +kernel
theorem dL_law_610 : decode cL_law 610 = .ok (.if_icmp .eq 5, 3) := by decide +kernel
theorem dL_law_613 : decode cL_law 613 = .ok (.iconst 0, 1) := by decide +kernel
theorem dL_law_614 : decode cL_law 614 = .ok (.ireturn, 1) := by decide +kernel
theorem dL_law_615 : decode cL_law 615 = .ok (.iload 5, 2) := by decide +kernel
theorem dL_law_617 : decode cL_law 617 = .ok (.ifCond .ne 15, 3) := by decide +kernel
theorem dL_law_620 : decode cL_law 620 = .ok (.aload_n 3, 1) := by decide +kernel
theorem dL_law_621 : decode cL_law 621 = .ok (.iconst 0, 1) := by decide +kernel
theorem dL_law_622 : decode cL_law 622 = .ok (.laload, 1) := by decide +kernel
theorem dL_law_623 : decode cL_law 623 = .ok (.iload 6, 2) := by decide +kernel
theorem dL_law_625 : decode cL_law 625 = .ok (.i2l, 1) := by decide +kernel
theorem dL_law_626 : decode cL_law 626 = .ok (.lcmp, 1) := by decide +kernel
theorem dL_law_627 : decode cL_law 627 = .ok (.ifCond .eq 5, 3) := by decide +kernel
theorem dL_law_630 : decode cL_law 630 = .ok (.iconst 0, 1) := by decide +kernel
theorem dL_law_631 : decode cL_law 631 = .ok (.ireturn, 1) := by decide +kernel
theorem dL_law_632 : decode cL_law 632 = .ok (.goto 127, 3) := by decide +kernel
theorem dL_law_635 : decode cL_law 635 = .ok (.aload_n 1, 1) := by decide +kernel
theorem dL_law_636 : decode cL_law 636 = .ok (.aload_n 0, 1) := by decide +kernel
theorem dL_law_637 : decode cL_law 637 = .ok (.iload 4, 2) := by decide +kernel
theorem dL_law_639 : decode cL_law 639 = .ok (.iconst 1, 1) := by decide +kernel
theorem dL_law_640 : decode cL_law 640 = .ok (.iadd, 1) := by decide +kernel
theorem dL_law_641 : decode cL_law 641 = .ok (.iaload, 1) := by decide +kernel
theorem dL_law_642 : decode cL_law 642 = .ok (.aload_n 0, 1) := by decide +kernel
theorem dL_law_643 : decode cL_law 643 = .ok (.iload 4, 2) := by decide +kernel
theorem dL_law_645 : decode cL_law 645 = .ok (.iconst 2, 1) := by decide +kernel
theorem dL_law_646 : decode cL_law 646 = .ok (.iadd, 1) := by decide +kernel
theorem dL_law_647 : decode cL_law 647 = .ok (.iaload, 1) := by decide +kernel
theorem dL_law_648 : decode cL_law 648 = .ok (.aload_n 3, 1) := by decide +kernel
theorem dL_law_649 : decode cL_law 649 = .ok (.invokestatic 92, 3) := by decide +kernel
theorem dL_law_652 : decode cL_law 652 = .ok (.istore 5, 2) := by decide +kernel
theorem dL_law_654 : decode cL_law 654 = .ok (.aload_n 2, 1) := by decide +kernel
theorem dL_law_655 : decode cL_law 655 = .ok (.aload_n 0, 1) := by decide +kernel
theorem dL_law_656 : decode cL_law 656 = .ok (.iload 4, 2) := by decide +kernel
theorem dL_law_658 : decode cL_law 658 = .ok (.iconst 1, 1) := by decide +kernel
theorem dL_law_659 : decode cL_law 659 = .ok (.iadd, 1) := by decide +kernel
theorem dL_law_660 : decode cL_law 660 = .ok (.iaload, 1) := by decide +kernel
theorem dL_law_661 : decode cL_law 661 = .ok (.aload_n 0, 1) := by decide +kernel
theorem dL_law_662 : decode cL_law 662 = .ok (.iload 4, 2) := by decide +kernel
theorem dL_law_664 : decode cL_law 664 = .ok (.iconst 2, 1) := by decide +kernel
theorem dL_law_665 : decode cL_law 665 = .ok (.iadd, 1) := by decide +kernel
theorem dL_law_666 : decode cL_law 666 = .ok (.iaload, 1) := by decide +kernel
theorem dL_law_667 : decode cL_law 667 = .ok (.invokevirtual 94, 3) := by decide +kernel
theorem dL_law_670 : decode cL_law 670 = .ok (.istore 6, 2) := by decide +kernel
theorem dL_law_672 : decode cL_law 672 = .ok (.aload_n 2, 1) := by decide +kernel
theorem dL_law_673 : decode cL_law 673 = .ok (.invokevirtual 64, 3) := by decide +kernel
theorem dL_law_676 : decode cL_law 676 = .ok (.iload 5, 2) := by decide +kernel
theorem dL_law_678 : decode cL_law 678 = .ok (.if_icmp .eq 5, 3) := by decide +kernel
theorem dL_law_681 : decode cL_law 681 = .ok (.iconst 0, 1) := by decide +kernel
theorem dL_law_682 : decode cL_law 682 = .ok (.ireturn, 1) := by decide +kernel
theorem dL_law_683 : decode cL_law 683 = .ok (.iload 5, 2) := by decide +kernel
theorem dL_law_685 : decode cL_law 685 = .ok (.ifCond .ne 15, 3) := by decide +kernel
theorem dL_law_688 : decode cL_law 688 = .ok (.aload_n 3, 1) := by decide +kernel
theorem dL_law_689 : decode cL_law 689 = .ok (.iconst 0, 1) := by decide +kernel
theorem dL_law_690 : decode cL_law 690 = .ok (.laload, 1) := by decide +kernel
theorem dL_law_691 : decode cL_law 691 = .ok (.iload 6, 2) := by decide +kernel
theorem dL_law_693 : decode cL_law 693 = .ok (.i2l, 1) := by decide +kernel
theorem dL_law_694 : decode cL_law 694 = .ok (.lcmp, 1) := by decide +kernel
theorem dL_law_695 : decode cL_law 695 = .ok (.ifCond .eq 5, 3) := by decide +kernel
theorem dL_law_698 : decode cL_law 698 = .ok (.iconst 0, 1) := by decide +kernel
theorem dL_law_699 : decode cL_law 699 = .ok (.ireturn, 1) := by decide +kernel
theorem dL_law_700 : decode cL_law 700 = .ok (.goto 59, 3) := by decide +kernel
theorem dL_law_703 : decode cL_law 703 = .ok (.aload_n 1, 1) := by decide +kernel
theorem dL_law_704 : decode cL_law 704 = .ok (.aload_n 0, 1) := by decide +kernel
theorem dL_law_705 : decode cL_law 705 = .ok (.iload 4, 2) := by decide +kernel
theorem dL_law_707 : decode cL_law 707 = .ok (.iconst 1, 1) := by decide +kernel
theorem dL_law_708 : decode cL_law 708 = .ok (.iadd, 1) := by decide +kernel
theorem dL_law_709 : decode cL_law 709 = .ok (.iaload, 1) := by decide +kernel
theorem dL_law_710 : decode cL_law 710 = .ok (.aload_n 3, 1) := by decide +kernel
theorem dL_law_711 : decode cL_law 711 = .ok (.invokestatic 95, 3) := by decide +kernel
theorem dL_law_714 : decode cL_law 714 = .ok (.istore 5, 2) := by decide +kernel
theorem dL_law_716 : decode cL_law 716 = .ok (.aload_n 2, 1) := by decide +kernel
theorem dL_law_717 : decode cL_law 717 = .ok (.aload_n 0, 1) := by decide +kernel
theorem dL_law_718 : decode cL_law 718 = .ok (.iload 4, 2) := by decide +kernel
theorem dL_law_720 : decode cL_law 720 = .ok (.iconst 1, 1) := by decide +kernel
theorem dL_law_721 : decode cL_law 721 = .ok (.iadd, 1) := by decide +kernel
theorem dL_law_722 : decode cL_law 722 = .ok (.iaload, 1) := by decide +kernel
theorem dL_law_723 : decode cL_law 723 = .ok (.invokevirtual 98, 3) := by decide +kernel
theorem dL_law_726 : decode cL_law 726 = .ok (.istore 6, 2) := by decide +kernel
theorem dL_law_728 : decode cL_law 728 = .ok (.aload_n 2, 1) := by decide +kernel
theorem dL_law_729 : decode cL_law 729 = .ok (.invokevirtual 64, 3) := by decide +kernel
theorem dL_law_732 : decode cL_law 732 = .ok (.iload 5, 2) := by decide +kernel
theorem dL_law_734 : decode cL_law 734 = .ok (.if_icmp .eq 5, 3) := by decide +kernel
theorem dL_law_737 : decode cL_law 737 = .ok (.iconst 0, 1) := by decide +kernel
theorem dL_law_738 : decode cL_law 738 = .ok (.ireturn, 1) := by decide +kernel
theorem dL_law_739 : decode cL_law 739 = .ok (.iload 5, 2) := by decide +kernel
theorem dL_law_741 : decode cL_law 741 = .ok (.ifCond .ne 15, 3) := by decide +kernel
theorem dL_law_744 : decode cL_law 744 = .ok (.aload_n 3, 1) := by decide +kernel
theorem dL_law_745 : decode cL_law 745 = .ok (.iconst 0, 1) := by decide +kernel
theorem dL_law_746 : decode cL_law 746 = .ok (.laload, 1) := by decide +kernel
theorem dL_law_747 : decode cL_law 747 = .ok (.iload 6, 2) := by decide +kernel
theorem dL_law_749 : decode cL_law 749 = .ok (.i2l, 1) := by decide +kernel
theorem dL_law_750 : decode cL_law 750 = .ok (.lcmp, 1) := by decide +kernel
theorem dL_law_751 : decode cL_law 751 = .ok (.ifCond .eq 5, 3) := by decide +kernel
theorem dL_law_754 : decode cL_law 754 = .ok (.iconst 0, 1) := by decide +kernel
theorem dL_law_755 : decode cL_law 755 = .ok (.ireturn, 1) := by decide +kernel
theorem dL_law_756 : decode cL_law 756 = .ok (.goto 3, 3) := by decide +kernel
theorem dL_law_759 : decode cL_law 759 = .ok (.iinc 4 4, 3) := by decide +kernel
theorem dL_law_762 : decode cL_law 762 = .ok (.goto (-729), 3) := by decide +kernel
theorem dL_law_765 : decode cL_law 765 = .ok (.iconst 1, 1) := by decide +kernel
theorem dL_law_766 : decode cL_law 766 = .ok (.ireturn, 1) := by decide +kernel
end
section
/-! the environment of every call: nest links, castables, declares; strings and statics of Throwable (printed by wip/gen/env.py) -/
def eN (U : State) : Prop := va_Nw (.fieldLinkNest "CopyHeap" 106 "CopyHeap$Half" "words" "[I" "CopyHeap") U ∧ va_Nw (.fieldLinkNest "CopyHeap" 84 "CopyHeap$Half" "used" "I" "CopyHeap") U ∧ va_Nw (.fieldLinkNest "CopyHeap" 115 "CopyHeap$Half" "objects" "I" "CopyHeap") U ∧ va_Nw (.methodLinkNest "CopyHeap$Half" 32 ⟨"CopyHeap", "isReference", "(I)Z"⟩ "CopyHeap") U ∧ va_Nw (.methodLinkNest "CopyHeap$Half" 44 ⟨"CopyHeap", "content", "(I)I"⟩ "CopyHeap") U ∧ va_Nw (.methodLinkNest "CopyHeap$Half" 51 ⟨"CopyHeap", "asReference", "(I)I"⟩ "CopyHeap") U ∧ va_Nw (.castable "java/lang/IllegalArgumentException" "java/lang/IllegalArgumentException") U ∧ va_Nw (.castable "java/lang/IllegalStateException" "java/lang/IllegalStateException") U ∧ va_Nw (.castable "java/lang/IndexOutOfBoundsException" "java/lang/IndexOutOfBoundsException") U ∧ va_Nw (.declares ⟨"java/lang/RuntimeException", "<init>", "(Ljava/lang/String;)V"⟩) U ∧ va_Nw (.declares ⟨"java/lang/Exception", "<init>", "(Ljava/lang/String;)V"⟩) U ∧ va_Nw (.declares ⟨"java/lang/Throwable", "<init>", "(Ljava/lang/String;)V"⟩) U
theorem eN.warm {s U : State} (hW : s.WarmedH U.vm) (h : eN s) : eN U := ⟨va_Nw.warmF hW h.1, va_Nw.warmF hW h.2.1, va_Nw.warmF hW h.2.2.1, va_Nw.warmM hW h.2.2.2.1, va_Nw.warmM hW h.2.2.2.2.1, va_Nw.warmM hW h.2.2.2.2.2.1, va_Nw.warmC hW h.2.2.2.2.2.2.1, va_Nw.warmC hW h.2.2.2.2.2.2.2.1, va_Nw.warmC hW h.2.2.2.2.2.2.2.2.1, va_Nw.warmD hW h.2.2.2.2.2.2.2.2.2.1, va_Nw.warmD hW h.2.2.2.2.2.2.2.2.2.2.1, va_Nw.warmD hW h.2.2.2.2.2.2.2.2.2.2.2⟩
theorem eN.w25 {A : Array Value} {s : State} (h : eN s) : (.fieldLinkNest "CopyHeap" 106 "CopyHeap$Half" "words" "[I" "CopyHeap" : Cond).before A s = true := va_Nw.use rfl h.1
theorem eN.n25 {s : State} (h : eN s) : va_Nw (.fieldLinkNest "CopyHeap" 106 "CopyHeap$Half" "words" "[I" "CopyHeap") s := h.1
theorem eN.w27 {A : Array Value} {s : State} (h : eN s) : (.fieldLinkNest "CopyHeap" 84 "CopyHeap$Half" "used" "I" "CopyHeap" : Cond).before A s = true := va_Nw.use rfl h.2.1
theorem eN.n27 {s : State} (h : eN s) : va_Nw (.fieldLinkNest "CopyHeap" 84 "CopyHeap$Half" "used" "I" "CopyHeap") s := h.2.1
theorem eN.w29 {A : Array Value} {s : State} (h : eN s) : (.fieldLinkNest "CopyHeap" 115 "CopyHeap$Half" "objects" "I" "CopyHeap" : Cond).before A s = true := va_Nw.use rfl h.2.2.1
theorem eN.n29 {s : State} (h : eN s) : va_Nw (.fieldLinkNest "CopyHeap" 115 "CopyHeap$Half" "objects" "I" "CopyHeap") s := h.2.2.1
theorem eN.w70 {A : Array Value} {s : State} (h : eN s) : (.methodLinkNest "CopyHeap$Half" 32 ⟨"CopyHeap", "isReference", "(I)Z"⟩ "CopyHeap" : Cond).before A s = true := va_Nw.use rfl h.2.2.2.1
theorem eN.n70 {s : State} (h : eN s) : va_Nw (.methodLinkNest "CopyHeap$Half" 32 ⟨"CopyHeap", "isReference", "(I)Z"⟩ "CopyHeap") s := h.2.2.2.1
theorem eN.w73 {A : Array Value} {s : State} (h : eN s) : (.methodLinkNest "CopyHeap$Half" 44 ⟨"CopyHeap", "content", "(I)I"⟩ "CopyHeap" : Cond).before A s = true := va_Nw.use rfl h.2.2.2.2.1
theorem eN.n73 {s : State} (h : eN s) : va_Nw (.methodLinkNest "CopyHeap$Half" 44 ⟨"CopyHeap", "content", "(I)I"⟩ "CopyHeap") s := h.2.2.2.2.1
theorem eN.w96 {A : Array Value} {s : State} (h : eN s) : (.methodLinkNest "CopyHeap$Half" 51 ⟨"CopyHeap", "asReference", "(I)I"⟩ "CopyHeap" : Cond).before A s = true := va_Nw.use rfl h.2.2.2.2.2.1
theorem eN.n96 {s : State} (h : eN s) : va_Nw (.methodLinkNest "CopyHeap$Half" 51 ⟨"CopyHeap", "asReference", "(I)I"⟩ "CopyHeap") s := h.2.2.2.2.2.1
theorem eN.w126 {A : Array Value} {s : State} (h : eN s) : (.castable "java/lang/IllegalArgumentException" "java/lang/IllegalArgumentException" : Cond).before A s = true := va_Nw.use rfl h.2.2.2.2.2.2.1
theorem eN.n126 {s : State} (h : eN s) : va_Nw (.castable "java/lang/IllegalArgumentException" "java/lang/IllegalArgumentException") s := h.2.2.2.2.2.2.1
theorem eN.w199 {A : Array Value} {s : State} (h : eN s) : (.castable "java/lang/IllegalStateException" "java/lang/IllegalStateException" : Cond).before A s = true := va_Nw.use rfl h.2.2.2.2.2.2.2.1
theorem eN.n199 {s : State} (h : eN s) : va_Nw (.castable "java/lang/IllegalStateException" "java/lang/IllegalStateException") s := h.2.2.2.2.2.2.2.1
theorem eN.w257 {A : Array Value} {s : State} (h : eN s) : (.castable "java/lang/IndexOutOfBoundsException" "java/lang/IndexOutOfBoundsException" : Cond).before A s = true := va_Nw.use rfl h.2.2.2.2.2.2.2.2.1
theorem eN.n257 {s : State} (h : eN s) : va_Nw (.castable "java/lang/IndexOutOfBoundsException" "java/lang/IndexOutOfBoundsException") s := h.2.2.2.2.2.2.2.2.1
theorem eN.w128 {A : Array Value} {s : State} (h : eN s) : (.declares ⟨"java/lang/RuntimeException", "<init>", "(Ljava/lang/String;)V"⟩ : Cond).before A s = true := va_Nw.use rfl h.2.2.2.2.2.2.2.2.2.1
theorem eN.n128 {s : State} (h : eN s) : va_Nw (.declares ⟨"java/lang/RuntimeException", "<init>", "(Ljava/lang/String;)V"⟩) s := h.2.2.2.2.2.2.2.2.2.1
theorem eN.w130 {A : Array Value} {s : State} (h : eN s) : (.declares ⟨"java/lang/Exception", "<init>", "(Ljava/lang/String;)V"⟩ : Cond).before A s = true := va_Nw.use rfl h.2.2.2.2.2.2.2.2.2.2.1
theorem eN.n130 {s : State} (h : eN s) : va_Nw (.declares ⟨"java/lang/Exception", "<init>", "(Ljava/lang/String;)V"⟩) s := h.2.2.2.2.2.2.2.2.2.2.1
theorem eN.w132 {A : Array Value} {s : State} (h : eN s) : (.declares ⟨"java/lang/Throwable", "<init>", "(Ljava/lang/String;)V"⟩ : Cond).before A s = true := va_Nw.use rfl h.2.2.2.2.2.2.2.2.2.2.2
theorem eN.n132 {s : State} (h : eN s) : va_Nw (.declares ⟨"java/lang/Throwable", "<init>", "(Ljava/lang/String;)V"⟩) s := h.2.2.2.2.2.2.2.2.2.2.2
def eX (sa : Nat → Nat) (A : Nat → Prop) (U : State) (H : Heap) : Prop := vk_R "CopyHeap" 120 "no register" (sa 0) U ∧ vk_R "CopyHeap" 30 "no such kind, or not 0 to 200 fields" (sa 1) U ∧ vk_R "CopyHeap" 44 "no room behind a collection" (sa 2) U ∧ vk_R "CopyHeap" 124 "the register refers to nothing" (sa 3) U ∧ vk_R "CopyHeap" 70 "a RAW object takes no reference" (sa 4) U ∧ vk_R "CopyHeap" 122 "no such field" (sa 5) U ∧ vk_R "CopyHeap" 79 "no RAW object" (sa 6) U ∧ vk_R "CopyHeap" 93 "what is not 0 to 3" (sa 7) U ∧ vk_R "CopyHeap" 99 "no such word in use" (sa 8) U ∧ vk_R "CopyHeap" 104 "what is not 0 or 1" (sa 9) U ∧ vk_R "CopyHeap" 118 "what is not 0 to 4" (sa 10) U ∧ vx_Zq Bundle.tN "UNASSIGNED_STACK" Bundle.steD A U H ∧ vx_Zq Bundle.tN "SUPPRESSED_SENTINEL" Bundle.listD A U H
theorem eX.moved {sa : Nat → Nat} {A : Nat → Prop} {s U : State} {H : Heap} (hW : s.WarmedH U.vm) (h : eX sa A s H) : eX sa A U H := ⟨vk_R.warm hW h.1, vk_R.warm hW h.2.1, vk_R.warm hW h.2.2.1, vk_R.warm hW h.2.2.2.1, vk_R.warm hW h.2.2.2.2.1, vk_R.warm hW h.2.2.2.2.2.1, vk_R.warm hW h.2.2.2.2.2.2.1, vk_R.warm hW h.2.2.2.2.2.2.2.1, vk_R.warm hW h.2.2.2.2.2.2.2.2.1, vk_R.warm hW h.2.2.2.2.2.2.2.2.2.1, vk_R.warm hW h.2.2.2.2.2.2.2.2.2.2.1, vx_Zq.moved hW.alike h.2.2.2.2.2.2.2.2.2.2.2.1, vx_Zq.moved hW.alike h.2.2.2.2.2.2.2.2.2.2.2.2⟩
theorem eX.kept {sa : Nat → Nat} {A : Nat → Prop} {U : State} {H H1 : Heap} (h : eX sa A U H) (hq : ∀ a : Nat, a < H.size → ¬ A a → H1[a]? = H[a]?) : eX sa A U H1 := ⟨h.1, h.2.1, h.2.2.1, h.2.2.2.1, h.2.2.2.2.1, h.2.2.2.2.2.1, h.2.2.2.2.2.2.1, h.2.2.2.2.2.2.2.1, h.2.2.2.2.2.2.2.2.1, h.2.2.2.2.2.2.2.2.2.1, h.2.2.2.2.2.2.2.2.2.2.1, vx_Zq.kept h.2.2.2.2.2.2.2.2.2.2.2.1 hq, vx_Zq.kept h.2.2.2.2.2.2.2.2.2.2.2.2 hq⟩
theorem eX.narrow {sa : Nat → Nat} {A B : Nat → Prop} {U : State} {H : Heap} (h : eX sa A U H) (hAB : ∀ q, B q → A q) : eX sa B U H := ⟨h.1, h.2.1, h.2.2.1, h.2.2.2.1, h.2.2.2.2.1, h.2.2.2.2.2.1, h.2.2.2.2.2.2.1, h.2.2.2.2.2.2.2.1, h.2.2.2.2.2.2.2.2.1, h.2.2.2.2.2.2.2.2.2.1, h.2.2.2.2.2.2.2.2.2.2.1, vx_Zq.narrow h.2.2.2.2.2.2.2.2.2.2.2.1 hAB, vx_Zq.narrow h.2.2.2.2.2.2.2.2.2.2.2.2 hAB⟩
theorem eX.s120 {sa : Nat → Nat} {A : Nat → Prop} {U : State} {H : Heap} (h : eX sa A U H) : vk_R "CopyHeap" 120 "no register" (sa 0) U := h.1
theorem eX.s30 {sa : Nat → Nat} {A : Nat → Prop} {U : State} {H : Heap} (h : eX sa A U H) : vk_R "CopyHeap" 30 "no such kind, or not 0 to 200 fields" (sa 1) U := h.2.1
theorem eX.s44 {sa : Nat → Nat} {A : Nat → Prop} {U : State} {H : Heap} (h : eX sa A U H) : vk_R "CopyHeap" 44 "no room behind a collection" (sa 2) U := h.2.2.1
theorem eX.s124 {sa : Nat → Nat} {A : Nat → Prop} {U : State} {H : Heap} (h : eX sa A U H) : vk_R "CopyHeap" 124 "the register refers to nothing" (sa 3) U := h.2.2.2.1
theorem eX.s70 {sa : Nat → Nat} {A : Nat → Prop} {U : State} {H : Heap} (h : eX sa A U H) : vk_R "CopyHeap" 70 "a RAW object takes no reference" (sa 4) U := h.2.2.2.2.1
theorem eX.s122 {sa : Nat → Nat} {A : Nat → Prop} {U : State} {H : Heap} (h : eX sa A U H) : vk_R "CopyHeap" 122 "no such field" (sa 5) U := h.2.2.2.2.2.1
theorem eX.s79 {sa : Nat → Nat} {A : Nat → Prop} {U : State} {H : Heap} (h : eX sa A U H) : vk_R "CopyHeap" 79 "no RAW object" (sa 6) U := h.2.2.2.2.2.2.1
theorem eX.s93 {sa : Nat → Nat} {A : Nat → Prop} {U : State} {H : Heap} (h : eX sa A U H) : vk_R "CopyHeap" 93 "what is not 0 to 3" (sa 7) U := h.2.2.2.2.2.2.2.1
theorem eX.s99 {sa : Nat → Nat} {A : Nat → Prop} {U : State} {H : Heap} (h : eX sa A U H) : vk_R "CopyHeap" 99 "no such word in use" (sa 8) U := h.2.2.2.2.2.2.2.2.1
theorem eX.s104 {sa : Nat → Nat} {A : Nat → Prop} {U : State} {H : Heap} (h : eX sa A U H) : vk_R "CopyHeap" 104 "what is not 0 or 1" (sa 9) U := h.2.2.2.2.2.2.2.2.2.1
theorem eX.s118 {sa : Nat → Nat} {A : Nat → Prop} {U : State} {H : Heap} (h : eX sa A U H) : vk_R "CopyHeap" 118 "what is not 0 to 4" (sa 10) U := h.2.2.2.2.2.2.2.2.2.2.1
theorem eX.zU {sa : Nat → Nat} {A : Nat → Prop} {U : State} {H : Heap} (h : eX sa A U H) : vx_Zq Bundle.tN "UNASSIGNED_STACK" Bundle.steD A U H := h.2.2.2.2.2.2.2.2.2.2.2.1
theorem eX.zN {sa : Nat → Nat} {A : Nat → Prop} {U : State} {H : Heap} (h : eX sa A U H) : vx_Zq Bundle.tN "SUPPRESSED_SENTINEL" Bundle.listD A U H := h.2.2.2.2.2.2.2.2.2.2.2.2
/-- which exception a code tells -/
def exN (k : Nat) : String := if k = 1 then "java/lang/IllegalArgumentException" else if k = 2 then "java/lang/IllegalStateException" else "java/lang/IndexOutOfBoundsException"
theorem tgA : ∀ w ∈ (vx_atS RX1 32 "java/lang/IllegalArgumentException" ["java/lang/RuntimeException", "java/lang/Exception"]).filter goodWord, w ∈ gT := by decide +kernel
theorem toA : ∀ w ∈ Cond.classLink RX1 28 "java/lang/IllegalArgumentException" :: Cond.initialized "java/lang/IllegalArgumentException" :: vx_atS RX1 32 "java/lang/IllegalArgumentException" ["java/lang/RuntimeException", "java/lang/Exception"], vx_ot w = true := by decide +kernel
theorem thA {A : Array Value} {s : State} (ht : ∀ w ∈ gT, w.before A s = true) (hE : eN s) : ∀ w ∈ vx_atS RX1 32 "java/lang/IllegalArgumentException" ["java/lang/RuntimeException", "java/lang/Exception"], w.before A s = true := vx_hat (L := vx_atS RX1 32 "java/lang/IllegalArgumentException" ["java/lang/RuntimeException", "java/lang/Exception"]) (B := [.castable "java/lang/IllegalArgumentException" "java/lang/IllegalArgumentException", .declares ⟨"java/lang/RuntimeException", "<init>", "(Ljava/lang/String;)V"⟩, .declares ⟨"java/lang/Exception", "<init>", "(Ljava/lang/String;)V"⟩, .declares ⟨"java/lang/Throwable", "<init>", "(Ljava/lang/String;)V"⟩]) (fun w hw => ht w (tgA w hw)) (by decide +kernel) (vx_c hE.w126 (vx_c hE.w128 (vx_c hE.w130 (vx_c hE.w132 vx_n))))
theorem tgS : ∀ w ∈ (vx_atS RX1 46 "java/lang/IllegalStateException" ["java/lang/RuntimeException", "java/lang/Exception"]).filter goodWord, w ∈ gT := by decide +kernel
theorem toS : ∀ w ∈ Cond.classLink RX1 42 "java/lang/IllegalStateException" :: Cond.initialized "java/lang/IllegalStateException" :: vx_atS RX1 46 "java/lang/IllegalStateException" ["java/lang/RuntimeException", "java/lang/Exception"], vx_ot w = true := by decide +kernel
theorem thS {A : Array Value} {s : State} (ht : ∀ w ∈ gT, w.before A s = true) (hE : eN s) : ∀ w ∈ vx_atS RX1 46 "java/lang/IllegalStateException" ["java/lang/RuntimeException", "java/lang/Exception"], w.before A s = true := vx_hat (L := vx_atS RX1 46 "java/lang/IllegalStateException" ["java/lang/RuntimeException", "java/lang/Exception"]) (B := [.castable "java/lang/IllegalStateException" "java/lang/IllegalStateException", .declares ⟨"java/lang/RuntimeException", "<init>", "(Ljava/lang/String;)V"⟩, .declares ⟨"java/lang/Exception", "<init>", "(Ljava/lang/String;)V"⟩, .declares ⟨"java/lang/Throwable", "<init>", "(Ljava/lang/String;)V"⟩]) (fun w hw => ht w (tgS w hw)) (by decide +kernel) (vx_c hE.w199 (vx_c hE.w128 (vx_c hE.w130 (vx_c hE.w132 vx_n))))
theorem tgI : ∀ w ∈ (vx_atS RX1 95 "java/lang/IndexOutOfBoundsException" ["java/lang/RuntimeException", "java/lang/Exception"]).filter goodWord, w ∈ gT := by decide +kernel
theorem toI : ∀ w ∈ Cond.classLink RX1 91 "java/lang/IndexOutOfBoundsException" :: Cond.initialized "java/lang/IndexOutOfBoundsException" :: vx_atS RX1 95 "java/lang/IndexOutOfBoundsException" ["java/lang/RuntimeException", "java/lang/Exception"], vx_ot w = true := by decide +kernel
theorem thI {A : Array Value} {s : State} (ht : ∀ w ∈ gT, w.before A s = true) (hE : eN s) : ∀ w ∈ vx_atS RX1 95 "java/lang/IndexOutOfBoundsException" ["java/lang/RuntimeException", "java/lang/Exception"], w.before A s = true := vx_hat (L := vx_atS RX1 95 "java/lang/IndexOutOfBoundsException" ["java/lang/RuntimeException", "java/lang/Exception"]) (B := [.castable "java/lang/IndexOutOfBoundsException" "java/lang/IndexOutOfBoundsException", .declares ⟨"java/lang/RuntimeException", "<init>", "(Ljava/lang/String;)V"⟩, .declares ⟨"java/lang/Exception", "<init>", "(Ljava/lang/String;)V"⟩, .declares ⟨"java/lang/Throwable", "<init>", "(Ljava/lang/String;)V"⟩]) (fun w hw => ht w (tgI w hw)) (by decide +kernel) (vx_c hE.w257 (vx_c hE.w128 (vx_c hE.w130 (vx_c hE.w132 vx_n))))
/-- preconditions: read only; writing; read only and throwing; writing and throwing -/
def pS (D : va_G) (ws : va_W) (tys : List (ClassId × FieldType)) (U : State) : Prop := va_P D vwCl ws U.heap ∧ va_K D vwCl tys U ∧ eN U
def pM (D : va_G) (ws : va_W) (tys : List (ClassId × FieldType)) (sz : Nat) (U : State) : Prop := U.heap.size = sz ∧ va_P D vwCl ws U.heap ∧ va_K D vwCl tys U ∧ va_D (fun _ => True) ws ∧ eN U
def pR (D : va_G) (ws : va_W) (tys : List (ClassId × FieldType)) (sa : Nat → Nat) (sz : Nat) (U : State) : Prop := U.heap.size = sz ∧ va_P D vwCl ws U.heap ∧ va_K D vwCl tys U ∧ eN U ∧ eX sa (va_A [] sz) U U.heap
def pY (D : va_G) (ws : va_W) (tys : List (ClassId × FieldType)) (sa : Nat → Nat) (sz : Nat) (U : State) : Prop := U.heap.size = sz ∧ va_P D vwCl ws U.heap ∧ va_K D vwCl tys U ∧ va_D (fun _ => True) ws ∧ eN U ∧ eX sa (va_A ws sz) U U.heap
theorem calling_warm (U : State) (g : JFrame) (mk : MethodId) (a : Array Value) : U.WarmedH (U.calling g mk a).vm := State.WarmedH.refl U
theorem pS.blind {D : va_G} {ws : va_W} {tys : List (ClassId × FieldType)} {av : List Value} : FrameBlind (va_Pc av (pS D ws tys)) := fun a U g mk q => ⟨q.1, q.2.1, va_K.moved (u := U) (U := U.calling g mk a) (Vm.Alike.refl U.vm) q.2.2.1, eN.warm (calling_warm U g mk a) q.2.2.2⟩
theorem pM.blind {D : va_G} {ws : va_W} {tys : List (ClassId × FieldType)} {sz : Nat} {av : List Value} : FrameBlind (va_Pc av (pM D ws tys sz)) := fun a U g mk q => ⟨q.1, q.2.1, q.2.2.1, va_K.moved (u := U) (U := U.calling g mk a) (Vm.Alike.refl U.vm) q.2.2.2.1, q.2.2.2.2.1, eN.warm (calling_warm U g mk a) q.2.2.2.2.2⟩
theorem pR.blind {D : va_G} {ws : va_W} {tys : List (ClassId × FieldType)} {sa : Nat → Nat} {sz : Nat} {av : List Value} : FrameBlind (va_Pc av (pR D ws tys sa sz)) := fun a U g mk q => ⟨q.1, q.2.1, q.2.2.1, va_K.moved (u := U) (U := U.calling g mk a) (Vm.Alike.refl U.vm) q.2.2.2.1, eN.warm (calling_warm U g mk a) q.2.2.2.2.1, eX.moved (calling_warm U g mk a) q.2.2.2.2.2⟩
theorem pY.blind {D : va_G} {ws : va_W} {tys : List (ClassId × FieldType)} {sa : Nat → Nat} {sz : Nat} {av : List Value} : FrameBlind (va_Pc av (pY D ws tys sa sz)) := fun a U g mk q => ⟨q.1, q.2.1, q.2.2.1, va_K.moved (u := U) (U := U.calling g mk a) (Vm.Alike.refl U.vm) q.2.2.2.1, q.2.2.2.2.1, eN.warm (calling_warm U g mk a) q.2.2.2.2.2.1, eX.moved (calling_warm U g mk a) q.2.2.2.2.2.2⟩
theorem pT.blind {av : List Value} : FrameBlind (va_Pc av (fun _ => True)) := fun _ _ _ _ q => ⟨q.1, trivial⟩
theorem pT.call {av : List Value} {s : State} {H : Heap} : ∀ U : State, U.heap = H → s.WarmedH U.vm → va_Pc av (fun _ => True) av.toArray U := fun _ _ _ => ⟨rfl, trivial⟩
theorem pS.call {D : va_G} {ws : va_W} {tys : List (ClassId × FieldType)} {av : List Value} {s : State} {H : Heap} (hP : va_P D vwCl ws H) (hK : va_K D vwCl tys s) (hE : eN s) : ∀ U : State, U.heap = H → s.WarmedH U.vm → va_Pc av (pS D ws tys) av.toArray U := fun U hU hW => ⟨rfl, by rw [hU]; exact hP, va_K.moved hW.alike hK, hE.warm hW⟩
theorem pM.call {D : va_G} {ws : va_W} {tys : List (ClassId × FieldType)} {av : List Value} {s : State} {H : Heap} {A : Nat → Prop} (hP : va_P D vwCl ws H) (hK : va_K D vwCl tys s) (hD : va_D A ws) (hE : eN s) : ∀ U : State, U.heap = H → s.WarmedH U.vm → va_Pc av (pM D ws tys H.size) av.toArray U := fun U hU hW => ⟨rfl, by rw [hU], by rw [hU]; exact hP, va_K.moved hW.alike hK, hD.weaken (fun _ _ _ _ => trivial), hE.warm hW⟩
theorem pR.call {D : va_G} {ws : va_W} {tys : List (ClassId × FieldType)} {sa : Nat → Nat} {av : List Value} {s : State} {H0 H : Heap} {locs : List Loc} {A : Nat → Prop} (hP : va_P D vwCl ws H) (hK : va_K D vwCl tys s) (hE : eN s) (hX : eX sa A s H0) (hS : va_S A H0 H locs) (hF : ∀ q, va_A [] H.size q → A q) : ∀ U : State, U.heap = H → s.WarmedH U.vm → va_Pc av (pR D ws tys sa H.size) av.toArray U := fun U hU hW => ⟨rfl, by rw [hU], by rw [hU]; exact hP, va_K.moved hW.alike hK, hE.warm hW, by rw [hU]; exact eX.moved hW ((hX.kept hS.2.1).narrow hF)⟩
theorem pY.call {D : va_G} {ws : va_W} {tys : List (ClassId × FieldType)} {sa : Nat → Nat} {av : List Value} {s : State} {H0 H : Heap} {locs : List Loc} {A : Nat → Prop} (hP : va_P D vwCl ws H) (hK : va_K D vwCl tys s) (hD : va_D A ws) (hE : eN s) (hX : eX sa A s H0) (hS : va_S A H0 H locs) (hF : ∀ q, va_A ws H.size q → A q) : ∀ U : State, U.heap = H → s.WarmedH U.vm → va_Pc av (pY D ws tys sa H.size) av.toArray U := fun U hU hW => ⟨rfl, by rw [hU], by rw [hU]; exact hP, va_K.moved hW.alike hK, hD.weaken (fun _ _ _ _ => trivial), hE.warm hW, by rw [hU]; exact eX.moved hW ((hX.kept hS.2.1).narrow hF)⟩
theorem nilF {A : Nat → Prop} {H0 H : Heap} {locs : List Loc} (hS : va_S A H0 H locs) (hA : ∀ q, H0.size ≤ q → A q) : ∀ q, va_A [] H.size q → A q := fun q h => h.elim (fun ⟨k, e, hk⟩ => by simp at hk) (fun h => hA q (Nat.le_trans hS.1 h))
theorem nilP {D : va_G} {H : Heap} : va_P D vwCl [] H := fun k q h => by simp at h
theorem nilD {A : Nat → Prop} : va_D A [] := ⟨fun i j p q h => by simp at h, fun k q h => by simp at h⟩
theorem cAeq {D : va_G} {tys : List (ClassId × FieldType)} {s : State} (hK : va_K D vwCl tys s) {i j : Nat} {c1 c2 : ClassId} (h1 : tys[i]? = some (c1, .int)) (h2 : tys[j]? = some (c2, .int)) : c1 = c2 := Option.some.inj ((hK.2 i _ h1).2.symm.trans (hK.2 j _ h2).2)
theorem in2 {x : Int32} {n : Nat} (hn : n < 2 ^ 31) (h0 : ¬ x < 0) (h1 : ¬ nI n ≤ x) : vp_in x n := by
  obtain ⟨j, hj, rfl, -⟩ := pk_mu h0 h1 hn
  exact vp_in_nI hj hn
end
section
theorem zb {v : Int32} (h : v = 0 ∨ v = 1) : narrow .boolean (.int v) = .int v := by rcases h with rfl | rfl <;> decide
def fX1_asNumber (x : Int32) : Int32 := x <<< (1 &&& 31)
set_option maxHeartbeats 4000000 in
set_option maxRecDepth 100000 in
theorem ctX1_asNumber (l : Launch) (x : Int32) : Met l yX1_asNumber (kX1_asNumber :: gT) ({ frames := 0, cells := 0, slots := 0, locals := 0 }) (va_Pc [.int x] (fun _ => True)) (vp_Si (fun r => r = fX1_asNumber x)) 0 0 (fun _ => False) := by
  refine Met.ofW (cc := cX1_asNumber) (maxL := 1) (ret := (some .int)) (by decide) rfl ?_
  intro p e s m args below meth c s₁ B hml hv
  obtain ⟨rfl, -⟩ := hv
  have hx := B.exec
  have hb := B.bytes
  have hr := B.returns
  have ht : ∀ w ∈ gT, w.before ([.int x] : List Value).toArray s = true := fun w h => atoms_spec (ws := kX1_asNumber :: gT) B.pre w (List.mem_cons_of_mem _ h)
  have hown : s.vm.findClass RX1 = some m.cls := findClass_of_methodNamed B.named
  have hlocks := B.notSynchronized
  have hl := lv_entry ([.int x]) (n := 1) (Nat.le_of_ble_eq_true rfl)
  rw [lg_entry_eq]
  generalize (lg_sl ([.int x]) ++ List.replicate (1 - (lg_sl ([.int x])).length) Slot.unset).toArray = ls at hl ⊢
  have hl : lv_has ls 1 [(0, .int x)] := hl
  refine lv_iload_n hx hb dX1_asNumber_0 rfl (lv_at hl 0 rfl) ?_
  refine lv_iconst (v := 1) hx hb dX1_asNumber_1 (by decide) ?_
  refine lv_ishl hx hb dX1_asNumber_2 ?_
  exact W.iret (v := x <<< (1 &&& 31)) hx hb hr (fun t ht hW => ⟨_, rfl, rfl, ht⟩) (fun q hq => nomatch hq) dX1_asNumber_3
def fX1_asReference (x : Int32) : Int32 := (x <<< (1 &&& 31)) ||| 1
set_option maxHeartbeats 4000000 in
set_option maxRecDepth 100000 in
theorem ctX1_asReference (l : Launch) (x : Int32) : Met l yX1_asReference (kX1_asReference :: gT) ({ frames := 0, cells := 0, slots := 0, locals := 0 }) (va_Pc [.int x] (fun _ => True)) (vp_Si (fun r => r = fX1_asReference x)) 0 0 (fun _ => False) := by
  refine Met.ofW (cc := cX1_asReference) (maxL := 1) (ret := (some .int)) (by decide) rfl ?_
  intro p e s m args below meth c s₁ B hml hv
  obtain ⟨rfl, -⟩ := hv
  have hx := B.exec
  have hb := B.bytes
  have hr := B.returns
  have ht : ∀ w ∈ gT, w.before ([.int x] : List Value).toArray s = true := fun w h => atoms_spec (ws := kX1_asReference :: gT) B.pre w (List.mem_cons_of_mem _ h)
  have hown : s.vm.findClass RX1 = some m.cls := findClass_of_methodNamed B.named
  have hlocks := B.notSynchronized
  have hl := lv_entry ([.int x]) (n := 1) (Nat.le_of_ble_eq_true rfl)
  rw [lg_entry_eq]
  generalize (lg_sl ([.int x]) ++ List.replicate (1 - (lg_sl ([.int x])).length) Slot.unset).toArray = ls at hl ⊢
  have hl : lv_has ls 1 [(0, .int x)] := hl
  refine lv_iload_n hx hb dX1_asReference_0 rfl (lv_at hl 0 rfl) ?_
  refine lv_iconst (v := 1) hx hb dX1_asReference_1 (by decide) ?_
  refine lv_ishl hx hb dX1_asReference_2 ?_
  refine lv_iconst (v := 1) hx hb dX1_asReference_3 (by decide) ?_
  refine lv_ior hx hb dX1_asReference_4 ?_
  exact W.iret (v := (x <<< (1 &&& 31)) ||| 1) hx hb hr (fun t ht hW => ⟨_, rfl, rfl, ht⟩) (fun q hq => nomatch hq) dX1_asReference_5
def fX1_isReference (x : Int32) : Int32 := (if x &&& 1 = 0 then 0 else 1)
set_option maxHeartbeats 4000000 in
set_option maxRecDepth 100000 in
theorem ctX1_isReference (l : Launch) (x : Int32) : Met l yX1_isReference (kX1_isReference :: gT) ({ frames := 0, cells := 0, slots := 0, locals := 0 }) (va_Pc [.int x] (fun _ => True)) (vp_Si (fun r => r = fX1_isReference x)) 0 0 (fun _ => False) := by
  refine Met.ofW (cc := cX1_isReference) (maxL := 1) (ret := (some .boolean)) (by decide) rfl ?_
  intro p e s m args below meth c s₁ B hml hv
  obtain ⟨rfl, -⟩ := hv
  have hx := B.exec
  have hb := B.bytes
  have hr := B.returns
  have ht : ∀ w ∈ gT, w.before ([.int x] : List Value).toArray s = true := fun w h => atoms_spec (ws := kX1_isReference :: gT) B.pre w (List.mem_cons_of_mem _ h)
  have hown : s.vm.findClass RX1 = some m.cls := findClass_of_methodNamed B.named
  have hlocks := B.notSynchronized
  have hl := lv_entry ([.int x]) (n := 1) (Nat.le_of_ble_eq_true rfl)
  rw [lg_entry_eq]
  generalize (lg_sl ([.int x]) ++ List.replicate (1 - (lg_sl ([.int x])).length) Slot.unset).toArray = ls at hl ⊢
  have hl : lv_has ls 1 [(0, .int x)] := hl
  refine lv_iload_n hx hb dX1_isReference_0 rfl (lv_at hl 0 rfl) ?_
  refine lv_iconst (v := 1) hx hb dX1_isReference_1 (by decide) ?_
  refine lv_iand hx hb dX1_isReference_2 ?_
  refine lv_if_eq (tgt := 10) hx hb dX1_isReference_3 (by decide) (fun c_1 => ?_) (fun c_1 => ?_)
  · refine lv_iconst (v := 0) hx hb dX1_isReference_10 (by decide) ?_
    exact W.zret (v := 0) hx hb hr (by decide) (fun t ht hW => ⟨_, rfl, (by simp only [fX1_isReference, if_pos c_1]), ht⟩) (fun q hq => nomatch hq) dX1_isReference_11
  · refine lv_iconst (v := 1) hx hb dX1_isReference_6 (by decide) ?_
    refine lv_goto (tgt := 11) hx hb dX1_isReference_7 (by decide) ?_
    exact W.zret (v := 1) hx hb hr (by decide) (fun t ht hW => ⟨_, rfl, (by simp only [fX1_isReference, if_neg c_1]), ht⟩) (fun q hq => nomatch hq) dX1_isReference_11
def fX1_content (x : Int32) : Int32 := x >>> (1 &&& 31)
set_option maxHeartbeats 4000000 in
set_option maxRecDepth 100000 in
theorem ctX1_content (l : Launch) (x : Int32) : Met l yX1_content (kX1_content :: gT) ({ frames := 0, cells := 0, slots := 0, locals := 0 }) (va_Pc [.int x] (fun _ => True)) (vp_Si (fun r => r = fX1_content x)) 0 0 (fun _ => False) := by
  refine Met.ofW (cc := cX1_content) (maxL := 1) (ret := (some .int)) (by decide) rfl ?_
  intro p e s m args below meth c s₁ B hml hv
  obtain ⟨rfl, -⟩ := hv
  have hx := B.exec
  have hb := B.bytes
  have hr := B.returns
  have ht : ∀ w ∈ gT, w.before ([.int x] : List Value).toArray s = true := fun w h => atoms_spec (ws := kX1_content :: gT) B.pre w (List.mem_cons_of_mem _ h)
  have hown : s.vm.findClass RX1 = some m.cls := findClass_of_methodNamed B.named
  have hlocks := B.notSynchronized
  have hl := lv_entry ([.int x]) (n := 1) (Nat.le_of_ble_eq_true rfl)
  rw [lg_entry_eq]
  generalize (lg_sl ([.int x]) ++ List.replicate (1 - (lg_sl ([.int x])).length) Slot.unset).toArray = ls at hl ⊢
  have hl : lv_has ls 1 [(0, .int x)] := hl
  refine lv_iload_n hx hb dX1_content_0 rfl (lv_at hl 0 rfl) ?_
  refine lv_iconst (v := 1) hx hb dX1_content_1 (by decide) ?_
  refine lv_ishr hx hb dX1_content_2 ?_
  exact W.iret (v := x >>> (1 &&& 31)) hx hb hr (fun t ht hW => ⟨_, rfl, rfl, ht⟩) (fun q hq => nomatch hq) dX1_content_3
def fX0_hasRoomFor (n : Nat) (us : Int32) (ip : Int32) : Int32 := (if (nI n) - us < ip then 0 else 1)
set_option maxHeartbeats 4000000 in
set_option maxRecDepth 100000 in
theorem ctX0_hasRoomFor (l : Launch) (dC : Nat → ClassId) (dI : Nat → Nat → Nat) (cI : ClassId) (ha : Nat) (wa : Nat) (n : Nat) (us : Int32) (ob : Int32) (f : Nat → Int32) (ip : Int32) : Met l yX0_hasRoomFor (kX0_hasRoomFor :: gT) ({ frames := 0, cells := 0, slots := 0, locals := 0 }) (va_Pc [.ref ha, .int ip] (pS (dC, dI) [(ha, .inr (0, [.ref wa, .int us, .int ob])), (wa, .inl (cI, n, .inl f))] [(cI, .int)])) (vp_Si (fun r => r = fX0_hasRoomFor n us ip)) 0 0 (fun _ => False) := by
  refine Met.ofW (cc := cX0_hasRoomFor) (maxL := 2) (ret := (some .boolean)) (by decide) rfl ?_
  intro p e s m args below meth c s₁ B hml hv
  obtain ⟨rfl, hP, hK, hE⟩ := hv
  have hx := B.exec
  have hb := B.bytes
  have hr := B.returns
  have ht : ∀ w ∈ gT, w.before ([.ref ha, .int ip] : List Value).toArray s = true := fun w h => atoms_spec (ws := kX0_hasRoomFor :: gT) B.pre w (List.mem_cons_of_mem _ h)
  have hown : s.vm.findClass RX0 = some m.cls := findClass_of_methodNamed B.named
  have hlocks := B.notSynchronized
  have hl := lv_entry ([.ref ha, .int ip]) (n := 2) (Nat.le_of_ble_eq_true rfl)
  rw [lg_entry_eq]
  generalize (lg_sl ([.ref ha, .int ip]) ++ List.replicate (2 - (lg_sl ([.ref ha, .int ip])).length) Slot.unset).toArray = ls at hl ⊢
  have hl : lv_has ls 2 [(0, .ref ha), (1, .int ip)] := hl
  refine lv_iload_n hx hb dX0_hasRoomFor_0 rfl (lv_at hl 1 rfl) ?_
  refine lv_aload_n hx hb dX0_hasRoomFor_1 rfl (lv_at hl 0 rfl) ?_
  refine va_get (D := (dC, dI)) (ci := 0) (v := .ref wa) (C := RX0) (T := TX0) (N := 3) hx hb ht iX0 hown hK hP 0 rfl rfl 0 (by decide) (ht _ g_24) (fun _ h9 => h9) rfl dX0_hasRoomFor_2 ?_
  refine va_alen (v := nI n) hx hb hK hP 1 0 rfl rfl rfl dX0_hasRoomFor_5 ?_
  refine lv_aload_n hx hb dX0_hasRoomFor_6 rfl (lv_at hl 0 rfl) ?_
  refine va_get (D := (dC, dI)) (ci := 0) (v := .int us) (C := RX0) (T := TX0) (N := 3) hx hb ht iX0 hown hK hP 0 rfl rfl 1 (by decide) (ht _ g_26) (fun _ h9 => h9) rfl dX0_hasRoomFor_7 ?_
  refine lv_isub hx hb dX0_hasRoomFor_10 ?_
  refine lv_icmp_gt (tgt := 18) hx hb dX0_hasRoomFor_11 (by decide) (fun c_1 => ?_) (fun c_1 => ?_)
  · refine lv_iconst (v := 0) hx hb dX0_hasRoomFor_18 (by decide) ?_
    exact W.zret (v := 0) hx hb hr (by decide) (fun t ht hW => ⟨_, rfl, (by simp only [fX0_hasRoomFor, if_pos c_1]), ht⟩) (fun q hq => nomatch hq) dX0_hasRoomFor_19
  · refine lv_iconst (v := 1) hx hb dX0_hasRoomFor_14 (by decide) ?_
    refine lv_goto (tgt := 19) hx hb dX0_hasRoomFor_15 (by decide) ?_
    exact W.zret (v := 1) hx hb hr (by decide) (fun t ht hW => ⟨_, rfl, (by simp only [fX0_hasRoomFor, if_neg c_1]), ht⟩) (fun q hq => nomatch hq) dX0_hasRoomFor_19
def fX0_holds (us : Int32) (ip : Int32) : Int32 := (if ip < 0 then 0 else (if us ≤ ip then 0 else 1))
set_option maxHeartbeats 4000000 in
set_option maxRecDepth 100000 in
theorem ctX0_holds (l : Launch) (dC : Nat → ClassId) (dI : Nat → Nat → Nat) (cI : ClassId) (ha : Nat) (wa : Nat) (n : Nat) (us : Int32) (ob : Int32) (f : Nat → Int32) (ip : Int32) : Met l yX0_holds (kX0_holds :: gT) ({ frames := 0, cells := 0, slots := 0, locals := 0 }) (va_Pc [.ref ha, .int ip] (pS (dC, dI) [(ha, .inr (0, [.ref wa, .int us, .int ob])), (wa, .inl (cI, n, .inl f))] [(cI, .int)])) (vp_Si (fun r => r = fX0_holds us ip)) 0 0 (fun _ => False) := by
  refine Met.ofW (cc := cX0_holds) (maxL := 2) (ret := (some .boolean)) (by decide) rfl ?_
  intro p e s m args below meth c s₁ B hml hv
  obtain ⟨rfl, hP, hK, hE⟩ := hv
  have hx := B.exec
  have hb := B.bytes
  have hr := B.returns
  have ht : ∀ w ∈ gT, w.before ([.ref ha, .int ip] : List Value).toArray s = true := fun w h => atoms_spec (ws := kX0_holds :: gT) B.pre w (List.mem_cons_of_mem _ h)
  have hown : s.vm.findClass RX0 = some m.cls := findClass_of_methodNamed B.named
  have hlocks := B.notSynchronized
  have hl := lv_entry ([.ref ha, .int ip]) (n := 2) (Nat.le_of_ble_eq_true rfl)
  rw [lg_entry_eq]
  generalize (lg_sl ([.ref ha, .int ip]) ++ List.replicate (2 - (lg_sl ([.ref ha, .int ip])).length) Slot.unset).toArray = ls at hl ⊢
  have hl : lv_has ls 2 [(0, .ref ha), (1, .int ip)] := hl
  refine lv_iload_n hx hb dX0_holds_0 rfl (lv_at hl 1 rfl) ?_
  refine lv_if_lt (tgt := 16) hx hb dX0_holds_1 (by decide) (fun c_1 => ?_) (fun c_1 => ?_)
  · refine lv_iconst (v := 0) hx hb dX0_holds_16 (by decide) ?_
    exact W.zret (v := 0) hx hb hr (by decide) (fun t ht hW => ⟨_, rfl, (by simp only [fX0_holds, if_pos c_1]), ht⟩) (fun q hq => nomatch hq) dX0_holds_17
  · refine lv_iload_n hx hb dX0_holds_4 rfl (lv_at hl 1 rfl) ?_
    refine lv_aload_n hx hb dX0_holds_5 rfl (lv_at hl 0 rfl) ?_
    refine va_get (D := (dC, dI)) (ci := 0) (v := .int us) (C := RX0) (T := TX0) (N := 3) hx hb ht iX0 hown hK hP 0 rfl rfl 1 (by decide) (ht _ g_26) (fun _ h9 => h9) rfl dX0_holds_6 ?_
    refine lv_icmp_ge (tgt := 16) hx hb dX0_holds_9 (by decide) (fun c_2 => ?_) (fun c_2 => ?_)
    · refine lv_iconst (v := 0) hx hb dX0_holds_16 (by decide) ?_
      exact W.zret (v := 0) hx hb hr (by decide) (fun t ht hW => ⟨_, rfl, (by simp only [fX0_holds, if_neg c_1, if_pos c_2]), ht⟩) (fun q hq => nomatch hq) dX0_holds_17
    · refine lv_iconst (v := 1) hx hb dX0_holds_12 (by decide) ?_
      refine lv_goto (tgt := 17) hx hb dX0_holds_13 (by decide) ?_
      exact W.zret (v := 1) hx hb hr (by decide) (fun t ht hW => ⟨_, rfl, (by simp only [fX0_holds, if_neg c_1, if_neg c_2]), ht⟩) (fun q hq => nomatch hq) dX0_holds_17
def fX0_wordAt (n : Nat) (f : Nat → Int32) (ip : Int32) : Int32 := (if ip < 0 then 0 else (if nI n ≤ ip then 0 else f ip.toNatClampNeg))
set_option maxHeartbeats 4000000 in
set_option maxRecDepth 100000 in
theorem ctX0_wordAt (l : Launch) (dC : Nat → ClassId) (dI : Nat → Nat → Nat) (cI : ClassId) (ha : Nat) (wa : Nat) (n : Nat) (us : Int32) (ob : Int32) (f : Nat → Int32) (ip : Int32) (hn : n < 2 ^ 31) : Met l yX0_wordAt (kX0_wordAt :: gT) ({ frames := 0, cells := 0, slots := 0, locals := 0 }) (va_Pc [.ref ha, .int ip] (pS (dC, dI) [(ha, .inr (0, [.ref wa, .int us, .int ob])), (wa, .inl (cI, n, .inl f))] [(cI, .int)])) (vp_Si (fun r => r = fX0_wordAt n f ip)) 0 0 (fun _ => False) := by
  refine Met.ofW (cc := cX0_wordAt) (maxL := 2) (ret := (some .int)) (by decide) rfl ?_
  intro p e s m args below meth c s₁ B hml hv
  obtain ⟨rfl, hP, hK, hE⟩ := hv
  have hx := B.exec
  have hb := B.bytes
  have hr := B.returns
  have ht : ∀ w ∈ gT, w.before ([.ref ha, .int ip] : List Value).toArray s = true := fun w h => atoms_spec (ws := kX0_wordAt :: gT) B.pre w (List.mem_cons_of_mem _ h)
  have hown : s.vm.findClass RX0 = some m.cls := findClass_of_methodNamed B.named
  have hlocks := B.notSynchronized
  have hl := lv_entry ([.ref ha, .int ip]) (n := 2) (Nat.le_of_ble_eq_true rfl)
  rw [lg_entry_eq]
  generalize (lg_sl ([.ref ha, .int ip]) ++ List.replicate (2 - (lg_sl ([.ref ha, .int ip])).length) Slot.unset).toArray = ls at hl ⊢
  have hl : lv_has ls 2 [(0, .ref ha), (1, .int ip)] := hl
  refine lv_iload_n hx hb dX0_wordAt_0 rfl (lv_at hl 1 rfl) ?_
  refine lv_if_lt (tgt := 22) hx hb dX0_wordAt_1 (by decide) (fun c_1 => ?_) (fun c_1 => ?_)
  · refine lv_iconst (v := 0) hx hb dX0_wordAt_22 (by decide) ?_
    exact W.iret (v := 0) hx hb hr (fun t ht hW => ⟨_, rfl, (by simp only [fX0_wordAt, if_pos c_1]), ht⟩) (fun q hq => nomatch hq) dX0_wordAt_23
  · refine lv_iload_n hx hb dX0_wordAt_4 rfl (lv_at hl 1 rfl) ?_
    refine lv_aload_n hx hb dX0_wordAt_5 rfl (lv_at hl 0 rfl) ?_
    refine va_get (D := (dC, dI)) (ci := 0) (v := .ref wa) (C := RX0) (T := TX0) (N := 3) hx hb ht iX0 hown hK hP 0 rfl rfl 0 (by decide) (ht _ g_24) (fun _ h9 => h9) rfl dX0_wordAt_6 ?_
    refine va_alen (v := nI n) hx hb hK hP 1 0 rfl rfl rfl dX0_wordAt_9 ?_
    refine lv_icmp_ge (tgt := 22) hx hb dX0_wordAt_10 (by decide) (fun c_2 => ?_) (fun c_2 => ?_)
    · refine lv_iconst (v := 0) hx hb dX0_wordAt_22 (by decide) ?_
      exact W.iret (v := 0) hx hb hr (fun t ht hW => ⟨_, rfl, (by simp only [fX0_wordAt, if_neg c_1, if_pos c_2]), ht⟩) (fun q hq => nomatch hq) dX0_wordAt_23
    · refine lv_aload_n hx hb dX0_wordAt_13 rfl (lv_at hl 0 rfl) ?_
      refine va_get (D := (dC, dI)) (ci := 0) (v := .ref wa) (C := RX0) (T := TX0) (N := 3) hx hb ht iX0 hown hK hP 0 rfl rfl 0 (by decide) (ht _ g_24) (fun _ h9 => h9) rfl dX0_wordAt_14 ?_
      refine lv_iload_n hx hb dX0_wordAt_17 rfl (lv_at hl 1 rfl) ?_
      refine va_iald hx hb hK hP 1 0 rfl rfl (in2 hn c_1 c_2) dX0_wordAt_18 ?_
      refine lv_goto (tgt := 23) hx hb dX0_wordAt_19 (by decide) ?_
      exact W.iret (v := f ip.toNatClampNeg) hx hb hr (fun t ht hW => ⟨_, rfl, (by simp only [fX0_wordAt, if_neg c_1, if_neg c_2]), ht⟩) (fun q hq => nomatch hq) dX0_wordAt_23
def fX0_kindAt (n : Nat) (f : Nat → Int32) (ip : Int32) : Int32 := (fX0_wordAt n f ip) &&& 1
set_option maxHeartbeats 4000000 in
set_option maxRecDepth 100000 in
theorem ctX0_kindAt (l : Launch) (dC : Nat → ClassId) (dI : Nat → Nat → Nat) (cI : ClassId) (ha : Nat) (wa : Nat) (n : Nat) (us : Int32) (ob : Int32) (f : Nat → Int32) (ip : Int32) (hn : n < 2 ^ 31) : Met l yX0_kindAt (kX0_kindAt :: gT) ({ frames := 1, cells := 0, slots := 0, locals := 21 }) (va_Pc [.ref ha, .int ip] (pS (dC, dI) [(ha, .inr (0, [.ref wa, .int us, .int ob])), (wa, .inl (cI, n, .inl f))] [(cI, .int)])) (vp_Si (fun r => r = fX0_kindAt n f ip)) 0 0 (fun _ => False) := by
  refine Met.ofW (cc := cX0_kindAt) (maxL := 2) (ret := (some .int)) (by decide) rfl ?_
  intro p e s m args below meth c s₁ B hml hv
  obtain ⟨rfl, hP, hK, hE⟩ := hv
  have hx := B.exec
  have hb := B.bytes
  have hr := B.returns
  have ht : ∀ w ∈ gT, w.before ([.ref ha, .int ip] : List Value).toArray s = true := fun w h => atoms_spec (ws := kX0_kindAt :: gT) B.pre w (List.mem_cons_of_mem _ h)
  have hown : s.vm.findClass RX0 = some m.cls := findClass_of_methodNamed B.named
  have hlocks := B.notSynchronized
  have hl := lv_entry ([.ref ha, .int ip]) (n := 2) (Nat.le_of_ble_eq_true rfl)
  rw [lg_entry_eq]
  generalize (lg_sl ([.ref ha, .int ip]) ++ List.replicate (2 - (lg_sl ([.ref ha, .int ip])).length) Slot.unset).toArray = ls at hl ⊢
  have hl : lv_has ls 2 [(0, .ref ha), (1, .int ip)] := hl
  refine lv_aload_n hx hb dX0_kindAt_0 rfl (lv_at hl 0 rfl) ?_
  refine lv_iload_n hx hb dX0_kindAt_1 rfl (lv_at hl 1 rfl) ?_
  have hPc := hP.sub (ws' := [(ha, .inr (0, [.ref wa, .int us, .int ob])), (wa, .inl (cI, n, .inl f))]) [0, 1] rfl
  have hKc := hK.sub (tys' := [(cI, .int)]) [0] rfl
  refine vp_callSi (va_runV (As := [.int ip]) (rest := []) ⟨hx, hb, hml, hown, ht⟩ (ctX0_wordAt l dC dI cI ha wa n us ob f ip hn) (cwV 1 ht gcX0_22 rfl rfl rfl (by decide +kernel) ⟨Nat.le_of_ble_eq_true rfl, Nat.le_of_ble_eq_true rfl⟩) ⟨pS.blind, va_recv hKc hPc (ci := 0) (q0 := 0) rfl rfl, pS.call hPc hKc hE⟩ rfl rfl hl.1 rfl (lv_room (Nat.le_of_ble_eq_true rfl)) dX0_kindAt_2 ⟨Nat.le_of_ble_eq_true rfl, Nat.le_of_ble_eq_true rfl⟩).run (fun r_1 hr_1 => ?_)
  subst hr_1
  refine lv_iconst (v := 1) hx hb dX0_kindAt_5 (by decide) ?_
  refine lv_iand hx hb dX0_kindAt_6 ?_
  exact W.iret (v := (fX0_wordAt n f ip) &&& 1) hx hb hr (fun t ht hW => ⟨_, rfl, rfl, ht⟩) (fun q hq => nomatch hq) dX0_kindAt_7
def fX0_fieldsAt (n : Nat) (f : Nat → Int32) (ip : Int32) : Int32 := (fX0_wordAt n f ip) >>> (1 &&& 31)
set_option maxHeartbeats 4000000 in
set_option maxRecDepth 100000 in
theorem ctX0_fieldsAt (l : Launch) (dC : Nat → ClassId) (dI : Nat → Nat → Nat) (cI : ClassId) (ha : Nat) (wa : Nat) (n : Nat) (us : Int32) (ob : Int32) (f : Nat → Int32) (ip : Int32) (hn : n < 2 ^ 31) : Met l yX0_fieldsAt (kX0_fieldsAt :: gT) ({ frames := 1, cells := 0, slots := 0, locals := 21 }) (va_Pc [.ref ha, .int ip] (pS (dC, dI) [(ha, .inr (0, [.ref wa, .int us, .int ob])), (wa, .inl (cI, n, .inl f))] [(cI, .int)])) (vp_Si (fun r => r = fX0_fieldsAt n f ip)) 0 0 (fun _ => False) := by
  refine Met.ofW (cc := cX0_fieldsAt) (maxL := 2) (ret := (some .int)) (by decide) rfl ?_
  intro p e s m args below meth c s₁ B hml hv
  obtain ⟨rfl, hP, hK, hE⟩ := hv
  have hx := B.exec
  have hb := B.bytes
  have hr := B.returns
  have ht : ∀ w ∈ gT, w.before ([.ref ha, .int ip] : List Value).toArray s = true := fun w h => atoms_spec (ws := kX0_fieldsAt :: gT) B.pre w (List.mem_cons_of_mem _ h)
  have hown : s.vm.findClass RX0 = some m.cls := findClass_of_methodNamed B.named
  have hlocks := B.notSynchronized
  have hl := lv_entry ([.ref ha, .int ip]) (n := 2) (Nat.le_of_ble_eq_true rfl)
  rw [lg_entry_eq]
  generalize (lg_sl ([.ref ha, .int ip]) ++ List.replicate (2 - (lg_sl ([.ref ha, .int ip])).length) Slot.unset).toArray = ls at hl ⊢
  have hl : lv_has ls 2 [(0, .ref ha), (1, .int ip)] := hl
  refine lv_aload_n hx hb dX0_fieldsAt_0 rfl (lv_at hl 0 rfl) ?_
  refine lv_iload_n hx hb dX0_fieldsAt_1 rfl (lv_at hl 1 rfl) ?_
  have hPc := hP.sub (ws' := [(ha, .inr (0, [.ref wa, .int us, .int ob])), (wa, .inl (cI, n, .inl f))]) [0, 1] rfl
  have hKc := hK.sub (tys' := [(cI, .int)]) [0] rfl
  refine vp_callSi (va_runV (As := [.int ip]) (rest := []) ⟨hx, hb, hml, hown, ht⟩ (ctX0_wordAt l dC dI cI ha wa n us ob f ip hn) (cwV 1 ht gcX0_22 rfl rfl rfl (by decide +kernel) ⟨Nat.le_of_ble_eq_true rfl, Nat.le_of_ble_eq_true rfl⟩) ⟨pS.blind, va_recv hKc hPc (ci := 0) (q0 := 0) rfl rfl, pS.call hPc hKc hE⟩ rfl rfl hl.1 rfl (lv_room (Nat.le_of_ble_eq_true rfl)) dX0_fieldsAt_2 ⟨Nat.le_of_ble_eq_true rfl, Nat.le_of_ble_eq_true rfl⟩).run (fun r_1 hr_1 => ?_)
  subst hr_1
  refine lv_iconst (v := 1) hx hb dX0_fieldsAt_5 (by decide) ?_
  refine lv_ishr hx hb dX0_fieldsAt_6 ?_
  exact W.iret (v := (fX0_wordAt n f ip) >>> (1 &&& 31)) hx hb hr (fun t ht hW => ⟨_, rfl, rfl, ht⟩) (fun q hq => nomatch hq) dX0_fieldsAt_7
def fX0_empty (f : Nat → Int32) : Int32 × Int32 × (Nat → Int32) := (0, 0, f)
abbrev atX0_empty (dC : Nat → ClassId) (dI : Nat → Nat → Nat) (cI : ClassId) (A : Nat → Prop) (ha : Nat) (wa : Nat) (n : Nat) (u : Int32 × Int32 × (Nat → Int32)) (t : State) : Prop := va_P (dC, dI) vwCl [(ha, .inr (0, [.ref wa, .int u.1, .int u.2.1])), (wa, .inl (cI, n, .inl u.2.2))] t.heap ∧ va_K (dC, dI) vwCl [(cI, .int)] t ∧ va_D A [(ha, .inr (0, [.ref wa, .int u.1, .int u.2.1])), (wa, .inl (cI, n, .inl u.2.2))]
set_option maxHeartbeats 4000000 in
set_option maxRecDepth 100000 in
theorem ctX0_empty (l : Launch) (dC : Nat → ClassId) (dI : Nat → Nat → Nat) (cI : ClassId) (ha : Nat) (wa : Nat) (n : Nat) (us : Int32) (ob : Int32) (f : Nat → Int32) (sz : Nat) : Met l yX0_empty (kX0_empty :: gT) ({ frames := 0, cells := 0, slots := 0, locals := 0 }) (va_Pc [.ref ha] (pM (dC, dI) [(ha, .inr (0, [.ref wa, .int us, .int ob])), (wa, .inl (cI, n, .inl f))] [(cI, .int)] sz)) (va_Qv (fun u : Int32 × Int32 × (Nat → Int32) => u = fX0_empty f) (atX0_empty dC dI cI (va_A [(ha, .inr (0, [.ref wa, .int us, .int ob])), (wa, .inl (cI, n, .inl f))] sz) ha wa n) (va_A [(ha, .inr (0, [.ref wa, .int us, .int ob])), (wa, .inl (cI, n, .inl f))] sz)) 0 0 (va_A [(ha, .inr (0, [.ref wa, .int us, .int ob])), (wa, .inl (cI, n, .inl f))] sz) := by
  refine Met.ofW (cc := cX0_empty) (maxL := 1) (ret := none) (by decide) rfl ?_
  intro p e s m args below meth c s₁ B hml hv
  obtain ⟨rfl, hsz, hP, hK, hD0, hE⟩ := hv
  have hx := B.exec
  have hb := B.bytes
  have hr := B.returns
  have ht : ∀ w ∈ gT, w.before ([.ref ha] : List Value).toArray s = true := fun w h => atoms_spec (ws := kX0_empty :: gT) B.pre w (List.mem_cons_of_mem _ h)
  have hown : s.vm.findClass RX0 = some m.cls := findClass_of_methodNamed B.named
  have hlocks := B.notSynchronized
  subst hsz
  have hD := hD0.self (sz := s.heap.size)
  generalize hAe : va_A [(ha, .inr (0, [.ref wa, .int us, .int ob])), (wa, .inl (cI, n, .inl f))] s.heap.size = A at hD ⊢
  have hA : ∀ q : Nat, s.heap.size ≤ q → A q := fun q h => by rw [← hAe]; exact Or.inr h
  have hS : va_S A s.heap s.heap [] := va_S.rf
  have hl := lv_entry ([.ref ha]) (n := 1) (Nat.le_of_ble_eq_true rfl)
  rw [lg_entry_eq]
  generalize (lg_sl ([.ref ha]) ++ List.replicate (1 - (lg_sl ([.ref ha])).length) Slot.unset).toArray = ls at hl ⊢
  have hl : lv_has ls 1 [(0, .ref ha)] := hl
  refine lv_aload_n hx hb dX0_empty_0 rfl (lv_at hl 0 rfl) ?_
  refine lv_iconst (v := 0) hx hb dX0_empty_1 (by decide) ?_
  refine va_put (D := (dC, dI)) (ci := 0) (v := .int 0) (ty := .int) (C := RX0) (T := TX0) (N := 3) hx hb ht iX0 tyX0 tkX0 nmX0 hown hK hP hD hS 0 rfl rfl 1 (by decide) (ht _ g_26) (fun _ h9 => h9) rfl (by decide +kernel) rfl rfl (Nat.le_of_ble_eq_true rfl) dX0_empty_2 (fun H locs hP hD hS => ?_)
  have hP : va_P (dC, dI) vwCl [(ha, .inr (0, [.ref wa, .int 0, .int ob])), (wa, .inl (cI, n, .inl f))] H := hP
  have hD : va_D A [(ha, .inr (0, [.ref wa, .int 0, .int ob])), (wa, .inl (cI, n, .inl f))] := hD
  refine lv_aload_n hx hb dX0_empty_5 rfl (lv_at hl 0 rfl) ?_
  refine lv_iconst (v := 0) hx hb dX0_empty_6 (by decide) ?_
  refine va_put (D := (dC, dI)) (ci := 0) (v := .int 0) (ty := .int) (C := RX0) (T := TX0) (N := 3) hx hb ht iX0 tyX0 tkX0 nmX0 hown hK hP hD hS 0 rfl rfl 2 (by decide) (ht _ g_28) (fun _ h9 => h9) rfl (by decide +kernel) rfl rfl (Nat.le_of_ble_eq_true rfl) dX0_empty_7 (fun H locs hP hD hS => ?_)
  have hP : va_P (dC, dI) vwCl [(ha, .inr (0, [.ref wa, .int 0, .int 0])), (wa, .inl (cI, n, .inl f))] H := hP
  have hD : va_D A [(ha, .inr (0, [.ref wa, .int 0, .int 0])), (wa, .inl (cI, n, .inl f))] := hD
  have hP9 := hP.sub (ws' := [(ha, .inr (0, [.ref wa, .int 0, .int 0])), (wa, .inl (cI, n, .inl f))]) [0, 1] rfl
  have hD9 := hD.sub (ws' := [(ha, .inr (0, [.ref wa, .int 0, .int 0])), (wa, .inl (cI, n, .inl f))]) [0, 1] (by decide) rfl
  have hK9 := hK.sub (tys' := [(cI, .int)]) [0] rfl
  exact W.vret hx hb hr (fun t ht hW => ⟨⟨(0, 0, f), rfl, rfl, by rw [ht]; exact hP9, va_K.moved hW.alike hK9, hD9⟩, hS.F ht⟩) hS.2.2 dX0_empty_10
def fX0_setWord (n : Nat) (us : Int32) (ob : Int32) (f : Nat → Int32) (ip : Int32) (iq : Int32) : Int32 × Int32 × (Nat → Int32) := (if ip < 0 then (us, ob, f) else (if nI n ≤ ip then (us, ob, f) else (us, ob, upd f ip.toNatClampNeg iq)))
abbrev atX0_setWord (dC : Nat → ClassId) (dI : Nat → Nat → Nat) (cI : ClassId) (A : Nat → Prop) (ha : Nat) (wa : Nat) (n : Nat) (u : Int32 × Int32 × (Nat → Int32)) (t : State) : Prop := va_P (dC, dI) vwCl [(ha, .inr (0, [.ref wa, .int u.1, .int u.2.1])), (wa, .inl (cI, n, .inl u.2.2))] t.heap ∧ va_K (dC, dI) vwCl [(cI, .int)] t ∧ va_D A [(ha, .inr (0, [.ref wa, .int u.1, .int u.2.1])), (wa, .inl (cI, n, .inl u.2.2))]
set_option maxHeartbeats 4000000 in
set_option maxRecDepth 100000 in
theorem ctX0_setWord (l : Launch) (dC : Nat → ClassId) (dI : Nat → Nat → Nat) (cI : ClassId) (ha : Nat) (wa : Nat) (n : Nat) (us : Int32) (ob : Int32) (f : Nat → Int32) (ip : Int32) (iq : Int32) (sz : Nat) (hn : n < 2 ^ 31) : Met l yX0_setWord (kX0_setWord :: gT) ({ frames := 0, cells := 0, slots := 0, locals := 0 }) (va_Pc [.ref ha, .int ip, .int iq] (pM (dC, dI) [(ha, .inr (0, [.ref wa, .int us, .int ob])), (wa, .inl (cI, n, .inl f))] [(cI, .int)] sz)) (va_Qv (fun u : Int32 × Int32 × (Nat → Int32) => u = fX0_setWord n us ob f ip iq) (atX0_setWord dC dI cI (va_A [(ha, .inr (0, [.ref wa, .int us, .int ob])), (wa, .inl (cI, n, .inl f))] sz) ha wa n) (va_A [(ha, .inr (0, [.ref wa, .int us, .int ob])), (wa, .inl (cI, n, .inl f))] sz)) 0 0 (va_A [(ha, .inr (0, [.ref wa, .int us, .int ob])), (wa, .inl (cI, n, .inl f))] sz) := by
  refine Met.ofW (cc := cX0_setWord) (maxL := 3) (ret := none) (by decide) rfl ?_
  intro p e s m args below meth c s₁ B hml hv
  obtain ⟨rfl, hsz, hP, hK, hD0, hE⟩ := hv
  have hx := B.exec
  have hb := B.bytes
  have hr := B.returns
  have ht : ∀ w ∈ gT, w.before ([.ref ha, .int ip, .int iq] : List Value).toArray s = true := fun w h => atoms_spec (ws := kX0_setWord :: gT) B.pre w (List.mem_cons_of_mem _ h)
  have hown : s.vm.findClass RX0 = some m.cls := findClass_of_methodNamed B.named
  have hlocks := B.notSynchronized
  subst hsz
  have hD := hD0.self (sz := s.heap.size)
  generalize hAe : va_A [(ha, .inr (0, [.ref wa, .int us, .int ob])), (wa, .inl (cI, n, .inl f))] s.heap.size = A at hD ⊢
  have hA : ∀ q : Nat, s.heap.size ≤ q → A q := fun q h => by rw [← hAe]; exact Or.inr h
  have hS : va_S A s.heap s.heap [] := va_S.rf
  have hl := lv_entry ([.ref ha, .int ip, .int iq]) (n := 3) (Nat.le_of_ble_eq_true rfl)
  rw [lg_entry_eq]
  generalize (lg_sl ([.ref ha, .int ip, .int iq]) ++ List.replicate (3 - (lg_sl ([.ref ha, .int ip, .int iq])).length) Slot.unset).toArray = ls at hl ⊢
  have hl : lv_has ls 3 [(0, .ref ha), (1, .int ip), (2, .int iq)] := hl
  refine lv_iload_n hx hb dX0_setWord_0 rfl (lv_at hl 1 rfl) ?_
  refine lv_if_lt (tgt := 20) hx hb dX0_setWord_1 (by decide) (fun c_1 => ?_) (fun c_1 => ?_)
  · have hP9 := hP.sub (ws' := [(ha, .inr (0, [.ref wa, .int us, .int ob])), (wa, .inl (cI, n, .inl f))]) [0, 1] rfl
    have hD9 := hD.sub (ws' := [(ha, .inr (0, [.ref wa, .int us, .int ob])), (wa, .inl (cI, n, .inl f))]) [0, 1] (by decide) rfl
    have hK9 := hK.sub (tys' := [(cI, .int)]) [0] rfl
    exact W.vret hx hb hr (fun t ht hW => ⟨⟨(us, ob, f), rfl, (by simp only [fX0_setWord, if_pos c_1]), by rw [ht]; exact hP9, va_K.moved hW.alike hK9, hD9⟩, hS.F ht⟩) hS.2.2 dX0_setWord_20
  · refine lv_iload_n hx hb dX0_setWord_4 rfl (lv_at hl 1 rfl) ?_
    refine lv_aload_n hx hb dX0_setWord_5 rfl (lv_at hl 0 rfl) ?_
    refine va_get (D := (dC, dI)) (ci := 0) (v := .ref wa) (C := RX0) (T := TX0) (N := 3) hx hb ht iX0 hown hK hP 0 rfl rfl 0 (by decide) (ht _ g_24) (fun _ h9 => h9) rfl dX0_setWord_6 ?_
    refine va_alen (v := nI n) hx hb hK hP 1 0 rfl rfl rfl dX0_setWord_9 ?_
    refine lv_icmp_ge (tgt := 20) hx hb dX0_setWord_10 (by decide) (fun c_2 => ?_) (fun c_2 => ?_)
    · have hP9 := hP.sub (ws' := [(ha, .inr (0, [.ref wa, .int us, .int ob])), (wa, .inl (cI, n, .inl f))]) [0, 1] rfl
      have hD9 := hD.sub (ws' := [(ha, .inr (0, [.ref wa, .int us, .int ob])), (wa, .inl (cI, n, .inl f))]) [0, 1] (by decide) rfl
      have hK9 := hK.sub (tys' := [(cI, .int)]) [0] rfl
      exact W.vret hx hb hr (fun t ht hW => ⟨⟨(us, ob, f), rfl, (by simp only [fX0_setWord, if_neg c_1, if_pos c_2]), by rw [ht]; exact hP9, va_K.moved hW.alike hK9, hD9⟩, hS.F ht⟩) hS.2.2 dX0_setWord_20
    · refine lv_aload_n hx hb dX0_setWord_13 rfl (lv_at hl 0 rfl) ?_
      refine va_get (D := (dC, dI)) (ci := 0) (v := .ref wa) (C := RX0) (T := TX0) (N := 3) hx hb ht iX0 hown hK hP 0 rfl rfl 0 (by decide) (ht _ g_24) (fun _ h9 => h9) rfl dX0_setWord_14 ?_
      refine lv_iload_n hx hb dX0_setWord_17 rfl (lv_at hl 1 rfl) ?_
      refine lv_iload_n hx hb dX0_setWord_18 rfl (lv_at hl 2 rfl) ?_
      refine va_iast hx hb hK hP hD hS 1 0 rfl rfl (in2 hn c_1 c_2) dX0_setWord_19 (fun H locs hP hD hS => ?_)
      have hP : va_P (dC, dI) vwCl [(ha, .inr (0, [.ref wa, .int us, .int ob])), (wa, .inl (cI, n, .inl (upd f ip.toNatClampNeg iq)))] H := hP
      have hD : va_D A [(ha, .inr (0, [.ref wa, .int us, .int ob])), (wa, .inl (cI, n, .inl (upd f ip.toNatClampNeg iq)))] := hD
      have hP9 := hP.sub (ws' := [(ha, .inr (0, [.ref wa, .int us, .int ob])), (wa, .inl (cI, n, .inl (upd f ip.toNatClampNeg iq)))]) [0, 1] rfl
      have hD9 := hD.sub (ws' := [(ha, .inr (0, [.ref wa, .int us, .int ob])), (wa, .inl (cI, n, .inl (upd f ip.toNatClampNeg iq)))]) [0, 1] (by decide) rfl
      have hK9 := hK.sub (tys' := [(cI, .int)]) [0] rfl
      exact W.vret hx hb hr (fun t ht hW => ⟨⟨(us, ob, upd f ip.toNatClampNeg iq), rfl, (by simp only [fX0_setWord, if_neg c_1, if_neg c_2]), by rw [ht]; exact hP9, va_K.moved hW.alike hK9, hD9⟩, hS.F ht⟩) hS.2.2 dX0_setWord_20
def fX0_addWord (n : Nat) (us : Int32) (ob : Int32) (f : Nat → Int32) (iq : Int32) : Int32 × Int32 × (Nat → Int32) := (((fX0_setWord n us ob f us iq).1) + 1, (fX0_setWord n us ob f us iq).2.1, (fX0_setWord n us ob f us iq).2.2)
abbrev atX0_addWord (dC : Nat → ClassId) (dI : Nat → Nat → Nat) (cI : ClassId) (A : Nat → Prop) (ha : Nat) (wa : Nat) (n : Nat) (u : Int32 × Int32 × (Nat → Int32)) (t : State) : Prop := va_P (dC, dI) vwCl [(ha, .inr (0, [.ref wa, .int u.1, .int u.2.1])), (wa, .inl (cI, n, .inl u.2.2))] t.heap ∧ va_K (dC, dI) vwCl [(cI, .int)] t ∧ va_D A [(ha, .inr (0, [.ref wa, .int u.1, .int u.2.1])), (wa, .inl (cI, n, .inl u.2.2))]
set_option maxHeartbeats 4000000 in
set_option maxRecDepth 100000 in
theorem ctX0_addWord (l : Launch) (dC : Nat → ClassId) (dI : Nat → Nat → Nat) (cI : ClassId) (ha : Nat) (wa : Nat) (n : Nat) (us : Int32) (ob : Int32) (f : Nat → Int32) (iq : Int32) (sz : Nat) (hn : n < 2 ^ 31) : Met l yX0_addWord (kX0_addWord :: gT) ({ frames := 1, cells := 0, slots := 0, locals := 22 }) (va_Pc [.ref ha, .int iq] (pM (dC, dI) [(ha, .inr (0, [.ref wa, .int us, .int ob])), (wa, .inl (cI, n, .inl f))] [(cI, .int)] sz)) (va_Qv (fun u : Int32 × Int32 × (Nat → Int32) => u = fX0_addWord n us ob f iq) (atX0_addWord dC dI cI (va_A [(ha, .inr (0, [.ref wa, .int us, .int ob])), (wa, .inl (cI, n, .inl f))] sz) ha wa n) (va_A [(ha, .inr (0, [.ref wa, .int us, .int ob])), (wa, .inl (cI, n, .inl f))] sz)) 0 0 (va_A [(ha, .inr (0, [.ref wa, .int us, .int ob])), (wa, .inl (cI, n, .inl f))] sz) := by
  refine Met.ofW (cc := cX0_addWord) (maxL := 2) (ret := none) (by decide) rfl ?_
  intro p e s m args below meth c s₁ B hml hv
  obtain ⟨rfl, hsz, hP, hK, hD0, hE⟩ := hv
  have hx := B.exec
  have hb := B.bytes
  have hr := B.returns
  have ht : ∀ w ∈ gT, w.before ([.ref ha, .int iq] : List Value).toArray s = true := fun w h => atoms_spec (ws := kX0_addWord :: gT) B.pre w (List.mem_cons_of_mem _ h)
  have hown : s.vm.findClass RX0 = some m.cls := findClass_of_methodNamed B.named
  have hlocks := B.notSynchronized
  subst hsz
  have hD := hD0.self (sz := s.heap.size)
  generalize hAe : va_A [(ha, .inr (0, [.ref wa, .int us, .int ob])), (wa, .inl (cI, n, .inl f))] s.heap.size = A at hD ⊢
  have hA : ∀ q : Nat, s.heap.size ≤ q → A q := fun q h => by rw [← hAe]; exact Or.inr h
  have hS : va_S A s.heap s.heap [] := va_S.rf
  have hl := lv_entry ([.ref ha, .int iq]) (n := 2) (Nat.le_of_ble_eq_true rfl)
  rw [lg_entry_eq]
  generalize (lg_sl ([.ref ha, .int iq]) ++ List.replicate (2 - (lg_sl ([.ref ha, .int iq])).length) Slot.unset).toArray = ls at hl ⊢
  have hl : lv_has ls 2 [(0, .ref ha), (1, .int iq)] := hl
  refine lv_aload_n hx hb dX0_addWord_0 rfl (lv_at hl 0 rfl) ?_
  refine lv_aload_n hx hb dX0_addWord_1 rfl (lv_at hl 0 rfl) ?_
  refine va_get (D := (dC, dI)) (ci := 0) (v := .int us) (C := RX0) (T := TX0) (N := 3) hx hb ht iX0 hown hK hP 0 rfl rfl 1 (by decide) (ht _ g_26) (fun _ h9 => h9) rfl dX0_addWord_2 ?_
  refine lv_iload_n hx hb dX0_addWord_5 rfl (lv_at hl 1 rfl) ?_
  have hPc := hP.sub (ws' := [(ha, .inr (0, [.ref wa, .int us, .int ob])), (wa, .inl (cI, n, .inl f))]) [0, 1] rfl
  have hKc := hK.sub (tys' := [(cI, .int)]) [0] rfl
  have hDc := hD.sub (ws' := [(ha, .inr (0, [.ref wa, .int us, .int ob])), (wa, .inl (cI, n, .inl f))]) [0, 1] (by decide) rfl
  have hFc := va_free (wc := [(ha, .inr (0, [.ref wa, .int us, .int ob])), (wa, .inl (cI, n, .inl f))]) hD hS hA [0, 1] rfl
  refine va_callv (va_runV (As := [.int us, .int iq]) (rest := []) ⟨hx, hb, hml, hown, ht⟩ (ctX0_setWord l dC dI cI ha wa n us ob f us iq _ hn) (cwV 2 ht gcX0_40 rfl rfl rfl (by decide +kernel) ⟨Nat.le_of_ble_eq_true rfl, Nat.le_of_ble_eq_true rfl⟩) ⟨pM.blind, va_recv hKc hPc (ci := 0) (q0 := 0) rfl rfl, pM.call hPc hKc hDc hE⟩ rfl rfl hl.1 rfl (lv_room (Nat.le_of_ble_eq_true rfl)) dX0_addWord_6 ⟨Nat.le_of_ble_eq_true rfl, Nat.le_of_ble_eq_true rfl⟩) hS (fun q _ h => hFc q h) hFc (fun u_1 t H1 locs ht9 hvm hw hB hz1 hk1 hS => ?_)
  subst hw
  obtain ⟨hP1, hK1, hD1⟩ := hB
  rw [ht9] at hP1
  obtain ⟨hP, hD⟩ := va_join (wr := []) (w1 := [(ha, .inr (0, [.ref wa, .int ((fX0_setWord n us ob f us iq).1), .int ((fX0_setWord n us ob f us iq).2.1)])), (wa, .inl (cI, n, .inl ((fX0_setWord n us ob f us iq).2.2)))]) hP hD [0, 1] [] rfl rfl (by decide) (by decide) hk1 hFc hP1 hD1
  generalize H1 = H at hP hS ⊢
  have hP := hP.sub (ws' := [(ha, .inr (0, [.ref wa, .int ((fX0_setWord n us ob f us iq).1), .int ((fX0_setWord n us ob f us iq).2.1)])), (wa, .inl (cI, n, .inl ((fX0_setWord n us ob f us iq).2.2)))]) [0, 1] rfl
  have hD := hD.sub (ws' := [(ha, .inr (0, [.ref wa, .int ((fX0_setWord n us ob f us iq).1), .int ((fX0_setWord n us ob f us iq).2.1)])), (wa, .inl (cI, n, .inl ((fX0_setWord n us ob f us iq).2.2)))]) [0, 1] (by decide) rfl
  refine lv_aload_n hx hb dX0_addWord_9 rfl (lv_at hl 0 rfl) ?_
  refine lv_dup hx hb dX0_addWord_10 rfl ?_
  refine va_get (D := (dC, dI)) (ci := 0) (v := .int ((fX0_setWord n us ob f us iq).1)) (C := RX0) (T := TX0) (N := 3) hx hb ht iX0 hown hK hP 0 rfl rfl 1 (by decide) (ht _ g_26) (fun _ h9 => h9) rfl dX0_addWord_11 ?_
  refine lv_iconst (v := 1) hx hb dX0_addWord_14 (by decide) ?_
  refine lv_iadd hx hb dX0_addWord_15 ?_
  refine va_put (D := (dC, dI)) (ci := 0) (v := .int (((fX0_setWord n us ob f us iq).1) + 1)) (ty := .int) (C := RX0) (T := TX0) (N := 3) hx hb ht iX0 tyX0 tkX0 nmX0 hown hK hP hD hS 0 rfl rfl 1 (by decide) (ht _ g_26) (fun _ h9 => h9) rfl (by decide +kernel) rfl rfl (Nat.le_of_ble_eq_true rfl) dX0_addWord_16 (fun H locs hP hD hS => ?_)
  have hP : va_P (dC, dI) vwCl [(ha, .inr (0, [.ref wa, .int (((fX0_setWord n us ob f us iq).1) + 1), .int ((fX0_setWord n us ob f us iq).2.1)])), (wa, .inl (cI, n, .inl ((fX0_setWord n us ob f us iq).2.2)))] H := hP
  have hD : va_D A [(ha, .inr (0, [.ref wa, .int (((fX0_setWord n us ob f us iq).1) + 1), .int ((fX0_setWord n us ob f us iq).2.1)])), (wa, .inl (cI, n, .inl ((fX0_setWord n us ob f us iq).2.2)))] := hD
  have hP9 := hP.sub (ws' := [(ha, .inr (0, [.ref wa, .int (((fX0_setWord n us ob f us iq).1) + 1), .int ((fX0_setWord n us ob f us iq).2.1)])), (wa, .inl (cI, n, .inl ((fX0_setWord n us ob f us iq).2.2)))]) [0, 1] rfl
  have hD9 := hD.sub (ws' := [(ha, .inr (0, [.ref wa, .int (((fX0_setWord n us ob f us iq).1) + 1), .int ((fX0_setWord n us ob f us iq).2.1)])), (wa, .inl (cI, n, .inl ((fX0_setWord n us ob f us iq).2.2)))]) [0, 1] (by decide) rfl
  have hK9 := hK.sub (tys' := [(cI, .int)]) [0] rfl
  exact W.vret hx hb hr (fun t ht hW => ⟨⟨(((fX0_setWord n us ob f us iq).1) + 1, (fX0_setWord n us ob f us iq).2.1, (fX0_setWord n us ob f us iq).2.2), rfl, rfl, by rw [ht]; exact hP9, va_K.moved hW.alike hK9, hD9⟩, hS.F ht⟩) hS.2.2 dX0_addWord_19
def fX1_requireRegister (ip : Int32) : Nat × Int32 × Unit := (if ip < 0 then (1, 0, ()) else (if ip < 8 then (0, 0, ()) else (1, 0, ())))
set_option maxHeartbeats 4000000 in
set_option maxRecDepth 100000 in
theorem ctX1_requireRegister (l : Launch) (hl9 : l.stackTraces = false) (dC : Nat → ClassId) (dI : Nat → Nat → Nat) (cI : ClassId) (sa : Nat → Nat) (ip : Int32) (sz : Nat) : vx_Met l yX1_requireRegister (kX1_requireRegister :: gT) ({ frames := 6, cells := 1, slots := 6, locals := 90 }) (va_Pc [.int ip] (pR (dC, dI) [] [] sa sz)) (va_Qv (fun u : Unit => fX1_requireRegister ip = (0, 0, u)) (fun _ _ => True) (va_A [] sz)) (vx_X (fun v : Nat × Unit => fX1_requireRegister ip = (v.1, 0, v.2) ∧ v.1 ≠ 0) (fun E v _ => E = exN v.1) (va_A [] sz)) 1 6 (va_A [] sz) := by
  refine vx_ofW (cc := cX1_requireRegister) (maxL := 1) (ret := none) (by decide) rfl ?_
  intro p e s m args below meth c s₁ B hml hEx hv
  obtain ⟨rfl, hsz, hP, hK, hE, hX⟩ := hv
  have hx := B.exec
  have hb := B.bytes
  have hr := B.returns
  have ht : ∀ w ∈ gT, w.before ([.int ip] : List Value).toArray s = true := fun w h => atoms_spec (ws := kX1_requireRegister :: gT) B.pre w (List.mem_cons_of_mem _ h)
  have hown : s.vm.findClass RX1 = some m.cls := findClass_of_methodNamed B.named
  have hlocks := B.notSynchronized
  subst hsz
  generalize hAe : va_A [] s.heap.size = A at hX ⊢
  have hA : ∀ q : Nat, s.heap.size ≤ q → A q := fun q h => by rw [← hAe]; exact Or.inr h
  have hS : va_S A s.heap s.heap [] := va_S.rf
  have hl := lv_entry ([.int ip]) (n := 1) (Nat.le_of_ble_eq_true rfl)
  rw [lg_entry_eq]
  generalize (lg_sl ([.int ip]) ++ List.replicate (1 - (lg_sl ([.int ip])).length) Slot.unset).toArray = ls at hl ⊢
  have hl : lv_has ls 1 [(0, .int ip)] := hl
  refine lv_iload_n hx hb dX1_requireRegister_0 rfl (lv_at hl 0 rfl) ?_
  refine lv_if_lt (tgt := 10) hx hb dX1_requireRegister_1 (by decide) (fun c_1 => ?_) (fun c_1 => ?_)
  · exact vx_throwS (own := RX1) (cls := "java/lang/IllegalArgumentException") (names := ["java/lang/RuntimeException", "java/lang/Exception"]) hx hb hl9 hown (by decide +kernel) (by decide +kernel) (ht _ g_124) (ht _ g_7) hX.s120 (thA ht hE) toA hX.zU hX.zN hS (hl.1.trans hml.symm) dX1_requireRegister_10 dX1_requireRegister_13 dX1_requireRegister_14 dX1_requireRegister_16 dX1_requireRegister_19 (fun x hx => (hEx x hx).elim) (Nat.le_of_ble_eq_true rfl) (Nat.le_of_ble_eq_true rfl) (Nat.le_of_ble_eq_true rfl) (Nat.le_of_ble_eq_true rfl) hlocks (fun t ha hsz hk => ⟨(1, ()), ⟨(by simp only [fX1_requireRegister, if_pos c_1]), Nat.succ_ne_zero _⟩, rfl, Nat.le_trans hS.1 hsz, fun q h1 h2 => (hk q (Nat.lt_of_lt_of_le h1 hS.1)).trans (hS.2.1 q h1 h2)⟩) hS.2.2 (Nat.le_of_ble_eq_true rfl) (Nat.le_of_ble_eq_true rfl)
  · refine lv_iload_n hx hb dX1_requireRegister_4 rfl (lv_at hl 0 rfl) ?_
    refine lv_bipush (v := 8) hx hb dX1_requireRegister_5 (by decide) ?_
    refine lv_icmp_lt (tgt := 20) hx hb dX1_requireRegister_7 (by decide) (fun c_2 => ?_) (fun c_2 => ?_)
    · refine vx_ret ?_
      refine W.widen (k := 1) (n := 6) (Nat.le_of_ble_eq_true rfl) (Nat.le_of_ble_eq_true rfl) ?_
      exact W.vret hx hb hr (fun t ht hW => ⟨⟨(), rfl, (by simp only [fX1_requireRegister, if_neg c_1, if_pos c_2]), trivial⟩, hS.F ht⟩) hS.2.2 dX1_requireRegister_20
    · exact vx_throwS (own := RX1) (cls := "java/lang/IllegalArgumentException") (names := ["java/lang/RuntimeException", "java/lang/Exception"]) hx hb hl9 hown (by decide +kernel) (by decide +kernel) (ht _ g_124) (ht _ g_7) hX.s120 (thA ht hE) toA hX.zU hX.zN hS (hl.1.trans hml.symm) dX1_requireRegister_10 dX1_requireRegister_13 dX1_requireRegister_14 dX1_requireRegister_16 dX1_requireRegister_19 (fun x hx => (hEx x hx).elim) (Nat.le_of_ble_eq_true rfl) (Nat.le_of_ble_eq_true rfl) (Nat.le_of_ble_eq_true rfl) (Nat.le_of_ble_eq_true rfl) hlocks (fun t ha hsz hk => ⟨(1, ()), ⟨(by simp only [fX1_requireRegister, if_neg c_1, if_neg c_2]), Nat.succ_ne_zero _⟩, rfl, Nat.le_trans hS.1 hsz, fun q h1 h2 => (hk q (Nat.lt_of_lt_of_le h1 hS.1)).trans (hS.2.1 q h1 h2)⟩) hS.2.2 (Nat.le_of_ble_eq_true rfl) (Nat.le_of_ble_eq_true rfl)
end
section
def fX2_isRegister (x : Int32) : Int32 := (if x < 0 then 0 else (if 8 ≤ x then 0 else 1))
set_option maxHeartbeats 4000000 in
set_option maxRecDepth 100000 in
theorem ctX2_isRegister (l : Launch) (x : Int32) : Met l yX2_isRegister (kX2_isRegister :: gT) ({ frames := 0, cells := 0, slots := 0, locals := 0 }) (va_Pc [.int x] (fun _ => True)) (vp_Si (fun r => r = fX2_isRegister x)) 0 0 (fun _ => False) := by
  refine Met.ofW (cc := cX2_isRegister) (maxL := 1) (ret := (some .boolean)) (by decide) rfl ?_
  intro p e s m args below meth c s₁ B hml hv
  obtain ⟨rfl, -⟩ := hv
  have hx := B.exec
  have hb := B.bytes
  have hr := B.returns
  have ht : ∀ w ∈ gT, w.before ([.int x] : List Value).toArray s = true := fun w h => atoms_spec (ws := kX2_isRegister :: gT) B.pre w (List.mem_cons_of_mem _ h)
  have hown : s.vm.findClass RX2 = some m.cls := findClass_of_methodNamed B.named
  have hlocks := B.notSynchronized
  have hl := lv_entry ([.int x]) (n := 1) (Nat.le_of_ble_eq_true rfl)
  rw [lg_entry_eq]
  generalize (lg_sl ([.int x]) ++ List.replicate (1 - (lg_sl ([.int x])).length) Slot.unset).toArray = ls at hl ⊢
  have hl : lv_has ls 1 [(0, .int x)] := hl
  refine lv_iload_n hx hb dX2_isRegister_0 rfl (lv_at hl 0 rfl) ?_
  refine lv_if_lt (tgt := 14) hx hb dX2_isRegister_1 (by decide) (fun c_1 => ?_) (fun c_1 => ?_)
  · refine lv_iconst (v := 0) hx hb dX2_isRegister_14 (by decide) ?_
    exact W.zret (v := 0) hx hb hr (by decide) (fun t ht hW => ⟨_, rfl, (by simp only [fX2_isRegister, if_pos c_1]), ht⟩) (fun q hq => nomatch hq) dX2_isRegister_15
  · refine lv_iload_n hx hb dX2_isRegister_4 rfl (lv_at hl 0 rfl) ?_
    refine lv_bipush (v := 8) hx hb dX2_isRegister_5 (by decide) ?_
    refine lv_icmp_ge (tgt := 14) hx hb dX2_isRegister_7 (by decide) (fun c_2 => ?_) (fun c_2 => ?_)
    · refine lv_iconst (v := 0) hx hb dX2_isRegister_14 (by decide) ?_
      exact W.zret (v := 0) hx hb hr (by decide) (fun t ht hW => ⟨_, rfl, (by simp only [fX2_isRegister, if_neg c_1, if_pos c_2]), ht⟩) (fun q hq => nomatch hq) dX2_isRegister_15
    · refine lv_iconst (v := 1) hx hb dX2_isRegister_10 (by decide) ?_
      refine lv_goto (tgt := 15) hx hb dX2_isRegister_11 (by decide) ?_
      exact W.zret (v := 1) hx hb hr (by decide) (fun t ht hW => ⟨_, rfl, (by simp only [fX2_isRegister, if_neg c_1, if_neg c_2]), ht⟩) (fun q hq => nomatch hq) dX2_isRegister_15
theorem isReg {i : Int32} (h : ¬ fX2_isRegister i = 0) : vp_in i 8 := by
  unfold fX2_isRegister at h
  by_cases h0 : i < 0
  · rw [if_pos h0] at h; exact absurd rfl h
  · rw [if_neg h0] at h
    by_cases h1 : 8 ≤ i
    · rw [if_pos h1] at h; exact absurd rfl h
    · exact in2 (n := 8) (by decide) h0 h1
def fX2_kept (x : Int32) : Int32 := (x <<< (1 &&& 31)) >>> (1 &&& 31)
set_option maxHeartbeats 4000000 in
set_option maxRecDepth 100000 in
theorem ctX2_kept (l : Launch) (x : Int32) : Met l yX2_kept (kX2_kept :: gT) ({ frames := 0, cells := 0, slots := 0, locals := 0 }) (va_Pc [.int x] (fun _ => True)) (vp_Si (fun r => r = fX2_kept x)) 0 0 (fun _ => False) := by
  refine Met.ofW (cc := cX2_kept) (maxL := 1) (ret := (some .int)) (by decide) rfl ?_
  intro p e s m args below meth c s₁ B hml hv
  obtain ⟨rfl, -⟩ := hv
  have hx := B.exec
  have hb := B.bytes
  have hr := B.returns
  have ht : ∀ w ∈ gT, w.before ([.int x] : List Value).toArray s = true := fun w h => atoms_spec (ws := kX2_kept :: gT) B.pre w (List.mem_cons_of_mem _ h)
  have hown : s.vm.findClass RX2 = some m.cls := findClass_of_methodNamed B.named
  have hlocks := B.notSynchronized
  have hl := lv_entry ([.int x]) (n := 1) (Nat.le_of_ble_eq_true rfl)
  rw [lg_entry_eq]
  generalize (lg_sl ([.int x]) ++ List.replicate (1 - (lg_sl ([.int x])).length) Slot.unset).toArray = ls at hl ⊢
  have hl : lv_has ls 1 [(0, .int x)] := hl
  refine lv_iload_n hx hb dX2_kept_0 rfl (lv_at hl 0 rfl) ?_
  refine lv_iconst (v := 1) hx hb dX2_kept_1 (by decide) ?_
  refine lv_ishl hx hb dX2_kept_2 ?_
  refine lv_iconst (v := 1) hx hb dX2_kept_3 (by decide) ?_
  refine lv_ishr hx hb dX2_kept_4 ?_
  exact W.iret (v := (x <<< (1 &&& 31)) >>> (1 &&& 31)) hx hb hr (fun t ht hW => ⟨_, rfl, rfl, ht⟩) (fun q hq => nomatch hq) dX2_kept_5
def fX2_thrown (th : Int32) : Int32 := th
set_option maxHeartbeats 4000000 in
set_option maxRecDepth 100000 in
theorem ctX2_thrown (l : Launch) (dC : Nat → ClassId) (dI : Nat → Nat → Nat) (cI : ClassId) (mx : Nat) (aso : Nat) (ava : Nat) (ans : Nat) (anv : Nat) (ars : Nat) (arv : Nat) (ast : Nat) (ago : Nat) (th : Int32) (hf : Int32) (us : Int32) (col : Int32) (mov : Int32) (sty : Int32) (so : Nat → Int32) (va : Nat → Int32) (ns : Nat → Int32) (nv : Nat → Int32) (rs : Nat → Int32) (rv : Nat → Int32) (st : Nat → Int32) (go : Nat → Int32) : Met l yX2_thrown (kX2_thrown :: gT) ({ frames := 0, cells := 0, slots := 0, locals := 0 }) (va_Pc [.ref mx] (pS (dC, dI) [(mx, .inr (2, [.int th, .int hf, .int us, .int col, .int mov, .ref aso, .ref ava, .ref ans, .ref anv, .ref ars, .ref arv, .int sty, .ref ast, .ref ago])), (aso, .inl (cI, 2100, .inl so)), (ava, .inl (cI, 2100, .inl va)), (ans, .inl (cI, 2100, .inl ns)), (anv, .inl (cI, 2100, .inl nv)), (ars, .inl (cI, 8, .inl rs)), (arv, .inl (cI, 8, .inl rv)), (ast, .inl (cI, 2100, .inl st)), (ago, .inl (cI, 2100, .inl go))] [(cI, .int)])) (vp_Si (fun r => r = fX2_thrown th)) 0 0 (fun _ => False) := by
  refine Met.ofW (cc := cX2_thrown) (maxL := 1) (ret := (some .int)) (by decide) rfl ?_
  intro p e s m args below meth c s₁ B hml hv
  obtain ⟨rfl, hP, hK, hE⟩ := hv
  have hx := B.exec
  have hb := B.bytes
  have hr := B.returns
  have ht : ∀ w ∈ gT, w.before ([.ref mx] : List Value).toArray s = true := fun w h => atoms_spec (ws := kX2_thrown :: gT) B.pre w (List.mem_cons_of_mem _ h)
  have hown : s.vm.findClass RX2 = some m.cls := findClass_of_methodNamed B.named
  have hlocks := B.notSynchronized
  have hl := lv_entry ([.ref mx]) (n := 1) (Nat.le_of_ble_eq_true rfl)
  rw [lg_entry_eq]
  generalize (lg_sl ([.ref mx]) ++ List.replicate (1 - (lg_sl ([.ref mx])).length) Slot.unset).toArray = ls at hl ⊢
  have hl : lv_has ls 1 [(0, .ref mx)] := hl
  refine lv_aload_n hx hb dX2_thrown_0 rfl (lv_at hl 0 rfl) ?_
  refine va_get (D := (dC, dI)) (ci := 2) (v := .int th) (C := RX2) (T := TX2) (N := 14) hx hb ht iX2 hown hK hP 0 rfl rfl 0 (by decide) (ht _ g_326) (fun _ h9 => h9) rfl dX2_thrown_1 ?_
  exact W.iret (v := th) hx hb hr (fun t ht hW => ⟨_, rfl, rfl, ht⟩) (fun q hq => nomatch hq) dX2_thrown_4
def fX2_fail (th : Int32) (us : Int32) (col : Int32) (mov : Int32) (so : Nat → Int32) (va : Nat → Int32) (ns : Nat → Int32) (nv : Nat → Int32) (rs : Nat → Int32) (rv : Nat → Int32) (sty : Int32) (st : Nat → Int32) (go : Nat → Int32) (ip : Int32) : Int32 × Int32 × Int32 × Int32 × Int32 × (Nat → Int32) × (Nat → Int32) × (Nat → Int32) × (Nat → Int32) × (Nat → Int32) × (Nat → Int32) × Int32 × (Nat → Int32) × (Nat → Int32) := (0, (ip, us, col, mov, so, va, ns, nv, rs, rv, sty, st, go))
abbrev atX2_fail (dC : Nat → ClassId) (dI : Nat → Nat → Nat) (cI : ClassId) (A : Nat → Prop) (mx : Nat) (aso : Nat) (ava : Nat) (ans : Nat) (anv : Nat) (ars : Nat) (arv : Nat) (ast : Nat) (ago : Nat) (hf : Int32) (u : Int32 × Int32 × Int32 × Int32 × (Nat → Int32) × (Nat → Int32) × (Nat → Int32) × (Nat → Int32) × (Nat → Int32) × (Nat → Int32) × Int32 × (Nat → Int32) × (Nat → Int32)) (t : State) : Prop := va_P (dC, dI) vwCl [(mx, .inr (2, [.int u.1, .int hf, .int u.2.1, .int u.2.2.1, .int u.2.2.2.1, .ref aso, .ref ava, .ref ans, .ref anv, .ref ars, .ref arv, .int u.2.2.2.2.2.2.2.2.2.2.1, .ref ast, .ref ago])), (aso, .inl (cI, 2100, .inl u.2.2.2.2.1)), (ava, .inl (cI, 2100, .inl u.2.2.2.2.2.1)), (ans, .inl (cI, 2100, .inl u.2.2.2.2.2.2.1)), (anv, .inl (cI, 2100, .inl u.2.2.2.2.2.2.2.1)), (ars, .inl (cI, 8, .inl u.2.2.2.2.2.2.2.2.1)), (arv, .inl (cI, 8, .inl u.2.2.2.2.2.2.2.2.2.1)), (ast, .inl (cI, 2100, .inl u.2.2.2.2.2.2.2.2.2.2.2.1)), (ago, .inl (cI, 2100, .inl u.2.2.2.2.2.2.2.2.2.2.2.2))] t.heap ∧ va_K (dC, dI) vwCl [(cI, .int)] t ∧ va_D A [(mx, .inr (2, [.int u.1, .int hf, .int u.2.1, .int u.2.2.1, .int u.2.2.2.1, .ref aso, .ref ava, .ref ans, .ref anv, .ref ars, .ref arv, .int u.2.2.2.2.2.2.2.2.2.2.1, .ref ast, .ref ago])), (aso, .inl (cI, 2100, .inl u.2.2.2.2.1)), (ava, .inl (cI, 2100, .inl u.2.2.2.2.2.1)), (ans, .inl (cI, 2100, .inl u.2.2.2.2.2.2.1)), (anv, .inl (cI, 2100, .inl u.2.2.2.2.2.2.2.1)), (ars, .inl (cI, 8, .inl u.2.2.2.2.2.2.2.2.1)), (arv, .inl (cI, 8, .inl u.2.2.2.2.2.2.2.2.2.1)), (ast, .inl (cI, 2100, .inl u.2.2.2.2.2.2.2.2.2.2.2.1)), (ago, .inl (cI, 2100, .inl u.2.2.2.2.2.2.2.2.2.2.2.2))]
set_option maxHeartbeats 4000000 in
set_option maxRecDepth 100000 in
theorem ctX2_fail (l : Launch) (dC : Nat → ClassId) (dI : Nat → Nat → Nat) (cI : ClassId) (mx : Nat) (aso : Nat) (ava : Nat) (ans : Nat) (anv : Nat) (ars : Nat) (arv : Nat) (ast : Nat) (ago : Nat) (th : Int32) (hf : Int32) (us : Int32) (col : Int32) (mov : Int32) (sty : Int32) (so : Nat → Int32) (va : Nat → Int32) (ns : Nat → Int32) (nv : Nat → Int32) (rs : Nat → Int32) (rv : Nat → Int32) (st : Nat → Int32) (go : Nat → Int32) (ip : Int32) (sz : Nat) : Met l yX2_fail (kX2_fail :: gT) ({ frames := 0, cells := 0, slots := 0, locals := 0 }) (va_Pc [.ref mx, .int ip] (pM (dC, dI) [(mx, .inr (2, [.int th, .int hf, .int us, .int col, .int mov, .ref aso, .ref ava, .ref ans, .ref anv, .ref ars, .ref arv, .int sty, .ref ast, .ref ago])), (aso, .inl (cI, 2100, .inl so)), (ava, .inl (cI, 2100, .inl va)), (ans, .inl (cI, 2100, .inl ns)), (anv, .inl (cI, 2100, .inl nv)), (ars, .inl (cI, 8, .inl rs)), (arv, .inl (cI, 8, .inl rv)), (ast, .inl (cI, 2100, .inl st)), (ago, .inl (cI, 2100, .inl go))] [(cI, .int)] sz)) (va_Qi (fun (r : Int32) (u : Int32 × Int32 × Int32 × Int32 × (Nat → Int32) × (Nat → Int32) × (Nat → Int32) × (Nat → Int32) × (Nat → Int32) × (Nat → Int32) × Int32 × (Nat → Int32) × (Nat → Int32)) => (r, u) = fX2_fail th us col mov so va ns nv rs rv sty st go ip) (atX2_fail dC dI cI (va_A [(mx, .inr (2, [.int th, .int hf, .int us, .int col, .int mov, .ref aso, .ref ava, .ref ans, .ref anv, .ref ars, .ref arv, .int sty, .ref ast, .ref ago])), (aso, .inl (cI, 2100, .inl so)), (ava, .inl (cI, 2100, .inl va)), (ans, .inl (cI, 2100, .inl ns)), (anv, .inl (cI, 2100, .inl nv)), (ars, .inl (cI, 8, .inl rs)), (arv, .inl (cI, 8, .inl rv)), (ast, .inl (cI, 2100, .inl st)), (ago, .inl (cI, 2100, .inl go))] sz) mx aso ava ans anv ars arv ast ago hf) (va_A [(mx, .inr (2, [.int th, .int hf, .int us, .int col, .int mov, .ref aso, .ref ava, .ref ans, .ref anv, .ref ars, .ref arv, .int sty, .ref ast, .ref ago])), (aso, .inl (cI, 2100, .inl so)), (ava, .inl (cI, 2100, .inl va)), (ans, .inl (cI, 2100, .inl ns)), (anv, .inl (cI, 2100, .inl nv)), (ars, .inl (cI, 8, .inl rs)), (arv, .inl (cI, 8, .inl rv)), (ast, .inl (cI, 2100, .inl st)), (ago, .inl (cI, 2100, .inl go))] sz)) 0 0 (va_A [(mx, .inr (2, [.int th, .int hf, .int us, .int col, .int mov, .ref aso, .ref ava, .ref ans, .ref anv, .ref ars, .ref arv, .int sty, .ref ast, .ref ago])), (aso, .inl (cI, 2100, .inl so)), (ava, .inl (cI, 2100, .inl va)), (ans, .inl (cI, 2100, .inl ns)), (anv, .inl (cI, 2100, .inl nv)), (ars, .inl (cI, 8, .inl rs)), (arv, .inl (cI, 8, .inl rv)), (ast, .inl (cI, 2100, .inl st)), (ago, .inl (cI, 2100, .inl go))] sz) := by
  refine Met.ofW (cc := cX2_fail) (maxL := 2) (ret := (some .int)) (by decide) rfl ?_
  intro p e s m args below meth c s₁ B hml hv
  obtain ⟨rfl, hsz, hP, hK, hD0, hE⟩ := hv
  have hx := B.exec
  have hb := B.bytes
  have hr := B.returns
  have ht : ∀ w ∈ gT, w.before ([.ref mx, .int ip] : List Value).toArray s = true := fun w h => atoms_spec (ws := kX2_fail :: gT) B.pre w (List.mem_cons_of_mem _ h)
  have hown : s.vm.findClass RX2 = some m.cls := findClass_of_methodNamed B.named
  have hlocks := B.notSynchronized
  subst hsz
  have hD := hD0.self (sz := s.heap.size)
  generalize hAe : va_A [(mx, .inr (2, [.int th, .int hf, .int us, .int col, .int mov, .ref aso, .ref ava, .ref ans, .ref anv, .ref ars, .ref arv, .int sty, .ref ast, .ref ago])), (aso, .inl (cI, 2100, .inl so)), (ava, .inl (cI, 2100, .inl va)), (ans, .inl (cI, 2100, .inl ns)), (anv, .inl (cI, 2100, .inl nv)), (ars, .inl (cI, 8, .inl rs)), (arv, .inl (cI, 8, .inl rv)), (ast, .inl (cI, 2100, .inl st)), (ago, .inl (cI, 2100, .inl go))] s.heap.size = A at hD ⊢
  have hA : ∀ q : Nat, s.heap.size ≤ q → A q := fun q h => by rw [← hAe]; exact Or.inr h
  have hS : va_S A s.heap s.heap [] := va_S.rf
  have hl := lv_entry ([.ref mx, .int ip]) (n := 2) (Nat.le_of_ble_eq_true rfl)
  rw [lg_entry_eq]
  generalize (lg_sl ([.ref mx, .int ip]) ++ List.replicate (2 - (lg_sl ([.ref mx, .int ip])).length) Slot.unset).toArray = ls at hl ⊢
  have hl : lv_has ls 2 [(0, .ref mx), (1, .int ip)] := hl
  refine lv_aload_n hx hb dX2_fail_0 rfl (lv_at hl 0 rfl) ?_
  refine lv_iload_n hx hb dX2_fail_1 rfl (lv_at hl 1 rfl) ?_
  refine va_put (D := (dC, dI)) (ci := 2) (v := .int ip) (ty := .int) (C := RX2) (T := TX2) (N := 14) hx hb ht iX2 tyX2 tkX2 nmX2 hown hK hP hD hS 0 rfl rfl 0 (by decide) (ht _ g_326) (fun _ h9 => h9) rfl (by decide +kernel) rfl rfl (Nat.le_of_ble_eq_true rfl) dX2_fail_2 (fun H locs hP hD hS => ?_)
  have hP : va_P (dC, dI) vwCl [(mx, .inr (2, [.int ip, .int hf, .int us, .int col, .int mov, .ref aso, .ref ava, .ref ans, .ref anv, .ref ars, .ref arv, .int sty, .ref ast, .ref ago])), (aso, .inl (cI, 2100, .inl so)), (ava, .inl (cI, 2100, .inl va)), (ans, .inl (cI, 2100, .inl ns)), (anv, .inl (cI, 2100, .inl nv)), (ars, .inl (cI, 8, .inl rs)), (arv, .inl (cI, 8, .inl rv)), (ast, .inl (cI, 2100, .inl st)), (ago, .inl (cI, 2100, .inl go))] H := hP
  have hD : va_D A [(mx, .inr (2, [.int ip, .int hf, .int us, .int col, .int mov, .ref aso, .ref ava, .ref ans, .ref anv, .ref ars, .ref arv, .int sty, .ref ast, .ref ago])), (aso, .inl (cI, 2100, .inl so)), (ava, .inl (cI, 2100, .inl va)), (ans, .inl (cI, 2100, .inl ns)), (anv, .inl (cI, 2100, .inl nv)), (ars, .inl (cI, 8, .inl rs)), (arv, .inl (cI, 8, .inl rv)), (ast, .inl (cI, 2100, .inl st)), (ago, .inl (cI, 2100, .inl go))] := hD
  refine lv_iconst (v := 0) hx hb dX2_fail_5 (by decide) ?_
  have hP9 := hP.sub (ws' := [(mx, .inr (2, [.int ip, .int hf, .int us, .int col, .int mov, .ref aso, .ref ava, .ref ans, .ref anv, .ref ars, .ref arv, .int sty, .ref ast, .ref ago])), (aso, .inl (cI, 2100, .inl so)), (ava, .inl (cI, 2100, .inl va)), (ans, .inl (cI, 2100, .inl ns)), (anv, .inl (cI, 2100, .inl nv)), (ars, .inl (cI, 8, .inl rs)), (arv, .inl (cI, 8, .inl rv)), (ast, .inl (cI, 2100, .inl st)), (ago, .inl (cI, 2100, .inl go))]) [0, 1, 2, 3, 4, 5, 6, 7, 8] rfl
  have hD9 := hD.sub (ws' := [(mx, .inr (2, [.int ip, .int hf, .int us, .int col, .int mov, .ref aso, .ref ava, .ref ans, .ref anv, .ref ars, .ref arv, .int sty, .ref ast, .ref ago])), (aso, .inl (cI, 2100, .inl so)), (ava, .inl (cI, 2100, .inl va)), (ans, .inl (cI, 2100, .inl ns)), (anv, .inl (cI, 2100, .inl nv)), (ars, .inl (cI, 8, .inl rs)), (arv, .inl (cI, 8, .inl rv)), (ast, .inl (cI, 2100, .inl st)), (ago, .inl (cI, 2100, .inl go))]) [0, 1, 2, 3, 4, 5, 6, 7, 8] (by decide) rfl
  have hK9 := hK.sub (tys' := [(cI, .int)]) [0] rfl
  exact W.iret (v := 0) hx hb hr (fun t ht hW => ⟨⟨_, (ip, us, col, mov, so, va, ns, nv, rs, rv, sty, st, go), rfl, rfl, by rw [ht]; exact hP9, va_K.moved hW.alike hK9, hD9⟩, hS.F ht⟩) hS.2.2 dX2_fail_6
def fX2_fieldsAt (va : Nat → Int32) (ip : Int32) : Int32 := (va ip.toNatClampNeg) >>> (1 &&& 31)
set_option maxHeartbeats 4000000 in
set_option maxRecDepth 100000 in
theorem ctX2_fieldsAt (l : Launch) (dC : Nat → ClassId) (dI : Nat → Nat → Nat) (cI : ClassId) (mx : Nat) (aso : Nat) (ava : Nat) (ans : Nat) (anv : Nat) (ars : Nat) (arv : Nat) (ast : Nat) (ago : Nat) (th : Int32) (hf : Int32) (us : Int32) (col : Int32) (mov : Int32) (sty : Int32) (so : Nat → Int32) (va : Nat → Int32) (ns : Nat → Int32) (nv : Nat → Int32) (rs : Nat → Int32) (rv : Nat → Int32) (st : Nat → Int32) (go : Nat → Int32) (ip : Int32) (hi : vp_in ip 2100) : Met l yX2_fieldsAt (kX2_fieldsAt :: gT) ({ frames := 0, cells := 0, slots := 0, locals := 0 }) (va_Pc [.ref mx, .int ip] (pS (dC, dI) [(mx, .inr (2, [.int th, .int hf, .int us, .int col, .int mov, .ref aso, .ref ava, .ref ans, .ref anv, .ref ars, .ref arv, .int sty, .ref ast, .ref ago])), (aso, .inl (cI, 2100, .inl so)), (ava, .inl (cI, 2100, .inl va)), (ans, .inl (cI, 2100, .inl ns)), (anv, .inl (cI, 2100, .inl nv)), (ars, .inl (cI, 8, .inl rs)), (arv, .inl (cI, 8, .inl rv)), (ast, .inl (cI, 2100, .inl st)), (ago, .inl (cI, 2100, .inl go))] [(cI, .int)])) (vp_Si (fun r => r = fX2_fieldsAt va ip)) 0 0 (fun _ => False) := by
  refine Met.ofW (cc := cX2_fieldsAt) (maxL := 2) (ret := (some .int)) (by decide) rfl ?_
  intro p e s m args below meth c s₁ B hml hv
  obtain ⟨rfl, hP, hK, hE⟩ := hv
  have hx := B.exec
  have hb := B.bytes
  have hr := B.returns
  have ht : ∀ w ∈ gT, w.before ([.ref mx, .int ip] : List Value).toArray s = true := fun w h => atoms_spec (ws := kX2_fieldsAt :: gT) B.pre w (List.mem_cons_of_mem _ h)
  have hown : s.vm.findClass RX2 = some m.cls := findClass_of_methodNamed B.named
  have hlocks := B.notSynchronized
  have hl := lv_entry ([.ref mx, .int ip]) (n := 2) (Nat.le_of_ble_eq_true rfl)
  rw [lg_entry_eq]
  generalize (lg_sl ([.ref mx, .int ip]) ++ List.replicate (2 - (lg_sl ([.ref mx, .int ip])).length) Slot.unset).toArray = ls at hl ⊢
  have hl : lv_has ls 2 [(0, .ref mx), (1, .int ip)] := hl
  refine lv_aload_n hx hb dX2_fieldsAt_0 rfl (lv_at hl 0 rfl) ?_
  refine va_get (D := (dC, dI)) (ci := 2) (v := .ref ava) (C := RX2) (T := TX2) (N := 14) hx hb ht iX2 hown hK hP 0 rfl rfl 6 (by decide) (ht _ g_332) (fun _ h9 => h9) rfl dX2_fieldsAt_1 ?_
  refine lv_iload_n hx hb dX2_fieldsAt_4 rfl (lv_at hl 1 rfl) ?_
  refine va_iald hx hb hK hP 2 0 rfl rfl hi dX2_fieldsAt_5 ?_
  refine lv_iconst (v := 1) hx hb dX2_fieldsAt_6 (by decide) ?_
  refine lv_ishr hx hb dX2_fieldsAt_7 ?_
  exact W.iret (v := (va ip.toNatClampNeg) >>> (1 &&& 31)) hx hb hr (fun t ht hW => ⟨_, rfl, rfl, ht⟩) (fun q hq => nomatch hq) dX2_fieldsAt_8
def fX2_isRaw (va : Nat → Int32) (rs : Nat → Int32) (rv : Nat → Int32) (ip : Int32) : Int32 := (if rs ip.toNatClampNeg = 2 then (if (va (rv ip.toNatClampNeg).toNatClampNeg) &&& 1 = 1 then 1 else 0) else 0)
set_option maxHeartbeats 4000000 in
set_option maxRecDepth 100000 in
theorem ctX2_isRaw (l : Launch) (dC : Nat → ClassId) (dI : Nat → Nat → Nat) (cI : ClassId) (mx : Nat) (aso : Nat) (ava : Nat) (ans : Nat) (anv : Nat) (ars : Nat) (arv : Nat) (ast : Nat) (ago : Nat) (th : Int32) (hf : Int32) (us : Int32) (col : Int32) (mov : Int32) (sty : Int32) (so : Nat → Int32) (va : Nat → Int32) (ns : Nat → Int32) (nv : Nat → Int32) (rs : Nat → Int32) (rv : Nat → Int32) (st : Nat → Int32) (go : Nat → Int32) (ip : Int32) (hi : vp_in ip 8) (hv : rs ip.toNatClampNeg = 2 → vp_in (rv ip.toNatClampNeg) 2100) : Met l yX2_isRaw (kX2_isRaw :: gT) ({ frames := 0, cells := 0, slots := 0, locals := 0 }) (va_Pc [.ref mx, .int ip] (pS (dC, dI) [(mx, .inr (2, [.int th, .int hf, .int us, .int col, .int mov, .ref aso, .ref ava, .ref ans, .ref anv, .ref ars, .ref arv, .int sty, .ref ast, .ref ago])), (aso, .inl (cI, 2100, .inl so)), (ava, .inl (cI, 2100, .inl va)), (ans, .inl (cI, 2100, .inl ns)), (anv, .inl (cI, 2100, .inl nv)), (ars, .inl (cI, 8, .inl rs)), (arv, .inl (cI, 8, .inl rv)), (ast, .inl (cI, 2100, .inl st)), (ago, .inl (cI, 2100, .inl go))] [(cI, .int)])) (vp_Si (fun r => r = fX2_isRaw va rs rv ip)) 0 0 (fun _ => False) := by
  refine Met.ofW (cc := cX2_isRaw) (maxL := 2) (ret := (some .boolean)) (by decide) rfl ?_
  intro p e s m args below meth c s₁ B hml hv
  obtain ⟨rfl, hP, hK, hE⟩ := hv
  have hx := B.exec
  have hb := B.bytes
  have hr := B.returns
  have ht : ∀ w ∈ gT, w.before ([.ref mx, .int ip] : List Value).toArray s = true := fun w h => atoms_spec (ws := kX2_isRaw :: gT) B.pre w (List.mem_cons_of_mem _ h)
  have hown : s.vm.findClass RX2 = some m.cls := findClass_of_methodNamed B.named
  have hlocks := B.notSynchronized
  have hl := lv_entry ([.ref mx, .int ip]) (n := 2) (Nat.le_of_ble_eq_true rfl)
  rw [lg_entry_eq]
  generalize (lg_sl ([.ref mx, .int ip]) ++ List.replicate (2 - (lg_sl ([.ref mx, .int ip])).length) Slot.unset).toArray = ls at hl ⊢
  have hl : lv_has ls 2 [(0, .ref mx), (1, .int ip)] := hl
  refine lv_aload_n hx hb dX2_isRaw_0 rfl (lv_at hl 0 rfl) ?_
  refine va_get (D := (dC, dI)) (ci := 2) (v := .ref ars) (C := RX2) (T := TX2) (N := 14) hx hb ht iX2 hown hK hP 0 rfl rfl 9 (by decide) (ht _ g_335) (fun _ h9 => h9) rfl dX2_isRaw_1 ?_
  refine lv_iload_n hx hb dX2_isRaw_4 rfl (lv_at hl 1 rfl) ?_
  refine va_iald hx hb hK hP 5 0 rfl rfl hi dX2_isRaw_5 ?_
  refine lv_iconst (v := 2) hx hb dX2_isRaw_6 (by decide) ?_
  refine lv_icmp_ne (tgt := 31) hx hb dX2_isRaw_7 (by decide) (fun c_1 => ?_) (fun c_1 => ?_)
  · refine lv_iconst (v := 0) hx hb dX2_isRaw_31 (by decide) ?_
    exact W.zret (v := 0) hx hb hr (by decide) (fun t ht hW => ⟨_, rfl, (by simp only [fX2_isRaw, if_neg c_1]), ht⟩) (fun q hq => nomatch hq) dX2_isRaw_32
  · refine lv_aload_n hx hb dX2_isRaw_10 rfl (lv_at hl 0 rfl) ?_
    refine va_get (D := (dC, dI)) (ci := 2) (v := .ref ava) (C := RX2) (T := TX2) (N := 14) hx hb ht iX2 hown hK hP 0 rfl rfl 6 (by decide) (ht _ g_332) (fun _ h9 => h9) rfl dX2_isRaw_11 ?_
    refine lv_aload_n hx hb dX2_isRaw_14 rfl (lv_at hl 0 rfl) ?_
    refine va_get (D := (dC, dI)) (ci := 2) (v := .ref arv) (C := RX2) (T := TX2) (N := 14) hx hb ht iX2 hown hK hP 0 rfl rfl 10 (by decide) (ht _ g_336) (fun _ h9 => h9) rfl dX2_isRaw_15 ?_
    refine lv_iload_n hx hb dX2_isRaw_18 rfl (lv_at hl 1 rfl) ?_
    refine va_iald hx hb hK hP 6 0 rfl rfl hi dX2_isRaw_19 ?_
    refine va_iald hx hb hK hP 2 0 rfl rfl (hv c_1) dX2_isRaw_20 ?_
    refine lv_iconst (v := 1) hx hb dX2_isRaw_21 (by decide) ?_
    refine lv_iand hx hb dX2_isRaw_22 ?_
    refine lv_iconst (v := 1) hx hb dX2_isRaw_23 (by decide) ?_
    refine lv_icmp_ne (tgt := 31) hx hb dX2_isRaw_24 (by decide) (fun c_2 => ?_) (fun c_2 => ?_)
    · refine lv_iconst (v := 0) hx hb dX2_isRaw_31 (by decide) ?_
      exact W.zret (v := 0) hx hb hr (by decide) (fun t ht hW => ⟨_, rfl, (by simp only [fX2_isRaw, if_pos c_1, if_neg c_2]), ht⟩) (fun q hq => nomatch hq) dX2_isRaw_32
    · refine lv_iconst (v := 1) hx hb dX2_isRaw_27 (by decide) ?_
      refine lv_goto (tgt := 32) hx hb dX2_isRaw_28 (by decide) ?_
      exact W.zret (v := 1) hx hb hr (by decide) (fun t ht hW => ⟨_, rfl, (by simp only [fX2_isRaw, if_pos c_1, if_pos c_2]), ht⟩) (fun q hq => nomatch hq) dX2_isRaw_32
def fX2_hasField (va : Nat → Int32) (rv : Nat → Int32) (ip : Int32) (iq : Int32) : Int32 := (if iq < 0 then 0 else (if fX2_fieldsAt va (rv ip.toNatClampNeg) ≤ iq then 0 else 1))
set_option maxHeartbeats 4000000 in
set_option maxRecDepth 100000 in
theorem ctX2_hasField (l : Launch) (dC : Nat → ClassId) (dI : Nat → Nat → Nat) (cI : ClassId) (mx : Nat) (aso : Nat) (ava : Nat) (ans : Nat) (anv : Nat) (ars : Nat) (arv : Nat) (ast : Nat) (ago : Nat) (th : Int32) (hf : Int32) (us : Int32) (col : Int32) (mov : Int32) (sty : Int32) (so : Nat → Int32) (va : Nat → Int32) (ns : Nat → Int32) (nv : Nat → Int32) (rs : Nat → Int32) (rv : Nat → Int32) (st : Nat → Int32) (go : Nat → Int32) (ip : Int32) (iq : Int32) (hi : vp_in ip 8) (hv : vp_in (rv ip.toNatClampNeg) 2100) : Met l yX2_hasField (kX2_hasField :: gT) ({ frames := 1, cells := 0, slots := 0, locals := 21 }) (va_Pc [.ref mx, .int ip, .int iq] (pS (dC, dI) [(mx, .inr (2, [.int th, .int hf, .int us, .int col, .int mov, .ref aso, .ref ava, .ref ans, .ref anv, .ref ars, .ref arv, .int sty, .ref ast, .ref ago])), (aso, .inl (cI, 2100, .inl so)), (ava, .inl (cI, 2100, .inl va)), (ans, .inl (cI, 2100, .inl ns)), (anv, .inl (cI, 2100, .inl nv)), (ars, .inl (cI, 8, .inl rs)), (arv, .inl (cI, 8, .inl rv)), (ast, .inl (cI, 2100, .inl st)), (ago, .inl (cI, 2100, .inl go))] [(cI, .int)])) (vp_Si (fun r => r = fX2_hasField va rv ip iq)) 0 0 (fun _ => False) := by
  refine Met.ofW (cc := cX2_hasField) (maxL := 3) (ret := (some .boolean)) (by decide) rfl ?_
  intro p e s m args below meth c s₁ B hml hv
  obtain ⟨rfl, hP, hK, hE⟩ := hv
  have hx := B.exec
  have hb := B.bytes
  have hr := B.returns
  have ht : ∀ w ∈ gT, w.before ([.ref mx, .int ip, .int iq] : List Value).toArray s = true := fun w h => atoms_spec (ws := kX2_hasField :: gT) B.pre w (List.mem_cons_of_mem _ h)
  have hown : s.vm.findClass RX2 = some m.cls := findClass_of_methodNamed B.named
  have hlocks := B.notSynchronized
  have hl := lv_entry ([.ref mx, .int ip, .int iq]) (n := 3) (Nat.le_of_ble_eq_true rfl)
  rw [lg_entry_eq]
  generalize (lg_sl ([.ref mx, .int ip, .int iq]) ++ List.replicate (3 - (lg_sl ([.ref mx, .int ip, .int iq])).length) Slot.unset).toArray = ls at hl ⊢
  have hl : lv_has ls 3 [(0, .ref mx), (1, .int ip), (2, .int iq)] := hl
  refine lv_iload_n hx hb dX2_hasField_0 rfl (lv_at hl 2 rfl) ?_
  refine lv_if_lt (tgt := 22) hx hb dX2_hasField_1 (by decide) (fun c_1 => ?_) (fun c_1 => ?_)
  · refine lv_iconst (v := 0) hx hb dX2_hasField_22 (by decide) ?_
    exact W.zret (v := 0) hx hb hr (by decide) (fun t ht hW => ⟨_, rfl, (by simp only [fX2_hasField, if_pos c_1]), ht⟩) (fun q hq => nomatch hq) dX2_hasField_23
  · refine lv_iload_n hx hb dX2_hasField_4 rfl (lv_at hl 2 rfl) ?_
    refine lv_aload_n hx hb dX2_hasField_5 rfl (lv_at hl 0 rfl) ?_
    refine lv_aload_n hx hb dX2_hasField_6 rfl (lv_at hl 0 rfl) ?_
    refine va_get (D := (dC, dI)) (ci := 2) (v := .ref arv) (C := RX2) (T := TX2) (N := 14) hx hb ht iX2 hown hK hP 0 rfl rfl 10 (by decide) (ht _ g_336) (fun _ h9 => h9) rfl dX2_hasField_7 ?_
    refine lv_iload_n hx hb dX2_hasField_10 rfl (lv_at hl 1 rfl) ?_
    refine va_iald hx hb hK hP 6 0 rfl rfl hi dX2_hasField_11 ?_
    have hPc := hP.sub (ws' := [(mx, .inr (2, [.int th, .int hf, .int us, .int col, .int mov, .ref aso, .ref ava, .ref ans, .ref anv, .ref ars, .ref arv, .int sty, .ref ast, .ref ago])), (aso, .inl (cI, 2100, .inl so)), (ava, .inl (cI, 2100, .inl va)), (ans, .inl (cI, 2100, .inl ns)), (anv, .inl (cI, 2100, .inl nv)), (ars, .inl (cI, 8, .inl rs)), (arv, .inl (cI, 8, .inl rv)), (ast, .inl (cI, 2100, .inl st)), (ago, .inl (cI, 2100, .inl go))]) [0, 1, 2, 3, 4, 5, 6, 7, 8] rfl
    have hKc := hK.sub (tys' := [(cI, .int)]) [0] rfl
    refine vp_callSi (va_runV (As := [.int (rv ip.toNatClampNeg)]) (rest := [.int iq]) ⟨hx, hb, hml, hown, ht⟩ (ctX2_fieldsAt l dC dI cI mx aso ava ans anv ars arv ast ago th hf us col mov sty so va ns nv rs rv st go (rv ip.toNatClampNeg) hv) (cwV 1 ht gcX2_44 rfl rfl rfl (by decide +kernel) ⟨Nat.le_of_ble_eq_true rfl, Nat.le_of_ble_eq_true rfl⟩) ⟨pS.blind, va_recv hKc hPc (ci := 2) (q0 := 0) rfl rfl, pS.call hPc hKc hE⟩ rfl rfl hl.1 rfl (lv_room (Nat.le_of_ble_eq_true rfl)) dX2_hasField_12 ⟨Nat.le_of_ble_eq_true rfl, Nat.le_of_ble_eq_true rfl⟩).run (fun r_2 hr_2 => ?_)
    subst hr_2
    refine lv_icmp_ge (tgt := 22) hx hb dX2_hasField_15 (by decide) (fun c_3 => ?_) (fun c_3 => ?_)
    · refine lv_iconst (v := 0) hx hb dX2_hasField_22 (by decide) ?_
      exact W.zret (v := 0) hx hb hr (by decide) (fun t ht hW => ⟨_, rfl, (by simp only [fX2_hasField, if_neg c_1, if_pos c_3]), ht⟩) (fun q hq => nomatch hq) dX2_hasField_23
    · refine lv_iconst (v := 1) hx hb dX2_hasField_18 (by decide) ?_
      refine lv_goto (tgt := 23) hx hb dX2_hasField_19 (by decide) ?_
      exact W.zret (v := 1) hx hb hr (by decide) (fun t ht hW => ⟨_, rfl, (by simp only [fX2_hasField, if_neg c_1, if_neg c_3]), ht⟩) (fun q hq => nomatch hq) dX2_hasField_23
def fX2_number (th : Int32) (us : Int32) (col : Int32) (mov : Int32) (so : Nat → Int32) (va : Nat → Int32) (ns : Nat → Int32) (nv : Nat → Int32) (rs : Nat → Int32) (rv : Nat → Int32) (sty : Int32) (st : Nat → Int32) (go : Nat → Int32) (ip : Int32) (iq : Int32) : Int32 × Int32 × Int32 × Int32 × Int32 × (Nat → Int32) × (Nat → Int32) × (Nat → Int32) × (Nat → Int32) × (Nat → Int32) × (Nat → Int32) × Int32 × (Nat → Int32) × (Nat → Int32) := (if fX2_isRegister ip = 0 then (0, (1, us, col, mov, so, va, ns, nv, rs, rv, sty, st, go)) else (fX2_kept iq, (0, us, col, mov, so, va, ns, nv, upd rs ip.toNatClampNeg 1, upd rv ip.toNatClampNeg (fX2_kept iq), sty, st, go)))
abbrev atX2_number (dC : Nat → ClassId) (dI : Nat → Nat → Nat) (cI : ClassId) (A : Nat → Prop) (mx : Nat) (aso : Nat) (ava : Nat) (ans : Nat) (anv : Nat) (ars : Nat) (arv : Nat) (ast : Nat) (ago : Nat) (hf : Int32) (u : Int32 × Int32 × Int32 × Int32 × (Nat → Int32) × (Nat → Int32) × (Nat → Int32) × (Nat → Int32) × (Nat → Int32) × (Nat → Int32) × Int32 × (Nat → Int32) × (Nat → Int32)) (t : State) : Prop := va_P (dC, dI) vwCl [(mx, .inr (2, [.int u.1, .int hf, .int u.2.1, .int u.2.2.1, .int u.2.2.2.1, .ref aso, .ref ava, .ref ans, .ref anv, .ref ars, .ref arv, .int u.2.2.2.2.2.2.2.2.2.2.1, .ref ast, .ref ago])), (aso, .inl (cI, 2100, .inl u.2.2.2.2.1)), (ava, .inl (cI, 2100, .inl u.2.2.2.2.2.1)), (ans, .inl (cI, 2100, .inl u.2.2.2.2.2.2.1)), (anv, .inl (cI, 2100, .inl u.2.2.2.2.2.2.2.1)), (ars, .inl (cI, 8, .inl u.2.2.2.2.2.2.2.2.1)), (arv, .inl (cI, 8, .inl u.2.2.2.2.2.2.2.2.2.1)), (ast, .inl (cI, 2100, .inl u.2.2.2.2.2.2.2.2.2.2.2.1)), (ago, .inl (cI, 2100, .inl u.2.2.2.2.2.2.2.2.2.2.2.2))] t.heap ∧ va_K (dC, dI) vwCl [(cI, .int)] t ∧ va_D A [(mx, .inr (2, [.int u.1, .int hf, .int u.2.1, .int u.2.2.1, .int u.2.2.2.1, .ref aso, .ref ava, .ref ans, .ref anv, .ref ars, .ref arv, .int u.2.2.2.2.2.2.2.2.2.2.1, .ref ast, .ref ago])), (aso, .inl (cI, 2100, .inl u.2.2.2.2.1)), (ava, .inl (cI, 2100, .inl u.2.2.2.2.2.1)), (ans, .inl (cI, 2100, .inl u.2.2.2.2.2.2.1)), (anv, .inl (cI, 2100, .inl u.2.2.2.2.2.2.2.1)), (ars, .inl (cI, 8, .inl u.2.2.2.2.2.2.2.2.1)), (arv, .inl (cI, 8, .inl u.2.2.2.2.2.2.2.2.2.1)), (ast, .inl (cI, 2100, .inl u.2.2.2.2.2.2.2.2.2.2.2.1)), (ago, .inl (cI, 2100, .inl u.2.2.2.2.2.2.2.2.2.2.2.2))]
set_option maxHeartbeats 4000000 in
set_option maxRecDepth 100000 in
theorem ctX2_number (l : Launch) (dC : Nat → ClassId) (dI : Nat → Nat → Nat) (cI : ClassId) (mx : Nat) (aso : Nat) (ava : Nat) (ans : Nat) (anv : Nat) (ars : Nat) (arv : Nat) (ast : Nat) (ago : Nat) (th : Int32) (hf : Int32) (us : Int32) (col : Int32) (mov : Int32) (sty : Int32) (so : Nat → Int32) (va : Nat → Int32) (ns : Nat → Int32) (nv : Nat → Int32) (rs : Nat → Int32) (rv : Nat → Int32) (st : Nat → Int32) (go : Nat → Int32) (ip : Int32) (iq : Int32) (sz : Nat) : Met l yX2_number (kX2_number :: gT) ({ frames := 1, cells := 0, slots := 0, locals := 21 }) (va_Pc [.ref mx, .int ip, .int iq] (pM (dC, dI) [(mx, .inr (2, [.int th, .int hf, .int us, .int col, .int mov, .ref aso, .ref ava, .ref ans, .ref anv, .ref ars, .ref arv, .int sty, .ref ast, .ref ago])), (aso, .inl (cI, 2100, .inl so)), (ava, .inl (cI, 2100, .inl va)), (ans, .inl (cI, 2100, .inl ns)), (anv, .inl (cI, 2100, .inl nv)), (ars, .inl (cI, 8, .inl rs)), (arv, .inl (cI, 8, .inl rv)), (ast, .inl (cI, 2100, .inl st)), (ago, .inl (cI, 2100, .inl go))] [(cI, .int)] sz)) (va_Qi (fun (r : Int32) (u : Int32 × Int32 × Int32 × Int32 × (Nat → Int32) × (Nat → Int32) × (Nat → Int32) × (Nat → Int32) × (Nat → Int32) × (Nat → Int32) × Int32 × (Nat → Int32) × (Nat → Int32)) => (r, u) = fX2_number th us col mov so va ns nv rs rv sty st go ip iq) (atX2_number dC dI cI (va_A [(mx, .inr (2, [.int th, .int hf, .int us, .int col, .int mov, .ref aso, .ref ava, .ref ans, .ref anv, .ref ars, .ref arv, .int sty, .ref ast, .ref ago])), (aso, .inl (cI, 2100, .inl so)), (ava, .inl (cI, 2100, .inl va)), (ans, .inl (cI, 2100, .inl ns)), (anv, .inl (cI, 2100, .inl nv)), (ars, .inl (cI, 8, .inl rs)), (arv, .inl (cI, 8, .inl rv)), (ast, .inl (cI, 2100, .inl st)), (ago, .inl (cI, 2100, .inl go))] sz) mx aso ava ans anv ars arv ast ago hf) (va_A [(mx, .inr (2, [.int th, .int hf, .int us, .int col, .int mov, .ref aso, .ref ava, .ref ans, .ref anv, .ref ars, .ref arv, .int sty, .ref ast, .ref ago])), (aso, .inl (cI, 2100, .inl so)), (ava, .inl (cI, 2100, .inl va)), (ans, .inl (cI, 2100, .inl ns)), (anv, .inl (cI, 2100, .inl nv)), (ars, .inl (cI, 8, .inl rs)), (arv, .inl (cI, 8, .inl rv)), (ast, .inl (cI, 2100, .inl st)), (ago, .inl (cI, 2100, .inl go))] sz)) 0 0 (va_A [(mx, .inr (2, [.int th, .int hf, .int us, .int col, .int mov, .ref aso, .ref ava, .ref ans, .ref anv, .ref ars, .ref arv, .int sty, .ref ast, .ref ago])), (aso, .inl (cI, 2100, .inl so)), (ava, .inl (cI, 2100, .inl va)), (ans, .inl (cI, 2100, .inl ns)), (anv, .inl (cI, 2100, .inl nv)), (ars, .inl (cI, 8, .inl rs)), (arv, .inl (cI, 8, .inl rv)), (ast, .inl (cI, 2100, .inl st)), (ago, .inl (cI, 2100, .inl go))] sz) := by
  refine Met.ofW (cc := cX2_number) (maxL := 3) (ret := (some .int)) (by decide) rfl ?_
  intro p e s m args below meth c s₁ B hml hv
  obtain ⟨rfl, hsz, hP, hK, hD0, hE⟩ := hv
  have hx := B.exec
  have hb := B.bytes
  have hr := B.returns
  have ht : ∀ w ∈ gT, w.before ([.ref mx, .int ip, .int iq] : List Value).toArray s = true := fun w h => atoms_spec (ws := kX2_number :: gT) B.pre w (List.mem_cons_of_mem _ h)
  have hown : s.vm.findClass RX2 = some m.cls := findClass_of_methodNamed B.named
  have hlocks := B.notSynchronized
  subst hsz
  have hD := hD0.self (sz := s.heap.size)
  generalize hAe : va_A [(mx, .inr (2, [.int th, .int hf, .int us, .int col, .int mov, .ref aso, .ref ava, .ref ans, .ref anv, .ref ars, .ref arv, .int sty, .ref ast, .ref ago])), (aso, .inl (cI, 2100, .inl so)), (ava, .inl (cI, 2100, .inl va)), (ans, .inl (cI, 2100, .inl ns)), (anv, .inl (cI, 2100, .inl nv)), (ars, .inl (cI, 8, .inl rs)), (arv, .inl (cI, 8, .inl rv)), (ast, .inl (cI, 2100, .inl st)), (ago, .inl (cI, 2100, .inl go))] s.heap.size = A at hD ⊢
  have hA : ∀ q : Nat, s.heap.size ≤ q → A q := fun q h => by rw [← hAe]; exact Or.inr h
  have hS : va_S A s.heap s.heap [] := va_S.rf
  have hl := lv_entry ([.ref mx, .int ip, .int iq]) (n := 3) (Nat.le_of_ble_eq_true rfl)
  rw [lg_entry_eq]
  generalize (lg_sl ([.ref mx, .int ip, .int iq]) ++ List.replicate (3 - (lg_sl ([.ref mx, .int ip, .int iq])).length) Slot.unset).toArray = ls at hl ⊢
  have hl : lv_has ls 3 [(0, .ref mx), (1, .int ip), (2, .int iq)] := hl
  refine lv_aload_n hx hb dX2_number_0 rfl (lv_at hl 0 rfl) ?_
  refine lv_iconst (v := 0) hx hb dX2_number_1 (by decide) ?_
  refine va_put (D := (dC, dI)) (ci := 2) (v := .int 0) (ty := .int) (C := RX2) (T := TX2) (N := 14) hx hb ht iX2 tyX2 tkX2 nmX2 hown hK hP hD hS 0 rfl rfl 0 (by decide) (ht _ g_326) (fun _ h9 => h9) rfl (by decide +kernel) rfl rfl (Nat.le_of_ble_eq_true rfl) dX2_number_2 (fun H locs hP hD hS => ?_)
  have hP : va_P (dC, dI) vwCl [(mx, .inr (2, [.int 0, .int hf, .int us, .int col, .int mov, .ref aso, .ref ava, .ref ans, .ref anv, .ref ars, .ref arv, .int sty, .ref ast, .ref ago])), (aso, .inl (cI, 2100, .inl so)), (ava, .inl (cI, 2100, .inl va)), (ans, .inl (cI, 2100, .inl ns)), (anv, .inl (cI, 2100, .inl nv)), (ars, .inl (cI, 8, .inl rs)), (arv, .inl (cI, 8, .inl rv)), (ast, .inl (cI, 2100, .inl st)), (ago, .inl (cI, 2100, .inl go))] H := hP
  have hD : va_D A [(mx, .inr (2, [.int 0, .int hf, .int us, .int col, .int mov, .ref aso, .ref ava, .ref ans, .ref anv, .ref ars, .ref arv, .int sty, .ref ast, .ref ago])), (aso, .inl (cI, 2100, .inl so)), (ava, .inl (cI, 2100, .inl va)), (ans, .inl (cI, 2100, .inl ns)), (anv, .inl (cI, 2100, .inl nv)), (ars, .inl (cI, 8, .inl rs)), (arv, .inl (cI, 8, .inl rv)), (ast, .inl (cI, 2100, .inl st)), (ago, .inl (cI, 2100, .inl go))] := hD
  refine lv_iload_n hx hb dX2_number_5 rfl (lv_at hl 1 rfl) ?_
  refine vp_callSi (va_runS (As := [.int ip]) (rest := []) ⟨hx, hb, hml, hown, ht⟩ (ctX2_isRegister l ip) (cwS 1 ht gcX2_65 rfl rfl rfl (by decide +kernel) ⟨Nat.le_of_ble_eq_true rfl, Nat.le_of_ble_eq_true rfl⟩) ⟨pT.blind, pT.call⟩ rfl rfl hl.1 rfl (lv_room (Nat.le_of_ble_eq_true rfl)) dX2_number_6 ⟨Nat.le_of_ble_eq_true rfl, Nat.le_of_ble_eq_true rfl⟩).run (fun r_1 hr_1 => ?_)
  subst hr_1
  refine lv_if_ne (tgt := 18) hx hb dX2_number_9 (by decide) (fun c_2 => ?_) (fun c_2 => ?_)
  · refine lv_aload_n hx hb dX2_number_18 rfl (lv_at hl 0 rfl) ?_
    refine va_get (D := (dC, dI)) (ci := 2) (v := .ref ars) (C := RX2) (T := TX2) (N := 14) hx hb ht iX2 hown hK hP 0 rfl rfl 9 (by decide) (ht _ g_335) (fun _ h9 => h9) rfl dX2_number_19 ?_
    refine lv_iload_n hx hb dX2_number_22 rfl (lv_at hl 1 rfl) ?_
    refine lv_iconst (v := 1) hx hb dX2_number_23 (by decide) ?_
    refine va_iast hx hb hK hP hD hS 5 0 rfl rfl (isReg c_2) dX2_number_24 (fun H locs hP hD hS => ?_)
    have hP : va_P (dC, dI) vwCl [(mx, .inr (2, [.int 0, .int hf, .int us, .int col, .int mov, .ref aso, .ref ava, .ref ans, .ref anv, .ref ars, .ref arv, .int sty, .ref ast, .ref ago])), (aso, .inl (cI, 2100, .inl so)), (ava, .inl (cI, 2100, .inl va)), (ans, .inl (cI, 2100, .inl ns)), (anv, .inl (cI, 2100, .inl nv)), (ars, .inl (cI, 8, .inl (upd rs ip.toNatClampNeg 1))), (arv, .inl (cI, 8, .inl rv)), (ast, .inl (cI, 2100, .inl st)), (ago, .inl (cI, 2100, .inl go))] H := hP
    have hD : va_D A [(mx, .inr (2, [.int 0, .int hf, .int us, .int col, .int mov, .ref aso, .ref ava, .ref ans, .ref anv, .ref ars, .ref arv, .int sty, .ref ast, .ref ago])), (aso, .inl (cI, 2100, .inl so)), (ava, .inl (cI, 2100, .inl va)), (ans, .inl (cI, 2100, .inl ns)), (anv, .inl (cI, 2100, .inl nv)), (ars, .inl (cI, 8, .inl (upd rs ip.toNatClampNeg 1))), (arv, .inl (cI, 8, .inl rv)), (ast, .inl (cI, 2100, .inl st)), (ago, .inl (cI, 2100, .inl go))] := hD
    refine lv_aload_n hx hb dX2_number_25 rfl (lv_at hl 0 rfl) ?_
    refine va_get (D := (dC, dI)) (ci := 2) (v := .ref arv) (C := RX2) (T := TX2) (N := 14) hx hb ht iX2 hown hK hP 0 rfl rfl 10 (by decide) (ht _ g_336) (fun _ h9 => h9) rfl dX2_number_26 ?_
    refine lv_iload_n hx hb dX2_number_29 rfl (lv_at hl 1 rfl) ?_
    refine lv_iload_n hx hb dX2_number_30 rfl (lv_at hl 2 rfl) ?_
    refine vp_callSi (va_runS (As := [.int iq]) (rest := [.int ip, .ref arv]) ⟨hx, hb, hml, hown, ht⟩ (ctX2_kept l iq) (cwS 1 ht gcX2_72 rfl rfl rfl (by decide +kernel) ⟨Nat.le_of_ble_eq_true rfl, Nat.le_of_ble_eq_true rfl⟩) ⟨pT.blind, pT.call⟩ rfl rfl hl.1 rfl (lv_room (Nat.le_of_ble_eq_true rfl)) dX2_number_31 ⟨Nat.le_of_ble_eq_true rfl, Nat.le_of_ble_eq_true rfl⟩).run (fun r_3 hr_3 => ?_)
    subst hr_3
    refine va_iast hx hb hK hP hD hS 6 0 rfl rfl (isReg c_2) dX2_number_34 (fun H locs hP hD hS => ?_)
    have hP : va_P (dC, dI) vwCl [(mx, .inr (2, [.int 0, .int hf, .int us, .int col, .int mov, .ref aso, .ref ava, .ref ans, .ref anv, .ref ars, .ref arv, .int sty, .ref ast, .ref ago])), (aso, .inl (cI, 2100, .inl so)), (ava, .inl (cI, 2100, .inl va)), (ans, .inl (cI, 2100, .inl ns)), (anv, .inl (cI, 2100, .inl nv)), (ars, .inl (cI, 8, .inl (upd rs ip.toNatClampNeg 1))), (arv, .inl (cI, 8, .inl (upd rv ip.toNatClampNeg (fX2_kept iq)))), (ast, .inl (cI, 2100, .inl st)), (ago, .inl (cI, 2100, .inl go))] H := hP
    have hD : va_D A [(mx, .inr (2, [.int 0, .int hf, .int us, .int col, .int mov, .ref aso, .ref ava, .ref ans, .ref anv, .ref ars, .ref arv, .int sty, .ref ast, .ref ago])), (aso, .inl (cI, 2100, .inl so)), (ava, .inl (cI, 2100, .inl va)), (ans, .inl (cI, 2100, .inl ns)), (anv, .inl (cI, 2100, .inl nv)), (ars, .inl (cI, 8, .inl (upd rs ip.toNatClampNeg 1))), (arv, .inl (cI, 8, .inl (upd rv ip.toNatClampNeg (fX2_kept iq)))), (ast, .inl (cI, 2100, .inl st)), (ago, .inl (cI, 2100, .inl go))] := hD
    refine lv_iload_n hx hb dX2_number_35 rfl (lv_at hl 2 rfl) ?_
    refine vp_callSi (va_runS (As := [.int iq]) (rest := []) ⟨hx, hb, hml, hown, ht⟩ (ctX2_kept l iq) (cwS 1 ht gcX2_72 rfl rfl rfl (by decide +kernel) ⟨Nat.le_of_ble_eq_true rfl, Nat.le_of_ble_eq_true rfl⟩) ⟨pT.blind, pT.call⟩ rfl rfl hl.1 rfl (lv_room (Nat.le_of_ble_eq_true rfl)) dX2_number_36 ⟨Nat.le_of_ble_eq_true rfl, Nat.le_of_ble_eq_true rfl⟩).run (fun r_4 hr_4 => ?_)
    subst hr_4
    have hP9 := hP.sub (ws' := [(mx, .inr (2, [.int 0, .int hf, .int us, .int col, .int mov, .ref aso, .ref ava, .ref ans, .ref anv, .ref ars, .ref arv, .int sty, .ref ast, .ref ago])), (aso, .inl (cI, 2100, .inl so)), (ava, .inl (cI, 2100, .inl va)), (ans, .inl (cI, 2100, .inl ns)), (anv, .inl (cI, 2100, .inl nv)), (ars, .inl (cI, 8, .inl (upd rs ip.toNatClampNeg 1))), (arv, .inl (cI, 8, .inl (upd rv ip.toNatClampNeg (fX2_kept iq)))), (ast, .inl (cI, 2100, .inl st)), (ago, .inl (cI, 2100, .inl go))]) [0, 1, 2, 3, 4, 5, 6, 7, 8] rfl
    have hD9 := hD.sub (ws' := [(mx, .inr (2, [.int 0, .int hf, .int us, .int col, .int mov, .ref aso, .ref ava, .ref ans, .ref anv, .ref ars, .ref arv, .int sty, .ref ast, .ref ago])), (aso, .inl (cI, 2100, .inl so)), (ava, .inl (cI, 2100, .inl va)), (ans, .inl (cI, 2100, .inl ns)), (anv, .inl (cI, 2100, .inl nv)), (ars, .inl (cI, 8, .inl (upd rs ip.toNatClampNeg 1))), (arv, .inl (cI, 8, .inl (upd rv ip.toNatClampNeg (fX2_kept iq)))), (ast, .inl (cI, 2100, .inl st)), (ago, .inl (cI, 2100, .inl go))]) [0, 1, 2, 3, 4, 5, 6, 7, 8] (by decide) rfl
    have hK9 := hK.sub (tys' := [(cI, .int)]) [0] rfl
    exact W.iret (v := fX2_kept iq) hx hb hr (fun t ht hW => ⟨⟨_, (0, us, col, mov, so, va, ns, nv, upd rs ip.toNatClampNeg 1, upd rv ip.toNatClampNeg (fX2_kept iq), sty, st, go), rfl, (by simp only [fX2_number, if_neg c_2]), by rw [ht]; exact hP9, va_K.moved hW.alike hK9, hD9⟩, hS.F ht⟩) hS.2.2 dX2_number_39
  · refine lv_aload_n hx hb dX2_number_12 rfl (lv_at hl 0 rfl) ?_
    refine lv_iconst (v := 1) hx hb dX2_number_13 (by decide) ?_
    have hPc := hP.sub (ws' := [(mx, .inr (2, [.int 0, .int hf, .int us, .int col, .int mov, .ref aso, .ref ava, .ref ans, .ref anv, .ref ars, .ref arv, .int sty, .ref ast, .ref ago])), (aso, .inl (cI, 2100, .inl so)), (ava, .inl (cI, 2100, .inl va)), (ans, .inl (cI, 2100, .inl ns)), (anv, .inl (cI, 2100, .inl nv)), (ars, .inl (cI, 8, .inl rs)), (arv, .inl (cI, 8, .inl rv)), (ast, .inl (cI, 2100, .inl st)), (ago, .inl (cI, 2100, .inl go))]) [0, 1, 2, 3, 4, 5, 6, 7, 8] rfl
    have hKc := hK.sub (tys' := [(cI, .int)]) [0] rfl
    have hDc := hD.sub (ws' := [(mx, .inr (2, [.int 0, .int hf, .int us, .int col, .int mov, .ref aso, .ref ava, .ref ans, .ref anv, .ref ars, .ref arv, .int sty, .ref ast, .ref ago])), (aso, .inl (cI, 2100, .inl so)), (ava, .inl (cI, 2100, .inl va)), (ans, .inl (cI, 2100, .inl ns)), (anv, .inl (cI, 2100, .inl nv)), (ars, .inl (cI, 8, .inl rs)), (arv, .inl (cI, 8, .inl rv)), (ast, .inl (cI, 2100, .inl st)), (ago, .inl (cI, 2100, .inl go))]) [0, 1, 2, 3, 4, 5, 6, 7, 8] (by decide) rfl
    have hFc := va_free (wc := [(mx, .inr (2, [.int 0, .int hf, .int us, .int col, .int mov, .ref aso, .ref ava, .ref ans, .ref anv, .ref ars, .ref arv, .int sty, .ref ast, .ref ago])), (aso, .inl (cI, 2100, .inl so)), (ava, .inl (cI, 2100, .inl va)), (ans, .inl (cI, 2100, .inl ns)), (anv, .inl (cI, 2100, .inl nv)), (ars, .inl (cI, 8, .inl rs)), (arv, .inl (cI, 8, .inl rv)), (ast, .inl (cI, 2100, .inl st)), (ago, .inl (cI, 2100, .inl go))]) hD hS hA [0, 1, 2, 3, 4, 5, 6, 7, 8] rfl
    refine va_calli (va_runV (As := [.int 1]) (rest := []) ⟨hx, hb, hml, hown, ht⟩ (ctX2_fail l dC dI cI mx aso ava ans anv ars arv ast ago 0 hf us col mov sty so va ns nv rs rv st go 1 _ ) (cwV 1 ht gcX2_69 rfl rfl rfl (by decide +kernel) ⟨Nat.le_of_ble_eq_true rfl, Nat.le_of_ble_eq_true rfl⟩) ⟨pM.blind, va_recv hKc hPc (ci := 2) (q0 := 0) rfl rfl, pM.call hPc hKc hDc hE⟩ rfl rfl hl.1 rfl (lv_room (Nat.le_of_ble_eq_true rfl)) dX2_number_14 ⟨Nat.le_of_ble_eq_true rfl, Nat.le_of_ble_eq_true rfl⟩) hS (fun q _ h => hFc q h) hFc (fun r_6 u_5 t H1 locs ht9 hvm hw hB hz1 hk1 hS => ?_)
    obtain ⟨rfl, rfl⟩ : r_6 = 0 ∧ u_5 = (1, us, col, mov, so, va, ns, nv, rs, rv, sty, st, go) := ⟨(Prod.mk.inj hw).1, (Prod.mk.inj hw).2⟩
    obtain ⟨hP1, hK1, hD1⟩ := hB
    rw [ht9] at hP1
    obtain ⟨hP, hD⟩ := va_join (wr := []) (w1 := [(mx, .inr (2, [.int 1, .int hf, .int us, .int col, .int mov, .ref aso, .ref ava, .ref ans, .ref anv, .ref ars, .ref arv, .int sty, .ref ast, .ref ago])), (aso, .inl (cI, 2100, .inl so)), (ava, .inl (cI, 2100, .inl va)), (ans, .inl (cI, 2100, .inl ns)), (anv, .inl (cI, 2100, .inl nv)), (ars, .inl (cI, 8, .inl rs)), (arv, .inl (cI, 8, .inl rv)), (ast, .inl (cI, 2100, .inl st)), (ago, .inl (cI, 2100, .inl go))]) hP hD [0, 1, 2, 3, 4, 5, 6, 7, 8] [] rfl rfl (by decide) (by decide) hk1 hFc hP1 hD1
    generalize H1 = H at hP hS ⊢
    have hP := hP.sub (ws' := [(mx, .inr (2, [.int 1, .int hf, .int us, .int col, .int mov, .ref aso, .ref ava, .ref ans, .ref anv, .ref ars, .ref arv, .int sty, .ref ast, .ref ago])), (aso, .inl (cI, 2100, .inl so)), (ava, .inl (cI, 2100, .inl va)), (ans, .inl (cI, 2100, .inl ns)), (anv, .inl (cI, 2100, .inl nv)), (ars, .inl (cI, 8, .inl rs)), (arv, .inl (cI, 8, .inl rv)), (ast, .inl (cI, 2100, .inl st)), (ago, .inl (cI, 2100, .inl go))]) [0, 1, 2, 3, 4, 5, 6, 7, 8] rfl
    have hD := hD.sub (ws' := [(mx, .inr (2, [.int 1, .int hf, .int us, .int col, .int mov, .ref aso, .ref ava, .ref ans, .ref anv, .ref ars, .ref arv, .int sty, .ref ast, .ref ago])), (aso, .inl (cI, 2100, .inl so)), (ava, .inl (cI, 2100, .inl va)), (ans, .inl (cI, 2100, .inl ns)), (anv, .inl (cI, 2100, .inl nv)), (ars, .inl (cI, 8, .inl rs)), (arv, .inl (cI, 8, .inl rv)), (ast, .inl (cI, 2100, .inl st)), (ago, .inl (cI, 2100, .inl go))]) [0, 1, 2, 3, 4, 5, 6, 7, 8] (by decide) rfl
    have hP9 := hP.sub (ws' := [(mx, .inr (2, [.int 1, .int hf, .int us, .int col, .int mov, .ref aso, .ref ava, .ref ans, .ref anv, .ref ars, .ref arv, .int sty, .ref ast, .ref ago])), (aso, .inl (cI, 2100, .inl so)), (ava, .inl (cI, 2100, .inl va)), (ans, .inl (cI, 2100, .inl ns)), (anv, .inl (cI, 2100, .inl nv)), (ars, .inl (cI, 8, .inl rs)), (arv, .inl (cI, 8, .inl rv)), (ast, .inl (cI, 2100, .inl st)), (ago, .inl (cI, 2100, .inl go))]) [0, 1, 2, 3, 4, 5, 6, 7, 8] rfl
    have hD9 := hD.sub (ws' := [(mx, .inr (2, [.int 1, .int hf, .int us, .int col, .int mov, .ref aso, .ref ava, .ref ans, .ref anv, .ref ars, .ref arv, .int sty, .ref ast, .ref ago])), (aso, .inl (cI, 2100, .inl so)), (ava, .inl (cI, 2100, .inl va)), (ans, .inl (cI, 2100, .inl ns)), (anv, .inl (cI, 2100, .inl nv)), (ars, .inl (cI, 8, .inl rs)), (arv, .inl (cI, 8, .inl rv)), (ast, .inl (cI, 2100, .inl st)), (ago, .inl (cI, 2100, .inl go))]) [0, 1, 2, 3, 4, 5, 6, 7, 8] (by decide) rfl
    have hK9 := hK.sub (tys' := [(cI, .int)]) [0] rfl
    exact W.iret (v := 0) hx hb hr (fun t ht hW => ⟨⟨_, (1, us, col, mov, so, va, ns, nv, rs, rv, sty, st, go), rfl, (by simp only [fX2_number, if_pos c_2]), by rw [ht]; exact hP9, va_K.moved hW.alike hK9, hD9⟩, hS.F ht⟩) hS.2.2 dX2_number_17
def fX2_copy (th : Int32) (us : Int32) (col : Int32) (mov : Int32) (so : Nat → Int32) (va : Nat → Int32) (ns : Nat → Int32) (nv : Nat → Int32) (rs : Nat → Int32) (rv : Nat → Int32) (sty : Int32) (st : Nat → Int32) (go : Nat → Int32) (ip : Int32) (iq : Int32) : Int32 × Int32 × Int32 × Int32 × Int32 × (Nat → Int32) × (Nat → Int32) × (Nat → Int32) × (Nat → Int32) × (Nat → Int32) × (Nat → Int32) × Int32 × (Nat → Int32) × (Nat → Int32) := (if fX2_isRegister ip = 0 then (0, (1, us, col, mov, so, va, ns, nv, rs, rv, sty, st, go)) else (if fX2_isRegister iq = 0 then (0, (1, us, col, mov, so, va, ns, nv, rs, rv, sty, st, go)) else (if (upd rs ip.toNatClampNeg (rs iq.toNatClampNeg)) ip.toNatClampNeg = 2 then (1, (0, us, col, mov, so, va, ns, nv, upd rs ip.toNatClampNeg (rs iq.toNatClampNeg), upd rv ip.toNatClampNeg (rv iq.toNatClampNeg), sty, st, go)) else (0, (0, us, col, mov, so, va, ns, nv, upd rs ip.toNatClampNeg (rs iq.toNatClampNeg), upd rv ip.toNatClampNeg (rv iq.toNatClampNeg), sty, st, go)))))
abbrev atX2_copy (dC : Nat → ClassId) (dI : Nat → Nat → Nat) (cI : ClassId) (A : Nat → Prop) (mx : Nat) (aso : Nat) (ava : Nat) (ans : Nat) (anv : Nat) (ars : Nat) (arv : Nat) (ast : Nat) (ago : Nat) (hf : Int32) (u : Int32 × Int32 × Int32 × Int32 × (Nat → Int32) × (Nat → Int32) × (Nat → Int32) × (Nat → Int32) × (Nat → Int32) × (Nat → Int32) × Int32 × (Nat → Int32) × (Nat → Int32)) (t : State) : Prop := va_P (dC, dI) vwCl [(mx, .inr (2, [.int u.1, .int hf, .int u.2.1, .int u.2.2.1, .int u.2.2.2.1, .ref aso, .ref ava, .ref ans, .ref anv, .ref ars, .ref arv, .int u.2.2.2.2.2.2.2.2.2.2.1, .ref ast, .ref ago])), (aso, .inl (cI, 2100, .inl u.2.2.2.2.1)), (ava, .inl (cI, 2100, .inl u.2.2.2.2.2.1)), (ans, .inl (cI, 2100, .inl u.2.2.2.2.2.2.1)), (anv, .inl (cI, 2100, .inl u.2.2.2.2.2.2.2.1)), (ars, .inl (cI, 8, .inl u.2.2.2.2.2.2.2.2.1)), (arv, .inl (cI, 8, .inl u.2.2.2.2.2.2.2.2.2.1)), (ast, .inl (cI, 2100, .inl u.2.2.2.2.2.2.2.2.2.2.2.1)), (ago, .inl (cI, 2100, .inl u.2.2.2.2.2.2.2.2.2.2.2.2))] t.heap ∧ va_K (dC, dI) vwCl [(cI, .int)] t ∧ va_D A [(mx, .inr (2, [.int u.1, .int hf, .int u.2.1, .int u.2.2.1, .int u.2.2.2.1, .ref aso, .ref ava, .ref ans, .ref anv, .ref ars, .ref arv, .int u.2.2.2.2.2.2.2.2.2.2.1, .ref ast, .ref ago])), (aso, .inl (cI, 2100, .inl u.2.2.2.2.1)), (ava, .inl (cI, 2100, .inl u.2.2.2.2.2.1)), (ans, .inl (cI, 2100, .inl u.2.2.2.2.2.2.1)), (anv, .inl (cI, 2100, .inl u.2.2.2.2.2.2.2.1)), (ars, .inl (cI, 8, .inl u.2.2.2.2.2.2.2.2.1)), (arv, .inl (cI, 8, .inl u.2.2.2.2.2.2.2.2.2.1)), (ast, .inl (cI, 2100, .inl u.2.2.2.2.2.2.2.2.2.2.2.1)), (ago, .inl (cI, 2100, .inl u.2.2.2.2.2.2.2.2.2.2.2.2))]
set_option maxHeartbeats 4000000 in
set_option maxRecDepth 100000 in
theorem ctX2_copy (l : Launch) (dC : Nat → ClassId) (dI : Nat → Nat → Nat) (cI : ClassId) (mx : Nat) (aso : Nat) (ava : Nat) (ans : Nat) (anv : Nat) (ars : Nat) (arv : Nat) (ast : Nat) (ago : Nat) (th : Int32) (hf : Int32) (us : Int32) (col : Int32) (mov : Int32) (sty : Int32) (so : Nat → Int32) (va : Nat → Int32) (ns : Nat → Int32) (nv : Nat → Int32) (rs : Nat → Int32) (rv : Nat → Int32) (st : Nat → Int32) (go : Nat → Int32) (ip : Int32) (iq : Int32) (sz : Nat) : Met l yX2_copy (kX2_copy :: gT) ({ frames := 1, cells := 0, slots := 0, locals := 21 }) (va_Pc [.ref mx, .int ip, .int iq] (pM (dC, dI) [(mx, .inr (2, [.int th, .int hf, .int us, .int col, .int mov, .ref aso, .ref ava, .ref ans, .ref anv, .ref ars, .ref arv, .int sty, .ref ast, .ref ago])), (aso, .inl (cI, 2100, .inl so)), (ava, .inl (cI, 2100, .inl va)), (ans, .inl (cI, 2100, .inl ns)), (anv, .inl (cI, 2100, .inl nv)), (ars, .inl (cI, 8, .inl rs)), (arv, .inl (cI, 8, .inl rv)), (ast, .inl (cI, 2100, .inl st)), (ago, .inl (cI, 2100, .inl go))] [(cI, .int)] sz)) (va_Qi (fun (r : Int32) (u : Int32 × Int32 × Int32 × Int32 × (Nat → Int32) × (Nat → Int32) × (Nat → Int32) × (Nat → Int32) × (Nat → Int32) × (Nat → Int32) × Int32 × (Nat → Int32) × (Nat → Int32)) => (r, u) = fX2_copy th us col mov so va ns nv rs rv sty st go ip iq) (atX2_copy dC dI cI (va_A [(mx, .inr (2, [.int th, .int hf, .int us, .int col, .int mov, .ref aso, .ref ava, .ref ans, .ref anv, .ref ars, .ref arv, .int sty, .ref ast, .ref ago])), (aso, .inl (cI, 2100, .inl so)), (ava, .inl (cI, 2100, .inl va)), (ans, .inl (cI, 2100, .inl ns)), (anv, .inl (cI, 2100, .inl nv)), (ars, .inl (cI, 8, .inl rs)), (arv, .inl (cI, 8, .inl rv)), (ast, .inl (cI, 2100, .inl st)), (ago, .inl (cI, 2100, .inl go))] sz) mx aso ava ans anv ars arv ast ago hf) (va_A [(mx, .inr (2, [.int th, .int hf, .int us, .int col, .int mov, .ref aso, .ref ava, .ref ans, .ref anv, .ref ars, .ref arv, .int sty, .ref ast, .ref ago])), (aso, .inl (cI, 2100, .inl so)), (ava, .inl (cI, 2100, .inl va)), (ans, .inl (cI, 2100, .inl ns)), (anv, .inl (cI, 2100, .inl nv)), (ars, .inl (cI, 8, .inl rs)), (arv, .inl (cI, 8, .inl rv)), (ast, .inl (cI, 2100, .inl st)), (ago, .inl (cI, 2100, .inl go))] sz)) 0 0 (va_A [(mx, .inr (2, [.int th, .int hf, .int us, .int col, .int mov, .ref aso, .ref ava, .ref ans, .ref anv, .ref ars, .ref arv, .int sty, .ref ast, .ref ago])), (aso, .inl (cI, 2100, .inl so)), (ava, .inl (cI, 2100, .inl va)), (ans, .inl (cI, 2100, .inl ns)), (anv, .inl (cI, 2100, .inl nv)), (ars, .inl (cI, 8, .inl rs)), (arv, .inl (cI, 8, .inl rv)), (ast, .inl (cI, 2100, .inl st)), (ago, .inl (cI, 2100, .inl go))] sz) := by
  refine Met.ofW (cc := cX2_copy) (maxL := 3) (ret := (some .boolean)) (by decide) rfl ?_
  intro p e s m args below meth c s₁ B hml hv
  obtain ⟨rfl, hsz, hP, hK, hD0, hE⟩ := hv
  have hx := B.exec
  have hb := B.bytes
  have hr := B.returns
  have ht : ∀ w ∈ gT, w.before ([.ref mx, .int ip, .int iq] : List Value).toArray s = true := fun w h => atoms_spec (ws := kX2_copy :: gT) B.pre w (List.mem_cons_of_mem _ h)
  have hown : s.vm.findClass RX2 = some m.cls := findClass_of_methodNamed B.named
  have hlocks := B.notSynchronized
  subst hsz
  have hD := hD0.self (sz := s.heap.size)
  generalize hAe : va_A [(mx, .inr (2, [.int th, .int hf, .int us, .int col, .int mov, .ref aso, .ref ava, .ref ans, .ref anv, .ref ars, .ref arv, .int sty, .ref ast, .ref ago])), (aso, .inl (cI, 2100, .inl so)), (ava, .inl (cI, 2100, .inl va)), (ans, .inl (cI, 2100, .inl ns)), (anv, .inl (cI, 2100, .inl nv)), (ars, .inl (cI, 8, .inl rs)), (arv, .inl (cI, 8, .inl rv)), (ast, .inl (cI, 2100, .inl st)), (ago, .inl (cI, 2100, .inl go))] s.heap.size = A at hD ⊢
  have hA : ∀ q : Nat, s.heap.size ≤ q → A q := fun q h => by rw [← hAe]; exact Or.inr h
  have hS : va_S A s.heap s.heap [] := va_S.rf
  have hl := lv_entry ([.ref mx, .int ip, .int iq]) (n := 3) (Nat.le_of_ble_eq_true rfl)
  rw [lg_entry_eq]
  generalize (lg_sl ([.ref mx, .int ip, .int iq]) ++ List.replicate (3 - (lg_sl ([.ref mx, .int ip, .int iq])).length) Slot.unset).toArray = ls at hl ⊢
  have hl : lv_has ls 3 [(0, .ref mx), (1, .int ip), (2, .int iq)] := hl
  refine lv_aload_n hx hb dX2_copy_0 rfl (lv_at hl 0 rfl) ?_
  refine lv_iconst (v := 0) hx hb dX2_copy_1 (by decide) ?_
  refine va_put (D := (dC, dI)) (ci := 2) (v := .int 0) (ty := .int) (C := RX2) (T := TX2) (N := 14) hx hb ht iX2 tyX2 tkX2 nmX2 hown hK hP hD hS 0 rfl rfl 0 (by decide) (ht _ g_326) (fun _ h9 => h9) rfl (by decide +kernel) rfl rfl (Nat.le_of_ble_eq_true rfl) dX2_copy_2 (fun H locs hP hD hS => ?_)
  have hP : va_P (dC, dI) vwCl [(mx, .inr (2, [.int 0, .int hf, .int us, .int col, .int mov, .ref aso, .ref ava, .ref ans, .ref anv, .ref ars, .ref arv, .int sty, .ref ast, .ref ago])), (aso, .inl (cI, 2100, .inl so)), (ava, .inl (cI, 2100, .inl va)), (ans, .inl (cI, 2100, .inl ns)), (anv, .inl (cI, 2100, .inl nv)), (ars, .inl (cI, 8, .inl rs)), (arv, .inl (cI, 8, .inl rv)), (ast, .inl (cI, 2100, .inl st)), (ago, .inl (cI, 2100, .inl go))] H := hP
  have hD : va_D A [(mx, .inr (2, [.int 0, .int hf, .int us, .int col, .int mov, .ref aso, .ref ava, .ref ans, .ref anv, .ref ars, .ref arv, .int sty, .ref ast, .ref ago])), (aso, .inl (cI, 2100, .inl so)), (ava, .inl (cI, 2100, .inl va)), (ans, .inl (cI, 2100, .inl ns)), (anv, .inl (cI, 2100, .inl nv)), (ars, .inl (cI, 8, .inl rs)), (arv, .inl (cI, 8, .inl rv)), (ast, .inl (cI, 2100, .inl st)), (ago, .inl (cI, 2100, .inl go))] := hD
  refine lv_iload_n hx hb dX2_copy_5 rfl (lv_at hl 1 rfl) ?_
  refine vp_callSi (va_runS (As := [.int ip]) (rest := []) ⟨hx, hb, hml, hown, ht⟩ (ctX2_isRegister l ip) (cwS 1 ht gcX2_65 rfl rfl rfl (by decide +kernel) ⟨Nat.le_of_ble_eq_true rfl, Nat.le_of_ble_eq_true rfl⟩) ⟨pT.blind, pT.call⟩ rfl rfl hl.1 rfl (lv_room (Nat.le_of_ble_eq_true rfl)) dX2_copy_6 ⟨Nat.le_of_ble_eq_true rfl, Nat.le_of_ble_eq_true rfl⟩).run (fun r_1 hr_1 => ?_)
  subst hr_1
  refine lv_if_eq (tgt := 19) hx hb dX2_copy_9 (by decide) (fun c_2 => ?_) (fun c_2 => ?_)
  · refine lv_aload_n hx hb dX2_copy_19 rfl (lv_at hl 0 rfl) ?_
    refine lv_iconst (v := 1) hx hb dX2_copy_20 (by decide) ?_
    have hPc := hP.sub (ws' := [(mx, .inr (2, [.int 0, .int hf, .int us, .int col, .int mov, .ref aso, .ref ava, .ref ans, .ref anv, .ref ars, .ref arv, .int sty, .ref ast, .ref ago])), (aso, .inl (cI, 2100, .inl so)), (ava, .inl (cI, 2100, .inl va)), (ans, .inl (cI, 2100, .inl ns)), (anv, .inl (cI, 2100, .inl nv)), (ars, .inl (cI, 8, .inl rs)), (arv, .inl (cI, 8, .inl rv)), (ast, .inl (cI, 2100, .inl st)), (ago, .inl (cI, 2100, .inl go))]) [0, 1, 2, 3, 4, 5, 6, 7, 8] rfl
    have hKc := hK.sub (tys' := [(cI, .int)]) [0] rfl
    have hDc := hD.sub (ws' := [(mx, .inr (2, [.int 0, .int hf, .int us, .int col, .int mov, .ref aso, .ref ava, .ref ans, .ref anv, .ref ars, .ref arv, .int sty, .ref ast, .ref ago])), (aso, .inl (cI, 2100, .inl so)), (ava, .inl (cI, 2100, .inl va)), (ans, .inl (cI, 2100, .inl ns)), (anv, .inl (cI, 2100, .inl nv)), (ars, .inl (cI, 8, .inl rs)), (arv, .inl (cI, 8, .inl rv)), (ast, .inl (cI, 2100, .inl st)), (ago, .inl (cI, 2100, .inl go))]) [0, 1, 2, 3, 4, 5, 6, 7, 8] (by decide) rfl
    have hFc := va_free (wc := [(mx, .inr (2, [.int 0, .int hf, .int us, .int col, .int mov, .ref aso, .ref ava, .ref ans, .ref anv, .ref ars, .ref arv, .int sty, .ref ast, .ref ago])), (aso, .inl (cI, 2100, .inl so)), (ava, .inl (cI, 2100, .inl va)), (ans, .inl (cI, 2100, .inl ns)), (anv, .inl (cI, 2100, .inl nv)), (ars, .inl (cI, 8, .inl rs)), (arv, .inl (cI, 8, .inl rv)), (ast, .inl (cI, 2100, .inl st)), (ago, .inl (cI, 2100, .inl go))]) hD hS hA [0, 1, 2, 3, 4, 5, 6, 7, 8] rfl
    refine va_calli (va_runV (As := [.int 1]) (rest := []) ⟨hx, hb, hml, hown, ht⟩ (ctX2_fail l dC dI cI mx aso ava ans anv ars arv ast ago 0 hf us col mov sty so va ns nv rs rv st go 1 _ ) (cwV 1 ht gcX2_69 rfl rfl rfl (by decide +kernel) ⟨Nat.le_of_ble_eq_true rfl, Nat.le_of_ble_eq_true rfl⟩) ⟨pM.blind, va_recv hKc hPc (ci := 2) (q0 := 0) rfl rfl, pM.call hPc hKc hDc hE⟩ rfl rfl hl.1 rfl (lv_room (Nat.le_of_ble_eq_true rfl)) dX2_copy_21 ⟨Nat.le_of_ble_eq_true rfl, Nat.le_of_ble_eq_true rfl⟩) hS (fun q _ h => hFc q h) hFc (fun r_4 u_3 t H1 locs ht9 hvm hw hB hz1 hk1 hS => ?_)
    obtain ⟨rfl, rfl⟩ : r_4 = 0 ∧ u_3 = (1, us, col, mov, so, va, ns, nv, rs, rv, sty, st, go) := ⟨(Prod.mk.inj hw).1, (Prod.mk.inj hw).2⟩
    obtain ⟨hP1, hK1, hD1⟩ := hB
    rw [ht9] at hP1
    obtain ⟨hP, hD⟩ := va_join (wr := []) (w1 := [(mx, .inr (2, [.int 1, .int hf, .int us, .int col, .int mov, .ref aso, .ref ava, .ref ans, .ref anv, .ref ars, .ref arv, .int sty, .ref ast, .ref ago])), (aso, .inl (cI, 2100, .inl so)), (ava, .inl (cI, 2100, .inl va)), (ans, .inl (cI, 2100, .inl ns)), (anv, .inl (cI, 2100, .inl nv)), (ars, .inl (cI, 8, .inl rs)), (arv, .inl (cI, 8, .inl rv)), (ast, .inl (cI, 2100, .inl st)), (ago, .inl (cI, 2100, .inl go))]) hP hD [0, 1, 2, 3, 4, 5, 6, 7, 8] [] rfl rfl (by decide) (by decide) hk1 hFc hP1 hD1
    generalize H1 = H at hP hS ⊢
    have hP := hP.sub (ws' := [(mx, .inr (2, [.int 1, .int hf, .int us, .int col, .int mov, .ref aso, .ref ava, .ref ans, .ref anv, .ref ars, .ref arv, .int sty, .ref ast, .ref ago])), (aso, .inl (cI, 2100, .inl so)), (ava, .inl (cI, 2100, .inl va)), (ans, .inl (cI, 2100, .inl ns)), (anv, .inl (cI, 2100, .inl nv)), (ars, .inl (cI, 8, .inl rs)), (arv, .inl (cI, 8, .inl rv)), (ast, .inl (cI, 2100, .inl st)), (ago, .inl (cI, 2100, .inl go))]) [0, 1, 2, 3, 4, 5, 6, 7, 8] rfl
    have hD := hD.sub (ws' := [(mx, .inr (2, [.int 1, .int hf, .int us, .int col, .int mov, .ref aso, .ref ava, .ref ans, .ref anv, .ref ars, .ref arv, .int sty, .ref ast, .ref ago])), (aso, .inl (cI, 2100, .inl so)), (ava, .inl (cI, 2100, .inl va)), (ans, .inl (cI, 2100, .inl ns)), (anv, .inl (cI, 2100, .inl nv)), (ars, .inl (cI, 8, .inl rs)), (arv, .inl (cI, 8, .inl rv)), (ast, .inl (cI, 2100, .inl st)), (ago, .inl (cI, 2100, .inl go))]) [0, 1, 2, 3, 4, 5, 6, 7, 8] (by decide) rfl
    refine lv_if_le (tgt := 31) hx hb dX2_copy_24 (by decide) (fun _ => ?_) (fun h => absurd (by decide) h)
    refine lv_iconst (v := 0) hx hb dX2_copy_31 (by decide) ?_
    have hP9 := hP.sub (ws' := [(mx, .inr (2, [.int 1, .int hf, .int us, .int col, .int mov, .ref aso, .ref ava, .ref ans, .ref anv, .ref ars, .ref arv, .int sty, .ref ast, .ref ago])), (aso, .inl (cI, 2100, .inl so)), (ava, .inl (cI, 2100, .inl va)), (ans, .inl (cI, 2100, .inl ns)), (anv, .inl (cI, 2100, .inl nv)), (ars, .inl (cI, 8, .inl rs)), (arv, .inl (cI, 8, .inl rv)), (ast, .inl (cI, 2100, .inl st)), (ago, .inl (cI, 2100, .inl go))]) [0, 1, 2, 3, 4, 5, 6, 7, 8] rfl
    have hD9 := hD.sub (ws' := [(mx, .inr (2, [.int 1, .int hf, .int us, .int col, .int mov, .ref aso, .ref ava, .ref ans, .ref anv, .ref ars, .ref arv, .int sty, .ref ast, .ref ago])), (aso, .inl (cI, 2100, .inl so)), (ava, .inl (cI, 2100, .inl va)), (ans, .inl (cI, 2100, .inl ns)), (anv, .inl (cI, 2100, .inl nv)), (ars, .inl (cI, 8, .inl rs)), (arv, .inl (cI, 8, .inl rv)), (ast, .inl (cI, 2100, .inl st)), (ago, .inl (cI, 2100, .inl go))]) [0, 1, 2, 3, 4, 5, 6, 7, 8] (by decide) rfl
    have hK9 := hK.sub (tys' := [(cI, .int)]) [0] rfl
    exact W.zret (v := 0) hx hb hr (by decide) (fun t ht hW => ⟨⟨_, (1, us, col, mov, so, va, ns, nv, rs, rv, sty, st, go), rfl, (by simp only [fX2_copy, if_pos c_2]), by rw [ht]; exact hP9, va_K.moved hW.alike hK9, hD9⟩, hS.F ht⟩) hS.2.2 dX2_copy_32
  · refine lv_iload_n hx hb dX2_copy_12 rfl (lv_at hl 2 rfl) ?_
    refine vp_callSi (va_runS (As := [.int iq]) (rest := []) ⟨hx, hb, hml, hown, ht⟩ (ctX2_isRegister l iq) (cwS 1 ht gcX2_65 rfl rfl rfl (by decide +kernel) ⟨Nat.le_of_ble_eq_true rfl, Nat.le_of_ble_eq_true rfl⟩) ⟨pT.blind, pT.call⟩ rfl rfl hl.1 rfl (lv_room (Nat.le_of_ble_eq_true rfl)) dX2_copy_13 ⟨Nat.le_of_ble_eq_true rfl, Nat.le_of_ble_eq_true rfl⟩).run (fun r_5 hr_5 => ?_)
    subst hr_5
    refine lv_if_ne (tgt := 33) hx hb dX2_copy_16 (by decide) (fun c_6 => ?_) (fun c_6 => ?_)
    · refine lv_aload_n hx hb dX2_copy_33 rfl (lv_at hl 0 rfl) ?_
      refine va_get (D := (dC, dI)) (ci := 2) (v := .ref ars) (C := RX2) (T := TX2) (N := 14) hx hb ht iX2 hown hK hP 0 rfl rfl 9 (by decide) (ht _ g_335) (fun _ h9 => h9) rfl dX2_copy_34 ?_
      refine lv_iload_n hx hb dX2_copy_37 rfl (lv_at hl 1 rfl) ?_
      refine lv_aload_n hx hb dX2_copy_38 rfl (lv_at hl 0 rfl) ?_
      refine va_get (D := (dC, dI)) (ci := 2) (v := .ref ars) (C := RX2) (T := TX2) (N := 14) hx hb ht iX2 hown hK hP 0 rfl rfl 9 (by decide) (ht _ g_335) (fun _ h9 => h9) rfl dX2_copy_39 ?_
      refine lv_iload_n hx hb dX2_copy_42 rfl (lv_at hl 2 rfl) ?_
      refine va_iald hx hb hK hP 5 0 rfl rfl (isReg c_6) dX2_copy_43 ?_
      refine va_iast hx hb hK hP hD hS 5 0 rfl rfl (isReg c_2) dX2_copy_44 (fun H locs hP hD hS => ?_)
      have hP : va_P (dC, dI) vwCl [(mx, .inr (2, [.int 0, .int hf, .int us, .int col, .int mov, .ref aso, .ref ava, .ref ans, .ref anv, .ref ars, .ref arv, .int sty, .ref ast, .ref ago])), (aso, .inl (cI, 2100, .inl so)), (ava, .inl (cI, 2100, .inl va)), (ans, .inl (cI, 2100, .inl ns)), (anv, .inl (cI, 2100, .inl nv)), (ars, .inl (cI, 8, .inl (upd rs ip.toNatClampNeg (rs iq.toNatClampNeg)))), (arv, .inl (cI, 8, .inl rv)), (ast, .inl (cI, 2100, .inl st)), (ago, .inl (cI, 2100, .inl go))] H := hP
      have hD : va_D A [(mx, .inr (2, [.int 0, .int hf, .int us, .int col, .int mov, .ref aso, .ref ava, .ref ans, .ref anv, .ref ars, .ref arv, .int sty, .ref ast, .ref ago])), (aso, .inl (cI, 2100, .inl so)), (ava, .inl (cI, 2100, .inl va)), (ans, .inl (cI, 2100, .inl ns)), (anv, .inl (cI, 2100, .inl nv)), (ars, .inl (cI, 8, .inl (upd rs ip.toNatClampNeg (rs iq.toNatClampNeg)))), (arv, .inl (cI, 8, .inl rv)), (ast, .inl (cI, 2100, .inl st)), (ago, .inl (cI, 2100, .inl go))] := hD
      refine lv_aload_n hx hb dX2_copy_45 rfl (lv_at hl 0 rfl) ?_
      refine va_get (D := (dC, dI)) (ci := 2) (v := .ref arv) (C := RX2) (T := TX2) (N := 14) hx hb ht iX2 hown hK hP 0 rfl rfl 10 (by decide) (ht _ g_336) (fun _ h9 => h9) rfl dX2_copy_46 ?_
      refine lv_iload_n hx hb dX2_copy_49 rfl (lv_at hl 1 rfl) ?_
      refine lv_aload_n hx hb dX2_copy_50 rfl (lv_at hl 0 rfl) ?_
      refine va_get (D := (dC, dI)) (ci := 2) (v := .ref arv) (C := RX2) (T := TX2) (N := 14) hx hb ht iX2 hown hK hP 0 rfl rfl 10 (by decide) (ht _ g_336) (fun _ h9 => h9) rfl dX2_copy_51 ?_
      refine lv_iload_n hx hb dX2_copy_54 rfl (lv_at hl 2 rfl) ?_
      refine va_iald hx hb hK hP 6 0 rfl rfl (isReg c_6) dX2_copy_55 ?_
      refine va_iast hx hb hK hP hD hS 6 0 rfl rfl (isReg c_2) dX2_copy_56 (fun H locs hP hD hS => ?_)
      have hP : va_P (dC, dI) vwCl [(mx, .inr (2, [.int 0, .int hf, .int us, .int col, .int mov, .ref aso, .ref ava, .ref ans, .ref anv, .ref ars, .ref arv, .int sty, .ref ast, .ref ago])), (aso, .inl (cI, 2100, .inl so)), (ava, .inl (cI, 2100, .inl va)), (ans, .inl (cI, 2100, .inl ns)), (anv, .inl (cI, 2100, .inl nv)), (ars, .inl (cI, 8, .inl (upd rs ip.toNatClampNeg (rs iq.toNatClampNeg)))), (arv, .inl (cI, 8, .inl (upd rv ip.toNatClampNeg (rv iq.toNatClampNeg)))), (ast, .inl (cI, 2100, .inl st)), (ago, .inl (cI, 2100, .inl go))] H := hP
      have hD : va_D A [(mx, .inr (2, [.int 0, .int hf, .int us, .int col, .int mov, .ref aso, .ref ava, .ref ans, .ref anv, .ref ars, .ref arv, .int sty, .ref ast, .ref ago])), (aso, .inl (cI, 2100, .inl so)), (ava, .inl (cI, 2100, .inl va)), (ans, .inl (cI, 2100, .inl ns)), (anv, .inl (cI, 2100, .inl nv)), (ars, .inl (cI, 8, .inl (upd rs ip.toNatClampNeg (rs iq.toNatClampNeg)))), (arv, .inl (cI, 8, .inl (upd rv ip.toNatClampNeg (rv iq.toNatClampNeg)))), (ast, .inl (cI, 2100, .inl st)), (ago, .inl (cI, 2100, .inl go))] := hD
      refine lv_aload_n hx hb dX2_copy_57 rfl (lv_at hl 0 rfl) ?_
      refine va_get (D := (dC, dI)) (ci := 2) (v := .ref ars) (C := RX2) (T := TX2) (N := 14) hx hb ht iX2 hown hK hP 0 rfl rfl 9 (by decide) (ht _ g_335) (fun _ h9 => h9) rfl dX2_copy_58 ?_
      refine lv_iload_n hx hb dX2_copy_61 rfl (lv_at hl 1 rfl) ?_
      refine va_iald hx hb hK hP 5 0 rfl rfl (isReg c_2) dX2_copy_62 ?_
      refine lv_iconst (v := 2) hx hb dX2_copy_63 (by decide) ?_
      refine lv_icmp_ne (tgt := 71) hx hb dX2_copy_64 (by decide) (fun c_7 => ?_) (fun c_7 => ?_)
      · refine lv_iconst (v := 0) hx hb dX2_copy_71 (by decide) ?_
        have hP9 := hP.sub (ws' := [(mx, .inr (2, [.int 0, .int hf, .int us, .int col, .int mov, .ref aso, .ref ava, .ref ans, .ref anv, .ref ars, .ref arv, .int sty, .ref ast, .ref ago])), (aso, .inl (cI, 2100, .inl so)), (ava, .inl (cI, 2100, .inl va)), (ans, .inl (cI, 2100, .inl ns)), (anv, .inl (cI, 2100, .inl nv)), (ars, .inl (cI, 8, .inl (upd rs ip.toNatClampNeg (rs iq.toNatClampNeg)))), (arv, .inl (cI, 8, .inl (upd rv ip.toNatClampNeg (rv iq.toNatClampNeg)))), (ast, .inl (cI, 2100, .inl st)), (ago, .inl (cI, 2100, .inl go))]) [0, 1, 2, 3, 4, 5, 6, 7, 8] rfl
        have hD9 := hD.sub (ws' := [(mx, .inr (2, [.int 0, .int hf, .int us, .int col, .int mov, .ref aso, .ref ava, .ref ans, .ref anv, .ref ars, .ref arv, .int sty, .ref ast, .ref ago])), (aso, .inl (cI, 2100, .inl so)), (ava, .inl (cI, 2100, .inl va)), (ans, .inl (cI, 2100, .inl ns)), (anv, .inl (cI, 2100, .inl nv)), (ars, .inl (cI, 8, .inl (upd rs ip.toNatClampNeg (rs iq.toNatClampNeg)))), (arv, .inl (cI, 8, .inl (upd rv ip.toNatClampNeg (rv iq.toNatClampNeg)))), (ast, .inl (cI, 2100, .inl st)), (ago, .inl (cI, 2100, .inl go))]) [0, 1, 2, 3, 4, 5, 6, 7, 8] (by decide) rfl
        have hK9 := hK.sub (tys' := [(cI, .int)]) [0] rfl
        exact W.zret (v := 0) hx hb hr (by decide) (fun t ht hW => ⟨⟨_, (0, us, col, mov, so, va, ns, nv, upd rs ip.toNatClampNeg (rs iq.toNatClampNeg), upd rv ip.toNatClampNeg (rv iq.toNatClampNeg), sty, st, go), rfl, (by simp only [fX2_copy, if_neg c_2, if_neg c_6, if_neg c_7]), by rw [ht]; exact hP9, va_K.moved hW.alike hK9, hD9⟩, hS.F ht⟩) hS.2.2 dX2_copy_72
      · refine lv_iconst (v := 1) hx hb dX2_copy_67 (by decide) ?_
        refine lv_goto (tgt := 72) hx hb dX2_copy_68 (by decide) ?_
        have hP9 := hP.sub (ws' := [(mx, .inr (2, [.int 0, .int hf, .int us, .int col, .int mov, .ref aso, .ref ava, .ref ans, .ref anv, .ref ars, .ref arv, .int sty, .ref ast, .ref ago])), (aso, .inl (cI, 2100, .inl so)), (ava, .inl (cI, 2100, .inl va)), (ans, .inl (cI, 2100, .inl ns)), (anv, .inl (cI, 2100, .inl nv)), (ars, .inl (cI, 8, .inl (upd rs ip.toNatClampNeg (rs iq.toNatClampNeg)))), (arv, .inl (cI, 8, .inl (upd rv ip.toNatClampNeg (rv iq.toNatClampNeg)))), (ast, .inl (cI, 2100, .inl st)), (ago, .inl (cI, 2100, .inl go))]) [0, 1, 2, 3, 4, 5, 6, 7, 8] rfl
        have hD9 := hD.sub (ws' := [(mx, .inr (2, [.int 0, .int hf, .int us, .int col, .int mov, .ref aso, .ref ava, .ref ans, .ref anv, .ref ars, .ref arv, .int sty, .ref ast, .ref ago])), (aso, .inl (cI, 2100, .inl so)), (ava, .inl (cI, 2100, .inl va)), (ans, .inl (cI, 2100, .inl ns)), (anv, .inl (cI, 2100, .inl nv)), (ars, .inl (cI, 8, .inl (upd rs ip.toNatClampNeg (rs iq.toNatClampNeg)))), (arv, .inl (cI, 8, .inl (upd rv ip.toNatClampNeg (rv iq.toNatClampNeg)))), (ast, .inl (cI, 2100, .inl st)), (ago, .inl (cI, 2100, .inl go))]) [0, 1, 2, 3, 4, 5, 6, 7, 8] (by decide) rfl
        have hK9 := hK.sub (tys' := [(cI, .int)]) [0] rfl
        exact W.zret (v := 1) hx hb hr (by decide) (fun t ht hW => ⟨⟨_, (0, us, col, mov, so, va, ns, nv, upd rs ip.toNatClampNeg (rs iq.toNatClampNeg), upd rv ip.toNatClampNeg (rv iq.toNatClampNeg), sty, st, go), rfl, (by simp only [fX2_copy, if_neg c_2, if_neg c_6, if_pos c_7]), by rw [ht]; exact hP9, va_K.moved hW.alike hK9, hD9⟩, hS.F ht⟩) hS.2.2 dX2_copy_72
    · refine lv_aload_n hx hb dX2_copy_19 rfl (lv_at hl 0 rfl) ?_
      refine lv_iconst (v := 1) hx hb dX2_copy_20 (by decide) ?_
      have hPc := hP.sub (ws' := [(mx, .inr (2, [.int 0, .int hf, .int us, .int col, .int mov, .ref aso, .ref ava, .ref ans, .ref anv, .ref ars, .ref arv, .int sty, .ref ast, .ref ago])), (aso, .inl (cI, 2100, .inl so)), (ava, .inl (cI, 2100, .inl va)), (ans, .inl (cI, 2100, .inl ns)), (anv, .inl (cI, 2100, .inl nv)), (ars, .inl (cI, 8, .inl rs)), (arv, .inl (cI, 8, .inl rv)), (ast, .inl (cI, 2100, .inl st)), (ago, .inl (cI, 2100, .inl go))]) [0, 1, 2, 3, 4, 5, 6, 7, 8] rfl
      have hKc := hK.sub (tys' := [(cI, .int)]) [0] rfl
      have hDc := hD.sub (ws' := [(mx, .inr (2, [.int 0, .int hf, .int us, .int col, .int mov, .ref aso, .ref ava, .ref ans, .ref anv, .ref ars, .ref arv, .int sty, .ref ast, .ref ago])), (aso, .inl (cI, 2100, .inl so)), (ava, .inl (cI, 2100, .inl va)), (ans, .inl (cI, 2100, .inl ns)), (anv, .inl (cI, 2100, .inl nv)), (ars, .inl (cI, 8, .inl rs)), (arv, .inl (cI, 8, .inl rv)), (ast, .inl (cI, 2100, .inl st)), (ago, .inl (cI, 2100, .inl go))]) [0, 1, 2, 3, 4, 5, 6, 7, 8] (by decide) rfl
      have hFc := va_free (wc := [(mx, .inr (2, [.int 0, .int hf, .int us, .int col, .int mov, .ref aso, .ref ava, .ref ans, .ref anv, .ref ars, .ref arv, .int sty, .ref ast, .ref ago])), (aso, .inl (cI, 2100, .inl so)), (ava, .inl (cI, 2100, .inl va)), (ans, .inl (cI, 2100, .inl ns)), (anv, .inl (cI, 2100, .inl nv)), (ars, .inl (cI, 8, .inl rs)), (arv, .inl (cI, 8, .inl rv)), (ast, .inl (cI, 2100, .inl st)), (ago, .inl (cI, 2100, .inl go))]) hD hS hA [0, 1, 2, 3, 4, 5, 6, 7, 8] rfl
      refine va_calli (va_runV (As := [.int 1]) (rest := []) ⟨hx, hb, hml, hown, ht⟩ (ctX2_fail l dC dI cI mx aso ava ans anv ars arv ast ago 0 hf us col mov sty so va ns nv rs rv st go 1 _ ) (cwV 1 ht gcX2_69 rfl rfl rfl (by decide +kernel) ⟨Nat.le_of_ble_eq_true rfl, Nat.le_of_ble_eq_true rfl⟩) ⟨pM.blind, va_recv hKc hPc (ci := 2) (q0 := 0) rfl rfl, pM.call hPc hKc hDc hE⟩ rfl rfl hl.1 rfl (lv_room (Nat.le_of_ble_eq_true rfl)) dX2_copy_21 ⟨Nat.le_of_ble_eq_true rfl, Nat.le_of_ble_eq_true rfl⟩) hS (fun q _ h => hFc q h) hFc (fun r_9 u_8 t H1 locs ht9 hvm hw hB hz1 hk1 hS => ?_)
      obtain ⟨rfl, rfl⟩ : r_9 = 0 ∧ u_8 = (1, us, col, mov, so, va, ns, nv, rs, rv, sty, st, go) := ⟨(Prod.mk.inj hw).1, (Prod.mk.inj hw).2⟩
      obtain ⟨hP1, hK1, hD1⟩ := hB
      rw [ht9] at hP1
      obtain ⟨hP, hD⟩ := va_join (wr := []) (w1 := [(mx, .inr (2, [.int 1, .int hf, .int us, .int col, .int mov, .ref aso, .ref ava, .ref ans, .ref anv, .ref ars, .ref arv, .int sty, .ref ast, .ref ago])), (aso, .inl (cI, 2100, .inl so)), (ava, .inl (cI, 2100, .inl va)), (ans, .inl (cI, 2100, .inl ns)), (anv, .inl (cI, 2100, .inl nv)), (ars, .inl (cI, 8, .inl rs)), (arv, .inl (cI, 8, .inl rv)), (ast, .inl (cI, 2100, .inl st)), (ago, .inl (cI, 2100, .inl go))]) hP hD [0, 1, 2, 3, 4, 5, 6, 7, 8] [] rfl rfl (by decide) (by decide) hk1 hFc hP1 hD1
      generalize H1 = H at hP hS ⊢
      have hP := hP.sub (ws' := [(mx, .inr (2, [.int 1, .int hf, .int us, .int col, .int mov, .ref aso, .ref ava, .ref ans, .ref anv, .ref ars, .ref arv, .int sty, .ref ast, .ref ago])), (aso, .inl (cI, 2100, .inl so)), (ava, .inl (cI, 2100, .inl va)), (ans, .inl (cI, 2100, .inl ns)), (anv, .inl (cI, 2100, .inl nv)), (ars, .inl (cI, 8, .inl rs)), (arv, .inl (cI, 8, .inl rv)), (ast, .inl (cI, 2100, .inl st)), (ago, .inl (cI, 2100, .inl go))]) [0, 1, 2, 3, 4, 5, 6, 7, 8] rfl
      have hD := hD.sub (ws' := [(mx, .inr (2, [.int 1, .int hf, .int us, .int col, .int mov, .ref aso, .ref ava, .ref ans, .ref anv, .ref ars, .ref arv, .int sty, .ref ast, .ref ago])), (aso, .inl (cI, 2100, .inl so)), (ava, .inl (cI, 2100, .inl va)), (ans, .inl (cI, 2100, .inl ns)), (anv, .inl (cI, 2100, .inl nv)), (ars, .inl (cI, 8, .inl rs)), (arv, .inl (cI, 8, .inl rv)), (ast, .inl (cI, 2100, .inl st)), (ago, .inl (cI, 2100, .inl go))]) [0, 1, 2, 3, 4, 5, 6, 7, 8] (by decide) rfl
      refine lv_if_le (tgt := 31) hx hb dX2_copy_24 (by decide) (fun _ => ?_) (fun h => absurd (by decide) h)
      refine lv_iconst (v := 0) hx hb dX2_copy_31 (by decide) ?_
      have hP9 := hP.sub (ws' := [(mx, .inr (2, [.int 1, .int hf, .int us, .int col, .int mov, .ref aso, .ref ava, .ref ans, .ref anv, .ref ars, .ref arv, .int sty, .ref ast, .ref ago])), (aso, .inl (cI, 2100, .inl so)), (ava, .inl (cI, 2100, .inl va)), (ans, .inl (cI, 2100, .inl ns)), (anv, .inl (cI, 2100, .inl nv)), (ars, .inl (cI, 8, .inl rs)), (arv, .inl (cI, 8, .inl rv)), (ast, .inl (cI, 2100, .inl st)), (ago, .inl (cI, 2100, .inl go))]) [0, 1, 2, 3, 4, 5, 6, 7, 8] rfl
      have hD9 := hD.sub (ws' := [(mx, .inr (2, [.int 1, .int hf, .int us, .int col, .int mov, .ref aso, .ref ava, .ref ans, .ref anv, .ref ars, .ref arv, .int sty, .ref ast, .ref ago])), (aso, .inl (cI, 2100, .inl so)), (ava, .inl (cI, 2100, .inl va)), (ans, .inl (cI, 2100, .inl ns)), (anv, .inl (cI, 2100, .inl nv)), (ars, .inl (cI, 8, .inl rs)), (arv, .inl (cI, 8, .inl rv)), (ast, .inl (cI, 2100, .inl st)), (ago, .inl (cI, 2100, .inl go))]) [0, 1, 2, 3, 4, 5, 6, 7, 8] (by decide) rfl
      have hK9 := hK.sub (tys' := [(cI, .int)]) [0] rfl
      exact W.zret (v := 0) hx hb hr (by decide) (fun t ht hW => ⟨⟨_, (1, us, col, mov, so, va, ns, nv, rs, rv, sty, st, go), rfl, (by simp only [fX2_copy, if_neg c_2, if_pos c_6]), by rw [ht]; exact hP9, va_K.moved hW.alike hK9, hD9⟩, hS.F ht⟩) hS.2.2 dX2_copy_32
theorem isRaw2 {va rs rv : Nat → Int32} {i : Int32} (h : ¬ fX2_isRaw va rs rv i = 0) : rs i.toNatClampNeg = 2 := by
  unfold fX2_isRaw at h
  by_cases h0 : rs i.toNatClampNeg = 2
  · exact h0
  · rw [if_neg h0] at h; exact absurd rfl h
def fX2_raw (th : Int32) (us : Int32) (col : Int32) (mov : Int32) (so : Nat → Int32) (va : Nat → Int32) (ns : Nat → Int32) (nv : Nat → Int32) (rs : Nat → Int32) (rv : Nat → Int32) (sty : Int32) (st : Nat → Int32) (go : Nat → Int32) (ip : Int32) (iq : Int32) (ir : Int32) : Int32 × Int32 × Int32 × Int32 × Int32 × (Nat → Int32) × (Nat → Int32) × (Nat → Int32) × (Nat → Int32) × (Nat → Int32) × (Nat → Int32) × Int32 × (Nat → Int32) × (Nat → Int32) := (if fX2_isRegister ip = 0 then (0, (1, us, col, mov, so, va, ns, nv, rs, rv, sty, st, go)) else (if fX2_isRaw va rs rv ip = 0 then (0, (2, us, col, mov, so, va, ns, nv, rs, rv, sty, st, go)) else (if fX2_hasField va rv ip iq = 0 then (0, (3, us, col, mov, so, va, ns, nv, rs, rv, sty, st, go)) else (va (((rv ip.toNatClampNeg) + 1) + iq).toNatClampNeg, (0, us, col, mov, so, upd va (((rv ip.toNatClampNeg) + 1) + iq).toNatClampNeg ir, ns, nv, rs, rv, sty, st, go)))))
abbrev atX2_raw (dC : Nat → ClassId) (dI : Nat → Nat → Nat) (cI : ClassId) (A : Nat → Prop) (mx : Nat) (aso : Nat) (ava : Nat) (ans : Nat) (anv : Nat) (ars : Nat) (arv : Nat) (ast : Nat) (ago : Nat) (hf : Int32) (u : Int32 × Int32 × Int32 × Int32 × (Nat → Int32) × (Nat → Int32) × (Nat → Int32) × (Nat → Int32) × (Nat → Int32) × (Nat → Int32) × Int32 × (Nat → Int32) × (Nat → Int32)) (t : State) : Prop := va_P (dC, dI) vwCl [(mx, .inr (2, [.int u.1, .int hf, .int u.2.1, .int u.2.2.1, .int u.2.2.2.1, .ref aso, .ref ava, .ref ans, .ref anv, .ref ars, .ref arv, .int u.2.2.2.2.2.2.2.2.2.2.1, .ref ast, .ref ago])), (aso, .inl (cI, 2100, .inl u.2.2.2.2.1)), (ava, .inl (cI, 2100, .inl u.2.2.2.2.2.1)), (ans, .inl (cI, 2100, .inl u.2.2.2.2.2.2.1)), (anv, .inl (cI, 2100, .inl u.2.2.2.2.2.2.2.1)), (ars, .inl (cI, 8, .inl u.2.2.2.2.2.2.2.2.1)), (arv, .inl (cI, 8, .inl u.2.2.2.2.2.2.2.2.2.1)), (ast, .inl (cI, 2100, .inl u.2.2.2.2.2.2.2.2.2.2.2.1)), (ago, .inl (cI, 2100, .inl u.2.2.2.2.2.2.2.2.2.2.2.2))] t.heap ∧ va_K (dC, dI) vwCl [(cI, .int)] t ∧ va_D A [(mx, .inr (2, [.int u.1, .int hf, .int u.2.1, .int u.2.2.1, .int u.2.2.2.1, .ref aso, .ref ava, .ref ans, .ref anv, .ref ars, .ref arv, .int u.2.2.2.2.2.2.2.2.2.2.1, .ref ast, .ref ago])), (aso, .inl (cI, 2100, .inl u.2.2.2.2.1)), (ava, .inl (cI, 2100, .inl u.2.2.2.2.2.1)), (ans, .inl (cI, 2100, .inl u.2.2.2.2.2.2.1)), (anv, .inl (cI, 2100, .inl u.2.2.2.2.2.2.2.1)), (ars, .inl (cI, 8, .inl u.2.2.2.2.2.2.2.2.1)), (arv, .inl (cI, 8, .inl u.2.2.2.2.2.2.2.2.2.1)), (ast, .inl (cI, 2100, .inl u.2.2.2.2.2.2.2.2.2.2.2.1)), (ago, .inl (cI, 2100, .inl u.2.2.2.2.2.2.2.2.2.2.2.2))]
set_option maxHeartbeats 4000000 in
set_option maxRecDepth 100000 in
theorem ctX2_raw (l : Launch) (dC : Nat → ClassId) (dI : Nat → Nat → Nat) (cI : ClassId) (mx : Nat) (aso : Nat) (ava : Nat) (ans : Nat) (anv : Nat) (ars : Nat) (arv : Nat) (ast : Nat) (ago : Nat) (th : Int32) (hf : Int32) (us : Int32) (col : Int32) (mov : Int32) (sty : Int32) (so : Nat → Int32) (va : Nat → Int32) (ns : Nat → Int32) (nv : Nat → Int32) (rs : Nat → Int32) (rv : Nat → Int32) (st : Nat → Int32) (go : Nat → Int32) (ip : Int32) (iq : Int32) (ir : Int32) (sz : Nat) (hrv : ∀ i : Int32, vp_in i 8 → rs i.toNatClampNeg = 2 → vp_in (rv i.toNatClampNeg) 2100) (hrf : ∀ i k : Int32, vp_in i 8 → rs i.toNatClampNeg = 2 → ¬ fX2_hasField va rv i k = 0 → vp_in (rv i.toNatClampNeg + 1 + k) 2100) : Met l yX2_raw (kX2_raw :: gT) ({ frames := 2, cells := 0, slots := 0, locals := 43 }) (va_Pc [.ref mx, .int ip, .int iq, .int ir] (pM (dC, dI) [(mx, .inr (2, [.int th, .int hf, .int us, .int col, .int mov, .ref aso, .ref ava, .ref ans, .ref anv, .ref ars, .ref arv, .int sty, .ref ast, .ref ago])), (aso, .inl (cI, 2100, .inl so)), (ava, .inl (cI, 2100, .inl va)), (ans, .inl (cI, 2100, .inl ns)), (anv, .inl (cI, 2100, .inl nv)), (ars, .inl (cI, 8, .inl rs)), (arv, .inl (cI, 8, .inl rv)), (ast, .inl (cI, 2100, .inl st)), (ago, .inl (cI, 2100, .inl go))] [(cI, .int)] sz)) (va_Qi (fun (r : Int32) (u : Int32 × Int32 × Int32 × Int32 × (Nat → Int32) × (Nat → Int32) × (Nat → Int32) × (Nat → Int32) × (Nat → Int32) × (Nat → Int32) × Int32 × (Nat → Int32) × (Nat → Int32)) => (r, u) = fX2_raw th us col mov so va ns nv rs rv sty st go ip iq ir) (atX2_raw dC dI cI (va_A [(mx, .inr (2, [.int th, .int hf, .int us, .int col, .int mov, .ref aso, .ref ava, .ref ans, .ref anv, .ref ars, .ref arv, .int sty, .ref ast, .ref ago])), (aso, .inl (cI, 2100, .inl so)), (ava, .inl (cI, 2100, .inl va)), (ans, .inl (cI, 2100, .inl ns)), (anv, .inl (cI, 2100, .inl nv)), (ars, .inl (cI, 8, .inl rs)), (arv, .inl (cI, 8, .inl rv)), (ast, .inl (cI, 2100, .inl st)), (ago, .inl (cI, 2100, .inl go))] sz) mx aso ava ans anv ars arv ast ago hf) (va_A [(mx, .inr (2, [.int th, .int hf, .int us, .int col, .int mov, .ref aso, .ref ava, .ref ans, .ref anv, .ref ars, .ref arv, .int sty, .ref ast, .ref ago])), (aso, .inl (cI, 2100, .inl so)), (ava, .inl (cI, 2100, .inl va)), (ans, .inl (cI, 2100, .inl ns)), (anv, .inl (cI, 2100, .inl nv)), (ars, .inl (cI, 8, .inl rs)), (arv, .inl (cI, 8, .inl rv)), (ast, .inl (cI, 2100, .inl st)), (ago, .inl (cI, 2100, .inl go))] sz)) 0 0 (va_A [(mx, .inr (2, [.int th, .int hf, .int us, .int col, .int mov, .ref aso, .ref ava, .ref ans, .ref anv, .ref ars, .ref arv, .int sty, .ref ast, .ref ago])), (aso, .inl (cI, 2100, .inl so)), (ava, .inl (cI, 2100, .inl va)), (ans, .inl (cI, 2100, .inl ns)), (anv, .inl (cI, 2100, .inl nv)), (ars, .inl (cI, 8, .inl rs)), (arv, .inl (cI, 8, .inl rv)), (ast, .inl (cI, 2100, .inl st)), (ago, .inl (cI, 2100, .inl go))] sz) := by
  refine Met.ofW (cc := cX2_raw) (maxL := 6) (ret := (some .int)) (by decide) rfl ?_
  intro p e s m args below meth c s₁ B hml hv
  obtain ⟨rfl, hsz, hP, hK, hD0, hE⟩ := hv
  have hx := B.exec
  have hb := B.bytes
  have hr := B.returns
  have ht : ∀ w ∈ gT, w.before ([.ref mx, .int ip, .int iq, .int ir] : List Value).toArray s = true := fun w h => atoms_spec (ws := kX2_raw :: gT) B.pre w (List.mem_cons_of_mem _ h)
  have hown : s.vm.findClass RX2 = some m.cls := findClass_of_methodNamed B.named
  have hlocks := B.notSynchronized
  subst hsz
  have hD := hD0.self (sz := s.heap.size)
  generalize hAe : va_A [(mx, .inr (2, [.int th, .int hf, .int us, .int col, .int mov, .ref aso, .ref ava, .ref ans, .ref anv, .ref ars, .ref arv, .int sty, .ref ast, .ref ago])), (aso, .inl (cI, 2100, .inl so)), (ava, .inl (cI, 2100, .inl va)), (ans, .inl (cI, 2100, .inl ns)), (anv, .inl (cI, 2100, .inl nv)), (ars, .inl (cI, 8, .inl rs)), (arv, .inl (cI, 8, .inl rv)), (ast, .inl (cI, 2100, .inl st)), (ago, .inl (cI, 2100, .inl go))] s.heap.size = A at hD ⊢
  have hA : ∀ q : Nat, s.heap.size ≤ q → A q := fun q h => by rw [← hAe]; exact Or.inr h
  have hS : va_S A s.heap s.heap [] := va_S.rf
  have hl := lv_entry ([.ref mx, .int ip, .int iq, .int ir]) (n := 6) (Nat.le_of_ble_eq_true rfl)
  rw [lg_entry_eq]
  generalize (lg_sl ([.ref mx, .int ip, .int iq, .int ir]) ++ List.replicate (6 - (lg_sl ([.ref mx, .int ip, .int iq, .int ir])).length) Slot.unset).toArray = ls at hl ⊢
  have hl : lv_has ls 6 [(0, .ref mx), (1, .int ip), (2, .int iq), (3, .int ir)] := hl
  refine lv_aload_n hx hb dX2_raw_0 rfl (lv_at hl 0 rfl) ?_
  refine lv_iconst (v := 0) hx hb dX2_raw_1 (by decide) ?_
  refine va_put (D := (dC, dI)) (ci := 2) (v := .int 0) (ty := .int) (C := RX2) (T := TX2) (N := 14) hx hb ht iX2 tyX2 tkX2 nmX2 hown hK hP hD hS 0 rfl rfl 0 (by decide) (ht _ g_326) (fun _ h9 => h9) rfl (by decide +kernel) rfl rfl (Nat.le_of_ble_eq_true rfl) dX2_raw_2 (fun H locs hP hD hS => ?_)
  have hP : va_P (dC, dI) vwCl [(mx, .inr (2, [.int 0, .int hf, .int us, .int col, .int mov, .ref aso, .ref ava, .ref ans, .ref anv, .ref ars, .ref arv, .int sty, .ref ast, .ref ago])), (aso, .inl (cI, 2100, .inl so)), (ava, .inl (cI, 2100, .inl va)), (ans, .inl (cI, 2100, .inl ns)), (anv, .inl (cI, 2100, .inl nv)), (ars, .inl (cI, 8, .inl rs)), (arv, .inl (cI, 8, .inl rv)), (ast, .inl (cI, 2100, .inl st)), (ago, .inl (cI, 2100, .inl go))] H := hP
  have hD : va_D A [(mx, .inr (2, [.int 0, .int hf, .int us, .int col, .int mov, .ref aso, .ref ava, .ref ans, .ref anv, .ref ars, .ref arv, .int sty, .ref ast, .ref ago])), (aso, .inl (cI, 2100, .inl so)), (ava, .inl (cI, 2100, .inl va)), (ans, .inl (cI, 2100, .inl ns)), (anv, .inl (cI, 2100, .inl nv)), (ars, .inl (cI, 8, .inl rs)), (arv, .inl (cI, 8, .inl rv)), (ast, .inl (cI, 2100, .inl st)), (ago, .inl (cI, 2100, .inl go))] := hD
  refine lv_iload_n hx hb dX2_raw_5 rfl (lv_at hl 1 rfl) ?_
  refine vp_callSi (va_runS (As := [.int ip]) (rest := []) ⟨hx, hb, hml, hown, ht⟩ (ctX2_isRegister l ip) (cwS 1 ht gcX2_65 rfl rfl rfl (by decide +kernel) ⟨Nat.le_of_ble_eq_true rfl, Nat.le_of_ble_eq_true rfl⟩) ⟨pT.blind, pT.call⟩ rfl rfl hl.1 rfl (lv_room (Nat.le_of_ble_eq_true rfl)) dX2_raw_6 ⟨Nat.le_of_ble_eq_true rfl, Nat.le_of_ble_eq_true rfl⟩).run (fun r_1 hr_1 => ?_)
  subst hr_1
  refine lv_if_ne (tgt := 18) hx hb dX2_raw_9 (by decide) (fun c_2 => ?_) (fun c_2 => ?_)
  · refine lv_aload_n hx hb dX2_raw_18 rfl (lv_at hl 0 rfl) ?_
    refine lv_iload_n hx hb dX2_raw_19 rfl (lv_at hl 1 rfl) ?_
    have hPc := hP.sub (ws' := [(mx, .inr (2, [.int 0, .int hf, .int us, .int col, .int mov, .ref aso, .ref ava, .ref ans, .ref anv, .ref ars, .ref arv, .int sty, .ref ast, .ref ago])), (aso, .inl (cI, 2100, .inl so)), (ava, .inl (cI, 2100, .inl va)), (ans, .inl (cI, 2100, .inl ns)), (anv, .inl (cI, 2100, .inl nv)), (ars, .inl (cI, 8, .inl rs)), (arv, .inl (cI, 8, .inl rv)), (ast, .inl (cI, 2100, .inl st)), (ago, .inl (cI, 2100, .inl go))]) [0, 1, 2, 3, 4, 5, 6, 7, 8] rfl
    have hKc := hK.sub (tys' := [(cI, .int)]) [0] rfl
    refine vp_callSi (va_runV (As := [.int ip]) (rest := []) ⟨hx, hb, hml, hown, ht⟩ (ctX2_isRaw l dC dI cI mx aso ava ans anv ars arv ast ago 0 hf us col mov sty so va ns nv rs rv st go ip (isReg c_2) (hrv _ (isReg c_2))) (cwV 1 ht gcX2_75 rfl rfl rfl (by decide +kernel) ⟨Nat.le_of_ble_eq_true rfl, Nat.le_of_ble_eq_true rfl⟩) ⟨pS.blind, va_recv hKc hPc (ci := 2) (q0 := 0) rfl rfl, pS.call hPc hKc hE⟩ rfl rfl hl.1 rfl (lv_room (Nat.le_of_ble_eq_true rfl)) dX2_raw_20 ⟨Nat.le_of_ble_eq_true rfl, Nat.le_of_ble_eq_true rfl⟩).run (fun r_3 hr_3 => ?_)
    subst hr_3
    refine lv_if_ne (tgt := 32) hx hb dX2_raw_23 (by decide) (fun c_4 => ?_) (fun c_4 => ?_)
    · refine lv_aload_n hx hb dX2_raw_32 rfl (lv_at hl 0 rfl) ?_
      refine lv_iload_n hx hb dX2_raw_33 rfl (lv_at hl 1 rfl) ?_
      refine lv_iload_n hx hb dX2_raw_34 rfl (lv_at hl 2 rfl) ?_
      have hPc := hP.sub (ws' := [(mx, .inr (2, [.int 0, .int hf, .int us, .int col, .int mov, .ref aso, .ref ava, .ref ans, .ref anv, .ref ars, .ref arv, .int sty, .ref ast, .ref ago])), (aso, .inl (cI, 2100, .inl so)), (ava, .inl (cI, 2100, .inl va)), (ans, .inl (cI, 2100, .inl ns)), (anv, .inl (cI, 2100, .inl nv)), (ars, .inl (cI, 8, .inl rs)), (arv, .inl (cI, 8, .inl rv)), (ast, .inl (cI, 2100, .inl st)), (ago, .inl (cI, 2100, .inl go))]) [0, 1, 2, 3, 4, 5, 6, 7, 8] rfl
      have hKc := hK.sub (tys' := [(cI, .int)]) [0] rfl
      refine vp_callSi (va_runV (As := [.int ip, .int iq]) (rest := []) ⟨hx, hb, hml, hown, ht⟩ (ctX2_hasField l dC dI cI mx aso ava ans anv ars arv ast ago 0 hf us col mov sty so va ns nv rs rv st go ip iq (isReg c_2) (hrv _ (isReg c_2) (isRaw2 c_4))) (cwV 2 ht gcX2_78 rfl rfl rfl (by decide +kernel) ⟨Nat.le_of_ble_eq_true rfl, Nat.le_of_ble_eq_true rfl⟩) ⟨pS.blind, va_recv hKc hPc (ci := 2) (q0 := 0) rfl rfl, pS.call hPc hKc hE⟩ rfl rfl hl.1 rfl (lv_room (Nat.le_of_ble_eq_true rfl)) dX2_raw_35 ⟨Nat.le_of_ble_eq_true rfl, Nat.le_of_ble_eq_true rfl⟩).run (fun r_5 hr_5 => ?_)
      subst hr_5
      refine lv_if_ne (tgt := 47) hx hb dX2_raw_38 (by decide) (fun c_6 => ?_) (fun c_6 => ?_)
      · refine lv_aload_n hx hb dX2_raw_47 rfl (lv_at hl 0 rfl) ?_
        refine va_get (D := (dC, dI)) (ci := 2) (v := .ref arv) (C := RX2) (T := TX2) (N := 14) hx hb ht iX2 hown hK hP 0 rfl rfl 10 (by decide) (ht _ g_336) (fun _ h9 => h9) rfl dX2_raw_48 ?_
        refine lv_iload_n hx hb dX2_raw_51 rfl (lv_at hl 1 rfl) ?_
        refine va_iald hx hb hK hP 6 0 rfl rfl (isReg c_2) dX2_raw_52 ?_
        refine lv_iconst (v := 1) hx hb dX2_raw_53 (by decide) ?_
        refine lv_iadd hx hb dX2_raw_54 ?_
        refine lv_iload_n hx hb dX2_raw_55 rfl (lv_at hl 2 rfl) ?_
        refine lv_iadd hx hb dX2_raw_56 ?_
        refine lv_istore (lv' := [(4, .int (((rv ip.toNatClampNeg) + 1) + iq)), (0, .ref mx), (1, .int ip), (2, .int iq), (3, .int ir)]) hx hb dX2_raw_57 hl (by decide) rfl (fun ls hl => ?_)
        refine lv_aload_n hx hb dX2_raw_59 rfl (lv_at hl 1 rfl) ?_
        refine va_get (D := (dC, dI)) (ci := 2) (v := .ref ava) (C := RX2) (T := TX2) (N := 14) hx hb ht iX2 hown hK hP 0 rfl rfl 6 (by decide) (ht _ g_332) (fun _ h9 => h9) rfl dX2_raw_60 ?_
        refine lv_iload hx hb dX2_raw_63 (lv_at hl 0 rfl) ?_
        refine va_iald hx hb hK hP 2 0 rfl rfl (hrf _ _ (isReg c_2) (isRaw2 c_4) c_6) dX2_raw_65 ?_
        refine lv_istore (lv' := [(5, .int (va (((rv ip.toNatClampNeg) + 1) + iq).toNatClampNeg)), (4, .int (((rv ip.toNatClampNeg) + 1) + iq)), (0, .ref mx), (1, .int ip), (2, .int iq), (3, .int ir)]) hx hb dX2_raw_66 hl (by decide) rfl (fun ls hl => ?_)
        refine lv_aload_n hx hb dX2_raw_68 rfl (lv_at hl 2 rfl) ?_
        refine va_get (D := (dC, dI)) (ci := 2) (v := .ref ava) (C := RX2) (T := TX2) (N := 14) hx hb ht iX2 hown hK hP 0 rfl rfl 6 (by decide) (ht _ g_332) (fun _ h9 => h9) rfl dX2_raw_69 ?_
        refine lv_iload hx hb dX2_raw_72 (lv_at hl 1 rfl) ?_
        refine lv_iload_n hx hb dX2_raw_74 rfl (lv_at hl 5 rfl) ?_
        refine va_iast hx hb hK hP hD hS 2 0 rfl rfl (hrf _ _ (isReg c_2) (isRaw2 c_4) c_6) dX2_raw_75 (fun H locs hP hD hS => ?_)
        have hP : va_P (dC, dI) vwCl [(mx, .inr (2, [.int 0, .int hf, .int us, .int col, .int mov, .ref aso, .ref ava, .ref ans, .ref anv, .ref ars, .ref arv, .int sty, .ref ast, .ref ago])), (aso, .inl (cI, 2100, .inl so)), (ava, .inl (cI, 2100, .inl (upd va (((rv ip.toNatClampNeg) + 1) + iq).toNatClampNeg ir))), (ans, .inl (cI, 2100, .inl ns)), (anv, .inl (cI, 2100, .inl nv)), (ars, .inl (cI, 8, .inl rs)), (arv, .inl (cI, 8, .inl rv)), (ast, .inl (cI, 2100, .inl st)), (ago, .inl (cI, 2100, .inl go))] H := hP
        have hD : va_D A [(mx, .inr (2, [.int 0, .int hf, .int us, .int col, .int mov, .ref aso, .ref ava, .ref ans, .ref anv, .ref ars, .ref arv, .int sty, .ref ast, .ref ago])), (aso, .inl (cI, 2100, .inl so)), (ava, .inl (cI, 2100, .inl (upd va (((rv ip.toNatClampNeg) + 1) + iq).toNatClampNeg ir))), (ans, .inl (cI, 2100, .inl ns)), (anv, .inl (cI, 2100, .inl nv)), (ars, .inl (cI, 8, .inl rs)), (arv, .inl (cI, 8, .inl rv)), (ast, .inl (cI, 2100, .inl st)), (ago, .inl (cI, 2100, .inl go))] := hD
        refine lv_iload hx hb dX2_raw_76 (lv_at hl 0 rfl) ?_
        have hP9 := hP.sub (ws' := [(mx, .inr (2, [.int 0, .int hf, .int us, .int col, .int mov, .ref aso, .ref ava, .ref ans, .ref anv, .ref ars, .ref arv, .int sty, .ref ast, .ref ago])), (aso, .inl (cI, 2100, .inl so)), (ava, .inl (cI, 2100, .inl (upd va (((rv ip.toNatClampNeg) + 1) + iq).toNatClampNeg ir))), (ans, .inl (cI, 2100, .inl ns)), (anv, .inl (cI, 2100, .inl nv)), (ars, .inl (cI, 8, .inl rs)), (arv, .inl (cI, 8, .inl rv)), (ast, .inl (cI, 2100, .inl st)), (ago, .inl (cI, 2100, .inl go))]) [0, 1, 2, 3, 4, 5, 6, 7, 8] rfl
        have hD9 := hD.sub (ws' := [(mx, .inr (2, [.int 0, .int hf, .int us, .int col, .int mov, .ref aso, .ref ava, .ref ans, .ref anv, .ref ars, .ref arv, .int sty, .ref ast, .ref ago])), (aso, .inl (cI, 2100, .inl so)), (ava, .inl (cI, 2100, .inl (upd va (((rv ip.toNatClampNeg) + 1) + iq).toNatClampNeg ir))), (ans, .inl (cI, 2100, .inl ns)), (anv, .inl (cI, 2100, .inl nv)), (ars, .inl (cI, 8, .inl rs)), (arv, .inl (cI, 8, .inl rv)), (ast, .inl (cI, 2100, .inl st)), (ago, .inl (cI, 2100, .inl go))]) [0, 1, 2, 3, 4, 5, 6, 7, 8] (by decide) rfl
        have hK9 := hK.sub (tys' := [(cI, .int)]) [0] rfl
        exact W.iret (v := va (((rv ip.toNatClampNeg) + 1) + iq).toNatClampNeg) hx hb hr (fun t ht hW => ⟨⟨_, (0, us, col, mov, so, upd va (((rv ip.toNatClampNeg) + 1) + iq).toNatClampNeg ir, ns, nv, rs, rv, sty, st, go), rfl, (by simp only [fX2_raw, if_neg c_2, if_neg c_4, if_neg c_6]), by rw [ht]; exact hP9, va_K.moved hW.alike hK9, hD9⟩, hS.F ht⟩) hS.2.2 dX2_raw_78
      · refine lv_aload_n hx hb dX2_raw_41 rfl (lv_at hl 0 rfl) ?_
        refine lv_iconst (v := 3) hx hb dX2_raw_42 (by decide) ?_
        have hPc := hP.sub (ws' := [(mx, .inr (2, [.int 0, .int hf, .int us, .int col, .int mov, .ref aso, .ref ava, .ref ans, .ref anv, .ref ars, .ref arv, .int sty, .ref ast, .ref ago])), (aso, .inl (cI, 2100, .inl so)), (ava, .inl (cI, 2100, .inl va)), (ans, .inl (cI, 2100, .inl ns)), (anv, .inl (cI, 2100, .inl nv)), (ars, .inl (cI, 8, .inl rs)), (arv, .inl (cI, 8, .inl rv)), (ast, .inl (cI, 2100, .inl st)), (ago, .inl (cI, 2100, .inl go))]) [0, 1, 2, 3, 4, 5, 6, 7, 8] rfl
        have hKc := hK.sub (tys' := [(cI, .int)]) [0] rfl
        have hDc := hD.sub (ws' := [(mx, .inr (2, [.int 0, .int hf, .int us, .int col, .int mov, .ref aso, .ref ava, .ref ans, .ref anv, .ref ars, .ref arv, .int sty, .ref ast, .ref ago])), (aso, .inl (cI, 2100, .inl so)), (ava, .inl (cI, 2100, .inl va)), (ans, .inl (cI, 2100, .inl ns)), (anv, .inl (cI, 2100, .inl nv)), (ars, .inl (cI, 8, .inl rs)), (arv, .inl (cI, 8, .inl rv)), (ast, .inl (cI, 2100, .inl st)), (ago, .inl (cI, 2100, .inl go))]) [0, 1, 2, 3, 4, 5, 6, 7, 8] (by decide) rfl
        have hFc := va_free (wc := [(mx, .inr (2, [.int 0, .int hf, .int us, .int col, .int mov, .ref aso, .ref ava, .ref ans, .ref anv, .ref ars, .ref arv, .int sty, .ref ast, .ref ago])), (aso, .inl (cI, 2100, .inl so)), (ava, .inl (cI, 2100, .inl va)), (ans, .inl (cI, 2100, .inl ns)), (anv, .inl (cI, 2100, .inl nv)), (ars, .inl (cI, 8, .inl rs)), (arv, .inl (cI, 8, .inl rv)), (ast, .inl (cI, 2100, .inl st)), (ago, .inl (cI, 2100, .inl go))]) hD hS hA [0, 1, 2, 3, 4, 5, 6, 7, 8] rfl
        refine va_calli (va_runV (As := [.int 3]) (rest := []) ⟨hx, hb, hml, hown, ht⟩ (ctX2_fail l dC dI cI mx aso ava ans anv ars arv ast ago 0 hf us col mov sty so va ns nv rs rv st go 3 _ ) (cwV 1 ht gcX2_69 rfl rfl rfl (by decide +kernel) ⟨Nat.le_of_ble_eq_true rfl, Nat.le_of_ble_eq_true rfl⟩) ⟨pM.blind, va_recv hKc hPc (ci := 2) (q0 := 0) rfl rfl, pM.call hPc hKc hDc hE⟩ rfl rfl hl.1 rfl (lv_room (Nat.le_of_ble_eq_true rfl)) dX2_raw_43 ⟨Nat.le_of_ble_eq_true rfl, Nat.le_of_ble_eq_true rfl⟩) hS (fun q _ h => hFc q h) hFc (fun r_8 u_7 t H1 locs ht9 hvm hw hB hz1 hk1 hS => ?_)
        obtain ⟨rfl, rfl⟩ : r_8 = 0 ∧ u_7 = (3, us, col, mov, so, va, ns, nv, rs, rv, sty, st, go) := ⟨(Prod.mk.inj hw).1, (Prod.mk.inj hw).2⟩
        obtain ⟨hP1, hK1, hD1⟩ := hB
        rw [ht9] at hP1
        obtain ⟨hP, hD⟩ := va_join (wr := []) (w1 := [(mx, .inr (2, [.int 3, .int hf, .int us, .int col, .int mov, .ref aso, .ref ava, .ref ans, .ref anv, .ref ars, .ref arv, .int sty, .ref ast, .ref ago])), (aso, .inl (cI, 2100, .inl so)), (ava, .inl (cI, 2100, .inl va)), (ans, .inl (cI, 2100, .inl ns)), (anv, .inl (cI, 2100, .inl nv)), (ars, .inl (cI, 8, .inl rs)), (arv, .inl (cI, 8, .inl rv)), (ast, .inl (cI, 2100, .inl st)), (ago, .inl (cI, 2100, .inl go))]) hP hD [0, 1, 2, 3, 4, 5, 6, 7, 8] [] rfl rfl (by decide) (by decide) hk1 hFc hP1 hD1
        generalize H1 = H at hP hS ⊢
        have hP := hP.sub (ws' := [(mx, .inr (2, [.int 3, .int hf, .int us, .int col, .int mov, .ref aso, .ref ava, .ref ans, .ref anv, .ref ars, .ref arv, .int sty, .ref ast, .ref ago])), (aso, .inl (cI, 2100, .inl so)), (ava, .inl (cI, 2100, .inl va)), (ans, .inl (cI, 2100, .inl ns)), (anv, .inl (cI, 2100, .inl nv)), (ars, .inl (cI, 8, .inl rs)), (arv, .inl (cI, 8, .inl rv)), (ast, .inl (cI, 2100, .inl st)), (ago, .inl (cI, 2100, .inl go))]) [0, 1, 2, 3, 4, 5, 6, 7, 8] rfl
        have hD := hD.sub (ws' := [(mx, .inr (2, [.int 3, .int hf, .int us, .int col, .int mov, .ref aso, .ref ava, .ref ans, .ref anv, .ref ars, .ref arv, .int sty, .ref ast, .ref ago])), (aso, .inl (cI, 2100, .inl so)), (ava, .inl (cI, 2100, .inl va)), (ans, .inl (cI, 2100, .inl ns)), (anv, .inl (cI, 2100, .inl nv)), (ars, .inl (cI, 8, .inl rs)), (arv, .inl (cI, 8, .inl rv)), (ast, .inl (cI, 2100, .inl st)), (ago, .inl (cI, 2100, .inl go))]) [0, 1, 2, 3, 4, 5, 6, 7, 8] (by decide) rfl
        have hP9 := hP.sub (ws' := [(mx, .inr (2, [.int 3, .int hf, .int us, .int col, .int mov, .ref aso, .ref ava, .ref ans, .ref anv, .ref ars, .ref arv, .int sty, .ref ast, .ref ago])), (aso, .inl (cI, 2100, .inl so)), (ava, .inl (cI, 2100, .inl va)), (ans, .inl (cI, 2100, .inl ns)), (anv, .inl (cI, 2100, .inl nv)), (ars, .inl (cI, 8, .inl rs)), (arv, .inl (cI, 8, .inl rv)), (ast, .inl (cI, 2100, .inl st)), (ago, .inl (cI, 2100, .inl go))]) [0, 1, 2, 3, 4, 5, 6, 7, 8] rfl
        have hD9 := hD.sub (ws' := [(mx, .inr (2, [.int 3, .int hf, .int us, .int col, .int mov, .ref aso, .ref ava, .ref ans, .ref anv, .ref ars, .ref arv, .int sty, .ref ast, .ref ago])), (aso, .inl (cI, 2100, .inl so)), (ava, .inl (cI, 2100, .inl va)), (ans, .inl (cI, 2100, .inl ns)), (anv, .inl (cI, 2100, .inl nv)), (ars, .inl (cI, 8, .inl rs)), (arv, .inl (cI, 8, .inl rv)), (ast, .inl (cI, 2100, .inl st)), (ago, .inl (cI, 2100, .inl go))]) [0, 1, 2, 3, 4, 5, 6, 7, 8] (by decide) rfl
        have hK9 := hK.sub (tys' := [(cI, .int)]) [0] rfl
        exact W.iret (v := 0) hx hb hr (fun t ht hW => ⟨⟨_, (3, us, col, mov, so, va, ns, nv, rs, rv, sty, st, go), rfl, (by simp only [fX2_raw, if_neg c_2, if_neg c_4, if_pos c_6]), by rw [ht]; exact hP9, va_K.moved hW.alike hK9, hD9⟩, hS.F ht⟩) hS.2.2 dX2_raw_46
    · refine lv_aload_n hx hb dX2_raw_26 rfl (lv_at hl 0 rfl) ?_
      refine lv_iconst (v := 2) hx hb dX2_raw_27 (by decide) ?_
      have hPc := hP.sub (ws' := [(mx, .inr (2, [.int 0, .int hf, .int us, .int col, .int mov, .ref aso, .ref ava, .ref ans, .ref anv, .ref ars, .ref arv, .int sty, .ref ast, .ref ago])), (aso, .inl (cI, 2100, .inl so)), (ava, .inl (cI, 2100, .inl va)), (ans, .inl (cI, 2100, .inl ns)), (anv, .inl (cI, 2100, .inl nv)), (ars, .inl (cI, 8, .inl rs)), (arv, .inl (cI, 8, .inl rv)), (ast, .inl (cI, 2100, .inl st)), (ago, .inl (cI, 2100, .inl go))]) [0, 1, 2, 3, 4, 5, 6, 7, 8] rfl
      have hKc := hK.sub (tys' := [(cI, .int)]) [0] rfl
      have hDc := hD.sub (ws' := [(mx, .inr (2, [.int 0, .int hf, .int us, .int col, .int mov, .ref aso, .ref ava, .ref ans, .ref anv, .ref ars, .ref arv, .int sty, .ref ast, .ref ago])), (aso, .inl (cI, 2100, .inl so)), (ava, .inl (cI, 2100, .inl va)), (ans, .inl (cI, 2100, .inl ns)), (anv, .inl (cI, 2100, .inl nv)), (ars, .inl (cI, 8, .inl rs)), (arv, .inl (cI, 8, .inl rv)), (ast, .inl (cI, 2100, .inl st)), (ago, .inl (cI, 2100, .inl go))]) [0, 1, 2, 3, 4, 5, 6, 7, 8] (by decide) rfl
      have hFc := va_free (wc := [(mx, .inr (2, [.int 0, .int hf, .int us, .int col, .int mov, .ref aso, .ref ava, .ref ans, .ref anv, .ref ars, .ref arv, .int sty, .ref ast, .ref ago])), (aso, .inl (cI, 2100, .inl so)), (ava, .inl (cI, 2100, .inl va)), (ans, .inl (cI, 2100, .inl ns)), (anv, .inl (cI, 2100, .inl nv)), (ars, .inl (cI, 8, .inl rs)), (arv, .inl (cI, 8, .inl rv)), (ast, .inl (cI, 2100, .inl st)), (ago, .inl (cI, 2100, .inl go))]) hD hS hA [0, 1, 2, 3, 4, 5, 6, 7, 8] rfl
      refine va_calli (va_runV (As := [.int 2]) (rest := []) ⟨hx, hb, hml, hown, ht⟩ (ctX2_fail l dC dI cI mx aso ava ans anv ars arv ast ago 0 hf us col mov sty so va ns nv rs rv st go 2 _ ) (cwV 1 ht gcX2_69 rfl rfl rfl (by decide +kernel) ⟨Nat.le_of_ble_eq_true rfl, Nat.le_of_ble_eq_true rfl⟩) ⟨pM.blind, va_recv hKc hPc (ci := 2) (q0 := 0) rfl rfl, pM.call hPc hKc hDc hE⟩ rfl rfl hl.1 rfl (lv_room (Nat.le_of_ble_eq_true rfl)) dX2_raw_28 ⟨Nat.le_of_ble_eq_true rfl, Nat.le_of_ble_eq_true rfl⟩) hS (fun q _ h => hFc q h) hFc (fun r_10 u_9 t H1 locs ht9 hvm hw hB hz1 hk1 hS => ?_)
      obtain ⟨rfl, rfl⟩ : r_10 = 0 ∧ u_9 = (2, us, col, mov, so, va, ns, nv, rs, rv, sty, st, go) := ⟨(Prod.mk.inj hw).1, (Prod.mk.inj hw).2⟩
      obtain ⟨hP1, hK1, hD1⟩ := hB
      rw [ht9] at hP1
      obtain ⟨hP, hD⟩ := va_join (wr := []) (w1 := [(mx, .inr (2, [.int 2, .int hf, .int us, .int col, .int mov, .ref aso, .ref ava, .ref ans, .ref anv, .ref ars, .ref arv, .int sty, .ref ast, .ref ago])), (aso, .inl (cI, 2100, .inl so)), (ava, .inl (cI, 2100, .inl va)), (ans, .inl (cI, 2100, .inl ns)), (anv, .inl (cI, 2100, .inl nv)), (ars, .inl (cI, 8, .inl rs)), (arv, .inl (cI, 8, .inl rv)), (ast, .inl (cI, 2100, .inl st)), (ago, .inl (cI, 2100, .inl go))]) hP hD [0, 1, 2, 3, 4, 5, 6, 7, 8] [] rfl rfl (by decide) (by decide) hk1 hFc hP1 hD1
      generalize H1 = H at hP hS ⊢
      have hP := hP.sub (ws' := [(mx, .inr (2, [.int 2, .int hf, .int us, .int col, .int mov, .ref aso, .ref ava, .ref ans, .ref anv, .ref ars, .ref arv, .int sty, .ref ast, .ref ago])), (aso, .inl (cI, 2100, .inl so)), (ava, .inl (cI, 2100, .inl va)), (ans, .inl (cI, 2100, .inl ns)), (anv, .inl (cI, 2100, .inl nv)), (ars, .inl (cI, 8, .inl rs)), (arv, .inl (cI, 8, .inl rv)), (ast, .inl (cI, 2100, .inl st)), (ago, .inl (cI, 2100, .inl go))]) [0, 1, 2, 3, 4, 5, 6, 7, 8] rfl
      have hD := hD.sub (ws' := [(mx, .inr (2, [.int 2, .int hf, .int us, .int col, .int mov, .ref aso, .ref ava, .ref ans, .ref anv, .ref ars, .ref arv, .int sty, .ref ast, .ref ago])), (aso, .inl (cI, 2100, .inl so)), (ava, .inl (cI, 2100, .inl va)), (ans, .inl (cI, 2100, .inl ns)), (anv, .inl (cI, 2100, .inl nv)), (ars, .inl (cI, 8, .inl rs)), (arv, .inl (cI, 8, .inl rv)), (ast, .inl (cI, 2100, .inl st)), (ago, .inl (cI, 2100, .inl go))]) [0, 1, 2, 3, 4, 5, 6, 7, 8] (by decide) rfl
      have hP9 := hP.sub (ws' := [(mx, .inr (2, [.int 2, .int hf, .int us, .int col, .int mov, .ref aso, .ref ava, .ref ans, .ref anv, .ref ars, .ref arv, .int sty, .ref ast, .ref ago])), (aso, .inl (cI, 2100, .inl so)), (ava, .inl (cI, 2100, .inl va)), (ans, .inl (cI, 2100, .inl ns)), (anv, .inl (cI, 2100, .inl nv)), (ars, .inl (cI, 8, .inl rs)), (arv, .inl (cI, 8, .inl rv)), (ast, .inl (cI, 2100, .inl st)), (ago, .inl (cI, 2100, .inl go))]) [0, 1, 2, 3, 4, 5, 6, 7, 8] rfl
      have hD9 := hD.sub (ws' := [(mx, .inr (2, [.int 2, .int hf, .int us, .int col, .int mov, .ref aso, .ref ava, .ref ans, .ref anv, .ref ars, .ref arv, .int sty, .ref ast, .ref ago])), (aso, .inl (cI, 2100, .inl so)), (ava, .inl (cI, 2100, .inl va)), (ans, .inl (cI, 2100, .inl ns)), (anv, .inl (cI, 2100, .inl nv)), (ars, .inl (cI, 8, .inl rs)), (arv, .inl (cI, 8, .inl rv)), (ast, .inl (cI, 2100, .inl st)), (ago, .inl (cI, 2100, .inl go))]) [0, 1, 2, 3, 4, 5, 6, 7, 8] (by decide) rfl
      have hK9 := hK.sub (tys' := [(cI, .int)]) [0] rfl
      exact W.iret (v := 0) hx hb hr (fun t ht hW => ⟨⟨_, (2, us, col, mov, so, va, ns, nv, rs, rv, sty, st, go), rfl, (by simp only [fX2_raw, if_neg c_2, if_pos c_4]), by rw [ht]; exact hP9, va_K.moved hW.alike hK9, hD9⟩, hS.F ht⟩) hS.2.2 dX2_raw_31
  · refine lv_aload_n hx hb dX2_raw_12 rfl (lv_at hl 0 rfl) ?_
    refine lv_iconst (v := 1) hx hb dX2_raw_13 (by decide) ?_
    have hPc := hP.sub (ws' := [(mx, .inr (2, [.int 0, .int hf, .int us, .int col, .int mov, .ref aso, .ref ava, .ref ans, .ref anv, .ref ars, .ref arv, .int sty, .ref ast, .ref ago])), (aso, .inl (cI, 2100, .inl so)), (ava, .inl (cI, 2100, .inl va)), (ans, .inl (cI, 2100, .inl ns)), (anv, .inl (cI, 2100, .inl nv)), (ars, .inl (cI, 8, .inl rs)), (arv, .inl (cI, 8, .inl rv)), (ast, .inl (cI, 2100, .inl st)), (ago, .inl (cI, 2100, .inl go))]) [0, 1, 2, 3, 4, 5, 6, 7, 8] rfl
    have hKc := hK.sub (tys' := [(cI, .int)]) [0] rfl
    have hDc := hD.sub (ws' := [(mx, .inr (2, [.int 0, .int hf, .int us, .int col, .int mov, .ref aso, .ref ava, .ref ans, .ref anv, .ref ars, .ref arv, .int sty, .ref ast, .ref ago])), (aso, .inl (cI, 2100, .inl so)), (ava, .inl (cI, 2100, .inl va)), (ans, .inl (cI, 2100, .inl ns)), (anv, .inl (cI, 2100, .inl nv)), (ars, .inl (cI, 8, .inl rs)), (arv, .inl (cI, 8, .inl rv)), (ast, .inl (cI, 2100, .inl st)), (ago, .inl (cI, 2100, .inl go))]) [0, 1, 2, 3, 4, 5, 6, 7, 8] (by decide) rfl
    have hFc := va_free (wc := [(mx, .inr (2, [.int 0, .int hf, .int us, .int col, .int mov, .ref aso, .ref ava, .ref ans, .ref anv, .ref ars, .ref arv, .int sty, .ref ast, .ref ago])), (aso, .inl (cI, 2100, .inl so)), (ava, .inl (cI, 2100, .inl va)), (ans, .inl (cI, 2100, .inl ns)), (anv, .inl (cI, 2100, .inl nv)), (ars, .inl (cI, 8, .inl rs)), (arv, .inl (cI, 8, .inl rv)), (ast, .inl (cI, 2100, .inl st)), (ago, .inl (cI, 2100, .inl go))]) hD hS hA [0, 1, 2, 3, 4, 5, 6, 7, 8] rfl
    refine va_calli (va_runV (As := [.int 1]) (rest := []) ⟨hx, hb, hml, hown, ht⟩ (ctX2_fail l dC dI cI mx aso ava ans anv ars arv ast ago 0 hf us col mov sty so va ns nv rs rv st go 1 _ ) (cwV 1 ht gcX2_69 rfl rfl rfl (by decide +kernel) ⟨Nat.le_of_ble_eq_true rfl, Nat.le_of_ble_eq_true rfl⟩) ⟨pM.blind, va_recv hKc hPc (ci := 2) (q0 := 0) rfl rfl, pM.call hPc hKc hDc hE⟩ rfl rfl hl.1 rfl (lv_room (Nat.le_of_ble_eq_true rfl)) dX2_raw_14 ⟨Nat.le_of_ble_eq_true rfl, Nat.le_of_ble_eq_true rfl⟩) hS (fun q _ h => hFc q h) hFc (fun r_12 u_11 t H1 locs ht9 hvm hw hB hz1 hk1 hS => ?_)
    obtain ⟨rfl, rfl⟩ : r_12 = 0 ∧ u_11 = (1, us, col, mov, so, va, ns, nv, rs, rv, sty, st, go) := ⟨(Prod.mk.inj hw).1, (Prod.mk.inj hw).2⟩
    obtain ⟨hP1, hK1, hD1⟩ := hB
    rw [ht9] at hP1
    obtain ⟨hP, hD⟩ := va_join (wr := []) (w1 := [(mx, .inr (2, [.int 1, .int hf, .int us, .int col, .int mov, .ref aso, .ref ava, .ref ans, .ref anv, .ref ars, .ref arv, .int sty, .ref ast, .ref ago])), (aso, .inl (cI, 2100, .inl so)), (ava, .inl (cI, 2100, .inl va)), (ans, .inl (cI, 2100, .inl ns)), (anv, .inl (cI, 2100, .inl nv)), (ars, .inl (cI, 8, .inl rs)), (arv, .inl (cI, 8, .inl rv)), (ast, .inl (cI, 2100, .inl st)), (ago, .inl (cI, 2100, .inl go))]) hP hD [0, 1, 2, 3, 4, 5, 6, 7, 8] [] rfl rfl (by decide) (by decide) hk1 hFc hP1 hD1
    generalize H1 = H at hP hS ⊢
    have hP := hP.sub (ws' := [(mx, .inr (2, [.int 1, .int hf, .int us, .int col, .int mov, .ref aso, .ref ava, .ref ans, .ref anv, .ref ars, .ref arv, .int sty, .ref ast, .ref ago])), (aso, .inl (cI, 2100, .inl so)), (ava, .inl (cI, 2100, .inl va)), (ans, .inl (cI, 2100, .inl ns)), (anv, .inl (cI, 2100, .inl nv)), (ars, .inl (cI, 8, .inl rs)), (arv, .inl (cI, 8, .inl rv)), (ast, .inl (cI, 2100, .inl st)), (ago, .inl (cI, 2100, .inl go))]) [0, 1, 2, 3, 4, 5, 6, 7, 8] rfl
    have hD := hD.sub (ws' := [(mx, .inr (2, [.int 1, .int hf, .int us, .int col, .int mov, .ref aso, .ref ava, .ref ans, .ref anv, .ref ars, .ref arv, .int sty, .ref ast, .ref ago])), (aso, .inl (cI, 2100, .inl so)), (ava, .inl (cI, 2100, .inl va)), (ans, .inl (cI, 2100, .inl ns)), (anv, .inl (cI, 2100, .inl nv)), (ars, .inl (cI, 8, .inl rs)), (arv, .inl (cI, 8, .inl rv)), (ast, .inl (cI, 2100, .inl st)), (ago, .inl (cI, 2100, .inl go))]) [0, 1, 2, 3, 4, 5, 6, 7, 8] (by decide) rfl
    have hP9 := hP.sub (ws' := [(mx, .inr (2, [.int 1, .int hf, .int us, .int col, .int mov, .ref aso, .ref ava, .ref ans, .ref anv, .ref ars, .ref arv, .int sty, .ref ast, .ref ago])), (aso, .inl (cI, 2100, .inl so)), (ava, .inl (cI, 2100, .inl va)), (ans, .inl (cI, 2100, .inl ns)), (anv, .inl (cI, 2100, .inl nv)), (ars, .inl (cI, 8, .inl rs)), (arv, .inl (cI, 8, .inl rv)), (ast, .inl (cI, 2100, .inl st)), (ago, .inl (cI, 2100, .inl go))]) [0, 1, 2, 3, 4, 5, 6, 7, 8] rfl
    have hD9 := hD.sub (ws' := [(mx, .inr (2, [.int 1, .int hf, .int us, .int col, .int mov, .ref aso, .ref ava, .ref ans, .ref anv, .ref ars, .ref arv, .int sty, .ref ast, .ref ago])), (aso, .inl (cI, 2100, .inl so)), (ava, .inl (cI, 2100, .inl va)), (ans, .inl (cI, 2100, .inl ns)), (anv, .inl (cI, 2100, .inl nv)), (ars, .inl (cI, 8, .inl rs)), (arv, .inl (cI, 8, .inl rv)), (ast, .inl (cI, 2100, .inl st)), (ago, .inl (cI, 2100, .inl go))]) [0, 1, 2, 3, 4, 5, 6, 7, 8] (by decide) rfl
    have hK9 := hK.sub (tys' := [(cI, .int)]) [0] rfl
    exact W.iret (v := 0) hx hb hr (fun t ht hW => ⟨⟨_, (1, us, col, mov, so, va, ns, nv, rs, rv, sty, st, go), rfl, (by simp only [fX2_raw, if_pos c_2]), by rw [ht]; exact hP9, va_K.moved hW.alike hK9, hD9⟩, hS.F ht⟩) hS.2.2 dX2_raw_17
def fX2_put (th : Int32) (us : Int32) (col : Int32) (mov : Int32) (so : Nat → Int32) (va : Nat → Int32) (ns : Nat → Int32) (nv : Nat → Int32) (rs : Nat → Int32) (rv : Nat → Int32) (sty : Int32) (st : Nat → Int32) (go : Nat → Int32) (ip : Int32) (iq : Int32) (ir : Int32) : Int32 × Int32 × Int32 × Int32 × (Nat → Int32) × (Nat → Int32) × (Nat → Int32) × (Nat → Int32) × (Nat → Int32) × (Nat → Int32) × Int32 × (Nat → Int32) × (Nat → Int32) := (if fX2_isRegister ip = 0 then (1, us, col, mov, so, va, ns, nv, rs, rv, sty, st, go) else (if fX2_isRegister ir = 0 then (1, us, col, mov, so, va, ns, nv, rs, rv, sty, st, go) else (if rs ip.toNatClampNeg = 2 then (if fX2_isRaw va rs rv ip = 0 then (if fX2_hasField va rv ip iq = 0 then (3, us, col, mov, so, va, ns, nv, rs, rv, sty, st, go) else (0, us, col, mov, upd so (((rv ip.toNatClampNeg) + 1) + iq).toNatClampNeg (rs ir.toNatClampNeg), upd va (((rv ip.toNatClampNeg) + 1) + iq).toNatClampNeg (rv ir.toNatClampNeg), ns, nv, rs, rv, sty, st, go)) else (if rs ir.toNatClampNeg = 2 then (2, us, col, mov, so, va, ns, nv, rs, rv, sty, st, go) else (if fX2_hasField va rv ip iq = 0 then (3, us, col, mov, so, va, ns, nv, rs, rv, sty, st, go) else (0, us, col, mov, upd so (((rv ip.toNatClampNeg) + 1) + iq).toNatClampNeg 3, upd va (((rv ip.toNatClampNeg) + 1) + iq).toNatClampNeg (rv ir.toNatClampNeg), ns, nv, rs, rv, sty, st, go)))) else (2, us, col, mov, so, va, ns, nv, rs, rv, sty, st, go))))
abbrev atX2_put (dC : Nat → ClassId) (dI : Nat → Nat → Nat) (cI : ClassId) (A : Nat → Prop) (mx : Nat) (aso : Nat) (ava : Nat) (ans : Nat) (anv : Nat) (ars : Nat) (arv : Nat) (ast : Nat) (ago : Nat) (hf : Int32) (u : Int32 × Int32 × Int32 × Int32 × (Nat → Int32) × (Nat → Int32) × (Nat → Int32) × (Nat → Int32) × (Nat → Int32) × (Nat → Int32) × Int32 × (Nat → Int32) × (Nat → Int32)) (t : State) : Prop := va_P (dC, dI) vwCl [(mx, .inr (2, [.int u.1, .int hf, .int u.2.1, .int u.2.2.1, .int u.2.2.2.1, .ref aso, .ref ava, .ref ans, .ref anv, .ref ars, .ref arv, .int u.2.2.2.2.2.2.2.2.2.2.1, .ref ast, .ref ago])), (aso, .inl (cI, 2100, .inl u.2.2.2.2.1)), (ava, .inl (cI, 2100, .inl u.2.2.2.2.2.1)), (ans, .inl (cI, 2100, .inl u.2.2.2.2.2.2.1)), (anv, .inl (cI, 2100, .inl u.2.2.2.2.2.2.2.1)), (ars, .inl (cI, 8, .inl u.2.2.2.2.2.2.2.2.1)), (arv, .inl (cI, 8, .inl u.2.2.2.2.2.2.2.2.2.1)), (ast, .inl (cI, 2100, .inl u.2.2.2.2.2.2.2.2.2.2.2.1)), (ago, .inl (cI, 2100, .inl u.2.2.2.2.2.2.2.2.2.2.2.2))] t.heap ∧ va_K (dC, dI) vwCl [(cI, .int)] t ∧ va_D A [(mx, .inr (2, [.int u.1, .int hf, .int u.2.1, .int u.2.2.1, .int u.2.2.2.1, .ref aso, .ref ava, .ref ans, .ref anv, .ref ars, .ref arv, .int u.2.2.2.2.2.2.2.2.2.2.1, .ref ast, .ref ago])), (aso, .inl (cI, 2100, .inl u.2.2.2.2.1)), (ava, .inl (cI, 2100, .inl u.2.2.2.2.2.1)), (ans, .inl (cI, 2100, .inl u.2.2.2.2.2.2.1)), (anv, .inl (cI, 2100, .inl u.2.2.2.2.2.2.2.1)), (ars, .inl (cI, 8, .inl u.2.2.2.2.2.2.2.2.1)), (arv, .inl (cI, 8, .inl u.2.2.2.2.2.2.2.2.2.1)), (ast, .inl (cI, 2100, .inl u.2.2.2.2.2.2.2.2.2.2.2.1)), (ago, .inl (cI, 2100, .inl u.2.2.2.2.2.2.2.2.2.2.2.2))]
set_option maxHeartbeats 4000000 in
set_option maxRecDepth 100000 in
theorem ctX2_put (l : Launch) (dC : Nat → ClassId) (dI : Nat → Nat → Nat) (cI : ClassId) (mx : Nat) (aso : Nat) (ava : Nat) (ans : Nat) (anv : Nat) (ars : Nat) (arv : Nat) (ast : Nat) (ago : Nat) (th : Int32) (hf : Int32) (us : Int32) (col : Int32) (mov : Int32) (sty : Int32) (so : Nat → Int32) (va : Nat → Int32) (ns : Nat → Int32) (nv : Nat → Int32) (rs : Nat → Int32) (rv : Nat → Int32) (st : Nat → Int32) (go : Nat → Int32) (ip : Int32) (iq : Int32) (ir : Int32) (sz : Nat) (hrv : ∀ i : Int32, vp_in i 8 → rs i.toNatClampNeg = 2 → vp_in (rv i.toNatClampNeg) 2100) (hrf : ∀ i k : Int32, vp_in i 8 → rs i.toNatClampNeg = 2 → ¬ fX2_hasField va rv i k = 0 → vp_in (rv i.toNatClampNeg + 1 + k) 2100) : Met l yX2_put (kX2_put :: gT) ({ frames := 2, cells := 0, slots := 0, locals := 43 }) (va_Pc [.ref mx, .int ip, .int iq, .int ir] (pM (dC, dI) [(mx, .inr (2, [.int th, .int hf, .int us, .int col, .int mov, .ref aso, .ref ava, .ref ans, .ref anv, .ref ars, .ref arv, .int sty, .ref ast, .ref ago])), (aso, .inl (cI, 2100, .inl so)), (ava, .inl (cI, 2100, .inl va)), (ans, .inl (cI, 2100, .inl ns)), (anv, .inl (cI, 2100, .inl nv)), (ars, .inl (cI, 8, .inl rs)), (arv, .inl (cI, 8, .inl rv)), (ast, .inl (cI, 2100, .inl st)), (ago, .inl (cI, 2100, .inl go))] [(cI, .int)] sz)) (va_Qv (fun u : Int32 × Int32 × Int32 × Int32 × (Nat → Int32) × (Nat → Int32) × (Nat → Int32) × (Nat → Int32) × (Nat → Int32) × (Nat → Int32) × Int32 × (Nat → Int32) × (Nat → Int32) => u = fX2_put th us col mov so va ns nv rs rv sty st go ip iq ir) (atX2_put dC dI cI (va_A [(mx, .inr (2, [.int th, .int hf, .int us, .int col, .int mov, .ref aso, .ref ava, .ref ans, .ref anv, .ref ars, .ref arv, .int sty, .ref ast, .ref ago])), (aso, .inl (cI, 2100, .inl so)), (ava, .inl (cI, 2100, .inl va)), (ans, .inl (cI, 2100, .inl ns)), (anv, .inl (cI, 2100, .inl nv)), (ars, .inl (cI, 8, .inl rs)), (arv, .inl (cI, 8, .inl rv)), (ast, .inl (cI, 2100, .inl st)), (ago, .inl (cI, 2100, .inl go))] sz) mx aso ava ans anv ars arv ast ago hf) (va_A [(mx, .inr (2, [.int th, .int hf, .int us, .int col, .int mov, .ref aso, .ref ava, .ref ans, .ref anv, .ref ars, .ref arv, .int sty, .ref ast, .ref ago])), (aso, .inl (cI, 2100, .inl so)), (ava, .inl (cI, 2100, .inl va)), (ans, .inl (cI, 2100, .inl ns)), (anv, .inl (cI, 2100, .inl nv)), (ars, .inl (cI, 8, .inl rs)), (arv, .inl (cI, 8, .inl rv)), (ast, .inl (cI, 2100, .inl st)), (ago, .inl (cI, 2100, .inl go))] sz)) 0 0 (va_A [(mx, .inr (2, [.int th, .int hf, .int us, .int col, .int mov, .ref aso, .ref ava, .ref ans, .ref anv, .ref ars, .ref arv, .int sty, .ref ast, .ref ago])), (aso, .inl (cI, 2100, .inl so)), (ava, .inl (cI, 2100, .inl va)), (ans, .inl (cI, 2100, .inl ns)), (anv, .inl (cI, 2100, .inl nv)), (ars, .inl (cI, 8, .inl rs)), (arv, .inl (cI, 8, .inl rv)), (ast, .inl (cI, 2100, .inl st)), (ago, .inl (cI, 2100, .inl go))] sz) := by
  refine Met.ofW (cc := cX2_put) (maxL := 7) (ret := none) (by decide) rfl ?_
  intro p e s m args below meth c s₁ B hml hv
  obtain ⟨rfl, hsz, hP, hK, hD0, hE⟩ := hv
  have hx := B.exec
  have hb := B.bytes
  have hr := B.returns
  have ht : ∀ w ∈ gT, w.before ([.ref mx, .int ip, .int iq, .int ir] : List Value).toArray s = true := fun w h => atoms_spec (ws := kX2_put :: gT) B.pre w (List.mem_cons_of_mem _ h)
  have hown : s.vm.findClass RX2 = some m.cls := findClass_of_methodNamed B.named
  have hlocks := B.notSynchronized
  subst hsz
  have hD := hD0.self (sz := s.heap.size)
  generalize hAe : va_A [(mx, .inr (2, [.int th, .int hf, .int us, .int col, .int mov, .ref aso, .ref ava, .ref ans, .ref anv, .ref ars, .ref arv, .int sty, .ref ast, .ref ago])), (aso, .inl (cI, 2100, .inl so)), (ava, .inl (cI, 2100, .inl va)), (ans, .inl (cI, 2100, .inl ns)), (anv, .inl (cI, 2100, .inl nv)), (ars, .inl (cI, 8, .inl rs)), (arv, .inl (cI, 8, .inl rv)), (ast, .inl (cI, 2100, .inl st)), (ago, .inl (cI, 2100, .inl go))] s.heap.size = A at hD ⊢
  have hA : ∀ q : Nat, s.heap.size ≤ q → A q := fun q h => by rw [← hAe]; exact Or.inr h
  have hS : va_S A s.heap s.heap [] := va_S.rf
  have hl := lv_entry ([.ref mx, .int ip, .int iq, .int ir]) (n := 7) (Nat.le_of_ble_eq_true rfl)
  rw [lg_entry_eq]
  generalize (lg_sl ([.ref mx, .int ip, .int iq, .int ir]) ++ List.replicate (7 - (lg_sl ([.ref mx, .int ip, .int iq, .int ir])).length) Slot.unset).toArray = ls at hl ⊢
  have hl : lv_has ls 7 [(0, .ref mx), (1, .int ip), (2, .int iq), (3, .int ir)] := hl
  refine lv_aload_n hx hb dX2_put_0 rfl (lv_at hl 0 rfl) ?_
  refine lv_iconst (v := 0) hx hb dX2_put_1 (by decide) ?_
  refine va_put (D := (dC, dI)) (ci := 2) (v := .int 0) (ty := .int) (C := RX2) (T := TX2) (N := 14) hx hb ht iX2 tyX2 tkX2 nmX2 hown hK hP hD hS 0 rfl rfl 0 (by decide) (ht _ g_326) (fun _ h9 => h9) rfl (by decide +kernel) rfl rfl (Nat.le_of_ble_eq_true rfl) dX2_put_2 (fun H locs hP hD hS => ?_)
  have hP : va_P (dC, dI) vwCl [(mx, .inr (2, [.int 0, .int hf, .int us, .int col, .int mov, .ref aso, .ref ava, .ref ans, .ref anv, .ref ars, .ref arv, .int sty, .ref ast, .ref ago])), (aso, .inl (cI, 2100, .inl so)), (ava, .inl (cI, 2100, .inl va)), (ans, .inl (cI, 2100, .inl ns)), (anv, .inl (cI, 2100, .inl nv)), (ars, .inl (cI, 8, .inl rs)), (arv, .inl (cI, 8, .inl rv)), (ast, .inl (cI, 2100, .inl st)), (ago, .inl (cI, 2100, .inl go))] H := hP
  have hD : va_D A [(mx, .inr (2, [.int 0, .int hf, .int us, .int col, .int mov, .ref aso, .ref ava, .ref ans, .ref anv, .ref ars, .ref arv, .int sty, .ref ast, .ref ago])), (aso, .inl (cI, 2100, .inl so)), (ava, .inl (cI, 2100, .inl va)), (ans, .inl (cI, 2100, .inl ns)), (anv, .inl (cI, 2100, .inl nv)), (ars, .inl (cI, 8, .inl rs)), (arv, .inl (cI, 8, .inl rv)), (ast, .inl (cI, 2100, .inl st)), (ago, .inl (cI, 2100, .inl go))] := hD
  refine lv_iload_n hx hb dX2_put_5 rfl (lv_at hl 1 rfl) ?_
  refine vp_callSi (va_runS (As := [.int ip]) (rest := []) ⟨hx, hb, hml, hown, ht⟩ (ctX2_isRegister l ip) (cwS 1 ht gcX2_65 rfl rfl rfl (by decide +kernel) ⟨Nat.le_of_ble_eq_true rfl, Nat.le_of_ble_eq_true rfl⟩) ⟨pT.blind, pT.call⟩ rfl rfl hl.1 rfl (lv_room (Nat.le_of_ble_eq_true rfl)) dX2_put_6 ⟨Nat.le_of_ble_eq_true rfl, Nat.le_of_ble_eq_true rfl⟩).run (fun r_1 hr_1 => ?_)
  subst hr_1
  refine lv_if_eq (tgt := 23) hx hb dX2_put_9 (by decide) (fun c_2 => ?_) (fun c_2 => ?_)
  · refine lv_iconst (v := 0) hx hb dX2_put_23 (by decide) ?_
    refine lv_istore (lv' := [(4, .int 0), (0, .ref mx), (1, .int ip), (2, .int iq), (3, .int ir)]) hx hb dX2_put_24 hl (by decide) rfl (fun ls hl => ?_)
    refine lv_iload hx hb dX2_put_26 (lv_at hl 0 rfl) ?_
    refine lv_if_eq (tgt := 45) hx hb dX2_put_28 (by decide) (fun _ => ?_) (fun h => absurd (by decide) h)
    refine lv_iconst (v := 0) hx hb dX2_put_45 (by decide) ?_
    refine lv_istore (lv' := [(5, .int 0), (4, .int 0), (0, .ref mx), (1, .int ip), (2, .int iq), (3, .int ir)]) hx hb dX2_put_46 hl (by decide) rfl (fun ls hl => ?_)
    refine lv_iload hx hb dX2_put_48 (lv_at hl 1 rfl) ?_
    refine lv_if_ne (tgt := 61) hx hb dX2_put_50 (by decide) (fun h => absurd (by decide) h) (fun _ => ?_)
    refine lv_aload_n hx hb dX2_put_53 rfl (lv_at hl 2 rfl) ?_
    refine lv_iconst (v := 1) hx hb dX2_put_54 (by decide) ?_
    refine va_put (D := (dC, dI)) (ci := 2) (v := .int 1) (ty := .int) (C := RX2) (T := TX2) (N := 14) hx hb ht iX2 tyX2 tkX2 nmX2 hown hK hP hD hS 0 rfl rfl 0 (by decide) (ht _ g_326) (fun _ h9 => h9) rfl (by decide +kernel) rfl rfl (Nat.le_of_ble_eq_true rfl) dX2_put_55 (fun H locs hP hD hS => ?_)
    have hP : va_P (dC, dI) vwCl [(mx, .inr (2, [.int 1, .int hf, .int us, .int col, .int mov, .ref aso, .ref ava, .ref ans, .ref anv, .ref ars, .ref arv, .int sty, .ref ast, .ref ago])), (aso, .inl (cI, 2100, .inl so)), (ava, .inl (cI, 2100, .inl va)), (ans, .inl (cI, 2100, .inl ns)), (anv, .inl (cI, 2100, .inl nv)), (ars, .inl (cI, 8, .inl rs)), (arv, .inl (cI, 8, .inl rv)), (ast, .inl (cI, 2100, .inl st)), (ago, .inl (cI, 2100, .inl go))] H := hP
    have hD : va_D A [(mx, .inr (2, [.int 1, .int hf, .int us, .int col, .int mov, .ref aso, .ref ava, .ref ans, .ref anv, .ref ars, .ref arv, .int sty, .ref ast, .ref ago])), (aso, .inl (cI, 2100, .inl so)), (ava, .inl (cI, 2100, .inl va)), (ans, .inl (cI, 2100, .inl ns)), (anv, .inl (cI, 2100, .inl nv)), (ars, .inl (cI, 8, .inl rs)), (arv, .inl (cI, 8, .inl rv)), (ast, .inl (cI, 2100, .inl st)), (ago, .inl (cI, 2100, .inl go))] := hD
    refine lv_goto (tgt := 159) hx hb dX2_put_58 (by decide) ?_
    have hP9 := hP.sub (ws' := [(mx, .inr (2, [.int 1, .int hf, .int us, .int col, .int mov, .ref aso, .ref ava, .ref ans, .ref anv, .ref ars, .ref arv, .int sty, .ref ast, .ref ago])), (aso, .inl (cI, 2100, .inl so)), (ava, .inl (cI, 2100, .inl va)), (ans, .inl (cI, 2100, .inl ns)), (anv, .inl (cI, 2100, .inl nv)), (ars, .inl (cI, 8, .inl rs)), (arv, .inl (cI, 8, .inl rv)), (ast, .inl (cI, 2100, .inl st)), (ago, .inl (cI, 2100, .inl go))]) [0, 1, 2, 3, 4, 5, 6, 7, 8] rfl
    have hD9 := hD.sub (ws' := [(mx, .inr (2, [.int 1, .int hf, .int us, .int col, .int mov, .ref aso, .ref ava, .ref ans, .ref anv, .ref ars, .ref arv, .int sty, .ref ast, .ref ago])), (aso, .inl (cI, 2100, .inl so)), (ava, .inl (cI, 2100, .inl va)), (ans, .inl (cI, 2100, .inl ns)), (anv, .inl (cI, 2100, .inl nv)), (ars, .inl (cI, 8, .inl rs)), (arv, .inl (cI, 8, .inl rv)), (ast, .inl (cI, 2100, .inl st)), (ago, .inl (cI, 2100, .inl go))]) [0, 1, 2, 3, 4, 5, 6, 7, 8] (by decide) rfl
    have hK9 := hK.sub (tys' := [(cI, .int)]) [0] rfl
    exact W.vret hx hb hr (fun t ht hW => ⟨⟨(1, us, col, mov, so, va, ns, nv, rs, rv, sty, st, go), rfl, (by simp only [fX2_put, if_pos c_2]), by rw [ht]; exact hP9, va_K.moved hW.alike hK9, hD9⟩, hS.F ht⟩) hS.2.2 dX2_put_159
  · refine lv_iload_n hx hb dX2_put_12 rfl (lv_at hl 3 rfl) ?_
    refine vp_callSi (va_runS (As := [.int ir]) (rest := []) ⟨hx, hb, hml, hown, ht⟩ (ctX2_isRegister l ir) (cwS 1 ht gcX2_65 rfl rfl rfl (by decide +kernel) ⟨Nat.le_of_ble_eq_true rfl, Nat.le_of_ble_eq_true rfl⟩) ⟨pT.blind, pT.call⟩ rfl rfl hl.1 rfl (lv_room (Nat.le_of_ble_eq_true rfl)) dX2_put_13 ⟨Nat.le_of_ble_eq_true rfl, Nat.le_of_ble_eq_true rfl⟩).run (fun r_3 hr_3 => ?_)
    subst hr_3
    refine lv_if_eq (tgt := 23) hx hb dX2_put_16 (by decide) (fun c_4 => ?_) (fun c_4 => ?_)
    · refine lv_iconst (v := 0) hx hb dX2_put_23 (by decide) ?_
      refine lv_istore (lv' := [(4, .int 0), (0, .ref mx), (1, .int ip), (2, .int iq), (3, .int ir)]) hx hb dX2_put_24 hl (by decide) rfl (fun ls hl => ?_)
      refine lv_iload hx hb dX2_put_26 (lv_at hl 0 rfl) ?_
      refine lv_if_eq (tgt := 45) hx hb dX2_put_28 (by decide) (fun _ => ?_) (fun h => absurd (by decide) h)
      refine lv_iconst (v := 0) hx hb dX2_put_45 (by decide) ?_
      refine lv_istore (lv' := [(5, .int 0), (4, .int 0), (0, .ref mx), (1, .int ip), (2, .int iq), (3, .int ir)]) hx hb dX2_put_46 hl (by decide) rfl (fun ls hl => ?_)
      refine lv_iload hx hb dX2_put_48 (lv_at hl 1 rfl) ?_
      refine lv_if_ne (tgt := 61) hx hb dX2_put_50 (by decide) (fun h => absurd (by decide) h) (fun _ => ?_)
      refine lv_aload_n hx hb dX2_put_53 rfl (lv_at hl 2 rfl) ?_
      refine lv_iconst (v := 1) hx hb dX2_put_54 (by decide) ?_
      refine va_put (D := (dC, dI)) (ci := 2) (v := .int 1) (ty := .int) (C := RX2) (T := TX2) (N := 14) hx hb ht iX2 tyX2 tkX2 nmX2 hown hK hP hD hS 0 rfl rfl 0 (by decide) (ht _ g_326) (fun _ h9 => h9) rfl (by decide +kernel) rfl rfl (Nat.le_of_ble_eq_true rfl) dX2_put_55 (fun H locs hP hD hS => ?_)
      have hP : va_P (dC, dI) vwCl [(mx, .inr (2, [.int 1, .int hf, .int us, .int col, .int mov, .ref aso, .ref ava, .ref ans, .ref anv, .ref ars, .ref arv, .int sty, .ref ast, .ref ago])), (aso, .inl (cI, 2100, .inl so)), (ava, .inl (cI, 2100, .inl va)), (ans, .inl (cI, 2100, .inl ns)), (anv, .inl (cI, 2100, .inl nv)), (ars, .inl (cI, 8, .inl rs)), (arv, .inl (cI, 8, .inl rv)), (ast, .inl (cI, 2100, .inl st)), (ago, .inl (cI, 2100, .inl go))] H := hP
      have hD : va_D A [(mx, .inr (2, [.int 1, .int hf, .int us, .int col, .int mov, .ref aso, .ref ava, .ref ans, .ref anv, .ref ars, .ref arv, .int sty, .ref ast, .ref ago])), (aso, .inl (cI, 2100, .inl so)), (ava, .inl (cI, 2100, .inl va)), (ans, .inl (cI, 2100, .inl ns)), (anv, .inl (cI, 2100, .inl nv)), (ars, .inl (cI, 8, .inl rs)), (arv, .inl (cI, 8, .inl rv)), (ast, .inl (cI, 2100, .inl st)), (ago, .inl (cI, 2100, .inl go))] := hD
      refine lv_goto (tgt := 159) hx hb dX2_put_58 (by decide) ?_
      have hP9 := hP.sub (ws' := [(mx, .inr (2, [.int 1, .int hf, .int us, .int col, .int mov, .ref aso, .ref ava, .ref ans, .ref anv, .ref ars, .ref arv, .int sty, .ref ast, .ref ago])), (aso, .inl (cI, 2100, .inl so)), (ava, .inl (cI, 2100, .inl va)), (ans, .inl (cI, 2100, .inl ns)), (anv, .inl (cI, 2100, .inl nv)), (ars, .inl (cI, 8, .inl rs)), (arv, .inl (cI, 8, .inl rv)), (ast, .inl (cI, 2100, .inl st)), (ago, .inl (cI, 2100, .inl go))]) [0, 1, 2, 3, 4, 5, 6, 7, 8] rfl
      have hD9 := hD.sub (ws' := [(mx, .inr (2, [.int 1, .int hf, .int us, .int col, .int mov, .ref aso, .ref ava, .ref ans, .ref anv, .ref ars, .ref arv, .int sty, .ref ast, .ref ago])), (aso, .inl (cI, 2100, .inl so)), (ava, .inl (cI, 2100, .inl va)), (ans, .inl (cI, 2100, .inl ns)), (anv, .inl (cI, 2100, .inl nv)), (ars, .inl (cI, 8, .inl rs)), (arv, .inl (cI, 8, .inl rv)), (ast, .inl (cI, 2100, .inl st)), (ago, .inl (cI, 2100, .inl go))]) [0, 1, 2, 3, 4, 5, 6, 7, 8] (by decide) rfl
      have hK9 := hK.sub (tys' := [(cI, .int)]) [0] rfl
      exact W.vret hx hb hr (fun t ht hW => ⟨⟨(1, us, col, mov, so, va, ns, nv, rs, rv, sty, st, go), rfl, (by simp only [fX2_put, if_neg c_2, if_pos c_4]), by rw [ht]; exact hP9, va_K.moved hW.alike hK9, hD9⟩, hS.F ht⟩) hS.2.2 dX2_put_159
    · refine lv_iconst (v := 1) hx hb dX2_put_19 (by decide) ?_
      refine lv_goto (tgt := 24) hx hb dX2_put_20 (by decide) ?_
      refine lv_istore (lv' := [(4, .int 1), (0, .ref mx), (1, .int ip), (2, .int iq), (3, .int ir)]) hx hb dX2_put_24 hl (by decide) rfl (fun ls hl => ?_)
      refine lv_iload hx hb dX2_put_26 (lv_at hl 0 rfl) ?_
      refine lv_if_eq (tgt := 45) hx hb dX2_put_28 (by decide) (fun h => absurd h (by decide)) (fun _ => ?_)
      refine lv_aload_n hx hb dX2_put_31 rfl (lv_at hl 1 rfl) ?_
      refine va_get (D := (dC, dI)) (ci := 2) (v := .ref ars) (C := RX2) (T := TX2) (N := 14) hx hb ht iX2 hown hK hP 0 rfl rfl 9 (by decide) (ht _ g_335) (fun _ h9 => h9) rfl dX2_put_32 ?_
      refine lv_iload_n hx hb dX2_put_35 rfl (lv_at hl 2 rfl) ?_
      refine va_iald hx hb hK hP 5 0 rfl rfl (isReg c_2) dX2_put_36 ?_
      refine lv_iconst (v := 2) hx hb dX2_put_37 (by decide) ?_
      refine lv_icmp_ne (tgt := 45) hx hb dX2_put_38 (by decide) (fun c_5 => ?_) (fun c_5 => ?_)
      · refine lv_iconst (v := 0) hx hb dX2_put_45 (by decide) ?_
        refine lv_istore (lv' := [(5, .int 0), (4, .int 1), (0, .ref mx), (1, .int ip), (2, .int iq), (3, .int ir)]) hx hb dX2_put_46 hl (by decide) rfl (fun ls hl => ?_)
        refine lv_iload hx hb dX2_put_48 (lv_at hl 1 rfl) ?_
        refine lv_if_ne (tgt := 61) hx hb dX2_put_50 (by decide) (fun _ => ?_) (fun h => absurd h (by decide))
        refine lv_iload hx hb dX2_put_61 (lv_at hl 0 rfl) ?_
        refine lv_if_eq (tgt := 84) hx hb dX2_put_63 (by decide) (fun _ => ?_) (fun h => absurd (by decide) h)
        refine lv_aload_n hx hb dX2_put_84 rfl (lv_at hl 2 rfl) ?_
        refine lv_iconst (v := 2) hx hb dX2_put_85 (by decide) ?_
        refine va_put (D := (dC, dI)) (ci := 2) (v := .int 2) (ty := .int) (C := RX2) (T := TX2) (N := 14) hx hb ht iX2 tyX2 tkX2 nmX2 hown hK hP hD hS 0 rfl rfl 0 (by decide) (ht _ g_326) (fun _ h9 => h9) rfl (by decide +kernel) rfl rfl (Nat.le_of_ble_eq_true rfl) dX2_put_86 (fun H locs hP hD hS => ?_)
        have hP : va_P (dC, dI) vwCl [(mx, .inr (2, [.int 2, .int hf, .int us, .int col, .int mov, .ref aso, .ref ava, .ref ans, .ref anv, .ref ars, .ref arv, .int sty, .ref ast, .ref ago])), (aso, .inl (cI, 2100, .inl so)), (ava, .inl (cI, 2100, .inl va)), (ans, .inl (cI, 2100, .inl ns)), (anv, .inl (cI, 2100, .inl nv)), (ars, .inl (cI, 8, .inl rs)), (arv, .inl (cI, 8, .inl rv)), (ast, .inl (cI, 2100, .inl st)), (ago, .inl (cI, 2100, .inl go))] H := hP
        have hD : va_D A [(mx, .inr (2, [.int 2, .int hf, .int us, .int col, .int mov, .ref aso, .ref ava, .ref ans, .ref anv, .ref ars, .ref arv, .int sty, .ref ast, .ref ago])), (aso, .inl (cI, 2100, .inl so)), (ava, .inl (cI, 2100, .inl va)), (ans, .inl (cI, 2100, .inl ns)), (anv, .inl (cI, 2100, .inl nv)), (ars, .inl (cI, 8, .inl rs)), (arv, .inl (cI, 8, .inl rv)), (ast, .inl (cI, 2100, .inl st)), (ago, .inl (cI, 2100, .inl go))] := hD
        refine lv_goto (tgt := 159) hx hb dX2_put_89 (by decide) ?_
        have hP9 := hP.sub (ws' := [(mx, .inr (2, [.int 2, .int hf, .int us, .int col, .int mov, .ref aso, .ref ava, .ref ans, .ref anv, .ref ars, .ref arv, .int sty, .ref ast, .ref ago])), (aso, .inl (cI, 2100, .inl so)), (ava, .inl (cI, 2100, .inl va)), (ans, .inl (cI, 2100, .inl ns)), (anv, .inl (cI, 2100, .inl nv)), (ars, .inl (cI, 8, .inl rs)), (arv, .inl (cI, 8, .inl rv)), (ast, .inl (cI, 2100, .inl st)), (ago, .inl (cI, 2100, .inl go))]) [0, 1, 2, 3, 4, 5, 6, 7, 8] rfl
        have hD9 := hD.sub (ws' := [(mx, .inr (2, [.int 2, .int hf, .int us, .int col, .int mov, .ref aso, .ref ava, .ref ans, .ref anv, .ref ars, .ref arv, .int sty, .ref ast, .ref ago])), (aso, .inl (cI, 2100, .inl so)), (ava, .inl (cI, 2100, .inl va)), (ans, .inl (cI, 2100, .inl ns)), (anv, .inl (cI, 2100, .inl nv)), (ars, .inl (cI, 8, .inl rs)), (arv, .inl (cI, 8, .inl rv)), (ast, .inl (cI, 2100, .inl st)), (ago, .inl (cI, 2100, .inl go))]) [0, 1, 2, 3, 4, 5, 6, 7, 8] (by decide) rfl
        have hK9 := hK.sub (tys' := [(cI, .int)]) [0] rfl
        exact W.vret hx hb hr (fun t ht hW => ⟨⟨(2, us, col, mov, so, va, ns, nv, rs, rv, sty, st, go), rfl, (by simp only [fX2_put, if_neg c_2, if_neg c_4, if_neg c_5]), by rw [ht]; exact hP9, va_K.moved hW.alike hK9, hD9⟩, hS.F ht⟩) hS.2.2 dX2_put_159
      · refine lv_iconst (v := 1) hx hb dX2_put_41 (by decide) ?_
        refine lv_goto (tgt := 46) hx hb dX2_put_42 (by decide) ?_
        refine lv_istore (lv' := [(5, .int 1), (4, .int 1), (0, .ref mx), (1, .int ip), (2, .int iq), (3, .int ir)]) hx hb dX2_put_46 hl (by decide) rfl (fun ls hl => ?_)
        refine lv_iload hx hb dX2_put_48 (lv_at hl 1 rfl) ?_
        refine lv_if_ne (tgt := 61) hx hb dX2_put_50 (by decide) (fun _ => ?_) (fun h => absurd h (by decide))
        refine lv_iload hx hb dX2_put_61 (lv_at hl 0 rfl) ?_
        refine lv_if_eq (tgt := 84) hx hb dX2_put_63 (by decide) (fun h => absurd h (by decide)) (fun _ => ?_)
        refine lv_aload_n hx hb dX2_put_66 rfl (lv_at hl 2 rfl) ?_
        refine lv_iload_n hx hb dX2_put_67 rfl (lv_at hl 3 rfl) ?_
        have hPc := hP.sub (ws' := [(mx, .inr (2, [.int 0, .int hf, .int us, .int col, .int mov, .ref aso, .ref ava, .ref ans, .ref anv, .ref ars, .ref arv, .int sty, .ref ast, .ref ago])), (aso, .inl (cI, 2100, .inl so)), (ava, .inl (cI, 2100, .inl va)), (ans, .inl (cI, 2100, .inl ns)), (anv, .inl (cI, 2100, .inl nv)), (ars, .inl (cI, 8, .inl rs)), (arv, .inl (cI, 8, .inl rv)), (ast, .inl (cI, 2100, .inl st)), (ago, .inl (cI, 2100, .inl go))]) [0, 1, 2, 3, 4, 5, 6, 7, 8] rfl
        have hKc := hK.sub (tys' := [(cI, .int)]) [0] rfl
        refine vp_callSi (va_runV (As := [.int ip]) (rest := []) ⟨hx, hb, hml, hown, ht⟩ (ctX2_isRaw l dC dI cI mx aso ava ans anv ars arv ast ago 0 hf us col mov sty so va ns nv rs rv st go ip (isReg c_2) (hrv _ (isReg c_2))) (cwV 1 ht gcX2_75 rfl rfl rfl (by decide +kernel) ⟨Nat.le_of_ble_eq_true rfl, Nat.le_of_ble_eq_true rfl⟩) ⟨pS.blind, va_recv hKc hPc (ci := 2) (q0 := 0) rfl rfl, pS.call hPc hKc hE⟩ rfl rfl hl.1 rfl (lv_room (Nat.le_of_ble_eq_true rfl)) dX2_put_68 ⟨Nat.le_of_ble_eq_true rfl, Nat.le_of_ble_eq_true rfl⟩).run (fun r_6 hr_6 => ?_)
        subst hr_6
        refine lv_if_eq (tgt := 92) hx hb dX2_put_71 (by decide) (fun c_7 => ?_) (fun c_7 => ?_)
        · refine lv_aload_n hx hb dX2_put_92 rfl (lv_at hl 2 rfl) ?_
          refine lv_iload_n hx hb dX2_put_93 rfl (lv_at hl 3 rfl) ?_
          refine lv_iload_n hx hb dX2_put_94 rfl (lv_at hl 4 rfl) ?_
          have hPc := hP.sub (ws' := [(mx, .inr (2, [.int 0, .int hf, .int us, .int col, .int mov, .ref aso, .ref ava, .ref ans, .ref anv, .ref ars, .ref arv, .int sty, .ref ast, .ref ago])), (aso, .inl (cI, 2100, .inl so)), (ava, .inl (cI, 2100, .inl va)), (ans, .inl (cI, 2100, .inl ns)), (anv, .inl (cI, 2100, .inl nv)), (ars, .inl (cI, 8, .inl rs)), (arv, .inl (cI, 8, .inl rv)), (ast, .inl (cI, 2100, .inl st)), (ago, .inl (cI, 2100, .inl go))]) [0, 1, 2, 3, 4, 5, 6, 7, 8] rfl
          have hKc := hK.sub (tys' := [(cI, .int)]) [0] rfl
          refine vp_callSi (va_runV (As := [.int ip, .int iq]) (rest := []) ⟨hx, hb, hml, hown, ht⟩ (ctX2_hasField l dC dI cI mx aso ava ans anv ars arv ast ago 0 hf us col mov sty so va ns nv rs rv st go ip iq (isReg c_2) (hrv _ (isReg c_2) c_5)) (cwV 2 ht gcX2_78 rfl rfl rfl (by decide +kernel) ⟨Nat.le_of_ble_eq_true rfl, Nat.le_of_ble_eq_true rfl⟩) ⟨pS.blind, va_recv hKc hPc (ci := 2) (q0 := 0) rfl rfl, pS.call hPc hKc hE⟩ rfl rfl hl.1 rfl (lv_room (Nat.le_of_ble_eq_true rfl)) dX2_put_95 ⟨Nat.le_of_ble_eq_true rfl, Nat.le_of_ble_eq_true rfl⟩).run (fun r_8 hr_8 => ?_)
          subst hr_8
          refine lv_if_ne (tgt := 109) hx hb dX2_put_98 (by decide) (fun c_9 => ?_) (fun c_9 => ?_)
          · refine lv_aload_n hx hb dX2_put_109 rfl (lv_at hl 2 rfl) ?_
            refine va_get (D := (dC, dI)) (ci := 2) (v := .ref arv) (C := RX2) (T := TX2) (N := 14) hx hb ht iX2 hown hK hP 0 rfl rfl 10 (by decide) (ht _ g_336) (fun _ h9 => h9) rfl dX2_put_110 ?_
            refine lv_iload_n hx hb dX2_put_113 rfl (lv_at hl 3 rfl) ?_
            refine va_iald hx hb hK hP 6 0 rfl rfl (isReg c_2) dX2_put_114 ?_
            refine lv_iconst (v := 1) hx hb dX2_put_115 (by decide) ?_
            refine lv_iadd hx hb dX2_put_116 ?_
            refine lv_iload_n hx hb dX2_put_117 rfl (lv_at hl 4 rfl) ?_
            refine lv_iadd hx hb dX2_put_118 ?_
            refine lv_istore (lv' := [(6, .int (((rv ip.toNatClampNeg) + 1) + iq)), (5, .int 1), (4, .int 1), (0, .ref mx), (1, .int ip), (2, .int iq), (3, .int ir)]) hx hb dX2_put_119 hl (by decide) rfl (fun ls hl => ?_)
            refine lv_aload_n hx hb dX2_put_121 rfl (lv_at hl 3 rfl) ?_
            refine va_get (D := (dC, dI)) (ci := 2) (v := .ref aso) (C := RX2) (T := TX2) (N := 14) hx hb ht iX2 hown hK hP 0 rfl rfl 5 (by decide) (ht _ g_331) (fun _ h9 => h9) rfl dX2_put_122 ?_
            refine lv_iload hx hb dX2_put_125 (lv_at hl 0 rfl) ?_
            refine lv_aload_n hx hb dX2_put_127 rfl (lv_at hl 3 rfl) ?_
            refine lv_iload_n hx hb dX2_put_128 rfl (lv_at hl 4 rfl) ?_
            have hPc := hP.sub (ws' := [(mx, .inr (2, [.int 0, .int hf, .int us, .int col, .int mov, .ref aso, .ref ava, .ref ans, .ref anv, .ref ars, .ref arv, .int sty, .ref ast, .ref ago])), (aso, .inl (cI, 2100, .inl so)), (ava, .inl (cI, 2100, .inl va)), (ans, .inl (cI, 2100, .inl ns)), (anv, .inl (cI, 2100, .inl nv)), (ars, .inl (cI, 8, .inl rs)), (arv, .inl (cI, 8, .inl rv)), (ast, .inl (cI, 2100, .inl st)), (ago, .inl (cI, 2100, .inl go))]) [0, 1, 2, 3, 4, 5, 6, 7, 8] rfl
            have hKc := hK.sub (tys' := [(cI, .int)]) [0] rfl
            refine vp_callSi (va_runV (As := [.int ip]) (rest := [.int (((rv ip.toNatClampNeg) + 1) + iq), .ref aso]) ⟨hx, hb, hml, hown, ht⟩ (ctX2_isRaw l dC dI cI mx aso ava ans anv ars arv ast ago 0 hf us col mov sty so va ns nv rs rv st go ip (isReg c_2) (hrv _ (isReg c_2))) (cwV 1 ht gcX2_75 rfl rfl rfl (by decide +kernel) ⟨Nat.le_of_ble_eq_true rfl, Nat.le_of_ble_eq_true rfl⟩) ⟨pS.blind, va_recv hKc hPc (ci := 2) (q0 := 0) rfl rfl, pS.call hPc hKc hE⟩ rfl rfl hl.1 rfl (lv_room (Nat.le_of_ble_eq_true rfl)) dX2_put_129 ⟨Nat.le_of_ble_eq_true rfl, Nat.le_of_ble_eq_true rfl⟩).run (fun r_10 hr_10 => ?_)
            subst hr_10
            refine lv_if_eq (tgt := 139) hx hb dX2_put_132 (by decide) (fun _ => ?_) (fun h => absurd c_7 h)
            refine lv_aload_n hx hb dX2_put_139 rfl (lv_at hl 3 rfl) ?_
            refine va_get (D := (dC, dI)) (ci := 2) (v := .ref ars) (C := RX2) (T := TX2) (N := 14) hx hb ht iX2 hown hK hP 0 rfl rfl 9 (by decide) (ht _ g_335) (fun _ h9 => h9) rfl dX2_put_140 ?_
            refine lv_iload_n hx hb dX2_put_143 rfl (lv_at hl 6 rfl) ?_
            refine va_iald hx hb hK hP 5 0 rfl rfl (isReg c_4) dX2_put_144 ?_
            refine va_iast hx hb hK hP hD hS 1 0 rfl rfl (hrf _ _ (isReg c_2) c_5 c_9) dX2_put_145 (fun H locs hP hD hS => ?_)
            have hP : va_P (dC, dI) vwCl [(mx, .inr (2, [.int 0, .int hf, .int us, .int col, .int mov, .ref aso, .ref ava, .ref ans, .ref anv, .ref ars, .ref arv, .int sty, .ref ast, .ref ago])), (aso, .inl (cI, 2100, .inl (upd so (((rv ip.toNatClampNeg) + 1) + iq).toNatClampNeg (rs ir.toNatClampNeg)))), (ava, .inl (cI, 2100, .inl va)), (ans, .inl (cI, 2100, .inl ns)), (anv, .inl (cI, 2100, .inl nv)), (ars, .inl (cI, 8, .inl rs)), (arv, .inl (cI, 8, .inl rv)), (ast, .inl (cI, 2100, .inl st)), (ago, .inl (cI, 2100, .inl go))] H := hP
            have hD : va_D A [(mx, .inr (2, [.int 0, .int hf, .int us, .int col, .int mov, .ref aso, .ref ava, .ref ans, .ref anv, .ref ars, .ref arv, .int sty, .ref ast, .ref ago])), (aso, .inl (cI, 2100, .inl (upd so (((rv ip.toNatClampNeg) + 1) + iq).toNatClampNeg (rs ir.toNatClampNeg)))), (ava, .inl (cI, 2100, .inl va)), (ans, .inl (cI, 2100, .inl ns)), (anv, .inl (cI, 2100, .inl nv)), (ars, .inl (cI, 8, .inl rs)), (arv, .inl (cI, 8, .inl rv)), (ast, .inl (cI, 2100, .inl st)), (ago, .inl (cI, 2100, .inl go))] := hD
            refine lv_aload_n hx hb dX2_put_146 rfl (lv_at hl 3 rfl) ?_
            refine va_get (D := (dC, dI)) (ci := 2) (v := .ref ava) (C := RX2) (T := TX2) (N := 14) hx hb ht iX2 hown hK hP 0 rfl rfl 6 (by decide) (ht _ g_332) (fun _ h9 => h9) rfl dX2_put_147 ?_
            refine lv_iload hx hb dX2_put_150 (lv_at hl 0 rfl) ?_
            refine lv_aload_n hx hb dX2_put_152 rfl (lv_at hl 3 rfl) ?_
            refine va_get (D := (dC, dI)) (ci := 2) (v := .ref arv) (C := RX2) (T := TX2) (N := 14) hx hb ht iX2 hown hK hP 0 rfl rfl 10 (by decide) (ht _ g_336) (fun _ h9 => h9) rfl dX2_put_153 ?_
            refine lv_iload_n hx hb dX2_put_156 rfl (lv_at hl 6 rfl) ?_
            refine va_iald hx hb hK hP 6 0 rfl rfl (isReg c_4) dX2_put_157 ?_
            refine va_iast hx hb hK hP hD hS 2 0 rfl rfl (hrf _ _ (isReg c_2) c_5 c_9) dX2_put_158 (fun H locs hP hD hS => ?_)
            have hP : va_P (dC, dI) vwCl [(mx, .inr (2, [.int 0, .int hf, .int us, .int col, .int mov, .ref aso, .ref ava, .ref ans, .ref anv, .ref ars, .ref arv, .int sty, .ref ast, .ref ago])), (aso, .inl (cI, 2100, .inl (upd so (((rv ip.toNatClampNeg) + 1) + iq).toNatClampNeg (rs ir.toNatClampNeg)))), (ava, .inl (cI, 2100, .inl (upd va (((rv ip.toNatClampNeg) + 1) + iq).toNatClampNeg (rv ir.toNatClampNeg)))), (ans, .inl (cI, 2100, .inl ns)), (anv, .inl (cI, 2100, .inl nv)), (ars, .inl (cI, 8, .inl rs)), (arv, .inl (cI, 8, .inl rv)), (ast, .inl (cI, 2100, .inl st)), (ago, .inl (cI, 2100, .inl go))] H := hP
            have hD : va_D A [(mx, .inr (2, [.int 0, .int hf, .int us, .int col, .int mov, .ref aso, .ref ava, .ref ans, .ref anv, .ref ars, .ref arv, .int sty, .ref ast, .ref ago])), (aso, .inl (cI, 2100, .inl (upd so (((rv ip.toNatClampNeg) + 1) + iq).toNatClampNeg (rs ir.toNatClampNeg)))), (ava, .inl (cI, 2100, .inl (upd va (((rv ip.toNatClampNeg) + 1) + iq).toNatClampNeg (rv ir.toNatClampNeg)))), (ans, .inl (cI, 2100, .inl ns)), (anv, .inl (cI, 2100, .inl nv)), (ars, .inl (cI, 8, .inl rs)), (arv, .inl (cI, 8, .inl rv)), (ast, .inl (cI, 2100, .inl st)), (ago, .inl (cI, 2100, .inl go))] := hD
            have hP9 := hP.sub (ws' := [(mx, .inr (2, [.int 0, .int hf, .int us, .int col, .int mov, .ref aso, .ref ava, .ref ans, .ref anv, .ref ars, .ref arv, .int sty, .ref ast, .ref ago])), (aso, .inl (cI, 2100, .inl (upd so (((rv ip.toNatClampNeg) + 1) + iq).toNatClampNeg (rs ir.toNatClampNeg)))), (ava, .inl (cI, 2100, .inl (upd va (((rv ip.toNatClampNeg) + 1) + iq).toNatClampNeg (rv ir.toNatClampNeg)))), (ans, .inl (cI, 2100, .inl ns)), (anv, .inl (cI, 2100, .inl nv)), (ars, .inl (cI, 8, .inl rs)), (arv, .inl (cI, 8, .inl rv)), (ast, .inl (cI, 2100, .inl st)), (ago, .inl (cI, 2100, .inl go))]) [0, 1, 2, 3, 4, 5, 6, 7, 8] rfl
            have hD9 := hD.sub (ws' := [(mx, .inr (2, [.int 0, .int hf, .int us, .int col, .int mov, .ref aso, .ref ava, .ref ans, .ref anv, .ref ars, .ref arv, .int sty, .ref ast, .ref ago])), (aso, .inl (cI, 2100, .inl (upd so (((rv ip.toNatClampNeg) + 1) + iq).toNatClampNeg (rs ir.toNatClampNeg)))), (ava, .inl (cI, 2100, .inl (upd va (((rv ip.toNatClampNeg) + 1) + iq).toNatClampNeg (rv ir.toNatClampNeg)))), (ans, .inl (cI, 2100, .inl ns)), (anv, .inl (cI, 2100, .inl nv)), (ars, .inl (cI, 8, .inl rs)), (arv, .inl (cI, 8, .inl rv)), (ast, .inl (cI, 2100, .inl st)), (ago, .inl (cI, 2100, .inl go))]) [0, 1, 2, 3, 4, 5, 6, 7, 8] (by decide) rfl
            have hK9 := hK.sub (tys' := [(cI, .int)]) [0] rfl
            exact W.vret hx hb hr (fun t ht hW => ⟨⟨(0, us, col, mov, upd so (((rv ip.toNatClampNeg) + 1) + iq).toNatClampNeg (rs ir.toNatClampNeg), upd va (((rv ip.toNatClampNeg) + 1) + iq).toNatClampNeg (rv ir.toNatClampNeg), ns, nv, rs, rv, sty, st, go), rfl, (by simp only [fX2_put, if_neg c_2, if_neg c_4, if_pos c_5, if_pos c_7, if_neg c_9]), by rw [ht]; exact hP9, va_K.moved hW.alike hK9, hD9⟩, hS.F ht⟩) hS.2.2 dX2_put_159
          · refine lv_aload_n hx hb dX2_put_101 rfl (lv_at hl 2 rfl) ?_
            refine lv_iconst (v := 3) hx hb dX2_put_102 (by decide) ?_
            refine va_put (D := (dC, dI)) (ci := 2) (v := .int 3) (ty := .int) (C := RX2) (T := TX2) (N := 14) hx hb ht iX2 tyX2 tkX2 nmX2 hown hK hP hD hS 0 rfl rfl 0 (by decide) (ht _ g_326) (fun _ h9 => h9) rfl (by decide +kernel) rfl rfl (Nat.le_of_ble_eq_true rfl) dX2_put_103 (fun H locs hP hD hS => ?_)
            have hP : va_P (dC, dI) vwCl [(mx, .inr (2, [.int 3, .int hf, .int us, .int col, .int mov, .ref aso, .ref ava, .ref ans, .ref anv, .ref ars, .ref arv, .int sty, .ref ast, .ref ago])), (aso, .inl (cI, 2100, .inl so)), (ava, .inl (cI, 2100, .inl va)), (ans, .inl (cI, 2100, .inl ns)), (anv, .inl (cI, 2100, .inl nv)), (ars, .inl (cI, 8, .inl rs)), (arv, .inl (cI, 8, .inl rv)), (ast, .inl (cI, 2100, .inl st)), (ago, .inl (cI, 2100, .inl go))] H := hP
            have hD : va_D A [(mx, .inr (2, [.int 3, .int hf, .int us, .int col, .int mov, .ref aso, .ref ava, .ref ans, .ref anv, .ref ars, .ref arv, .int sty, .ref ast, .ref ago])), (aso, .inl (cI, 2100, .inl so)), (ava, .inl (cI, 2100, .inl va)), (ans, .inl (cI, 2100, .inl ns)), (anv, .inl (cI, 2100, .inl nv)), (ars, .inl (cI, 8, .inl rs)), (arv, .inl (cI, 8, .inl rv)), (ast, .inl (cI, 2100, .inl st)), (ago, .inl (cI, 2100, .inl go))] := hD
            refine lv_goto (tgt := 159) hx hb dX2_put_106 (by decide) ?_
            have hP9 := hP.sub (ws' := [(mx, .inr (2, [.int 3, .int hf, .int us, .int col, .int mov, .ref aso, .ref ava, .ref ans, .ref anv, .ref ars, .ref arv, .int sty, .ref ast, .ref ago])), (aso, .inl (cI, 2100, .inl so)), (ava, .inl (cI, 2100, .inl va)), (ans, .inl (cI, 2100, .inl ns)), (anv, .inl (cI, 2100, .inl nv)), (ars, .inl (cI, 8, .inl rs)), (arv, .inl (cI, 8, .inl rv)), (ast, .inl (cI, 2100, .inl st)), (ago, .inl (cI, 2100, .inl go))]) [0, 1, 2, 3, 4, 5, 6, 7, 8] rfl
            have hD9 := hD.sub (ws' := [(mx, .inr (2, [.int 3, .int hf, .int us, .int col, .int mov, .ref aso, .ref ava, .ref ans, .ref anv, .ref ars, .ref arv, .int sty, .ref ast, .ref ago])), (aso, .inl (cI, 2100, .inl so)), (ava, .inl (cI, 2100, .inl va)), (ans, .inl (cI, 2100, .inl ns)), (anv, .inl (cI, 2100, .inl nv)), (ars, .inl (cI, 8, .inl rs)), (arv, .inl (cI, 8, .inl rv)), (ast, .inl (cI, 2100, .inl st)), (ago, .inl (cI, 2100, .inl go))]) [0, 1, 2, 3, 4, 5, 6, 7, 8] (by decide) rfl
            have hK9 := hK.sub (tys' := [(cI, .int)]) [0] rfl
            exact W.vret hx hb hr (fun t ht hW => ⟨⟨(3, us, col, mov, so, va, ns, nv, rs, rv, sty, st, go), rfl, (by simp only [fX2_put, if_neg c_2, if_neg c_4, if_pos c_5, if_pos c_7, if_pos c_9]), by rw [ht]; exact hP9, va_K.moved hW.alike hK9, hD9⟩, hS.F ht⟩) hS.2.2 dX2_put_159
        · refine lv_aload_n hx hb dX2_put_74 rfl (lv_at hl 2 rfl) ?_
          refine va_get (D := (dC, dI)) (ci := 2) (v := .ref ars) (C := RX2) (T := TX2) (N := 14) hx hb ht iX2 hown hK hP 0 rfl rfl 9 (by decide) (ht _ g_335) (fun _ h9 => h9) rfl dX2_put_75 ?_
          refine lv_iload_n hx hb dX2_put_78 rfl (lv_at hl 5 rfl) ?_
          refine va_iald hx hb hK hP 5 0 rfl rfl (isReg c_4) dX2_put_79 ?_
          refine lv_iconst (v := 2) hx hb dX2_put_80 (by decide) ?_
          refine lv_icmp_ne (tgt := 92) hx hb dX2_put_81 (by decide) (fun c_11 => ?_) (fun c_11 => ?_)
          · refine lv_aload_n hx hb dX2_put_92 rfl (lv_at hl 2 rfl) ?_
            refine lv_iload_n hx hb dX2_put_93 rfl (lv_at hl 3 rfl) ?_
            refine lv_iload_n hx hb dX2_put_94 rfl (lv_at hl 4 rfl) ?_
            have hPc := hP.sub (ws' := [(mx, .inr (2, [.int 0, .int hf, .int us, .int col, .int mov, .ref aso, .ref ava, .ref ans, .ref anv, .ref ars, .ref arv, .int sty, .ref ast, .ref ago])), (aso, .inl (cI, 2100, .inl so)), (ava, .inl (cI, 2100, .inl va)), (ans, .inl (cI, 2100, .inl ns)), (anv, .inl (cI, 2100, .inl nv)), (ars, .inl (cI, 8, .inl rs)), (arv, .inl (cI, 8, .inl rv)), (ast, .inl (cI, 2100, .inl st)), (ago, .inl (cI, 2100, .inl go))]) [0, 1, 2, 3, 4, 5, 6, 7, 8] rfl
            have hKc := hK.sub (tys' := [(cI, .int)]) [0] rfl
            refine vp_callSi (va_runV (As := [.int ip, .int iq]) (rest := []) ⟨hx, hb, hml, hown, ht⟩ (ctX2_hasField l dC dI cI mx aso ava ans anv ars arv ast ago 0 hf us col mov sty so va ns nv rs rv st go ip iq (isReg c_2) (hrv _ (isReg c_2) c_5)) (cwV 2 ht gcX2_78 rfl rfl rfl (by decide +kernel) ⟨Nat.le_of_ble_eq_true rfl, Nat.le_of_ble_eq_true rfl⟩) ⟨pS.blind, va_recv hKc hPc (ci := 2) (q0 := 0) rfl rfl, pS.call hPc hKc hE⟩ rfl rfl hl.1 rfl (lv_room (Nat.le_of_ble_eq_true rfl)) dX2_put_95 ⟨Nat.le_of_ble_eq_true rfl, Nat.le_of_ble_eq_true rfl⟩).run (fun r_12 hr_12 => ?_)
            subst hr_12
            refine lv_if_ne (tgt := 109) hx hb dX2_put_98 (by decide) (fun c_13 => ?_) (fun c_13 => ?_)
            · refine lv_aload_n hx hb dX2_put_109 rfl (lv_at hl 2 rfl) ?_
              refine va_get (D := (dC, dI)) (ci := 2) (v := .ref arv) (C := RX2) (T := TX2) (N := 14) hx hb ht iX2 hown hK hP 0 rfl rfl 10 (by decide) (ht _ g_336) (fun _ h9 => h9) rfl dX2_put_110 ?_
              refine lv_iload_n hx hb dX2_put_113 rfl (lv_at hl 3 rfl) ?_
              refine va_iald hx hb hK hP 6 0 rfl rfl (isReg c_2) dX2_put_114 ?_
              refine lv_iconst (v := 1) hx hb dX2_put_115 (by decide) ?_
              refine lv_iadd hx hb dX2_put_116 ?_
              refine lv_iload_n hx hb dX2_put_117 rfl (lv_at hl 4 rfl) ?_
              refine lv_iadd hx hb dX2_put_118 ?_
              refine lv_istore (lv' := [(6, .int (((rv ip.toNatClampNeg) + 1) + iq)), (5, .int 1), (4, .int 1), (0, .ref mx), (1, .int ip), (2, .int iq), (3, .int ir)]) hx hb dX2_put_119 hl (by decide) rfl (fun ls hl => ?_)
              refine lv_aload_n hx hb dX2_put_121 rfl (lv_at hl 3 rfl) ?_
              refine va_get (D := (dC, dI)) (ci := 2) (v := .ref aso) (C := RX2) (T := TX2) (N := 14) hx hb ht iX2 hown hK hP 0 rfl rfl 5 (by decide) (ht _ g_331) (fun _ h9 => h9) rfl dX2_put_122 ?_
              refine lv_iload hx hb dX2_put_125 (lv_at hl 0 rfl) ?_
              refine lv_aload_n hx hb dX2_put_127 rfl (lv_at hl 3 rfl) ?_
              refine lv_iload_n hx hb dX2_put_128 rfl (lv_at hl 4 rfl) ?_
              have hPc := hP.sub (ws' := [(mx, .inr (2, [.int 0, .int hf, .int us, .int col, .int mov, .ref aso, .ref ava, .ref ans, .ref anv, .ref ars, .ref arv, .int sty, .ref ast, .ref ago])), (aso, .inl (cI, 2100, .inl so)), (ava, .inl (cI, 2100, .inl va)), (ans, .inl (cI, 2100, .inl ns)), (anv, .inl (cI, 2100, .inl nv)), (ars, .inl (cI, 8, .inl rs)), (arv, .inl (cI, 8, .inl rv)), (ast, .inl (cI, 2100, .inl st)), (ago, .inl (cI, 2100, .inl go))]) [0, 1, 2, 3, 4, 5, 6, 7, 8] rfl
              have hKc := hK.sub (tys' := [(cI, .int)]) [0] rfl
              refine vp_callSi (va_runV (As := [.int ip]) (rest := [.int (((rv ip.toNatClampNeg) + 1) + iq), .ref aso]) ⟨hx, hb, hml, hown, ht⟩ (ctX2_isRaw l dC dI cI mx aso ava ans anv ars arv ast ago 0 hf us col mov sty so va ns nv rs rv st go ip (isReg c_2) (hrv _ (isReg c_2))) (cwV 1 ht gcX2_75 rfl rfl rfl (by decide +kernel) ⟨Nat.le_of_ble_eq_true rfl, Nat.le_of_ble_eq_true rfl⟩) ⟨pS.blind, va_recv hKc hPc (ci := 2) (q0 := 0) rfl rfl, pS.call hPc hKc hE⟩ rfl rfl hl.1 rfl (lv_room (Nat.le_of_ble_eq_true rfl)) dX2_put_129 ⟨Nat.le_of_ble_eq_true rfl, Nat.le_of_ble_eq_true rfl⟩).run (fun r_14 hr_14 => ?_)
              subst hr_14
              refine lv_if_eq (tgt := 139) hx hb dX2_put_132 (by decide) (fun h => absurd h c_7) (fun _ => ?_)
              refine lv_iconst (v := 3) hx hb dX2_put_135 (by decide) ?_
              refine lv_goto (tgt := 145) hx hb dX2_put_136 (by decide) ?_
              refine va_iast hx hb hK hP hD hS 1 0 rfl rfl (hrf _ _ (isReg c_2) c_5 c_13) dX2_put_145 (fun H locs hP hD hS => ?_)
              have hP : va_P (dC, dI) vwCl [(mx, .inr (2, [.int 0, .int hf, .int us, .int col, .int mov, .ref aso, .ref ava, .ref ans, .ref anv, .ref ars, .ref arv, .int sty, .ref ast, .ref ago])), (aso, .inl (cI, 2100, .inl (upd so (((rv ip.toNatClampNeg) + 1) + iq).toNatClampNeg 3))), (ava, .inl (cI, 2100, .inl va)), (ans, .inl (cI, 2100, .inl ns)), (anv, .inl (cI, 2100, .inl nv)), (ars, .inl (cI, 8, .inl rs)), (arv, .inl (cI, 8, .inl rv)), (ast, .inl (cI, 2100, .inl st)), (ago, .inl (cI, 2100, .inl go))] H := hP
              have hD : va_D A [(mx, .inr (2, [.int 0, .int hf, .int us, .int col, .int mov, .ref aso, .ref ava, .ref ans, .ref anv, .ref ars, .ref arv, .int sty, .ref ast, .ref ago])), (aso, .inl (cI, 2100, .inl (upd so (((rv ip.toNatClampNeg) + 1) + iq).toNatClampNeg 3))), (ava, .inl (cI, 2100, .inl va)), (ans, .inl (cI, 2100, .inl ns)), (anv, .inl (cI, 2100, .inl nv)), (ars, .inl (cI, 8, .inl rs)), (arv, .inl (cI, 8, .inl rv)), (ast, .inl (cI, 2100, .inl st)), (ago, .inl (cI, 2100, .inl go))] := hD
              refine lv_aload_n hx hb dX2_put_146 rfl (lv_at hl 3 rfl) ?_
              refine va_get (D := (dC, dI)) (ci := 2) (v := .ref ava) (C := RX2) (T := TX2) (N := 14) hx hb ht iX2 hown hK hP 0 rfl rfl 6 (by decide) (ht _ g_332) (fun _ h9 => h9) rfl dX2_put_147 ?_
              refine lv_iload hx hb dX2_put_150 (lv_at hl 0 rfl) ?_
              refine lv_aload_n hx hb dX2_put_152 rfl (lv_at hl 3 rfl) ?_
              refine va_get (D := (dC, dI)) (ci := 2) (v := .ref arv) (C := RX2) (T := TX2) (N := 14) hx hb ht iX2 hown hK hP 0 rfl rfl 10 (by decide) (ht _ g_336) (fun _ h9 => h9) rfl dX2_put_153 ?_
              refine lv_iload_n hx hb dX2_put_156 rfl (lv_at hl 6 rfl) ?_
              refine va_iald hx hb hK hP 6 0 rfl rfl (isReg c_4) dX2_put_157 ?_
              refine va_iast hx hb hK hP hD hS 2 0 rfl rfl (hrf _ _ (isReg c_2) c_5 c_13) dX2_put_158 (fun H locs hP hD hS => ?_)
              have hP : va_P (dC, dI) vwCl [(mx, .inr (2, [.int 0, .int hf, .int us, .int col, .int mov, .ref aso, .ref ava, .ref ans, .ref anv, .ref ars, .ref arv, .int sty, .ref ast, .ref ago])), (aso, .inl (cI, 2100, .inl (upd so (((rv ip.toNatClampNeg) + 1) + iq).toNatClampNeg 3))), (ava, .inl (cI, 2100, .inl (upd va (((rv ip.toNatClampNeg) + 1) + iq).toNatClampNeg (rv ir.toNatClampNeg)))), (ans, .inl (cI, 2100, .inl ns)), (anv, .inl (cI, 2100, .inl nv)), (ars, .inl (cI, 8, .inl rs)), (arv, .inl (cI, 8, .inl rv)), (ast, .inl (cI, 2100, .inl st)), (ago, .inl (cI, 2100, .inl go))] H := hP
              have hD : va_D A [(mx, .inr (2, [.int 0, .int hf, .int us, .int col, .int mov, .ref aso, .ref ava, .ref ans, .ref anv, .ref ars, .ref arv, .int sty, .ref ast, .ref ago])), (aso, .inl (cI, 2100, .inl (upd so (((rv ip.toNatClampNeg) + 1) + iq).toNatClampNeg 3))), (ava, .inl (cI, 2100, .inl (upd va (((rv ip.toNatClampNeg) + 1) + iq).toNatClampNeg (rv ir.toNatClampNeg)))), (ans, .inl (cI, 2100, .inl ns)), (anv, .inl (cI, 2100, .inl nv)), (ars, .inl (cI, 8, .inl rs)), (arv, .inl (cI, 8, .inl rv)), (ast, .inl (cI, 2100, .inl st)), (ago, .inl (cI, 2100, .inl go))] := hD
              have hP9 := hP.sub (ws' := [(mx, .inr (2, [.int 0, .int hf, .int us, .int col, .int mov, .ref aso, .ref ava, .ref ans, .ref anv, .ref ars, .ref arv, .int sty, .ref ast, .ref ago])), (aso, .inl (cI, 2100, .inl (upd so (((rv ip.toNatClampNeg) + 1) + iq).toNatClampNeg 3))), (ava, .inl (cI, 2100, .inl (upd va (((rv ip.toNatClampNeg) + 1) + iq).toNatClampNeg (rv ir.toNatClampNeg)))), (ans, .inl (cI, 2100, .inl ns)), (anv, .inl (cI, 2100, .inl nv)), (ars, .inl (cI, 8, .inl rs)), (arv, .inl (cI, 8, .inl rv)), (ast, .inl (cI, 2100, .inl st)), (ago, .inl (cI, 2100, .inl go))]) [0, 1, 2, 3, 4, 5, 6, 7, 8] rfl
              have hD9 := hD.sub (ws' := [(mx, .inr (2, [.int 0, .int hf, .int us, .int col, .int mov, .ref aso, .ref ava, .ref ans, .ref anv, .ref ars, .ref arv, .int sty, .ref ast, .ref ago])), (aso, .inl (cI, 2100, .inl (upd so (((rv ip.toNatClampNeg) + 1) + iq).toNatClampNeg 3))), (ava, .inl (cI, 2100, .inl (upd va (((rv ip.toNatClampNeg) + 1) + iq).toNatClampNeg (rv ir.toNatClampNeg)))), (ans, .inl (cI, 2100, .inl ns)), (anv, .inl (cI, 2100, .inl nv)), (ars, .inl (cI, 8, .inl rs)), (arv, .inl (cI, 8, .inl rv)), (ast, .inl (cI, 2100, .inl st)), (ago, .inl (cI, 2100, .inl go))]) [0, 1, 2, 3, 4, 5, 6, 7, 8] (by decide) rfl
              have hK9 := hK.sub (tys' := [(cI, .int)]) [0] rfl
              exact W.vret hx hb hr (fun t ht hW => ⟨⟨(0, us, col, mov, upd so (((rv ip.toNatClampNeg) + 1) + iq).toNatClampNeg 3, upd va (((rv ip.toNatClampNeg) + 1) + iq).toNatClampNeg (rv ir.toNatClampNeg), ns, nv, rs, rv, sty, st, go), rfl, (by simp only [fX2_put, if_neg c_2, if_neg c_4, if_pos c_5, if_neg c_7, if_neg c_11, if_neg c_13]), by rw [ht]; exact hP9, va_K.moved hW.alike hK9, hD9⟩, hS.F ht⟩) hS.2.2 dX2_put_159
            · refine lv_aload_n hx hb dX2_put_101 rfl (lv_at hl 2 rfl) ?_
              refine lv_iconst (v := 3) hx hb dX2_put_102 (by decide) ?_
              refine va_put (D := (dC, dI)) (ci := 2) (v := .int 3) (ty := .int) (C := RX2) (T := TX2) (N := 14) hx hb ht iX2 tyX2 tkX2 nmX2 hown hK hP hD hS 0 rfl rfl 0 (by decide) (ht _ g_326) (fun _ h9 => h9) rfl (by decide +kernel) rfl rfl (Nat.le_of_ble_eq_true rfl) dX2_put_103 (fun H locs hP hD hS => ?_)
              have hP : va_P (dC, dI) vwCl [(mx, .inr (2, [.int 3, .int hf, .int us, .int col, .int mov, .ref aso, .ref ava, .ref ans, .ref anv, .ref ars, .ref arv, .int sty, .ref ast, .ref ago])), (aso, .inl (cI, 2100, .inl so)), (ava, .inl (cI, 2100, .inl va)), (ans, .inl (cI, 2100, .inl ns)), (anv, .inl (cI, 2100, .inl nv)), (ars, .inl (cI, 8, .inl rs)), (arv, .inl (cI, 8, .inl rv)), (ast, .inl (cI, 2100, .inl st)), (ago, .inl (cI, 2100, .inl go))] H := hP
              have hD : va_D A [(mx, .inr (2, [.int 3, .int hf, .int us, .int col, .int mov, .ref aso, .ref ava, .ref ans, .ref anv, .ref ars, .ref arv, .int sty, .ref ast, .ref ago])), (aso, .inl (cI, 2100, .inl so)), (ava, .inl (cI, 2100, .inl va)), (ans, .inl (cI, 2100, .inl ns)), (anv, .inl (cI, 2100, .inl nv)), (ars, .inl (cI, 8, .inl rs)), (arv, .inl (cI, 8, .inl rv)), (ast, .inl (cI, 2100, .inl st)), (ago, .inl (cI, 2100, .inl go))] := hD
              refine lv_goto (tgt := 159) hx hb dX2_put_106 (by decide) ?_
              have hP9 := hP.sub (ws' := [(mx, .inr (2, [.int 3, .int hf, .int us, .int col, .int mov, .ref aso, .ref ava, .ref ans, .ref anv, .ref ars, .ref arv, .int sty, .ref ast, .ref ago])), (aso, .inl (cI, 2100, .inl so)), (ava, .inl (cI, 2100, .inl va)), (ans, .inl (cI, 2100, .inl ns)), (anv, .inl (cI, 2100, .inl nv)), (ars, .inl (cI, 8, .inl rs)), (arv, .inl (cI, 8, .inl rv)), (ast, .inl (cI, 2100, .inl st)), (ago, .inl (cI, 2100, .inl go))]) [0, 1, 2, 3, 4, 5, 6, 7, 8] rfl
              have hD9 := hD.sub (ws' := [(mx, .inr (2, [.int 3, .int hf, .int us, .int col, .int mov, .ref aso, .ref ava, .ref ans, .ref anv, .ref ars, .ref arv, .int sty, .ref ast, .ref ago])), (aso, .inl (cI, 2100, .inl so)), (ava, .inl (cI, 2100, .inl va)), (ans, .inl (cI, 2100, .inl ns)), (anv, .inl (cI, 2100, .inl nv)), (ars, .inl (cI, 8, .inl rs)), (arv, .inl (cI, 8, .inl rv)), (ast, .inl (cI, 2100, .inl st)), (ago, .inl (cI, 2100, .inl go))]) [0, 1, 2, 3, 4, 5, 6, 7, 8] (by decide) rfl
              have hK9 := hK.sub (tys' := [(cI, .int)]) [0] rfl
              exact W.vret hx hb hr (fun t ht hW => ⟨⟨(3, us, col, mov, so, va, ns, nv, rs, rv, sty, st, go), rfl, (by simp only [fX2_put, if_neg c_2, if_neg c_4, if_pos c_5, if_neg c_7, if_neg c_11, if_pos c_13]), by rw [ht]; exact hP9, va_K.moved hW.alike hK9, hD9⟩, hS.F ht⟩) hS.2.2 dX2_put_159
          · refine lv_aload_n hx hb dX2_put_84 rfl (lv_at hl 2 rfl) ?_
            refine lv_iconst (v := 2) hx hb dX2_put_85 (by decide) ?_
            refine va_put (D := (dC, dI)) (ci := 2) (v := .int 2) (ty := .int) (C := RX2) (T := TX2) (N := 14) hx hb ht iX2 tyX2 tkX2 nmX2 hown hK hP hD hS 0 rfl rfl 0 (by decide) (ht _ g_326) (fun _ h9 => h9) rfl (by decide +kernel) rfl rfl (Nat.le_of_ble_eq_true rfl) dX2_put_86 (fun H locs hP hD hS => ?_)
            have hP : va_P (dC, dI) vwCl [(mx, .inr (2, [.int 2, .int hf, .int us, .int col, .int mov, .ref aso, .ref ava, .ref ans, .ref anv, .ref ars, .ref arv, .int sty, .ref ast, .ref ago])), (aso, .inl (cI, 2100, .inl so)), (ava, .inl (cI, 2100, .inl va)), (ans, .inl (cI, 2100, .inl ns)), (anv, .inl (cI, 2100, .inl nv)), (ars, .inl (cI, 8, .inl rs)), (arv, .inl (cI, 8, .inl rv)), (ast, .inl (cI, 2100, .inl st)), (ago, .inl (cI, 2100, .inl go))] H := hP
            have hD : va_D A [(mx, .inr (2, [.int 2, .int hf, .int us, .int col, .int mov, .ref aso, .ref ava, .ref ans, .ref anv, .ref ars, .ref arv, .int sty, .ref ast, .ref ago])), (aso, .inl (cI, 2100, .inl so)), (ava, .inl (cI, 2100, .inl va)), (ans, .inl (cI, 2100, .inl ns)), (anv, .inl (cI, 2100, .inl nv)), (ars, .inl (cI, 8, .inl rs)), (arv, .inl (cI, 8, .inl rv)), (ast, .inl (cI, 2100, .inl st)), (ago, .inl (cI, 2100, .inl go))] := hD
            refine lv_goto (tgt := 159) hx hb dX2_put_89 (by decide) ?_
            have hP9 := hP.sub (ws' := [(mx, .inr (2, [.int 2, .int hf, .int us, .int col, .int mov, .ref aso, .ref ava, .ref ans, .ref anv, .ref ars, .ref arv, .int sty, .ref ast, .ref ago])), (aso, .inl (cI, 2100, .inl so)), (ava, .inl (cI, 2100, .inl va)), (ans, .inl (cI, 2100, .inl ns)), (anv, .inl (cI, 2100, .inl nv)), (ars, .inl (cI, 8, .inl rs)), (arv, .inl (cI, 8, .inl rv)), (ast, .inl (cI, 2100, .inl st)), (ago, .inl (cI, 2100, .inl go))]) [0, 1, 2, 3, 4, 5, 6, 7, 8] rfl
            have hD9 := hD.sub (ws' := [(mx, .inr (2, [.int 2, .int hf, .int us, .int col, .int mov, .ref aso, .ref ava, .ref ans, .ref anv, .ref ars, .ref arv, .int sty, .ref ast, .ref ago])), (aso, .inl (cI, 2100, .inl so)), (ava, .inl (cI, 2100, .inl va)), (ans, .inl (cI, 2100, .inl ns)), (anv, .inl (cI, 2100, .inl nv)), (ars, .inl (cI, 8, .inl rs)), (arv, .inl (cI, 8, .inl rv)), (ast, .inl (cI, 2100, .inl st)), (ago, .inl (cI, 2100, .inl go))]) [0, 1, 2, 3, 4, 5, 6, 7, 8] (by decide) rfl
            have hK9 := hK.sub (tys' := [(cI, .int)]) [0] rfl
            exact W.vret hx hb hr (fun t ht hW => ⟨⟨(2, us, col, mov, so, va, ns, nv, rs, rv, sty, st, go), rfl, (by simp only [fX2_put, if_neg c_2, if_neg c_4, if_pos c_5, if_neg c_7, if_pos c_11]), by rw [ht]; exact hP9, va_K.moved hW.alike hK9, hD9⟩, hS.F ht⟩) hS.2.2 dX2_put_159
def fX2_get (th : Int32) (us : Int32) (col : Int32) (mov : Int32) (so : Nat → Int32) (va : Nat → Int32) (ns : Nat → Int32) (nv : Nat → Int32) (rs : Nat → Int32) (rv : Nat → Int32) (sty : Int32) (st : Nat → Int32) (go : Nat → Int32) (ip : Int32) (iq : Int32) (ir : Int32) : Int32 × Int32 × Int32 × Int32 × Int32 × (Nat → Int32) × (Nat → Int32) × (Nat → Int32) × (Nat → Int32) × (Nat → Int32) × (Nat → Int32) × Int32 × (Nat → Int32) × (Nat → Int32) := (if fX2_isRegister ip = 0 then (0, (1, us, col, mov, so, va, ns, nv, rs, rv, sty, st, go)) else (if fX2_isRegister iq = 0 then (0, (1, us, col, mov, so, va, ns, nv, rs, rv, sty, st, go)) else (if rs iq.toNatClampNeg = 2 then (if fX2_hasField va rv iq ir = 0 then (0, (3, us, col, mov, so, va, ns, nv, rs, rv, sty, st, go)) else (if so (((rv iq.toNatClampNeg) + 1) + ir).toNatClampNeg = 3 then (if (upd rs ip.toNatClampNeg 1) ip.toNatClampNeg = 2 then (1, (0, us, col, mov, so, va, ns, nv, upd rs ip.toNatClampNeg 1, upd rv ip.toNatClampNeg (fX2_kept (va (((rv iq.toNatClampNeg) + 1) + ir).toNatClampNeg)), sty, st, go)) else (0, (0, us, col, mov, so, va, ns, nv, upd rs ip.toNatClampNeg 1, upd rv ip.toNatClampNeg (fX2_kept (va (((rv iq.toNatClampNeg) + 1) + ir).toNatClampNeg)), sty, st, go))) else (if (upd rs ip.toNatClampNeg (so (((rv iq.toNatClampNeg) + 1) + ir).toNatClampNeg)) ip.toNatClampNeg = 2 then (1, (0, us, col, mov, so, va, ns, nv, upd rs ip.toNatClampNeg (so (((rv iq.toNatClampNeg) + 1) + ir).toNatClampNeg), upd rv ip.toNatClampNeg (va (((rv iq.toNatClampNeg) + 1) + ir).toNatClampNeg), sty, st, go)) else (0, (0, us, col, mov, so, va, ns, nv, upd rs ip.toNatClampNeg (so (((rv iq.toNatClampNeg) + 1) + ir).toNatClampNeg), upd rv ip.toNatClampNeg (va (((rv iq.toNatClampNeg) + 1) + ir).toNatClampNeg), sty, st, go))))) else (0, (2, us, col, mov, so, va, ns, nv, rs, rv, sty, st, go)))))
abbrev atX2_get (dC : Nat → ClassId) (dI : Nat → Nat → Nat) (cI : ClassId) (A : Nat → Prop) (mx : Nat) (aso : Nat) (ava : Nat) (ans : Nat) (anv : Nat) (ars : Nat) (arv : Nat) (ast : Nat) (ago : Nat) (hf : Int32) (u : Int32 × Int32 × Int32 × Int32 × (Nat → Int32) × (Nat → Int32) × (Nat → Int32) × (Nat → Int32) × (Nat → Int32) × (Nat → Int32) × Int32 × (Nat → Int32) × (Nat → Int32)) (t : State) : Prop := va_P (dC, dI) vwCl [(mx, .inr (2, [.int u.1, .int hf, .int u.2.1, .int u.2.2.1, .int u.2.2.2.1, .ref aso, .ref ava, .ref ans, .ref anv, .ref ars, .ref arv, .int u.2.2.2.2.2.2.2.2.2.2.1, .ref ast, .ref ago])), (aso, .inl (cI, 2100, .inl u.2.2.2.2.1)), (ava, .inl (cI, 2100, .inl u.2.2.2.2.2.1)), (ans, .inl (cI, 2100, .inl u.2.2.2.2.2.2.1)), (anv, .inl (cI, 2100, .inl u.2.2.2.2.2.2.2.1)), (ars, .inl (cI, 8, .inl u.2.2.2.2.2.2.2.2.1)), (arv, .inl (cI, 8, .inl u.2.2.2.2.2.2.2.2.2.1)), (ast, .inl (cI, 2100, .inl u.2.2.2.2.2.2.2.2.2.2.2.1)), (ago, .inl (cI, 2100, .inl u.2.2.2.2.2.2.2.2.2.2.2.2))] t.heap ∧ va_K (dC, dI) vwCl [(cI, .int)] t ∧ va_D A [(mx, .inr (2, [.int u.1, .int hf, .int u.2.1, .int u.2.2.1, .int u.2.2.2.1, .ref aso, .ref ava, .ref ans, .ref anv, .ref ars, .ref arv, .int u.2.2.2.2.2.2.2.2.2.2.1, .ref ast, .ref ago])), (aso, .inl (cI, 2100, .inl u.2.2.2.2.1)), (ava, .inl (cI, 2100, .inl u.2.2.2.2.2.1)), (ans, .inl (cI, 2100, .inl u.2.2.2.2.2.2.1)), (anv, .inl (cI, 2100, .inl u.2.2.2.2.2.2.2.1)), (ars, .inl (cI, 8, .inl u.2.2.2.2.2.2.2.2.1)), (arv, .inl (cI, 8, .inl u.2.2.2.2.2.2.2.2.2.1)), (ast, .inl (cI, 2100, .inl u.2.2.2.2.2.2.2.2.2.2.2.1)), (ago, .inl (cI, 2100, .inl u.2.2.2.2.2.2.2.2.2.2.2.2))]
set_option maxHeartbeats 4000000 in
set_option maxRecDepth 100000 in
theorem ctX2_get (l : Launch) (dC : Nat → ClassId) (dI : Nat → Nat → Nat) (cI : ClassId) (mx : Nat) (aso : Nat) (ava : Nat) (ans : Nat) (anv : Nat) (ars : Nat) (arv : Nat) (ast : Nat) (ago : Nat) (th : Int32) (hf : Int32) (us : Int32) (col : Int32) (mov : Int32) (sty : Int32) (so : Nat → Int32) (va : Nat → Int32) (ns : Nat → Int32) (nv : Nat → Int32) (rs : Nat → Int32) (rv : Nat → Int32) (st : Nat → Int32) (go : Nat → Int32) (ip : Int32) (iq : Int32) (ir : Int32) (sz : Nat) (hrv : ∀ i : Int32, vp_in i 8 → rs i.toNatClampNeg = 2 → vp_in (rv i.toNatClampNeg) 2100) (hrf : ∀ i k : Int32, vp_in i 8 → rs i.toNatClampNeg = 2 → ¬ fX2_hasField va rv i k = 0 → vp_in (rv i.toNatClampNeg + 1 + k) 2100) : Met l yX2_get (kX2_get :: gT) ({ frames := 2, cells := 0, slots := 0, locals := 43 }) (va_Pc [.ref mx, .int ip, .int iq, .int ir] (pM (dC, dI) [(mx, .inr (2, [.int th, .int hf, .int us, .int col, .int mov, .ref aso, .ref ava, .ref ans, .ref anv, .ref ars, .ref arv, .int sty, .ref ast, .ref ago])), (aso, .inl (cI, 2100, .inl so)), (ava, .inl (cI, 2100, .inl va)), (ans, .inl (cI, 2100, .inl ns)), (anv, .inl (cI, 2100, .inl nv)), (ars, .inl (cI, 8, .inl rs)), (arv, .inl (cI, 8, .inl rv)), (ast, .inl (cI, 2100, .inl st)), (ago, .inl (cI, 2100, .inl go))] [(cI, .int)] sz)) (va_Qi (fun (r : Int32) (u : Int32 × Int32 × Int32 × Int32 × (Nat → Int32) × (Nat → Int32) × (Nat → Int32) × (Nat → Int32) × (Nat → Int32) × (Nat → Int32) × Int32 × (Nat → Int32) × (Nat → Int32)) => (r, u) = fX2_get th us col mov so va ns nv rs rv sty st go ip iq ir) (atX2_get dC dI cI (va_A [(mx, .inr (2, [.int th, .int hf, .int us, .int col, .int mov, .ref aso, .ref ava, .ref ans, .ref anv, .ref ars, .ref arv, .int sty, .ref ast, .ref ago])), (aso, .inl (cI, 2100, .inl so)), (ava, .inl (cI, 2100, .inl va)), (ans, .inl (cI, 2100, .inl ns)), (anv, .inl (cI, 2100, .inl nv)), (ars, .inl (cI, 8, .inl rs)), (arv, .inl (cI, 8, .inl rv)), (ast, .inl (cI, 2100, .inl st)), (ago, .inl (cI, 2100, .inl go))] sz) mx aso ava ans anv ars arv ast ago hf) (va_A [(mx, .inr (2, [.int th, .int hf, .int us, .int col, .int mov, .ref aso, .ref ava, .ref ans, .ref anv, .ref ars, .ref arv, .int sty, .ref ast, .ref ago])), (aso, .inl (cI, 2100, .inl so)), (ava, .inl (cI, 2100, .inl va)), (ans, .inl (cI, 2100, .inl ns)), (anv, .inl (cI, 2100, .inl nv)), (ars, .inl (cI, 8, .inl rs)), (arv, .inl (cI, 8, .inl rv)), (ast, .inl (cI, 2100, .inl st)), (ago, .inl (cI, 2100, .inl go))] sz)) 0 0 (va_A [(mx, .inr (2, [.int th, .int hf, .int us, .int col, .int mov, .ref aso, .ref ava, .ref ans, .ref anv, .ref ars, .ref arv, .int sty, .ref ast, .ref ago])), (aso, .inl (cI, 2100, .inl so)), (ava, .inl (cI, 2100, .inl va)), (ans, .inl (cI, 2100, .inl ns)), (anv, .inl (cI, 2100, .inl nv)), (ars, .inl (cI, 8, .inl rs)), (arv, .inl (cI, 8, .inl rv)), (ast, .inl (cI, 2100, .inl st)), (ago, .inl (cI, 2100, .inl go))] sz) := by
  refine Met.ofW (cc := cX2_get) (maxL := 7) (ret := (some .boolean)) (by decide) rfl ?_
  intro p e s m args below meth c s₁ B hml hv
  obtain ⟨rfl, hsz, hP, hK, hD0, hE⟩ := hv
  have hx := B.exec
  have hb := B.bytes
  have hr := B.returns
  have ht : ∀ w ∈ gT, w.before ([.ref mx, .int ip, .int iq, .int ir] : List Value).toArray s = true := fun w h => atoms_spec (ws := kX2_get :: gT) B.pre w (List.mem_cons_of_mem _ h)
  have hown : s.vm.findClass RX2 = some m.cls := findClass_of_methodNamed B.named
  have hlocks := B.notSynchronized
  subst hsz
  have hD := hD0.self (sz := s.heap.size)
  generalize hAe : va_A [(mx, .inr (2, [.int th, .int hf, .int us, .int col, .int mov, .ref aso, .ref ava, .ref ans, .ref anv, .ref ars, .ref arv, .int sty, .ref ast, .ref ago])), (aso, .inl (cI, 2100, .inl so)), (ava, .inl (cI, 2100, .inl va)), (ans, .inl (cI, 2100, .inl ns)), (anv, .inl (cI, 2100, .inl nv)), (ars, .inl (cI, 8, .inl rs)), (arv, .inl (cI, 8, .inl rv)), (ast, .inl (cI, 2100, .inl st)), (ago, .inl (cI, 2100, .inl go))] s.heap.size = A at hD ⊢
  have hA : ∀ q : Nat, s.heap.size ≤ q → A q := fun q h => by rw [← hAe]; exact Or.inr h
  have hS : va_S A s.heap s.heap [] := va_S.rf
  have hl := lv_entry ([.ref mx, .int ip, .int iq, .int ir]) (n := 7) (Nat.le_of_ble_eq_true rfl)
  rw [lg_entry_eq]
  generalize (lg_sl ([.ref mx, .int ip, .int iq, .int ir]) ++ List.replicate (7 - (lg_sl ([.ref mx, .int ip, .int iq, .int ir])).length) Slot.unset).toArray = ls at hl ⊢
  have hl : lv_has ls 7 [(0, .ref mx), (1, .int ip), (2, .int iq), (3, .int ir)] := hl
  refine lv_aload_n hx hb dX2_get_0 rfl (lv_at hl 0 rfl) ?_
  refine lv_iconst (v := 0) hx hb dX2_get_1 (by decide) ?_
  refine va_put (D := (dC, dI)) (ci := 2) (v := .int 0) (ty := .int) (C := RX2) (T := TX2) (N := 14) hx hb ht iX2 tyX2 tkX2 nmX2 hown hK hP hD hS 0 rfl rfl 0 (by decide) (ht _ g_326) (fun _ h9 => h9) rfl (by decide +kernel) rfl rfl (Nat.le_of_ble_eq_true rfl) dX2_get_2 (fun H locs hP hD hS => ?_)
  have hP : va_P (dC, dI) vwCl [(mx, .inr (2, [.int 0, .int hf, .int us, .int col, .int mov, .ref aso, .ref ava, .ref ans, .ref anv, .ref ars, .ref arv, .int sty, .ref ast, .ref ago])), (aso, .inl (cI, 2100, .inl so)), (ava, .inl (cI, 2100, .inl va)), (ans, .inl (cI, 2100, .inl ns)), (anv, .inl (cI, 2100, .inl nv)), (ars, .inl (cI, 8, .inl rs)), (arv, .inl (cI, 8, .inl rv)), (ast, .inl (cI, 2100, .inl st)), (ago, .inl (cI, 2100, .inl go))] H := hP
  have hD : va_D A [(mx, .inr (2, [.int 0, .int hf, .int us, .int col, .int mov, .ref aso, .ref ava, .ref ans, .ref anv, .ref ars, .ref arv, .int sty, .ref ast, .ref ago])), (aso, .inl (cI, 2100, .inl so)), (ava, .inl (cI, 2100, .inl va)), (ans, .inl (cI, 2100, .inl ns)), (anv, .inl (cI, 2100, .inl nv)), (ars, .inl (cI, 8, .inl rs)), (arv, .inl (cI, 8, .inl rv)), (ast, .inl (cI, 2100, .inl st)), (ago, .inl (cI, 2100, .inl go))] := hD
  refine lv_iload_n hx hb dX2_get_5 rfl (lv_at hl 1 rfl) ?_
  refine vp_callSi (va_runS (As := [.int ip]) (rest := []) ⟨hx, hb, hml, hown, ht⟩ (ctX2_isRegister l ip) (cwS 1 ht gcX2_65 rfl rfl rfl (by decide +kernel) ⟨Nat.le_of_ble_eq_true rfl, Nat.le_of_ble_eq_true rfl⟩) ⟨pT.blind, pT.call⟩ rfl rfl hl.1 rfl (lv_room (Nat.le_of_ble_eq_true rfl)) dX2_get_6 ⟨Nat.le_of_ble_eq_true rfl, Nat.le_of_ble_eq_true rfl⟩).run (fun r_1 hr_1 => ?_)
  subst hr_1
  refine lv_if_eq (tgt := 19) hx hb dX2_get_9 (by decide) (fun c_2 => ?_) (fun c_2 => ?_)
  · refine lv_aload_n hx hb dX2_get_19 rfl (lv_at hl 0 rfl) ?_
    refine lv_iconst (v := 1) hx hb dX2_get_20 (by decide) ?_
    have hPc := hP.sub (ws' := [(mx, .inr (2, [.int 0, .int hf, .int us, .int col, .int mov, .ref aso, .ref ava, .ref ans, .ref anv, .ref ars, .ref arv, .int sty, .ref ast, .ref ago])), (aso, .inl (cI, 2100, .inl so)), (ava, .inl (cI, 2100, .inl va)), (ans, .inl (cI, 2100, .inl ns)), (anv, .inl (cI, 2100, .inl nv)), (ars, .inl (cI, 8, .inl rs)), (arv, .inl (cI, 8, .inl rv)), (ast, .inl (cI, 2100, .inl st)), (ago, .inl (cI, 2100, .inl go))]) [0, 1, 2, 3, 4, 5, 6, 7, 8] rfl
    have hKc := hK.sub (tys' := [(cI, .int)]) [0] rfl
    have hDc := hD.sub (ws' := [(mx, .inr (2, [.int 0, .int hf, .int us, .int col, .int mov, .ref aso, .ref ava, .ref ans, .ref anv, .ref ars, .ref arv, .int sty, .ref ast, .ref ago])), (aso, .inl (cI, 2100, .inl so)), (ava, .inl (cI, 2100, .inl va)), (ans, .inl (cI, 2100, .inl ns)), (anv, .inl (cI, 2100, .inl nv)), (ars, .inl (cI, 8, .inl rs)), (arv, .inl (cI, 8, .inl rv)), (ast, .inl (cI, 2100, .inl st)), (ago, .inl (cI, 2100, .inl go))]) [0, 1, 2, 3, 4, 5, 6, 7, 8] (by decide) rfl
    have hFc := va_free (wc := [(mx, .inr (2, [.int 0, .int hf, .int us, .int col, .int mov, .ref aso, .ref ava, .ref ans, .ref anv, .ref ars, .ref arv, .int sty, .ref ast, .ref ago])), (aso, .inl (cI, 2100, .inl so)), (ava, .inl (cI, 2100, .inl va)), (ans, .inl (cI, 2100, .inl ns)), (anv, .inl (cI, 2100, .inl nv)), (ars, .inl (cI, 8, .inl rs)), (arv, .inl (cI, 8, .inl rv)), (ast, .inl (cI, 2100, .inl st)), (ago, .inl (cI, 2100, .inl go))]) hD hS hA [0, 1, 2, 3, 4, 5, 6, 7, 8] rfl
    refine va_calli (va_runV (As := [.int 1]) (rest := []) ⟨hx, hb, hml, hown, ht⟩ (ctX2_fail l dC dI cI mx aso ava ans anv ars arv ast ago 0 hf us col mov sty so va ns nv rs rv st go 1 _ ) (cwV 1 ht gcX2_69 rfl rfl rfl (by decide +kernel) ⟨Nat.le_of_ble_eq_true rfl, Nat.le_of_ble_eq_true rfl⟩) ⟨pM.blind, va_recv hKc hPc (ci := 2) (q0 := 0) rfl rfl, pM.call hPc hKc hDc hE⟩ rfl rfl hl.1 rfl (lv_room (Nat.le_of_ble_eq_true rfl)) dX2_get_21 ⟨Nat.le_of_ble_eq_true rfl, Nat.le_of_ble_eq_true rfl⟩) hS (fun q _ h => hFc q h) hFc (fun r_4 u_3 t H1 locs ht9 hvm hw hB hz1 hk1 hS => ?_)
    obtain ⟨rfl, rfl⟩ : r_4 = 0 ∧ u_3 = (1, us, col, mov, so, va, ns, nv, rs, rv, sty, st, go) := ⟨(Prod.mk.inj hw).1, (Prod.mk.inj hw).2⟩
    obtain ⟨hP1, hK1, hD1⟩ := hB
    rw [ht9] at hP1
    obtain ⟨hP, hD⟩ := va_join (wr := []) (w1 := [(mx, .inr (2, [.int 1, .int hf, .int us, .int col, .int mov, .ref aso, .ref ava, .ref ans, .ref anv, .ref ars, .ref arv, .int sty, .ref ast, .ref ago])), (aso, .inl (cI, 2100, .inl so)), (ava, .inl (cI, 2100, .inl va)), (ans, .inl (cI, 2100, .inl ns)), (anv, .inl (cI, 2100, .inl nv)), (ars, .inl (cI, 8, .inl rs)), (arv, .inl (cI, 8, .inl rv)), (ast, .inl (cI, 2100, .inl st)), (ago, .inl (cI, 2100, .inl go))]) hP hD [0, 1, 2, 3, 4, 5, 6, 7, 8] [] rfl rfl (by decide) (by decide) hk1 hFc hP1 hD1
    generalize H1 = H at hP hS ⊢
    have hP := hP.sub (ws' := [(mx, .inr (2, [.int 1, .int hf, .int us, .int col, .int mov, .ref aso, .ref ava, .ref ans, .ref anv, .ref ars, .ref arv, .int sty, .ref ast, .ref ago])), (aso, .inl (cI, 2100, .inl so)), (ava, .inl (cI, 2100, .inl va)), (ans, .inl (cI, 2100, .inl ns)), (anv, .inl (cI, 2100, .inl nv)), (ars, .inl (cI, 8, .inl rs)), (arv, .inl (cI, 8, .inl rv)), (ast, .inl (cI, 2100, .inl st)), (ago, .inl (cI, 2100, .inl go))]) [0, 1, 2, 3, 4, 5, 6, 7, 8] rfl
    have hD := hD.sub (ws' := [(mx, .inr (2, [.int 1, .int hf, .int us, .int col, .int mov, .ref aso, .ref ava, .ref ans, .ref anv, .ref ars, .ref arv, .int sty, .ref ast, .ref ago])), (aso, .inl (cI, 2100, .inl so)), (ava, .inl (cI, 2100, .inl va)), (ans, .inl (cI, 2100, .inl ns)), (anv, .inl (cI, 2100, .inl nv)), (ars, .inl (cI, 8, .inl rs)), (arv, .inl (cI, 8, .inl rv)), (ast, .inl (cI, 2100, .inl st)), (ago, .inl (cI, 2100, .inl go))]) [0, 1, 2, 3, 4, 5, 6, 7, 8] (by decide) rfl
    refine lv_if_le (tgt := 31) hx hb dX2_get_24 (by decide) (fun _ => ?_) (fun h => absurd (by decide) h)
    refine lv_iconst (v := 0) hx hb dX2_get_31 (by decide) ?_
    have hP9 := hP.sub (ws' := [(mx, .inr (2, [.int 1, .int hf, .int us, .int col, .int mov, .ref aso, .ref ava, .ref ans, .ref anv, .ref ars, .ref arv, .int sty, .ref ast, .ref ago])), (aso, .inl (cI, 2100, .inl so)), (ava, .inl (cI, 2100, .inl va)), (ans, .inl (cI, 2100, .inl ns)), (anv, .inl (cI, 2100, .inl nv)), (ars, .inl (cI, 8, .inl rs)), (arv, .inl (cI, 8, .inl rv)), (ast, .inl (cI, 2100, .inl st)), (ago, .inl (cI, 2100, .inl go))]) [0, 1, 2, 3, 4, 5, 6, 7, 8] rfl
    have hD9 := hD.sub (ws' := [(mx, .inr (2, [.int 1, .int hf, .int us, .int col, .int mov, .ref aso, .ref ava, .ref ans, .ref anv, .ref ars, .ref arv, .int sty, .ref ast, .ref ago])), (aso, .inl (cI, 2100, .inl so)), (ava, .inl (cI, 2100, .inl va)), (ans, .inl (cI, 2100, .inl ns)), (anv, .inl (cI, 2100, .inl nv)), (ars, .inl (cI, 8, .inl rs)), (arv, .inl (cI, 8, .inl rv)), (ast, .inl (cI, 2100, .inl st)), (ago, .inl (cI, 2100, .inl go))]) [0, 1, 2, 3, 4, 5, 6, 7, 8] (by decide) rfl
    have hK9 := hK.sub (tys' := [(cI, .int)]) [0] rfl
    exact W.zret (v := 0) hx hb hr (by decide) (fun t ht hW => ⟨⟨_, (1, us, col, mov, so, va, ns, nv, rs, rv, sty, st, go), rfl, (by simp only [fX2_get, if_pos c_2]), by rw [ht]; exact hP9, va_K.moved hW.alike hK9, hD9⟩, hS.F ht⟩) hS.2.2 dX2_get_32
  · refine lv_iload_n hx hb dX2_get_12 rfl (lv_at hl 2 rfl) ?_
    refine vp_callSi (va_runS (As := [.int iq]) (rest := []) ⟨hx, hb, hml, hown, ht⟩ (ctX2_isRegister l iq) (cwS 1 ht gcX2_65 rfl rfl rfl (by decide +kernel) ⟨Nat.le_of_ble_eq_true rfl, Nat.le_of_ble_eq_true rfl⟩) ⟨pT.blind, pT.call⟩ rfl rfl hl.1 rfl (lv_room (Nat.le_of_ble_eq_true rfl)) dX2_get_13 ⟨Nat.le_of_ble_eq_true rfl, Nat.le_of_ble_eq_true rfl⟩).run (fun r_5 hr_5 => ?_)
    subst hr_5
    refine lv_if_ne (tgt := 33) hx hb dX2_get_16 (by decide) (fun c_6 => ?_) (fun c_6 => ?_)
    · refine lv_aload_n hx hb dX2_get_33 rfl (lv_at hl 0 rfl) ?_
      refine va_get (D := (dC, dI)) (ci := 2) (v := .ref ars) (C := RX2) (T := TX2) (N := 14) hx hb ht iX2 hown hK hP 0 rfl rfl 9 (by decide) (ht _ g_335) (fun _ h9 => h9) rfl dX2_get_34 ?_
      refine lv_iload_n hx hb dX2_get_37 rfl (lv_at hl 2 rfl) ?_
      refine va_iald hx hb hK hP 5 0 rfl rfl (isReg c_6) dX2_get_38 ?_
      refine lv_iconst (v := 2) hx hb dX2_get_39 (by decide) ?_
      refine lv_icmp_eq (tgt := 57) hx hb dX2_get_40 (by decide) (fun c_7 => ?_) (fun c_7 => ?_)
      · refine lv_aload_n hx hb dX2_get_57 rfl (lv_at hl 0 rfl) ?_
        refine lv_iload_n hx hb dX2_get_58 rfl (lv_at hl 2 rfl) ?_
        refine lv_iload_n hx hb dX2_get_59 rfl (lv_at hl 3 rfl) ?_
        have hPc := hP.sub (ws' := [(mx, .inr (2, [.int 0, .int hf, .int us, .int col, .int mov, .ref aso, .ref ava, .ref ans, .ref anv, .ref ars, .ref arv, .int sty, .ref ast, .ref ago])), (aso, .inl (cI, 2100, .inl so)), (ava, .inl (cI, 2100, .inl va)), (ans, .inl (cI, 2100, .inl ns)), (anv, .inl (cI, 2100, .inl nv)), (ars, .inl (cI, 8, .inl rs)), (arv, .inl (cI, 8, .inl rv)), (ast, .inl (cI, 2100, .inl st)), (ago, .inl (cI, 2100, .inl go))]) [0, 1, 2, 3, 4, 5, 6, 7, 8] rfl
        have hKc := hK.sub (tys' := [(cI, .int)]) [0] rfl
        refine vp_callSi (va_runV (As := [.int iq, .int ir]) (rest := []) ⟨hx, hb, hml, hown, ht⟩ (ctX2_hasField l dC dI cI mx aso ava ans anv ars arv ast ago 0 hf us col mov sty so va ns nv rs rv st go iq ir (isReg c_6) (hrv _ (isReg c_6) c_7)) (cwV 2 ht gcX2_78 rfl rfl rfl (by decide +kernel) ⟨Nat.le_of_ble_eq_true rfl, Nat.le_of_ble_eq_true rfl⟩) ⟨pS.blind, va_recv hKc hPc (ci := 2) (q0 := 0) rfl rfl, pS.call hPc hKc hE⟩ rfl rfl hl.1 rfl (lv_room (Nat.le_of_ble_eq_true rfl)) dX2_get_60 ⟨Nat.le_of_ble_eq_true rfl, Nat.le_of_ble_eq_true rfl⟩).run (fun r_8 hr_8 => ?_)
        subst hr_8
        refine lv_if_ne (tgt := 80) hx hb dX2_get_63 (by decide) (fun c_9 => ?_) (fun c_9 => ?_)
        · refine lv_aload_n hx hb dX2_get_80 rfl (lv_at hl 0 rfl) ?_
          refine va_get (D := (dC, dI)) (ci := 2) (v := .ref arv) (C := RX2) (T := TX2) (N := 14) hx hb ht iX2 hown hK hP 0 rfl rfl 10 (by decide) (ht _ g_336) (fun _ h9 => h9) rfl dX2_get_81 ?_
          refine lv_iload_n hx hb dX2_get_84 rfl (lv_at hl 2 rfl) ?_
          refine va_iald hx hb hK hP 6 0 rfl rfl (isReg c_6) dX2_get_85 ?_
          refine lv_iconst (v := 1) hx hb dX2_get_86 (by decide) ?_
          refine lv_iadd hx hb dX2_get_87 ?_
          refine lv_iload_n hx hb dX2_get_88 rfl (lv_at hl 3 rfl) ?_
          refine lv_iadd hx hb dX2_get_89 ?_
          refine lv_istore (lv' := [(4, .int (((rv iq.toNatClampNeg) + 1) + ir)), (0, .ref mx), (1, .int ip), (2, .int iq), (3, .int ir)]) hx hb dX2_get_90 hl (by decide) rfl (fun ls hl => ?_)
          refine lv_aload_n hx hb dX2_get_92 rfl (lv_at hl 1 rfl) ?_
          refine va_get (D := (dC, dI)) (ci := 2) (v := .ref aso) (C := RX2) (T := TX2) (N := 14) hx hb ht iX2 hown hK hP 0 rfl rfl 5 (by decide) (ht _ g_331) (fun _ h9 => h9) rfl dX2_get_93 ?_
          refine lv_iload hx hb dX2_get_96 (lv_at hl 0 rfl) ?_
          refine va_iald hx hb hK hP 1 0 rfl rfl (hrf _ _ (isReg c_6) c_7 c_9) dX2_get_98 ?_
          refine lv_iconst (v := 3) hx hb dX2_get_99 (by decide) ?_
          refine lv_icmp_ne (tgt := 107) hx hb dX2_get_100 (by decide) (fun c_10 => ?_) (fun c_10 => ?_)
          · refine lv_iconst (v := 0) hx hb dX2_get_107 (by decide) ?_
            refine lv_istore (lv' := [(5, .int 0), (4, .int (((rv iq.toNatClampNeg) + 1) + ir)), (0, .ref mx), (1, .int ip), (2, .int iq), (3, .int ir)]) hx hb dX2_get_108 hl (by decide) rfl (fun ls hl => ?_)
            refine lv_aload_n hx hb dX2_get_110 rfl (lv_at hl 2 rfl) ?_
            refine va_get (D := (dC, dI)) (ci := 2) (v := .ref ava) (C := RX2) (T := TX2) (N := 14) hx hb ht iX2 hown hK hP 0 rfl rfl 6 (by decide) (ht _ g_332) (fun _ h9 => h9) rfl dX2_get_111 ?_
            refine lv_iload hx hb dX2_get_114 (lv_at hl 1 rfl) ?_
            refine va_iald hx hb hK hP 2 0 rfl rfl (hrf _ _ (isReg c_6) c_7 c_9) dX2_get_116 ?_
            refine lv_istore (lv' := [(6, .int (va (((rv iq.toNatClampNeg) + 1) + ir).toNatClampNeg)), (5, .int 0), (4, .int (((rv iq.toNatClampNeg) + 1) + ir)), (0, .ref mx), (1, .int ip), (2, .int iq), (3, .int ir)]) hx hb dX2_get_117 hl (by decide) rfl (fun ls hl => ?_)
            refine lv_aload_n hx hb dX2_get_119 rfl (lv_at hl 3 rfl) ?_
            refine va_get (D := (dC, dI)) (ci := 2) (v := .ref ars) (C := RX2) (T := TX2) (N := 14) hx hb ht iX2 hown hK hP 0 rfl rfl 9 (by decide) (ht _ g_335) (fun _ h9 => h9) rfl dX2_get_120 ?_
            refine lv_iload_n hx hb dX2_get_123 rfl (lv_at hl 4 rfl) ?_
            refine lv_iload hx hb dX2_get_124 (lv_at hl 1 rfl) ?_
            refine lv_if_eq (tgt := 133) hx hb dX2_get_126 (by decide) (fun _ => ?_) (fun h => absurd (by decide) h)
            refine lv_aload_n hx hb dX2_get_133 rfl (lv_at hl 3 rfl) ?_
            refine va_get (D := (dC, dI)) (ci := 2) (v := .ref aso) (C := RX2) (T := TX2) (N := 14) hx hb ht iX2 hown hK hP 0 rfl rfl 5 (by decide) (ht _ g_331) (fun _ h9 => h9) rfl dX2_get_134 ?_
            refine lv_iload hx hb dX2_get_137 (lv_at hl 2 rfl) ?_
            refine va_iald hx hb hK hP 1 0 rfl rfl (hrf _ _ (isReg c_6) c_7 c_9) dX2_get_139 ?_
            refine va_iast hx hb hK hP hD hS 5 0 rfl rfl (isReg c_2) dX2_get_140 (fun H locs hP hD hS => ?_)
            have hP : va_P (dC, dI) vwCl [(mx, .inr (2, [.int 0, .int hf, .int us, .int col, .int mov, .ref aso, .ref ava, .ref ans, .ref anv, .ref ars, .ref arv, .int sty, .ref ast, .ref ago])), (aso, .inl (cI, 2100, .inl so)), (ava, .inl (cI, 2100, .inl va)), (ans, .inl (cI, 2100, .inl ns)), (anv, .inl (cI, 2100, .inl nv)), (ars, .inl (cI, 8, .inl (upd rs ip.toNatClampNeg (so (((rv iq.toNatClampNeg) + 1) + ir).toNatClampNeg)))), (arv, .inl (cI, 8, .inl rv)), (ast, .inl (cI, 2100, .inl st)), (ago, .inl (cI, 2100, .inl go))] H := hP
            have hD : va_D A [(mx, .inr (2, [.int 0, .int hf, .int us, .int col, .int mov, .ref aso, .ref ava, .ref ans, .ref anv, .ref ars, .ref arv, .int sty, .ref ast, .ref ago])), (aso, .inl (cI, 2100, .inl so)), (ava, .inl (cI, 2100, .inl va)), (ans, .inl (cI, 2100, .inl ns)), (anv, .inl (cI, 2100, .inl nv)), (ars, .inl (cI, 8, .inl (upd rs ip.toNatClampNeg (so (((rv iq.toNatClampNeg) + 1) + ir).toNatClampNeg)))), (arv, .inl (cI, 8, .inl rv)), (ast, .inl (cI, 2100, .inl st)), (ago, .inl (cI, 2100, .inl go))] := hD
            refine lv_aload_n hx hb dX2_get_141 rfl (lv_at hl 3 rfl) ?_
            refine va_get (D := (dC, dI)) (ci := 2) (v := .ref arv) (C := RX2) (T := TX2) (N := 14) hx hb ht iX2 hown hK hP 0 rfl rfl 10 (by decide) (ht _ g_336) (fun _ h9 => h9) rfl dX2_get_142 ?_
            refine lv_iload_n hx hb dX2_get_145 rfl (lv_at hl 4 rfl) ?_
            refine lv_iload hx hb dX2_get_146 (lv_at hl 1 rfl) ?_
            refine lv_if_eq (tgt := 159) hx hb dX2_get_148 (by decide) (fun _ => ?_) (fun h => absurd (by decide) h)
            refine lv_iload hx hb dX2_get_159 (lv_at hl 0 rfl) ?_
            refine va_iast hx hb hK hP hD hS 6 0 rfl rfl (isReg c_2) dX2_get_161 (fun H locs hP hD hS => ?_)
            have hP : va_P (dC, dI) vwCl [(mx, .inr (2, [.int 0, .int hf, .int us, .int col, .int mov, .ref aso, .ref ava, .ref ans, .ref anv, .ref ars, .ref arv, .int sty, .ref ast, .ref ago])), (aso, .inl (cI, 2100, .inl so)), (ava, .inl (cI, 2100, .inl va)), (ans, .inl (cI, 2100, .inl ns)), (anv, .inl (cI, 2100, .inl nv)), (ars, .inl (cI, 8, .inl (upd rs ip.toNatClampNeg (so (((rv iq.toNatClampNeg) + 1) + ir).toNatClampNeg)))), (arv, .inl (cI, 8, .inl (upd rv ip.toNatClampNeg (va (((rv iq.toNatClampNeg) + 1) + ir).toNatClampNeg)))), (ast, .inl (cI, 2100, .inl st)), (ago, .inl (cI, 2100, .inl go))] H := hP
            have hD : va_D A [(mx, .inr (2, [.int 0, .int hf, .int us, .int col, .int mov, .ref aso, .ref ava, .ref ans, .ref anv, .ref ars, .ref arv, .int sty, .ref ast, .ref ago])), (aso, .inl (cI, 2100, .inl so)), (ava, .inl (cI, 2100, .inl va)), (ans, .inl (cI, 2100, .inl ns)), (anv, .inl (cI, 2100, .inl nv)), (ars, .inl (cI, 8, .inl (upd rs ip.toNatClampNeg (so (((rv iq.toNatClampNeg) + 1) + ir).toNatClampNeg)))), (arv, .inl (cI, 8, .inl (upd rv ip.toNatClampNeg (va (((rv iq.toNatClampNeg) + 1) + ir).toNatClampNeg)))), (ast, .inl (cI, 2100, .inl st)), (ago, .inl (cI, 2100, .inl go))] := hD
            refine lv_aload_n hx hb dX2_get_162 rfl (lv_at hl 3 rfl) ?_
            refine va_get (D := (dC, dI)) (ci := 2) (v := .ref ars) (C := RX2) (T := TX2) (N := 14) hx hb ht iX2 hown hK hP 0 rfl rfl 9 (by decide) (ht _ g_335) (fun _ h9 => h9) rfl dX2_get_163 ?_
            refine lv_iload_n hx hb dX2_get_166 rfl (lv_at hl 4 rfl) ?_
            refine va_iald hx hb hK hP 5 0 rfl rfl (isReg c_2) dX2_get_167 ?_
            refine lv_iconst (v := 2) hx hb dX2_get_168 (by decide) ?_
            refine lv_icmp_ne (tgt := 176) hx hb dX2_get_169 (by decide) (fun c_11 => ?_) (fun c_11 => ?_)
            · refine lv_iconst (v := 0) hx hb dX2_get_176 (by decide) ?_
              have hP9 := hP.sub (ws' := [(mx, .inr (2, [.int 0, .int hf, .int us, .int col, .int mov, .ref aso, .ref ava, .ref ans, .ref anv, .ref ars, .ref arv, .int sty, .ref ast, .ref ago])), (aso, .inl (cI, 2100, .inl so)), (ava, .inl (cI, 2100, .inl va)), (ans, .inl (cI, 2100, .inl ns)), (anv, .inl (cI, 2100, .inl nv)), (ars, .inl (cI, 8, .inl (upd rs ip.toNatClampNeg (so (((rv iq.toNatClampNeg) + 1) + ir).toNatClampNeg)))), (arv, .inl (cI, 8, .inl (upd rv ip.toNatClampNeg (va (((rv iq.toNatClampNeg) + 1) + ir).toNatClampNeg)))), (ast, .inl (cI, 2100, .inl st)), (ago, .inl (cI, 2100, .inl go))]) [0, 1, 2, 3, 4, 5, 6, 7, 8] rfl
              have hD9 := hD.sub (ws' := [(mx, .inr (2, [.int 0, .int hf, .int us, .int col, .int mov, .ref aso, .ref ava, .ref ans, .ref anv, .ref ars, .ref arv, .int sty, .ref ast, .ref ago])), (aso, .inl (cI, 2100, .inl so)), (ava, .inl (cI, 2100, .inl va)), (ans, .inl (cI, 2100, .inl ns)), (anv, .inl (cI, 2100, .inl nv)), (ars, .inl (cI, 8, .inl (upd rs ip.toNatClampNeg (so (((rv iq.toNatClampNeg) + 1) + ir).toNatClampNeg)))), (arv, .inl (cI, 8, .inl (upd rv ip.toNatClampNeg (va (((rv iq.toNatClampNeg) + 1) + ir).toNatClampNeg)))), (ast, .inl (cI, 2100, .inl st)), (ago, .inl (cI, 2100, .inl go))]) [0, 1, 2, 3, 4, 5, 6, 7, 8] (by decide) rfl
              have hK9 := hK.sub (tys' := [(cI, .int)]) [0] rfl
              exact W.zret (v := 0) hx hb hr (by decide) (fun t ht hW => ⟨⟨_, (0, us, col, mov, so, va, ns, nv, upd rs ip.toNatClampNeg (so (((rv iq.toNatClampNeg) + 1) + ir).toNatClampNeg), upd rv ip.toNatClampNeg (va (((rv iq.toNatClampNeg) + 1) + ir).toNatClampNeg), sty, st, go), rfl, (by simp only [fX2_get, if_neg c_2, if_neg c_6, if_pos c_7, if_neg c_9, if_neg c_10, if_neg c_11]), by rw [ht]; exact hP9, va_K.moved hW.alike hK9, hD9⟩, hS.F ht⟩) hS.2.2 dX2_get_177
            · refine lv_iconst (v := 1) hx hb dX2_get_172 (by decide) ?_
              refine lv_goto (tgt := 177) hx hb dX2_get_173 (by decide) ?_
              have hP9 := hP.sub (ws' := [(mx, .inr (2, [.int 0, .int hf, .int us, .int col, .int mov, .ref aso, .ref ava, .ref ans, .ref anv, .ref ars, .ref arv, .int sty, .ref ast, .ref ago])), (aso, .inl (cI, 2100, .inl so)), (ava, .inl (cI, 2100, .inl va)), (ans, .inl (cI, 2100, .inl ns)), (anv, .inl (cI, 2100, .inl nv)), (ars, .inl (cI, 8, .inl (upd rs ip.toNatClampNeg (so (((rv iq.toNatClampNeg) + 1) + ir).toNatClampNeg)))), (arv, .inl (cI, 8, .inl (upd rv ip.toNatClampNeg (va (((rv iq.toNatClampNeg) + 1) + ir).toNatClampNeg)))), (ast, .inl (cI, 2100, .inl st)), (ago, .inl (cI, 2100, .inl go))]) [0, 1, 2, 3, 4, 5, 6, 7, 8] rfl
              have hD9 := hD.sub (ws' := [(mx, .inr (2, [.int 0, .int hf, .int us, .int col, .int mov, .ref aso, .ref ava, .ref ans, .ref anv, .ref ars, .ref arv, .int sty, .ref ast, .ref ago])), (aso, .inl (cI, 2100, .inl so)), (ava, .inl (cI, 2100, .inl va)), (ans, .inl (cI, 2100, .inl ns)), (anv, .inl (cI, 2100, .inl nv)), (ars, .inl (cI, 8, .inl (upd rs ip.toNatClampNeg (so (((rv iq.toNatClampNeg) + 1) + ir).toNatClampNeg)))), (arv, .inl (cI, 8, .inl (upd rv ip.toNatClampNeg (va (((rv iq.toNatClampNeg) + 1) + ir).toNatClampNeg)))), (ast, .inl (cI, 2100, .inl st)), (ago, .inl (cI, 2100, .inl go))]) [0, 1, 2, 3, 4, 5, 6, 7, 8] (by decide) rfl
              have hK9 := hK.sub (tys' := [(cI, .int)]) [0] rfl
              exact W.zret (v := 1) hx hb hr (by decide) (fun t ht hW => ⟨⟨_, (0, us, col, mov, so, va, ns, nv, upd rs ip.toNatClampNeg (so (((rv iq.toNatClampNeg) + 1) + ir).toNatClampNeg), upd rv ip.toNatClampNeg (va (((rv iq.toNatClampNeg) + 1) + ir).toNatClampNeg), sty, st, go), rfl, (by simp only [fX2_get, if_neg c_2, if_neg c_6, if_pos c_7, if_neg c_9, if_neg c_10, if_pos c_11]), by rw [ht]; exact hP9, va_K.moved hW.alike hK9, hD9⟩, hS.F ht⟩) hS.2.2 dX2_get_177
          · refine lv_iconst (v := 1) hx hb dX2_get_103 (by decide) ?_
            refine lv_goto (tgt := 108) hx hb dX2_get_104 (by decide) ?_
            refine lv_istore (lv' := [(5, .int 1), (4, .int (((rv iq.toNatClampNeg) + 1) + ir)), (0, .ref mx), (1, .int ip), (2, .int iq), (3, .int ir)]) hx hb dX2_get_108 hl (by decide) rfl (fun ls hl => ?_)
            refine lv_aload_n hx hb dX2_get_110 rfl (lv_at hl 2 rfl) ?_
            refine va_get (D := (dC, dI)) (ci := 2) (v := .ref ava) (C := RX2) (T := TX2) (N := 14) hx hb ht iX2 hown hK hP 0 rfl rfl 6 (by decide) (ht _ g_332) (fun _ h9 => h9) rfl dX2_get_111 ?_
            refine lv_iload hx hb dX2_get_114 (lv_at hl 1 rfl) ?_
            refine va_iald hx hb hK hP 2 0 rfl rfl (hrf _ _ (isReg c_6) c_7 c_9) dX2_get_116 ?_
            refine lv_istore (lv' := [(6, .int (va (((rv iq.toNatClampNeg) + 1) + ir).toNatClampNeg)), (5, .int 1), (4, .int (((rv iq.toNatClampNeg) + 1) + ir)), (0, .ref mx), (1, .int ip), (2, .int iq), (3, .int ir)]) hx hb dX2_get_117 hl (by decide) rfl (fun ls hl => ?_)
            refine lv_aload_n hx hb dX2_get_119 rfl (lv_at hl 3 rfl) ?_
            refine va_get (D := (dC, dI)) (ci := 2) (v := .ref ars) (C := RX2) (T := TX2) (N := 14) hx hb ht iX2 hown hK hP 0 rfl rfl 9 (by decide) (ht _ g_335) (fun _ h9 => h9) rfl dX2_get_120 ?_
            refine lv_iload_n hx hb dX2_get_123 rfl (lv_at hl 4 rfl) ?_
            refine lv_iload hx hb dX2_get_124 (lv_at hl 1 rfl) ?_
            refine lv_if_eq (tgt := 133) hx hb dX2_get_126 (by decide) (fun h => absurd h (by decide)) (fun _ => ?_)
            refine lv_iconst (v := 1) hx hb dX2_get_129 (by decide) ?_
            refine lv_goto (tgt := 140) hx hb dX2_get_130 (by decide) ?_
            refine va_iast hx hb hK hP hD hS 5 0 rfl rfl (isReg c_2) dX2_get_140 (fun H locs hP hD hS => ?_)
            have hP : va_P (dC, dI) vwCl [(mx, .inr (2, [.int 0, .int hf, .int us, .int col, .int mov, .ref aso, .ref ava, .ref ans, .ref anv, .ref ars, .ref arv, .int sty, .ref ast, .ref ago])), (aso, .inl (cI, 2100, .inl so)), (ava, .inl (cI, 2100, .inl va)), (ans, .inl (cI, 2100, .inl ns)), (anv, .inl (cI, 2100, .inl nv)), (ars, .inl (cI, 8, .inl (upd rs ip.toNatClampNeg 1))), (arv, .inl (cI, 8, .inl rv)), (ast, .inl (cI, 2100, .inl st)), (ago, .inl (cI, 2100, .inl go))] H := hP
            have hD : va_D A [(mx, .inr (2, [.int 0, .int hf, .int us, .int col, .int mov, .ref aso, .ref ava, .ref ans, .ref anv, .ref ars, .ref arv, .int sty, .ref ast, .ref ago])), (aso, .inl (cI, 2100, .inl so)), (ava, .inl (cI, 2100, .inl va)), (ans, .inl (cI, 2100, .inl ns)), (anv, .inl (cI, 2100, .inl nv)), (ars, .inl (cI, 8, .inl (upd rs ip.toNatClampNeg 1))), (arv, .inl (cI, 8, .inl rv)), (ast, .inl (cI, 2100, .inl st)), (ago, .inl (cI, 2100, .inl go))] := hD
            refine lv_aload_n hx hb dX2_get_141 rfl (lv_at hl 3 rfl) ?_
            refine va_get (D := (dC, dI)) (ci := 2) (v := .ref arv) (C := RX2) (T := TX2) (N := 14) hx hb ht iX2 hown hK hP 0 rfl rfl 10 (by decide) (ht _ g_336) (fun _ h9 => h9) rfl dX2_get_142 ?_
            refine lv_iload_n hx hb dX2_get_145 rfl (lv_at hl 4 rfl) ?_
            refine lv_iload hx hb dX2_get_146 (lv_at hl 1 rfl) ?_
            refine lv_if_eq (tgt := 159) hx hb dX2_get_148 (by decide) (fun h => absurd h (by decide)) (fun _ => ?_)
            refine lv_iload hx hb dX2_get_151 (lv_at hl 0 rfl) ?_
            refine vp_callSi (va_runS (As := [.int (va (((rv iq.toNatClampNeg) + 1) + ir).toNatClampNeg)]) (rest := [.int ip, .ref arv]) ⟨hx, hb, hml, hown, ht⟩ (ctX2_kept l (va (((rv iq.toNatClampNeg) + 1) + ir).toNatClampNeg)) (cwS 1 ht gcX2_72 rfl rfl rfl (by decide +kernel) ⟨Nat.le_of_ble_eq_true rfl, Nat.le_of_ble_eq_true rfl⟩) ⟨pT.blind, pT.call⟩ rfl rfl hl.1 rfl (lv_room (Nat.le_of_ble_eq_true rfl)) dX2_get_153 ⟨Nat.le_of_ble_eq_true rfl, Nat.le_of_ble_eq_true rfl⟩).run (fun r_12 hr_12 => ?_)
            subst hr_12
            refine lv_goto (tgt := 161) hx hb dX2_get_156 (by decide) ?_
            refine va_iast hx hb hK hP hD hS 6 0 rfl rfl (isReg c_2) dX2_get_161 (fun H locs hP hD hS => ?_)
            have hP : va_P (dC, dI) vwCl [(mx, .inr (2, [.int 0, .int hf, .int us, .int col, .int mov, .ref aso, .ref ava, .ref ans, .ref anv, .ref ars, .ref arv, .int sty, .ref ast, .ref ago])), (aso, .inl (cI, 2100, .inl so)), (ava, .inl (cI, 2100, .inl va)), (ans, .inl (cI, 2100, .inl ns)), (anv, .inl (cI, 2100, .inl nv)), (ars, .inl (cI, 8, .inl (upd rs ip.toNatClampNeg 1))), (arv, .inl (cI, 8, .inl (upd rv ip.toNatClampNeg (fX2_kept (va (((rv iq.toNatClampNeg) + 1) + ir).toNatClampNeg))))), (ast, .inl (cI, 2100, .inl st)), (ago, .inl (cI, 2100, .inl go))] H := hP
            have hD : va_D A [(mx, .inr (2, [.int 0, .int hf, .int us, .int col, .int mov, .ref aso, .ref ava, .ref ans, .ref anv, .ref ars, .ref arv, .int sty, .ref ast, .ref ago])), (aso, .inl (cI, 2100, .inl so)), (ava, .inl (cI, 2100, .inl va)), (ans, .inl (cI, 2100, .inl ns)), (anv, .inl (cI, 2100, .inl nv)), (ars, .inl (cI, 8, .inl (upd rs ip.toNatClampNeg 1))), (arv, .inl (cI, 8, .inl (upd rv ip.toNatClampNeg (fX2_kept (va (((rv iq.toNatClampNeg) + 1) + ir).toNatClampNeg))))), (ast, .inl (cI, 2100, .inl st)), (ago, .inl (cI, 2100, .inl go))] := hD
            refine lv_aload_n hx hb dX2_get_162 rfl (lv_at hl 3 rfl) ?_
            refine va_get (D := (dC, dI)) (ci := 2) (v := .ref ars) (C := RX2) (T := TX2) (N := 14) hx hb ht iX2 hown hK hP 0 rfl rfl 9 (by decide) (ht _ g_335) (fun _ h9 => h9) rfl dX2_get_163 ?_
            refine lv_iload_n hx hb dX2_get_166 rfl (lv_at hl 4 rfl) ?_
            refine va_iald hx hb hK hP 5 0 rfl rfl (isReg c_2) dX2_get_167 ?_
            refine lv_iconst (v := 2) hx hb dX2_get_168 (by decide) ?_
            refine lv_icmp_ne (tgt := 176) hx hb dX2_get_169 (by decide) (fun c_13 => ?_) (fun c_13 => ?_)
            · refine lv_iconst (v := 0) hx hb dX2_get_176 (by decide) ?_
              have hP9 := hP.sub (ws' := [(mx, .inr (2, [.int 0, .int hf, .int us, .int col, .int mov, .ref aso, .ref ava, .ref ans, .ref anv, .ref ars, .ref arv, .int sty, .ref ast, .ref ago])), (aso, .inl (cI, 2100, .inl so)), (ava, .inl (cI, 2100, .inl va)), (ans, .inl (cI, 2100, .inl ns)), (anv, .inl (cI, 2100, .inl nv)), (ars, .inl (cI, 8, .inl (upd rs ip.toNatClampNeg 1))), (arv, .inl (cI, 8, .inl (upd rv ip.toNatClampNeg (fX2_kept (va (((rv iq.toNatClampNeg) + 1) + ir).toNatClampNeg))))), (ast, .inl (cI, 2100, .inl st)), (ago, .inl (cI, 2100, .inl go))]) [0, 1, 2, 3, 4, 5, 6, 7, 8] rfl
              have hD9 := hD.sub (ws' := [(mx, .inr (2, [.int 0, .int hf, .int us, .int col, .int mov, .ref aso, .ref ava, .ref ans, .ref anv, .ref ars, .ref arv, .int sty, .ref ast, .ref ago])), (aso, .inl (cI, 2100, .inl so)), (ava, .inl (cI, 2100, .inl va)), (ans, .inl (cI, 2100, .inl ns)), (anv, .inl (cI, 2100, .inl nv)), (ars, .inl (cI, 8, .inl (upd rs ip.toNatClampNeg 1))), (arv, .inl (cI, 8, .inl (upd rv ip.toNatClampNeg (fX2_kept (va (((rv iq.toNatClampNeg) + 1) + ir).toNatClampNeg))))), (ast, .inl (cI, 2100, .inl st)), (ago, .inl (cI, 2100, .inl go))]) [0, 1, 2, 3, 4, 5, 6, 7, 8] (by decide) rfl
              have hK9 := hK.sub (tys' := [(cI, .int)]) [0] rfl
              exact W.zret (v := 0) hx hb hr (by decide) (fun t ht hW => ⟨⟨_, (0, us, col, mov, so, va, ns, nv, upd rs ip.toNatClampNeg 1, upd rv ip.toNatClampNeg (fX2_kept (va (((rv iq.toNatClampNeg) + 1) + ir).toNatClampNeg)), sty, st, go), rfl, (by simp only [fX2_get, if_neg c_2, if_neg c_6, if_pos c_7, if_neg c_9, if_pos c_10, if_neg c_13]), by rw [ht]; exact hP9, va_K.moved hW.alike hK9, hD9⟩, hS.F ht⟩) hS.2.2 dX2_get_177
            · refine lv_iconst (v := 1) hx hb dX2_get_172 (by decide) ?_
              refine lv_goto (tgt := 177) hx hb dX2_get_173 (by decide) ?_
              have hP9 := hP.sub (ws' := [(mx, .inr (2, [.int 0, .int hf, .int us, .int col, .int mov, .ref aso, .ref ava, .ref ans, .ref anv, .ref ars, .ref arv, .int sty, .ref ast, .ref ago])), (aso, .inl (cI, 2100, .inl so)), (ava, .inl (cI, 2100, .inl va)), (ans, .inl (cI, 2100, .inl ns)), (anv, .inl (cI, 2100, .inl nv)), (ars, .inl (cI, 8, .inl (upd rs ip.toNatClampNeg 1))), (arv, .inl (cI, 8, .inl (upd rv ip.toNatClampNeg (fX2_kept (va (((rv iq.toNatClampNeg) + 1) + ir).toNatClampNeg))))), (ast, .inl (cI, 2100, .inl st)), (ago, .inl (cI, 2100, .inl go))]) [0, 1, 2, 3, 4, 5, 6, 7, 8] rfl
              have hD9 := hD.sub (ws' := [(mx, .inr (2, [.int 0, .int hf, .int us, .int col, .int mov, .ref aso, .ref ava, .ref ans, .ref anv, .ref ars, .ref arv, .int sty, .ref ast, .ref ago])), (aso, .inl (cI, 2100, .inl so)), (ava, .inl (cI, 2100, .inl va)), (ans, .inl (cI, 2100, .inl ns)), (anv, .inl (cI, 2100, .inl nv)), (ars, .inl (cI, 8, .inl (upd rs ip.toNatClampNeg 1))), (arv, .inl (cI, 8, .inl (upd rv ip.toNatClampNeg (fX2_kept (va (((rv iq.toNatClampNeg) + 1) + ir).toNatClampNeg))))), (ast, .inl (cI, 2100, .inl st)), (ago, .inl (cI, 2100, .inl go))]) [0, 1, 2, 3, 4, 5, 6, 7, 8] (by decide) rfl
              have hK9 := hK.sub (tys' := [(cI, .int)]) [0] rfl
              exact W.zret (v := 1) hx hb hr (by decide) (fun t ht hW => ⟨⟨_, (0, us, col, mov, so, va, ns, nv, upd rs ip.toNatClampNeg 1, upd rv ip.toNatClampNeg (fX2_kept (va (((rv iq.toNatClampNeg) + 1) + ir).toNatClampNeg)), sty, st, go), rfl, (by simp only [fX2_get, if_neg c_2, if_neg c_6, if_pos c_7, if_neg c_9, if_pos c_10, if_pos c_13]), by rw [ht]; exact hP9, va_K.moved hW.alike hK9, hD9⟩, hS.F ht⟩) hS.2.2 dX2_get_177
        · refine lv_aload_n hx hb dX2_get_66 rfl (lv_at hl 0 rfl) ?_
          refine lv_iconst (v := 3) hx hb dX2_get_67 (by decide) ?_
          have hPc := hP.sub (ws' := [(mx, .inr (2, [.int 0, .int hf, .int us, .int col, .int mov, .ref aso, .ref ava, .ref ans, .ref anv, .ref ars, .ref arv, .int sty, .ref ast, .ref ago])), (aso, .inl (cI, 2100, .inl so)), (ava, .inl (cI, 2100, .inl va)), (ans, .inl (cI, 2100, .inl ns)), (anv, .inl (cI, 2100, .inl nv)), (ars, .inl (cI, 8, .inl rs)), (arv, .inl (cI, 8, .inl rv)), (ast, .inl (cI, 2100, .inl st)), (ago, .inl (cI, 2100, .inl go))]) [0, 1, 2, 3, 4, 5, 6, 7, 8] rfl
          have hKc := hK.sub (tys' := [(cI, .int)]) [0] rfl
          have hDc := hD.sub (ws' := [(mx, .inr (2, [.int 0, .int hf, .int us, .int col, .int mov, .ref aso, .ref ava, .ref ans, .ref anv, .ref ars, .ref arv, .int sty, .ref ast, .ref ago])), (aso, .inl (cI, 2100, .inl so)), (ava, .inl (cI, 2100, .inl va)), (ans, .inl (cI, 2100, .inl ns)), (anv, .inl (cI, 2100, .inl nv)), (ars, .inl (cI, 8, .inl rs)), (arv, .inl (cI, 8, .inl rv)), (ast, .inl (cI, 2100, .inl st)), (ago, .inl (cI, 2100, .inl go))]) [0, 1, 2, 3, 4, 5, 6, 7, 8] (by decide) rfl
          have hFc := va_free (wc := [(mx, .inr (2, [.int 0, .int hf, .int us, .int col, .int mov, .ref aso, .ref ava, .ref ans, .ref anv, .ref ars, .ref arv, .int sty, .ref ast, .ref ago])), (aso, .inl (cI, 2100, .inl so)), (ava, .inl (cI, 2100, .inl va)), (ans, .inl (cI, 2100, .inl ns)), (anv, .inl (cI, 2100, .inl nv)), (ars, .inl (cI, 8, .inl rs)), (arv, .inl (cI, 8, .inl rv)), (ast, .inl (cI, 2100, .inl st)), (ago, .inl (cI, 2100, .inl go))]) hD hS hA [0, 1, 2, 3, 4, 5, 6, 7, 8] rfl
          refine va_calli (va_runV (As := [.int 3]) (rest := []) ⟨hx, hb, hml, hown, ht⟩ (ctX2_fail l dC dI cI mx aso ava ans anv ars arv ast ago 0 hf us col mov sty so va ns nv rs rv st go 3 _ ) (cwV 1 ht gcX2_69 rfl rfl rfl (by decide +kernel) ⟨Nat.le_of_ble_eq_true rfl, Nat.le_of_ble_eq_true rfl⟩) ⟨pM.blind, va_recv hKc hPc (ci := 2) (q0 := 0) rfl rfl, pM.call hPc hKc hDc hE⟩ rfl rfl hl.1 rfl (lv_room (Nat.le_of_ble_eq_true rfl)) dX2_get_68 ⟨Nat.le_of_ble_eq_true rfl, Nat.le_of_ble_eq_true rfl⟩) hS (fun q _ h => hFc q h) hFc (fun r_15 u_14 t H1 locs ht9 hvm hw hB hz1 hk1 hS => ?_)
          obtain ⟨rfl, rfl⟩ : r_15 = 0 ∧ u_14 = (3, us, col, mov, so, va, ns, nv, rs, rv, sty, st, go) := ⟨(Prod.mk.inj hw).1, (Prod.mk.inj hw).2⟩
          obtain ⟨hP1, hK1, hD1⟩ := hB
          rw [ht9] at hP1
          obtain ⟨hP, hD⟩ := va_join (wr := []) (w1 := [(mx, .inr (2, [.int 3, .int hf, .int us, .int col, .int mov, .ref aso, .ref ava, .ref ans, .ref anv, .ref ars, .ref arv, .int sty, .ref ast, .ref ago])), (aso, .inl (cI, 2100, .inl so)), (ava, .inl (cI, 2100, .inl va)), (ans, .inl (cI, 2100, .inl ns)), (anv, .inl (cI, 2100, .inl nv)), (ars, .inl (cI, 8, .inl rs)), (arv, .inl (cI, 8, .inl rv)), (ast, .inl (cI, 2100, .inl st)), (ago, .inl (cI, 2100, .inl go))]) hP hD [0, 1, 2, 3, 4, 5, 6, 7, 8] [] rfl rfl (by decide) (by decide) hk1 hFc hP1 hD1
          generalize H1 = H at hP hS ⊢
          have hP := hP.sub (ws' := [(mx, .inr (2, [.int 3, .int hf, .int us, .int col, .int mov, .ref aso, .ref ava, .ref ans, .ref anv, .ref ars, .ref arv, .int sty, .ref ast, .ref ago])), (aso, .inl (cI, 2100, .inl so)), (ava, .inl (cI, 2100, .inl va)), (ans, .inl (cI, 2100, .inl ns)), (anv, .inl (cI, 2100, .inl nv)), (ars, .inl (cI, 8, .inl rs)), (arv, .inl (cI, 8, .inl rv)), (ast, .inl (cI, 2100, .inl st)), (ago, .inl (cI, 2100, .inl go))]) [0, 1, 2, 3, 4, 5, 6, 7, 8] rfl
          have hD := hD.sub (ws' := [(mx, .inr (2, [.int 3, .int hf, .int us, .int col, .int mov, .ref aso, .ref ava, .ref ans, .ref anv, .ref ars, .ref arv, .int sty, .ref ast, .ref ago])), (aso, .inl (cI, 2100, .inl so)), (ava, .inl (cI, 2100, .inl va)), (ans, .inl (cI, 2100, .inl ns)), (anv, .inl (cI, 2100, .inl nv)), (ars, .inl (cI, 8, .inl rs)), (arv, .inl (cI, 8, .inl rv)), (ast, .inl (cI, 2100, .inl st)), (ago, .inl (cI, 2100, .inl go))]) [0, 1, 2, 3, 4, 5, 6, 7, 8] (by decide) rfl
          refine lv_if_le (tgt := 78) hx hb dX2_get_71 (by decide) (fun _ => ?_) (fun h => absurd (by decide) h)
          refine lv_iconst (v := 0) hx hb dX2_get_78 (by decide) ?_
          have hP9 := hP.sub (ws' := [(mx, .inr (2, [.int 3, .int hf, .int us, .int col, .int mov, .ref aso, .ref ava, .ref ans, .ref anv, .ref ars, .ref arv, .int sty, .ref ast, .ref ago])), (aso, .inl (cI, 2100, .inl so)), (ava, .inl (cI, 2100, .inl va)), (ans, .inl (cI, 2100, .inl ns)), (anv, .inl (cI, 2100, .inl nv)), (ars, .inl (cI, 8, .inl rs)), (arv, .inl (cI, 8, .inl rv)), (ast, .inl (cI, 2100, .inl st)), (ago, .inl (cI, 2100, .inl go))]) [0, 1, 2, 3, 4, 5, 6, 7, 8] rfl
          have hD9 := hD.sub (ws' := [(mx, .inr (2, [.int 3, .int hf, .int us, .int col, .int mov, .ref aso, .ref ava, .ref ans, .ref anv, .ref ars, .ref arv, .int sty, .ref ast, .ref ago])), (aso, .inl (cI, 2100, .inl so)), (ava, .inl (cI, 2100, .inl va)), (ans, .inl (cI, 2100, .inl ns)), (anv, .inl (cI, 2100, .inl nv)), (ars, .inl (cI, 8, .inl rs)), (arv, .inl (cI, 8, .inl rv)), (ast, .inl (cI, 2100, .inl st)), (ago, .inl (cI, 2100, .inl go))]) [0, 1, 2, 3, 4, 5, 6, 7, 8] (by decide) rfl
          have hK9 := hK.sub (tys' := [(cI, .int)]) [0] rfl
          exact W.zret (v := 0) hx hb hr (by decide) (fun t ht hW => ⟨⟨_, (3, us, col, mov, so, va, ns, nv, rs, rv, sty, st, go), rfl, (by simp only [fX2_get, if_neg c_2, if_neg c_6, if_pos c_7, if_pos c_9]), by rw [ht]; exact hP9, va_K.moved hW.alike hK9, hD9⟩, hS.F ht⟩) hS.2.2 dX2_get_79
      · refine lv_aload_n hx hb dX2_get_43 rfl (lv_at hl 0 rfl) ?_
        refine lv_iconst (v := 2) hx hb dX2_get_44 (by decide) ?_
        have hPc := hP.sub (ws' := [(mx, .inr (2, [.int 0, .int hf, .int us, .int col, .int mov, .ref aso, .ref ava, .ref ans, .ref anv, .ref ars, .ref arv, .int sty, .ref ast, .ref ago])), (aso, .inl (cI, 2100, .inl so)), (ava, .inl (cI, 2100, .inl va)), (ans, .inl (cI, 2100, .inl ns)), (anv, .inl (cI, 2100, .inl nv)), (ars, .inl (cI, 8, .inl rs)), (arv, .inl (cI, 8, .inl rv)), (ast, .inl (cI, 2100, .inl st)), (ago, .inl (cI, 2100, .inl go))]) [0, 1, 2, 3, 4, 5, 6, 7, 8] rfl
        have hKc := hK.sub (tys' := [(cI, .int)]) [0] rfl
        have hDc := hD.sub (ws' := [(mx, .inr (2, [.int 0, .int hf, .int us, .int col, .int mov, .ref aso, .ref ava, .ref ans, .ref anv, .ref ars, .ref arv, .int sty, .ref ast, .ref ago])), (aso, .inl (cI, 2100, .inl so)), (ava, .inl (cI, 2100, .inl va)), (ans, .inl (cI, 2100, .inl ns)), (anv, .inl (cI, 2100, .inl nv)), (ars, .inl (cI, 8, .inl rs)), (arv, .inl (cI, 8, .inl rv)), (ast, .inl (cI, 2100, .inl st)), (ago, .inl (cI, 2100, .inl go))]) [0, 1, 2, 3, 4, 5, 6, 7, 8] (by decide) rfl
        have hFc := va_free (wc := [(mx, .inr (2, [.int 0, .int hf, .int us, .int col, .int mov, .ref aso, .ref ava, .ref ans, .ref anv, .ref ars, .ref arv, .int sty, .ref ast, .ref ago])), (aso, .inl (cI, 2100, .inl so)), (ava, .inl (cI, 2100, .inl va)), (ans, .inl (cI, 2100, .inl ns)), (anv, .inl (cI, 2100, .inl nv)), (ars, .inl (cI, 8, .inl rs)), (arv, .inl (cI, 8, .inl rv)), (ast, .inl (cI, 2100, .inl st)), (ago, .inl (cI, 2100, .inl go))]) hD hS hA [0, 1, 2, 3, 4, 5, 6, 7, 8] rfl
        refine va_calli (va_runV (As := [.int 2]) (rest := []) ⟨hx, hb, hml, hown, ht⟩ (ctX2_fail l dC dI cI mx aso ava ans anv ars arv ast ago 0 hf us col mov sty so va ns nv rs rv st go 2 _ ) (cwV 1 ht gcX2_69 rfl rfl rfl (by decide +kernel) ⟨Nat.le_of_ble_eq_true rfl, Nat.le_of_ble_eq_true rfl⟩) ⟨pM.blind, va_recv hKc hPc (ci := 2) (q0 := 0) rfl rfl, pM.call hPc hKc hDc hE⟩ rfl rfl hl.1 rfl (lv_room (Nat.le_of_ble_eq_true rfl)) dX2_get_45 ⟨Nat.le_of_ble_eq_true rfl, Nat.le_of_ble_eq_true rfl⟩) hS (fun q _ h => hFc q h) hFc (fun r_17 u_16 t H1 locs ht9 hvm hw hB hz1 hk1 hS => ?_)
        obtain ⟨rfl, rfl⟩ : r_17 = 0 ∧ u_16 = (2, us, col, mov, so, va, ns, nv, rs, rv, sty, st, go) := ⟨(Prod.mk.inj hw).1, (Prod.mk.inj hw).2⟩
        obtain ⟨hP1, hK1, hD1⟩ := hB
        rw [ht9] at hP1
        obtain ⟨hP, hD⟩ := va_join (wr := []) (w1 := [(mx, .inr (2, [.int 2, .int hf, .int us, .int col, .int mov, .ref aso, .ref ava, .ref ans, .ref anv, .ref ars, .ref arv, .int sty, .ref ast, .ref ago])), (aso, .inl (cI, 2100, .inl so)), (ava, .inl (cI, 2100, .inl va)), (ans, .inl (cI, 2100, .inl ns)), (anv, .inl (cI, 2100, .inl nv)), (ars, .inl (cI, 8, .inl rs)), (arv, .inl (cI, 8, .inl rv)), (ast, .inl (cI, 2100, .inl st)), (ago, .inl (cI, 2100, .inl go))]) hP hD [0, 1, 2, 3, 4, 5, 6, 7, 8] [] rfl rfl (by decide) (by decide) hk1 hFc hP1 hD1
        generalize H1 = H at hP hS ⊢
        have hP := hP.sub (ws' := [(mx, .inr (2, [.int 2, .int hf, .int us, .int col, .int mov, .ref aso, .ref ava, .ref ans, .ref anv, .ref ars, .ref arv, .int sty, .ref ast, .ref ago])), (aso, .inl (cI, 2100, .inl so)), (ava, .inl (cI, 2100, .inl va)), (ans, .inl (cI, 2100, .inl ns)), (anv, .inl (cI, 2100, .inl nv)), (ars, .inl (cI, 8, .inl rs)), (arv, .inl (cI, 8, .inl rv)), (ast, .inl (cI, 2100, .inl st)), (ago, .inl (cI, 2100, .inl go))]) [0, 1, 2, 3, 4, 5, 6, 7, 8] rfl
        have hD := hD.sub (ws' := [(mx, .inr (2, [.int 2, .int hf, .int us, .int col, .int mov, .ref aso, .ref ava, .ref ans, .ref anv, .ref ars, .ref arv, .int sty, .ref ast, .ref ago])), (aso, .inl (cI, 2100, .inl so)), (ava, .inl (cI, 2100, .inl va)), (ans, .inl (cI, 2100, .inl ns)), (anv, .inl (cI, 2100, .inl nv)), (ars, .inl (cI, 8, .inl rs)), (arv, .inl (cI, 8, .inl rv)), (ast, .inl (cI, 2100, .inl st)), (ago, .inl (cI, 2100, .inl go))]) [0, 1, 2, 3, 4, 5, 6, 7, 8] (by decide) rfl
        refine lv_if_le (tgt := 55) hx hb dX2_get_48 (by decide) (fun _ => ?_) (fun h => absurd (by decide) h)
        refine lv_iconst (v := 0) hx hb dX2_get_55 (by decide) ?_
        have hP9 := hP.sub (ws' := [(mx, .inr (2, [.int 2, .int hf, .int us, .int col, .int mov, .ref aso, .ref ava, .ref ans, .ref anv, .ref ars, .ref arv, .int sty, .ref ast, .ref ago])), (aso, .inl (cI, 2100, .inl so)), (ava, .inl (cI, 2100, .inl va)), (ans, .inl (cI, 2100, .inl ns)), (anv, .inl (cI, 2100, .inl nv)), (ars, .inl (cI, 8, .inl rs)), (arv, .inl (cI, 8, .inl rv)), (ast, .inl (cI, 2100, .inl st)), (ago, .inl (cI, 2100, .inl go))]) [0, 1, 2, 3, 4, 5, 6, 7, 8] rfl
        have hD9 := hD.sub (ws' := [(mx, .inr (2, [.int 2, .int hf, .int us, .int col, .int mov, .ref aso, .ref ava, .ref ans, .ref anv, .ref ars, .ref arv, .int sty, .ref ast, .ref ago])), (aso, .inl (cI, 2100, .inl so)), (ava, .inl (cI, 2100, .inl va)), (ans, .inl (cI, 2100, .inl ns)), (anv, .inl (cI, 2100, .inl nv)), (ars, .inl (cI, 8, .inl rs)), (arv, .inl (cI, 8, .inl rv)), (ast, .inl (cI, 2100, .inl st)), (ago, .inl (cI, 2100, .inl go))]) [0, 1, 2, 3, 4, 5, 6, 7, 8] (by decide) rfl
        have hK9 := hK.sub (tys' := [(cI, .int)]) [0] rfl
        exact W.zret (v := 0) hx hb hr (by decide) (fun t ht hW => ⟨⟨_, (2, us, col, mov, so, va, ns, nv, rs, rv, sty, st, go), rfl, (by simp only [fX2_get, if_neg c_2, if_neg c_6, if_neg c_7]), by rw [ht]; exact hP9, va_K.moved hW.alike hK9, hD9⟩, hS.F ht⟩) hS.2.2 dX2_get_56
    · refine lv_aload_n hx hb dX2_get_19 rfl (lv_at hl 0 rfl) ?_
      refine lv_iconst (v := 1) hx hb dX2_get_20 (by decide) ?_
      have hPc := hP.sub (ws' := [(mx, .inr (2, [.int 0, .int hf, .int us, .int col, .int mov, .ref aso, .ref ava, .ref ans, .ref anv, .ref ars, .ref arv, .int sty, .ref ast, .ref ago])), (aso, .inl (cI, 2100, .inl so)), (ava, .inl (cI, 2100, .inl va)), (ans, .inl (cI, 2100, .inl ns)), (anv, .inl (cI, 2100, .inl nv)), (ars, .inl (cI, 8, .inl rs)), (arv, .inl (cI, 8, .inl rv)), (ast, .inl (cI, 2100, .inl st)), (ago, .inl (cI, 2100, .inl go))]) [0, 1, 2, 3, 4, 5, 6, 7, 8] rfl
      have hKc := hK.sub (tys' := [(cI, .int)]) [0] rfl
      have hDc := hD.sub (ws' := [(mx, .inr (2, [.int 0, .int hf, .int us, .int col, .int mov, .ref aso, .ref ava, .ref ans, .ref anv, .ref ars, .ref arv, .int sty, .ref ast, .ref ago])), (aso, .inl (cI, 2100, .inl so)), (ava, .inl (cI, 2100, .inl va)), (ans, .inl (cI, 2100, .inl ns)), (anv, .inl (cI, 2100, .inl nv)), (ars, .inl (cI, 8, .inl rs)), (arv, .inl (cI, 8, .inl rv)), (ast, .inl (cI, 2100, .inl st)), (ago, .inl (cI, 2100, .inl go))]) [0, 1, 2, 3, 4, 5, 6, 7, 8] (by decide) rfl
      have hFc := va_free (wc := [(mx, .inr (2, [.int 0, .int hf, .int us, .int col, .int mov, .ref aso, .ref ava, .ref ans, .ref anv, .ref ars, .ref arv, .int sty, .ref ast, .ref ago])), (aso, .inl (cI, 2100, .inl so)), (ava, .inl (cI, 2100, .inl va)), (ans, .inl (cI, 2100, .inl ns)), (anv, .inl (cI, 2100, .inl nv)), (ars, .inl (cI, 8, .inl rs)), (arv, .inl (cI, 8, .inl rv)), (ast, .inl (cI, 2100, .inl st)), (ago, .inl (cI, 2100, .inl go))]) hD hS hA [0, 1, 2, 3, 4, 5, 6, 7, 8] rfl
      refine va_calli (va_runV (As := [.int 1]) (rest := []) ⟨hx, hb, hml, hown, ht⟩ (ctX2_fail l dC dI cI mx aso ava ans anv ars arv ast ago 0 hf us col mov sty so va ns nv rs rv st go 1 _ ) (cwV 1 ht gcX2_69 rfl rfl rfl (by decide +kernel) ⟨Nat.le_of_ble_eq_true rfl, Nat.le_of_ble_eq_true rfl⟩) ⟨pM.blind, va_recv hKc hPc (ci := 2) (q0 := 0) rfl rfl, pM.call hPc hKc hDc hE⟩ rfl rfl hl.1 rfl (lv_room (Nat.le_of_ble_eq_true rfl)) dX2_get_21 ⟨Nat.le_of_ble_eq_true rfl, Nat.le_of_ble_eq_true rfl⟩) hS (fun q _ h => hFc q h) hFc (fun r_19 u_18 t H1 locs ht9 hvm hw hB hz1 hk1 hS => ?_)
      obtain ⟨rfl, rfl⟩ : r_19 = 0 ∧ u_18 = (1, us, col, mov, so, va, ns, nv, rs, rv, sty, st, go) := ⟨(Prod.mk.inj hw).1, (Prod.mk.inj hw).2⟩
      obtain ⟨hP1, hK1, hD1⟩ := hB
      rw [ht9] at hP1
      obtain ⟨hP, hD⟩ := va_join (wr := []) (w1 := [(mx, .inr (2, [.int 1, .int hf, .int us, .int col, .int mov, .ref aso, .ref ava, .ref ans, .ref anv, .ref ars, .ref arv, .int sty, .ref ast, .ref ago])), (aso, .inl (cI, 2100, .inl so)), (ava, .inl (cI, 2100, .inl va)), (ans, .inl (cI, 2100, .inl ns)), (anv, .inl (cI, 2100, .inl nv)), (ars, .inl (cI, 8, .inl rs)), (arv, .inl (cI, 8, .inl rv)), (ast, .inl (cI, 2100, .inl st)), (ago, .inl (cI, 2100, .inl go))]) hP hD [0, 1, 2, 3, 4, 5, 6, 7, 8] [] rfl rfl (by decide) (by decide) hk1 hFc hP1 hD1
      generalize H1 = H at hP hS ⊢
      have hP := hP.sub (ws' := [(mx, .inr (2, [.int 1, .int hf, .int us, .int col, .int mov, .ref aso, .ref ava, .ref ans, .ref anv, .ref ars, .ref arv, .int sty, .ref ast, .ref ago])), (aso, .inl (cI, 2100, .inl so)), (ava, .inl (cI, 2100, .inl va)), (ans, .inl (cI, 2100, .inl ns)), (anv, .inl (cI, 2100, .inl nv)), (ars, .inl (cI, 8, .inl rs)), (arv, .inl (cI, 8, .inl rv)), (ast, .inl (cI, 2100, .inl st)), (ago, .inl (cI, 2100, .inl go))]) [0, 1, 2, 3, 4, 5, 6, 7, 8] rfl
      have hD := hD.sub (ws' := [(mx, .inr (2, [.int 1, .int hf, .int us, .int col, .int mov, .ref aso, .ref ava, .ref ans, .ref anv, .ref ars, .ref arv, .int sty, .ref ast, .ref ago])), (aso, .inl (cI, 2100, .inl so)), (ava, .inl (cI, 2100, .inl va)), (ans, .inl (cI, 2100, .inl ns)), (anv, .inl (cI, 2100, .inl nv)), (ars, .inl (cI, 8, .inl rs)), (arv, .inl (cI, 8, .inl rv)), (ast, .inl (cI, 2100, .inl st)), (ago, .inl (cI, 2100, .inl go))]) [0, 1, 2, 3, 4, 5, 6, 7, 8] (by decide) rfl
      refine lv_if_le (tgt := 31) hx hb dX2_get_24 (by decide) (fun _ => ?_) (fun h => absurd (by decide) h)
      refine lv_iconst (v := 0) hx hb dX2_get_31 (by decide) ?_
      have hP9 := hP.sub (ws' := [(mx, .inr (2, [.int 1, .int hf, .int us, .int col, .int mov, .ref aso, .ref ava, .ref ans, .ref anv, .ref ars, .ref arv, .int sty, .ref ast, .ref ago])), (aso, .inl (cI, 2100, .inl so)), (ava, .inl (cI, 2100, .inl va)), (ans, .inl (cI, 2100, .inl ns)), (anv, .inl (cI, 2100, .inl nv)), (ars, .inl (cI, 8, .inl rs)), (arv, .inl (cI, 8, .inl rv)), (ast, .inl (cI, 2100, .inl st)), (ago, .inl (cI, 2100, .inl go))]) [0, 1, 2, 3, 4, 5, 6, 7, 8] rfl
      have hD9 := hD.sub (ws' := [(mx, .inr (2, [.int 1, .int hf, .int us, .int col, .int mov, .ref aso, .ref ava, .ref ans, .ref anv, .ref ars, .ref arv, .int sty, .ref ast, .ref ago])), (aso, .inl (cI, 2100, .inl so)), (ava, .inl (cI, 2100, .inl va)), (ans, .inl (cI, 2100, .inl ns)), (anv, .inl (cI, 2100, .inl nv)), (ars, .inl (cI, 8, .inl rs)), (arv, .inl (cI, 8, .inl rv)), (ast, .inl (cI, 2100, .inl st)), (ago, .inl (cI, 2100, .inl go))]) [0, 1, 2, 3, 4, 5, 6, 7, 8] (by decide) rfl
      have hK9 := hK.sub (tys' := [(cI, .int)]) [0] rfl
      exact W.zret (v := 0) hx hb hr (by decide) (fun t ht hW => ⟨⟨_, (1, us, col, mov, so, va, ns, nv, rs, rv, sty, st, go), rfl, (by simp only [fX2_get, if_neg c_2, if_pos c_6]), by rw [ht]; exact hP9, va_K.moved hW.alike hK9, hD9⟩, hS.F ht⟩) hS.2.2 dX2_get_32
def fX2_about (th : Int32) (us : Int32) (col : Int32) (mov : Int32) (so : Nat → Int32) (va : Nat → Int32) (ns : Nat → Int32) (nv : Nat → Int32) (rs : Nat → Int32) (rv : Nat → Int32) (sty : Int32) (st : Nat → Int32) (go : Nat → Int32) (ip : Int32) (iq : Int32) : Int32 × Int32 × Int32 × Int32 × Int32 × (Nat → Int32) × (Nat → Int32) × (Nat → Int32) × (Nat → Int32) × (Nat → Int32) × (Nat → Int32) × Int32 × (Nat → Int32) × (Nat → Int32) := (if fX2_isRegister ip = 0 then (0, (1, us, col, mov, so, va, ns, nv, rs, rv, sty, st, go)) else (if iq < 0 then (0, (2, us, col, mov, so, va, ns, nv, rs, rv, sty, st, go)) else (if iq ≤ 3 then (if rs ip.toNatClampNeg = 2 then (if iq = 0 then (rv ip.toNatClampNeg, (0, us, col, mov, so, va, ns, nv, rs, rv, sty, st, go)) else (if iq = 1 then (0, (0, us, col, mov, so, va, ns, nv, rs, rv, sty, st, go)) else (if iq = 2 then ((va (rv ip.toNatClampNeg).toNatClampNeg) &&& 1, (0, us, col, mov, so, va, ns, nv, rs, rv, sty, st, go)) else (fX2_fieldsAt va (rv ip.toNatClampNeg), (0, us, col, mov, so, va, ns, nv, rs, rv, sty, st, go))))) else (if iq = 0 then ((-1), (0, us, col, mov, so, va, ns, nv, rs, rv, sty, st, go)) else (if iq = 1 then (rv ip.toNatClampNeg, (0, us, col, mov, so, va, ns, nv, rs, rv, sty, st, go)) else ((-1), (0, us, col, mov, so, va, ns, nv, rs, rv, sty, st, go))))) else (0, (2, us, col, mov, so, va, ns, nv, rs, rv, sty, st, go)))))
abbrev atX2_about (dC : Nat → ClassId) (dI : Nat → Nat → Nat) (cI : ClassId) (A : Nat → Prop) (mx : Nat) (aso : Nat) (ava : Nat) (ans : Nat) (anv : Nat) (ars : Nat) (arv : Nat) (ast : Nat) (ago : Nat) (hf : Int32) (u : Int32 × Int32 × Int32 × Int32 × (Nat → Int32) × (Nat → Int32) × (Nat → Int32) × (Nat → Int32) × (Nat → Int32) × (Nat → Int32) × Int32 × (Nat → Int32) × (Nat → Int32)) (t : State) : Prop := va_P (dC, dI) vwCl [(mx, .inr (2, [.int u.1, .int hf, .int u.2.1, .int u.2.2.1, .int u.2.2.2.1, .ref aso, .ref ava, .ref ans, .ref anv, .ref ars, .ref arv, .int u.2.2.2.2.2.2.2.2.2.2.1, .ref ast, .ref ago])), (aso, .inl (cI, 2100, .inl u.2.2.2.2.1)), (ava, .inl (cI, 2100, .inl u.2.2.2.2.2.1)), (ans, .inl (cI, 2100, .inl u.2.2.2.2.2.2.1)), (anv, .inl (cI, 2100, .inl u.2.2.2.2.2.2.2.1)), (ars, .inl (cI, 8, .inl u.2.2.2.2.2.2.2.2.1)), (arv, .inl (cI, 8, .inl u.2.2.2.2.2.2.2.2.2.1)), (ast, .inl (cI, 2100, .inl u.2.2.2.2.2.2.2.2.2.2.2.1)), (ago, .inl (cI, 2100, .inl u.2.2.2.2.2.2.2.2.2.2.2.2))] t.heap ∧ va_K (dC, dI) vwCl [(cI, .int)] t ∧ va_D A [(mx, .inr (2, [.int u.1, .int hf, .int u.2.1, .int u.2.2.1, .int u.2.2.2.1, .ref aso, .ref ava, .ref ans, .ref anv, .ref ars, .ref arv, .int u.2.2.2.2.2.2.2.2.2.2.1, .ref ast, .ref ago])), (aso, .inl (cI, 2100, .inl u.2.2.2.2.1)), (ava, .inl (cI, 2100, .inl u.2.2.2.2.2.1)), (ans, .inl (cI, 2100, .inl u.2.2.2.2.2.2.1)), (anv, .inl (cI, 2100, .inl u.2.2.2.2.2.2.2.1)), (ars, .inl (cI, 8, .inl u.2.2.2.2.2.2.2.2.1)), (arv, .inl (cI, 8, .inl u.2.2.2.2.2.2.2.2.2.1)), (ast, .inl (cI, 2100, .inl u.2.2.2.2.2.2.2.2.2.2.2.1)), (ago, .inl (cI, 2100, .inl u.2.2.2.2.2.2.2.2.2.2.2.2))]
set_option maxHeartbeats 4000000 in
set_option maxRecDepth 100000 in
theorem ctX2_about (l : Launch) (dC : Nat → ClassId) (dI : Nat → Nat → Nat) (cI : ClassId) (mx : Nat) (aso : Nat) (ava : Nat) (ans : Nat) (anv : Nat) (ars : Nat) (arv : Nat) (ast : Nat) (ago : Nat) (th : Int32) (hf : Int32) (us : Int32) (col : Int32) (mov : Int32) (sty : Int32) (so : Nat → Int32) (va : Nat → Int32) (ns : Nat → Int32) (nv : Nat → Int32) (rs : Nat → Int32) (rv : Nat → Int32) (st : Nat → Int32) (go : Nat → Int32) (ip : Int32) (iq : Int32) (sz : Nat) (hrv : ∀ i : Int32, vp_in i 8 → rs i.toNatClampNeg = 2 → vp_in (rv i.toNatClampNeg) 2100) : Met l yX2_about (kX2_about :: gT) ({ frames := 1, cells := 0, slots := 0, locals := 21 }) (va_Pc [.ref mx, .int ip, .int iq] (pM (dC, dI) [(mx, .inr (2, [.int th, .int hf, .int us, .int col, .int mov, .ref aso, .ref ava, .ref ans, .ref anv, .ref ars, .ref arv, .int sty, .ref ast, .ref ago])), (aso, .inl (cI, 2100, .inl so)), (ava, .inl (cI, 2100, .inl va)), (ans, .inl (cI, 2100, .inl ns)), (anv, .inl (cI, 2100, .inl nv)), (ars, .inl (cI, 8, .inl rs)), (arv, .inl (cI, 8, .inl rv)), (ast, .inl (cI, 2100, .inl st)), (ago, .inl (cI, 2100, .inl go))] [(cI, .int)] sz)) (va_Qi (fun (r : Int32) (u : Int32 × Int32 × Int32 × Int32 × (Nat → Int32) × (Nat → Int32) × (Nat → Int32) × (Nat → Int32) × (Nat → Int32) × (Nat → Int32) × Int32 × (Nat → Int32) × (Nat → Int32)) => (r, u) = fX2_about th us col mov so va ns nv rs rv sty st go ip iq) (atX2_about dC dI cI (va_A [(mx, .inr (2, [.int th, .int hf, .int us, .int col, .int mov, .ref aso, .ref ava, .ref ans, .ref anv, .ref ars, .ref arv, .int sty, .ref ast, .ref ago])), (aso, .inl (cI, 2100, .inl so)), (ava, .inl (cI, 2100, .inl va)), (ans, .inl (cI, 2100, .inl ns)), (anv, .inl (cI, 2100, .inl nv)), (ars, .inl (cI, 8, .inl rs)), (arv, .inl (cI, 8, .inl rv)), (ast, .inl (cI, 2100, .inl st)), (ago, .inl (cI, 2100, .inl go))] sz) mx aso ava ans anv ars arv ast ago hf) (va_A [(mx, .inr (2, [.int th, .int hf, .int us, .int col, .int mov, .ref aso, .ref ava, .ref ans, .ref anv, .ref ars, .ref arv, .int sty, .ref ast, .ref ago])), (aso, .inl (cI, 2100, .inl so)), (ava, .inl (cI, 2100, .inl va)), (ans, .inl (cI, 2100, .inl ns)), (anv, .inl (cI, 2100, .inl nv)), (ars, .inl (cI, 8, .inl rs)), (arv, .inl (cI, 8, .inl rv)), (ast, .inl (cI, 2100, .inl st)), (ago, .inl (cI, 2100, .inl go))] sz)) 0 0 (va_A [(mx, .inr (2, [.int th, .int hf, .int us, .int col, .int mov, .ref aso, .ref ava, .ref ans, .ref anv, .ref ars, .ref arv, .int sty, .ref ast, .ref ago])), (aso, .inl (cI, 2100, .inl so)), (ava, .inl (cI, 2100, .inl va)), (ans, .inl (cI, 2100, .inl ns)), (anv, .inl (cI, 2100, .inl nv)), (ars, .inl (cI, 8, .inl rs)), (arv, .inl (cI, 8, .inl rv)), (ast, .inl (cI, 2100, .inl st)), (ago, .inl (cI, 2100, .inl go))] sz) := by
  refine Met.ofW (cc := cX2_about) (maxL := 5) (ret := (some .int)) (by decide) rfl ?_
  intro p e s m args below meth c s₁ B hml hv
  obtain ⟨rfl, hsz, hP, hK, hD0, hE⟩ := hv
  have hx := B.exec
  have hb := B.bytes
  have hr := B.returns
  have ht : ∀ w ∈ gT, w.before ([.ref mx, .int ip, .int iq] : List Value).toArray s = true := fun w h => atoms_spec (ws := kX2_about :: gT) B.pre w (List.mem_cons_of_mem _ h)
  have hown : s.vm.findClass RX2 = some m.cls := findClass_of_methodNamed B.named
  have hlocks := B.notSynchronized
  subst hsz
  have hD := hD0.self (sz := s.heap.size)
  generalize hAe : va_A [(mx, .inr (2, [.int th, .int hf, .int us, .int col, .int mov, .ref aso, .ref ava, .ref ans, .ref anv, .ref ars, .ref arv, .int sty, .ref ast, .ref ago])), (aso, .inl (cI, 2100, .inl so)), (ava, .inl (cI, 2100, .inl va)), (ans, .inl (cI, 2100, .inl ns)), (anv, .inl (cI, 2100, .inl nv)), (ars, .inl (cI, 8, .inl rs)), (arv, .inl (cI, 8, .inl rv)), (ast, .inl (cI, 2100, .inl st)), (ago, .inl (cI, 2100, .inl go))] s.heap.size = A at hD ⊢
  have hA : ∀ q : Nat, s.heap.size ≤ q → A q := fun q h => by rw [← hAe]; exact Or.inr h
  have hS : va_S A s.heap s.heap [] := va_S.rf
  have hl := lv_entry ([.ref mx, .int ip, .int iq]) (n := 5) (Nat.le_of_ble_eq_true rfl)
  rw [lg_entry_eq]
  generalize (lg_sl ([.ref mx, .int ip, .int iq]) ++ List.replicate (5 - (lg_sl ([.ref mx, .int ip, .int iq])).length) Slot.unset).toArray = ls at hl ⊢
  have hl : lv_has ls 5 [(0, .ref mx), (1, .int ip), (2, .int iq)] := hl
  refine lv_aload_n hx hb dX2_about_0 rfl (lv_at hl 0 rfl) ?_
  refine lv_iconst (v := 0) hx hb dX2_about_1 (by decide) ?_
  refine va_put (D := (dC, dI)) (ci := 2) (v := .int 0) (ty := .int) (C := RX2) (T := TX2) (N := 14) hx hb ht iX2 tyX2 tkX2 nmX2 hown hK hP hD hS 0 rfl rfl 0 (by decide) (ht _ g_326) (fun _ h9 => h9) rfl (by decide +kernel) rfl rfl (Nat.le_of_ble_eq_true rfl) dX2_about_2 (fun H locs hP hD hS => ?_)
  have hP : va_P (dC, dI) vwCl [(mx, .inr (2, [.int 0, .int hf, .int us, .int col, .int mov, .ref aso, .ref ava, .ref ans, .ref anv, .ref ars, .ref arv, .int sty, .ref ast, .ref ago])), (aso, .inl (cI, 2100, .inl so)), (ava, .inl (cI, 2100, .inl va)), (ans, .inl (cI, 2100, .inl ns)), (anv, .inl (cI, 2100, .inl nv)), (ars, .inl (cI, 8, .inl rs)), (arv, .inl (cI, 8, .inl rv)), (ast, .inl (cI, 2100, .inl st)), (ago, .inl (cI, 2100, .inl go))] H := hP
  have hD : va_D A [(mx, .inr (2, [.int 0, .int hf, .int us, .int col, .int mov, .ref aso, .ref ava, .ref ans, .ref anv, .ref ars, .ref arv, .int sty, .ref ast, .ref ago])), (aso, .inl (cI, 2100, .inl so)), (ava, .inl (cI, 2100, .inl va)), (ans, .inl (cI, 2100, .inl ns)), (anv, .inl (cI, 2100, .inl nv)), (ars, .inl (cI, 8, .inl rs)), (arv, .inl (cI, 8, .inl rv)), (ast, .inl (cI, 2100, .inl st)), (ago, .inl (cI, 2100, .inl go))] := hD
  refine lv_iload_n hx hb dX2_about_5 rfl (lv_at hl 1 rfl) ?_
  refine vp_callSi (va_runS (As := [.int ip]) (rest := []) ⟨hx, hb, hml, hown, ht⟩ (ctX2_isRegister l ip) (cwS 1 ht gcX2_65 rfl rfl rfl (by decide +kernel) ⟨Nat.le_of_ble_eq_true rfl, Nat.le_of_ble_eq_true rfl⟩) ⟨pT.blind, pT.call⟩ rfl rfl hl.1 rfl (lv_room (Nat.le_of_ble_eq_true rfl)) dX2_about_6 ⟨Nat.le_of_ble_eq_true rfl, Nat.le_of_ble_eq_true rfl⟩).run (fun r_1 hr_1 => ?_)
  subst hr_1
  refine lv_if_ne (tgt := 18) hx hb dX2_about_9 (by decide) (fun c_2 => ?_) (fun c_2 => ?_)
  · refine lv_iload_n hx hb dX2_about_18 rfl (lv_at hl 2 rfl) ?_
    refine lv_if_lt (tgt := 27) hx hb dX2_about_19 (by decide) (fun c_3 => ?_) (fun c_3 => ?_)
    · refine lv_aload_n hx hb dX2_about_27 rfl (lv_at hl 0 rfl) ?_
      refine lv_iconst (v := 2) hx hb dX2_about_28 (by decide) ?_
      have hPc := hP.sub (ws' := [(mx, .inr (2, [.int 0, .int hf, .int us, .int col, .int mov, .ref aso, .ref ava, .ref ans, .ref anv, .ref ars, .ref arv, .int sty, .ref ast, .ref ago])), (aso, .inl (cI, 2100, .inl so)), (ava, .inl (cI, 2100, .inl va)), (ans, .inl (cI, 2100, .inl ns)), (anv, .inl (cI, 2100, .inl nv)), (ars, .inl (cI, 8, .inl rs)), (arv, .inl (cI, 8, .inl rv)), (ast, .inl (cI, 2100, .inl st)), (ago, .inl (cI, 2100, .inl go))]) [0, 1, 2, 3, 4, 5, 6, 7, 8] rfl
      have hKc := hK.sub (tys' := [(cI, .int)]) [0] rfl
      have hDc := hD.sub (ws' := [(mx, .inr (2, [.int 0, .int hf, .int us, .int col, .int mov, .ref aso, .ref ava, .ref ans, .ref anv, .ref ars, .ref arv, .int sty, .ref ast, .ref ago])), (aso, .inl (cI, 2100, .inl so)), (ava, .inl (cI, 2100, .inl va)), (ans, .inl (cI, 2100, .inl ns)), (anv, .inl (cI, 2100, .inl nv)), (ars, .inl (cI, 8, .inl rs)), (arv, .inl (cI, 8, .inl rv)), (ast, .inl (cI, 2100, .inl st)), (ago, .inl (cI, 2100, .inl go))]) [0, 1, 2, 3, 4, 5, 6, 7, 8] (by decide) rfl
      have hFc := va_free (wc := [(mx, .inr (2, [.int 0, .int hf, .int us, .int col, .int mov, .ref aso, .ref ava, .ref ans, .ref anv, .ref ars, .ref arv, .int sty, .ref ast, .ref ago])), (aso, .inl (cI, 2100, .inl so)), (ava, .inl (cI, 2100, .inl va)), (ans, .inl (cI, 2100, .inl ns)), (anv, .inl (cI, 2100, .inl nv)), (ars, .inl (cI, 8, .inl rs)), (arv, .inl (cI, 8, .inl rv)), (ast, .inl (cI, 2100, .inl st)), (ago, .inl (cI, 2100, .inl go))]) hD hS hA [0, 1, 2, 3, 4, 5, 6, 7, 8] rfl
      refine va_calli (va_runV (As := [.int 2]) (rest := []) ⟨hx, hb, hml, hown, ht⟩ (ctX2_fail l dC dI cI mx aso ava ans anv ars arv ast ago 0 hf us col mov sty so va ns nv rs rv st go 2 _ ) (cwV 1 ht gcX2_69 rfl rfl rfl (by decide +kernel) ⟨Nat.le_of_ble_eq_true rfl, Nat.le_of_ble_eq_true rfl⟩) ⟨pM.blind, va_recv hKc hPc (ci := 2) (q0 := 0) rfl rfl, pM.call hPc hKc hDc hE⟩ rfl rfl hl.1 rfl (lv_room (Nat.le_of_ble_eq_true rfl)) dX2_about_29 ⟨Nat.le_of_ble_eq_true rfl, Nat.le_of_ble_eq_true rfl⟩) hS (fun q _ h => hFc q h) hFc (fun r_5 u_4 t H1 locs ht9 hvm hw hB hz1 hk1 hS => ?_)
      obtain ⟨rfl, rfl⟩ : r_5 = 0 ∧ u_4 = (2, us, col, mov, so, va, ns, nv, rs, rv, sty, st, go) := ⟨(Prod.mk.inj hw).1, (Prod.mk.inj hw).2⟩
      obtain ⟨hP1, hK1, hD1⟩ := hB
      rw [ht9] at hP1
      obtain ⟨hP, hD⟩ := va_join (wr := []) (w1 := [(mx, .inr (2, [.int 2, .int hf, .int us, .int col, .int mov, .ref aso, .ref ava, .ref ans, .ref anv, .ref ars, .ref arv, .int sty, .ref ast, .ref ago])), (aso, .inl (cI, 2100, .inl so)), (ava, .inl (cI, 2100, .inl va)), (ans, .inl (cI, 2100, .inl ns)), (anv, .inl (cI, 2100, .inl nv)), (ars, .inl (cI, 8, .inl rs)), (arv, .inl (cI, 8, .inl rv)), (ast, .inl (cI, 2100, .inl st)), (ago, .inl (cI, 2100, .inl go))]) hP hD [0, 1, 2, 3, 4, 5, 6, 7, 8] [] rfl rfl (by decide) (by decide) hk1 hFc hP1 hD1
      generalize H1 = H at hP hS ⊢
      have hP := hP.sub (ws' := [(mx, .inr (2, [.int 2, .int hf, .int us, .int col, .int mov, .ref aso, .ref ava, .ref ans, .ref anv, .ref ars, .ref arv, .int sty, .ref ast, .ref ago])), (aso, .inl (cI, 2100, .inl so)), (ava, .inl (cI, 2100, .inl va)), (ans, .inl (cI, 2100, .inl ns)), (anv, .inl (cI, 2100, .inl nv)), (ars, .inl (cI, 8, .inl rs)), (arv, .inl (cI, 8, .inl rv)), (ast, .inl (cI, 2100, .inl st)), (ago, .inl (cI, 2100, .inl go))]) [0, 1, 2, 3, 4, 5, 6, 7, 8] rfl
      have hD := hD.sub (ws' := [(mx, .inr (2, [.int 2, .int hf, .int us, .int col, .int mov, .ref aso, .ref ava, .ref ans, .ref anv, .ref ars, .ref arv, .int sty, .ref ast, .ref ago])), (aso, .inl (cI, 2100, .inl so)), (ava, .inl (cI, 2100, .inl va)), (ans, .inl (cI, 2100, .inl ns)), (anv, .inl (cI, 2100, .inl nv)), (ars, .inl (cI, 8, .inl rs)), (arv, .inl (cI, 8, .inl rv)), (ast, .inl (cI, 2100, .inl st)), (ago, .inl (cI, 2100, .inl go))]) [0, 1, 2, 3, 4, 5, 6, 7, 8] (by decide) rfl
      have hP9 := hP.sub (ws' := [(mx, .inr (2, [.int 2, .int hf, .int us, .int col, .int mov, .ref aso, .ref ava, .ref ans, .ref anv, .ref ars, .ref arv, .int sty, .ref ast, .ref ago])), (aso, .inl (cI, 2100, .inl so)), (ava, .inl (cI, 2100, .inl va)), (ans, .inl (cI, 2100, .inl ns)), (anv, .inl (cI, 2100, .inl nv)), (ars, .inl (cI, 8, .inl rs)), (arv, .inl (cI, 8, .inl rv)), (ast, .inl (cI, 2100, .inl st)), (ago, .inl (cI, 2100, .inl go))]) [0, 1, 2, 3, 4, 5, 6, 7, 8] rfl
      have hD9 := hD.sub (ws' := [(mx, .inr (2, [.int 2, .int hf, .int us, .int col, .int mov, .ref aso, .ref ava, .ref ans, .ref anv, .ref ars, .ref arv, .int sty, .ref ast, .ref ago])), (aso, .inl (cI, 2100, .inl so)), (ava, .inl (cI, 2100, .inl va)), (ans, .inl (cI, 2100, .inl ns)), (anv, .inl (cI, 2100, .inl nv)), (ars, .inl (cI, 8, .inl rs)), (arv, .inl (cI, 8, .inl rv)), (ast, .inl (cI, 2100, .inl st)), (ago, .inl (cI, 2100, .inl go))]) [0, 1, 2, 3, 4, 5, 6, 7, 8] (by decide) rfl
      have hK9 := hK.sub (tys' := [(cI, .int)]) [0] rfl
      exact W.iret (v := 0) hx hb hr (fun t ht hW => ⟨⟨_, (2, us, col, mov, so, va, ns, nv, rs, rv, sty, st, go), rfl, (by simp only [fX2_about, if_neg c_2, if_pos c_3]), by rw [ht]; exact hP9, va_K.moved hW.alike hK9, hD9⟩, hS.F ht⟩) hS.2.2 dX2_about_32
    · refine lv_iload_n hx hb dX2_about_22 rfl (lv_at hl 2 rfl) ?_
      refine lv_iconst (v := 3) hx hb dX2_about_23 (by decide) ?_
      refine lv_icmp_le (tgt := 33) hx hb dX2_about_24 (by decide) (fun c_6 => ?_) (fun c_6 => ?_)
      · refine lv_aload_n hx hb dX2_about_33 rfl (lv_at hl 0 rfl) ?_
        refine va_get (D := (dC, dI)) (ci := 2) (v := .ref ars) (C := RX2) (T := TX2) (N := 14) hx hb ht iX2 hown hK hP 0 rfl rfl 9 (by decide) (ht _ g_335) (fun _ h9 => h9) rfl dX2_about_34 ?_
        refine lv_iload_n hx hb dX2_about_37 rfl (lv_at hl 1 rfl) ?_
        refine va_iald hx hb hK hP 5 0 rfl rfl (isReg c_2) dX2_about_38 ?_
        refine lv_iconst (v := 2) hx hb dX2_about_39 (by decide) ?_
        refine lv_icmp_ne (tgt := 47) hx hb dX2_about_40 (by decide) (fun c_7 => ?_) (fun c_7 => ?_)
        · refine lv_iconst (v := 0) hx hb dX2_about_47 (by decide) ?_
          refine lv_istore_n (lv' := [(3, .int 0), (0, .ref mx), (1, .int ip), (2, .int iq)]) hx hb dX2_about_48 rfl hl (by decide) rfl (fun ls hl => ?_)
          refine lv_aload_n hx hb dX2_about_49 rfl (lv_at hl 1 rfl) ?_
          refine va_get (D := (dC, dI)) (ci := 2) (v := .ref arv) (C := RX2) (T := TX2) (N := 14) hx hb ht iX2 hown hK hP 0 rfl rfl 10 (by decide) (ht _ g_336) (fun _ h9 => h9) rfl dX2_about_50 ?_
          refine lv_iload_n hx hb dX2_about_53 rfl (lv_at hl 2 rfl) ?_
          refine va_iald hx hb hK hP 6 0 rfl rfl (isReg c_2) dX2_about_54 ?_
          refine lv_istore (lv' := [(4, .int (rv ip.toNatClampNeg)), (3, .int 0), (0, .ref mx), (1, .int ip), (2, .int iq)]) hx hb dX2_about_55 hl (by decide) rfl (fun ls hl => ?_)
          refine lv_iload_n hx hb dX2_about_57 rfl (lv_at hl 4 rfl) ?_
          refine lv_if_ne (tgt := 72) hx hb dX2_about_58 (by decide) (fun c_8 => ?_) (fun c_8 => ?_)
          · refine lv_iload_n hx hb dX2_about_72 rfl (lv_at hl 4 rfl) ?_
            refine lv_iconst (v := 1) hx hb dX2_about_73 (by decide) ?_
            refine lv_icmp_ne (tgt := 88) hx hb dX2_about_74 (by decide) (fun c_9 => ?_) (fun c_9 => ?_)
            · refine lv_iload_n hx hb dX2_about_88 rfl (lv_at hl 1 rfl) ?_
              refine lv_if_ne (tgt := 94) hx hb dX2_about_89 (by decide) (fun h => absurd (by decide) h) (fun _ => ?_)
              refine lv_iconst (v := (-1)) hx hb dX2_about_92 (by decide) ?_
              have hP9 := hP.sub (ws' := [(mx, .inr (2, [.int 0, .int hf, .int us, .int col, .int mov, .ref aso, .ref ava, .ref ans, .ref anv, .ref ars, .ref arv, .int sty, .ref ast, .ref ago])), (aso, .inl (cI, 2100, .inl so)), (ava, .inl (cI, 2100, .inl va)), (ans, .inl (cI, 2100, .inl ns)), (anv, .inl (cI, 2100, .inl nv)), (ars, .inl (cI, 8, .inl rs)), (arv, .inl (cI, 8, .inl rv)), (ast, .inl (cI, 2100, .inl st)), (ago, .inl (cI, 2100, .inl go))]) [0, 1, 2, 3, 4, 5, 6, 7, 8] rfl
              have hD9 := hD.sub (ws' := [(mx, .inr (2, [.int 0, .int hf, .int us, .int col, .int mov, .ref aso, .ref ava, .ref ans, .ref anv, .ref ars, .ref arv, .int sty, .ref ast, .ref ago])), (aso, .inl (cI, 2100, .inl so)), (ava, .inl (cI, 2100, .inl va)), (ans, .inl (cI, 2100, .inl ns)), (anv, .inl (cI, 2100, .inl nv)), (ars, .inl (cI, 8, .inl rs)), (arv, .inl (cI, 8, .inl rv)), (ast, .inl (cI, 2100, .inl st)), (ago, .inl (cI, 2100, .inl go))]) [0, 1, 2, 3, 4, 5, 6, 7, 8] (by decide) rfl
              have hK9 := hK.sub (tys' := [(cI, .int)]) [0] rfl
              exact W.iret (v := (-1)) hx hb hr (fun t ht hW => ⟨⟨_, (0, us, col, mov, so, va, ns, nv, rs, rv, sty, st, go), rfl, (by simp only [fX2_about, if_neg c_2, if_neg c_3, if_pos c_6, if_neg c_7, if_neg c_8, if_neg c_9]), by rw [ht]; exact hP9, va_K.moved hW.alike hK9, hD9⟩, hS.F ht⟩) hS.2.2 dX2_about_93
            · refine lv_iload_n hx hb dX2_about_77 rfl (lv_at hl 1 rfl) ?_
              refine lv_if_eq (tgt := 85) hx hb dX2_about_78 (by decide) (fun _ => ?_) (fun h => absurd (by decide) h)
              refine lv_iload hx hb dX2_about_85 (lv_at hl 0 rfl) ?_
              have hP9 := hP.sub (ws' := [(mx, .inr (2, [.int 0, .int hf, .int us, .int col, .int mov, .ref aso, .ref ava, .ref ans, .ref anv, .ref ars, .ref arv, .int sty, .ref ast, .ref ago])), (aso, .inl (cI, 2100, .inl so)), (ava, .inl (cI, 2100, .inl va)), (ans, .inl (cI, 2100, .inl ns)), (anv, .inl (cI, 2100, .inl nv)), (ars, .inl (cI, 8, .inl rs)), (arv, .inl (cI, 8, .inl rv)), (ast, .inl (cI, 2100, .inl st)), (ago, .inl (cI, 2100, .inl go))]) [0, 1, 2, 3, 4, 5, 6, 7, 8] rfl
              have hD9 := hD.sub (ws' := [(mx, .inr (2, [.int 0, .int hf, .int us, .int col, .int mov, .ref aso, .ref ava, .ref ans, .ref anv, .ref ars, .ref arv, .int sty, .ref ast, .ref ago])), (aso, .inl (cI, 2100, .inl so)), (ava, .inl (cI, 2100, .inl va)), (ans, .inl (cI, 2100, .inl ns)), (anv, .inl (cI, 2100, .inl nv)), (ars, .inl (cI, 8, .inl rs)), (arv, .inl (cI, 8, .inl rv)), (ast, .inl (cI, 2100, .inl st)), (ago, .inl (cI, 2100, .inl go))]) [0, 1, 2, 3, 4, 5, 6, 7, 8] (by decide) rfl
              have hK9 := hK.sub (tys' := [(cI, .int)]) [0] rfl
              exact W.iret (v := rv ip.toNatClampNeg) hx hb hr (fun t ht hW => ⟨⟨_, (0, us, col, mov, so, va, ns, nv, rs, rv, sty, st, go), rfl, (by simp only [fX2_about, if_neg c_2, if_neg c_3, if_pos c_6, if_neg c_7, if_neg c_8, if_pos c_9]), by rw [ht]; exact hP9, va_K.moved hW.alike hK9, hD9⟩, hS.F ht⟩) hS.2.2 dX2_about_87
          · refine lv_iload_n hx hb dX2_about_61 rfl (lv_at hl 1 rfl) ?_
            refine lv_if_eq (tgt := 70) hx hb dX2_about_62 (by decide) (fun _ => ?_) (fun h => absurd (by decide) h)
            refine lv_iconst (v := (-1)) hx hb dX2_about_70 (by decide) ?_
            have hP9 := hP.sub (ws' := [(mx, .inr (2, [.int 0, .int hf, .int us, .int col, .int mov, .ref aso, .ref ava, .ref ans, .ref anv, .ref ars, .ref arv, .int sty, .ref ast, .ref ago])), (aso, .inl (cI, 2100, .inl so)), (ava, .inl (cI, 2100, .inl va)), (ans, .inl (cI, 2100, .inl ns)), (anv, .inl (cI, 2100, .inl nv)), (ars, .inl (cI, 8, .inl rs)), (arv, .inl (cI, 8, .inl rv)), (ast, .inl (cI, 2100, .inl st)), (ago, .inl (cI, 2100, .inl go))]) [0, 1, 2, 3, 4, 5, 6, 7, 8] rfl
            have hD9 := hD.sub (ws' := [(mx, .inr (2, [.int 0, .int hf, .int us, .int col, .int mov, .ref aso, .ref ava, .ref ans, .ref anv, .ref ars, .ref arv, .int sty, .ref ast, .ref ago])), (aso, .inl (cI, 2100, .inl so)), (ava, .inl (cI, 2100, .inl va)), (ans, .inl (cI, 2100, .inl ns)), (anv, .inl (cI, 2100, .inl nv)), (ars, .inl (cI, 8, .inl rs)), (arv, .inl (cI, 8, .inl rv)), (ast, .inl (cI, 2100, .inl st)), (ago, .inl (cI, 2100, .inl go))]) [0, 1, 2, 3, 4, 5, 6, 7, 8] (by decide) rfl
            have hK9 := hK.sub (tys' := [(cI, .int)]) [0] rfl
            exact W.iret (v := (-1)) hx hb hr (fun t ht hW => ⟨⟨_, (0, us, col, mov, so, va, ns, nv, rs, rv, sty, st, go), rfl, (by simp only [fX2_about, if_neg c_2, if_neg c_3, if_pos c_6, if_neg c_7, if_pos c_8]), by rw [ht]; exact hP9, va_K.moved hW.alike hK9, hD9⟩, hS.F ht⟩) hS.2.2 dX2_about_71
        · refine lv_iconst (v := 1) hx hb dX2_about_43 (by decide) ?_
          refine lv_goto (tgt := 48) hx hb dX2_about_44 (by decide) ?_
          refine lv_istore_n (lv' := [(3, .int 1), (0, .ref mx), (1, .int ip), (2, .int iq)]) hx hb dX2_about_48 rfl hl (by decide) rfl (fun ls hl => ?_)
          refine lv_aload_n hx hb dX2_about_49 rfl (lv_at hl 1 rfl) ?_
          refine va_get (D := (dC, dI)) (ci := 2) (v := .ref arv) (C := RX2) (T := TX2) (N := 14) hx hb ht iX2 hown hK hP 0 rfl rfl 10 (by decide) (ht _ g_336) (fun _ h9 => h9) rfl dX2_about_50 ?_
          refine lv_iload_n hx hb dX2_about_53 rfl (lv_at hl 2 rfl) ?_
          refine va_iald hx hb hK hP 6 0 rfl rfl (isReg c_2) dX2_about_54 ?_
          refine lv_istore (lv' := [(4, .int (rv ip.toNatClampNeg)), (3, .int 1), (0, .ref mx), (1, .int ip), (2, .int iq)]) hx hb dX2_about_55 hl (by decide) rfl (fun ls hl => ?_)
          refine lv_iload_n hx hb dX2_about_57 rfl (lv_at hl 4 rfl) ?_
          refine lv_if_ne (tgt := 72) hx hb dX2_about_58 (by decide) (fun c_10 => ?_) (fun c_10 => ?_)
          · refine lv_iload_n hx hb dX2_about_72 rfl (lv_at hl 4 rfl) ?_
            refine lv_iconst (v := 1) hx hb dX2_about_73 (by decide) ?_
            refine lv_icmp_ne (tgt := 88) hx hb dX2_about_74 (by decide) (fun c_11 => ?_) (fun c_11 => ?_)
            · refine lv_iload_n hx hb dX2_about_88 rfl (lv_at hl 1 rfl) ?_
              refine lv_if_ne (tgt := 94) hx hb dX2_about_89 (by decide) (fun _ => ?_) (fun h => absurd h (by decide))
              refine lv_iload_n hx hb dX2_about_94 rfl (lv_at hl 4 rfl) ?_
              refine lv_iconst (v := 2) hx hb dX2_about_95 (by decide) ?_
              refine lv_icmp_ne (tgt := 111) hx hb dX2_about_96 (by decide) (fun c_12 => ?_) (fun c_12 => ?_)
              · refine lv_aload_n hx hb dX2_about_111 rfl (lv_at hl 2 rfl) ?_
                refine lv_iload hx hb dX2_about_112 (lv_at hl 0 rfl) ?_
                have hPc := hP.sub (ws' := [(mx, .inr (2, [.int 0, .int hf, .int us, .int col, .int mov, .ref aso, .ref ava, .ref ans, .ref anv, .ref ars, .ref arv, .int sty, .ref ast, .ref ago])), (aso, .inl (cI, 2100, .inl so)), (ava, .inl (cI, 2100, .inl va)), (ans, .inl (cI, 2100, .inl ns)), (anv, .inl (cI, 2100, .inl nv)), (ars, .inl (cI, 8, .inl rs)), (arv, .inl (cI, 8, .inl rv)), (ast, .inl (cI, 2100, .inl st)), (ago, .inl (cI, 2100, .inl go))]) [0, 1, 2, 3, 4, 5, 6, 7, 8] rfl
                have hKc := hK.sub (tys' := [(cI, .int)]) [0] rfl
                refine vp_callSi (va_runV (As := [.int (rv ip.toNatClampNeg)]) (rest := []) ⟨hx, hb, hml, hown, ht⟩ (ctX2_fieldsAt l dC dI cI mx aso ava ans anv ars arv ast ago 0 hf us col mov sty so va ns nv rs rv st go (rv ip.toNatClampNeg) (hrv _ (isReg c_2) c_7)) (cwV 1 ht gcX2_44 rfl rfl rfl (by decide +kernel) ⟨Nat.le_of_ble_eq_true rfl, Nat.le_of_ble_eq_true rfl⟩) ⟨pS.blind, va_recv hKc hPc (ci := 2) (q0 := 0) rfl rfl, pS.call hPc hKc hE⟩ rfl rfl hl.1 rfl (lv_room (Nat.le_of_ble_eq_true rfl)) dX2_about_114 ⟨Nat.le_of_ble_eq_true rfl, Nat.le_of_ble_eq_true rfl⟩).run (fun r_13 hr_13 => ?_)
                subst hr_13
                have hP9 := hP.sub (ws' := [(mx, .inr (2, [.int 0, .int hf, .int us, .int col, .int mov, .ref aso, .ref ava, .ref ans, .ref anv, .ref ars, .ref arv, .int sty, .ref ast, .ref ago])), (aso, .inl (cI, 2100, .inl so)), (ava, .inl (cI, 2100, .inl va)), (ans, .inl (cI, 2100, .inl ns)), (anv, .inl (cI, 2100, .inl nv)), (ars, .inl (cI, 8, .inl rs)), (arv, .inl (cI, 8, .inl rv)), (ast, .inl (cI, 2100, .inl st)), (ago, .inl (cI, 2100, .inl go))]) [0, 1, 2, 3, 4, 5, 6, 7, 8] rfl
                have hD9 := hD.sub (ws' := [(mx, .inr (2, [.int 0, .int hf, .int us, .int col, .int mov, .ref aso, .ref ava, .ref ans, .ref anv, .ref ars, .ref arv, .int sty, .ref ast, .ref ago])), (aso, .inl (cI, 2100, .inl so)), (ava, .inl (cI, 2100, .inl va)), (ans, .inl (cI, 2100, .inl ns)), (anv, .inl (cI, 2100, .inl nv)), (ars, .inl (cI, 8, .inl rs)), (arv, .inl (cI, 8, .inl rv)), (ast, .inl (cI, 2100, .inl st)), (ago, .inl (cI, 2100, .inl go))]) [0, 1, 2, 3, 4, 5, 6, 7, 8] (by decide) rfl
                have hK9 := hK.sub (tys' := [(cI, .int)]) [0] rfl
                exact W.iret (v := fX2_fieldsAt va (rv ip.toNatClampNeg)) hx hb hr (fun t ht hW => ⟨⟨_, (0, us, col, mov, so, va, ns, nv, rs, rv, sty, st, go), rfl, (by simp only [fX2_about, if_neg c_2, if_neg c_3, if_pos c_6, if_pos c_7, if_neg c_10, if_neg c_11, if_neg c_12]), by rw [ht]; exact hP9, va_K.moved hW.alike hK9, hD9⟩, hS.F ht⟩) hS.2.2 dX2_about_117
              · refine lv_aload_n hx hb dX2_about_99 rfl (lv_at hl 2 rfl) ?_
                refine va_get (D := (dC, dI)) (ci := 2) (v := .ref ava) (C := RX2) (T := TX2) (N := 14) hx hb ht iX2 hown hK hP 0 rfl rfl 6 (by decide) (ht _ g_332) (fun _ h9 => h9) rfl dX2_about_100 ?_
                refine lv_iload hx hb dX2_about_103 (lv_at hl 0 rfl) ?_
                refine va_iald hx hb hK hP 2 0 rfl rfl (hrv _ (isReg c_2) c_7) dX2_about_105 ?_
                refine lv_iconst (v := 1) hx hb dX2_about_106 (by decide) ?_
                refine lv_iand hx hb dX2_about_107 ?_
                refine lv_goto (tgt := 117) hx hb dX2_about_108 (by decide) ?_
                have hP9 := hP.sub (ws' := [(mx, .inr (2, [.int 0, .int hf, .int us, .int col, .int mov, .ref aso, .ref ava, .ref ans, .ref anv, .ref ars, .ref arv, .int sty, .ref ast, .ref ago])), (aso, .inl (cI, 2100, .inl so)), (ava, .inl (cI, 2100, .inl va)), (ans, .inl (cI, 2100, .inl ns)), (anv, .inl (cI, 2100, .inl nv)), (ars, .inl (cI, 8, .inl rs)), (arv, .inl (cI, 8, .inl rv)), (ast, .inl (cI, 2100, .inl st)), (ago, .inl (cI, 2100, .inl go))]) [0, 1, 2, 3, 4, 5, 6, 7, 8] rfl
                have hD9 := hD.sub (ws' := [(mx, .inr (2, [.int 0, .int hf, .int us, .int col, .int mov, .ref aso, .ref ava, .ref ans, .ref anv, .ref ars, .ref arv, .int sty, .ref ast, .ref ago])), (aso, .inl (cI, 2100, .inl so)), (ava, .inl (cI, 2100, .inl va)), (ans, .inl (cI, 2100, .inl ns)), (anv, .inl (cI, 2100, .inl nv)), (ars, .inl (cI, 8, .inl rs)), (arv, .inl (cI, 8, .inl rv)), (ast, .inl (cI, 2100, .inl st)), (ago, .inl (cI, 2100, .inl go))]) [0, 1, 2, 3, 4, 5, 6, 7, 8] (by decide) rfl
                have hK9 := hK.sub (tys' := [(cI, .int)]) [0] rfl
                exact W.iret (v := (va (rv ip.toNatClampNeg).toNatClampNeg) &&& 1) hx hb hr (fun t ht hW => ⟨⟨_, (0, us, col, mov, so, va, ns, nv, rs, rv, sty, st, go), rfl, (by simp only [fX2_about, if_neg c_2, if_neg c_3, if_pos c_6, if_pos c_7, if_neg c_10, if_neg c_11, if_pos c_12]), by rw [ht]; exact hP9, va_K.moved hW.alike hK9, hD9⟩, hS.F ht⟩) hS.2.2 dX2_about_117
            · refine lv_iload_n hx hb dX2_about_77 rfl (lv_at hl 1 rfl) ?_
              refine lv_if_eq (tgt := 85) hx hb dX2_about_78 (by decide) (fun h => absurd h (by decide)) (fun _ => ?_)
              refine lv_iconst (v := 0) hx hb dX2_about_81 (by decide) ?_
              refine lv_goto (tgt := 87) hx hb dX2_about_82 (by decide) ?_
              have hP9 := hP.sub (ws' := [(mx, .inr (2, [.int 0, .int hf, .int us, .int col, .int mov, .ref aso, .ref ava, .ref ans, .ref anv, .ref ars, .ref arv, .int sty, .ref ast, .ref ago])), (aso, .inl (cI, 2100, .inl so)), (ava, .inl (cI, 2100, .inl va)), (ans, .inl (cI, 2100, .inl ns)), (anv, .inl (cI, 2100, .inl nv)), (ars, .inl (cI, 8, .inl rs)), (arv, .inl (cI, 8, .inl rv)), (ast, .inl (cI, 2100, .inl st)), (ago, .inl (cI, 2100, .inl go))]) [0, 1, 2, 3, 4, 5, 6, 7, 8] rfl
              have hD9 := hD.sub (ws' := [(mx, .inr (2, [.int 0, .int hf, .int us, .int col, .int mov, .ref aso, .ref ava, .ref ans, .ref anv, .ref ars, .ref arv, .int sty, .ref ast, .ref ago])), (aso, .inl (cI, 2100, .inl so)), (ava, .inl (cI, 2100, .inl va)), (ans, .inl (cI, 2100, .inl ns)), (anv, .inl (cI, 2100, .inl nv)), (ars, .inl (cI, 8, .inl rs)), (arv, .inl (cI, 8, .inl rv)), (ast, .inl (cI, 2100, .inl st)), (ago, .inl (cI, 2100, .inl go))]) [0, 1, 2, 3, 4, 5, 6, 7, 8] (by decide) rfl
              have hK9 := hK.sub (tys' := [(cI, .int)]) [0] rfl
              exact W.iret (v := 0) hx hb hr (fun t ht hW => ⟨⟨_, (0, us, col, mov, so, va, ns, nv, rs, rv, sty, st, go), rfl, (by simp only [fX2_about, if_neg c_2, if_neg c_3, if_pos c_6, if_pos c_7, if_neg c_10, if_pos c_11]), by rw [ht]; exact hP9, va_K.moved hW.alike hK9, hD9⟩, hS.F ht⟩) hS.2.2 dX2_about_87
          · refine lv_iload_n hx hb dX2_about_61 rfl (lv_at hl 1 rfl) ?_
            refine lv_if_eq (tgt := 70) hx hb dX2_about_62 (by decide) (fun h => absurd h (by decide)) (fun _ => ?_)
            refine lv_iload hx hb dX2_about_65 (lv_at hl 0 rfl) ?_
            refine lv_goto (tgt := 71) hx hb dX2_about_67 (by decide) ?_
            have hP9 := hP.sub (ws' := [(mx, .inr (2, [.int 0, .int hf, .int us, .int col, .int mov, .ref aso, .ref ava, .ref ans, .ref anv, .ref ars, .ref arv, .int sty, .ref ast, .ref ago])), (aso, .inl (cI, 2100, .inl so)), (ava, .inl (cI, 2100, .inl va)), (ans, .inl (cI, 2100, .inl ns)), (anv, .inl (cI, 2100, .inl nv)), (ars, .inl (cI, 8, .inl rs)), (arv, .inl (cI, 8, .inl rv)), (ast, .inl (cI, 2100, .inl st)), (ago, .inl (cI, 2100, .inl go))]) [0, 1, 2, 3, 4, 5, 6, 7, 8] rfl
            have hD9 := hD.sub (ws' := [(mx, .inr (2, [.int 0, .int hf, .int us, .int col, .int mov, .ref aso, .ref ava, .ref ans, .ref anv, .ref ars, .ref arv, .int sty, .ref ast, .ref ago])), (aso, .inl (cI, 2100, .inl so)), (ava, .inl (cI, 2100, .inl va)), (ans, .inl (cI, 2100, .inl ns)), (anv, .inl (cI, 2100, .inl nv)), (ars, .inl (cI, 8, .inl rs)), (arv, .inl (cI, 8, .inl rv)), (ast, .inl (cI, 2100, .inl st)), (ago, .inl (cI, 2100, .inl go))]) [0, 1, 2, 3, 4, 5, 6, 7, 8] (by decide) rfl
            have hK9 := hK.sub (tys' := [(cI, .int)]) [0] rfl
            exact W.iret (v := rv ip.toNatClampNeg) hx hb hr (fun t ht hW => ⟨⟨_, (0, us, col, mov, so, va, ns, nv, rs, rv, sty, st, go), rfl, (by simp only [fX2_about, if_neg c_2, if_neg c_3, if_pos c_6, if_pos c_7, if_pos c_10]), by rw [ht]; exact hP9, va_K.moved hW.alike hK9, hD9⟩, hS.F ht⟩) hS.2.2 dX2_about_71
      · refine lv_aload_n hx hb dX2_about_27 rfl (lv_at hl 0 rfl) ?_
        refine lv_iconst (v := 2) hx hb dX2_about_28 (by decide) ?_
        have hPc := hP.sub (ws' := [(mx, .inr (2, [.int 0, .int hf, .int us, .int col, .int mov, .ref aso, .ref ava, .ref ans, .ref anv, .ref ars, .ref arv, .int sty, .ref ast, .ref ago])), (aso, .inl (cI, 2100, .inl so)), (ava, .inl (cI, 2100, .inl va)), (ans, .inl (cI, 2100, .inl ns)), (anv, .inl (cI, 2100, .inl nv)), (ars, .inl (cI, 8, .inl rs)), (arv, .inl (cI, 8, .inl rv)), (ast, .inl (cI, 2100, .inl st)), (ago, .inl (cI, 2100, .inl go))]) [0, 1, 2, 3, 4, 5, 6, 7, 8] rfl
        have hKc := hK.sub (tys' := [(cI, .int)]) [0] rfl
        have hDc := hD.sub (ws' := [(mx, .inr (2, [.int 0, .int hf, .int us, .int col, .int mov, .ref aso, .ref ava, .ref ans, .ref anv, .ref ars, .ref arv, .int sty, .ref ast, .ref ago])), (aso, .inl (cI, 2100, .inl so)), (ava, .inl (cI, 2100, .inl va)), (ans, .inl (cI, 2100, .inl ns)), (anv, .inl (cI, 2100, .inl nv)), (ars, .inl (cI, 8, .inl rs)), (arv, .inl (cI, 8, .inl rv)), (ast, .inl (cI, 2100, .inl st)), (ago, .inl (cI, 2100, .inl go))]) [0, 1, 2, 3, 4, 5, 6, 7, 8] (by decide) rfl
        have hFc := va_free (wc := [(mx, .inr (2, [.int 0, .int hf, .int us, .int col, .int mov, .ref aso, .ref ava, .ref ans, .ref anv, .ref ars, .ref arv, .int sty, .ref ast, .ref ago])), (aso, .inl (cI, 2100, .inl so)), (ava, .inl (cI, 2100, .inl va)), (ans, .inl (cI, 2100, .inl ns)), (anv, .inl (cI, 2100, .inl nv)), (ars, .inl (cI, 8, .inl rs)), (arv, .inl (cI, 8, .inl rv)), (ast, .inl (cI, 2100, .inl st)), (ago, .inl (cI, 2100, .inl go))]) hD hS hA [0, 1, 2, 3, 4, 5, 6, 7, 8] rfl
        refine va_calli (va_runV (As := [.int 2]) (rest := []) ⟨hx, hb, hml, hown, ht⟩ (ctX2_fail l dC dI cI mx aso ava ans anv ars arv ast ago 0 hf us col mov sty so va ns nv rs rv st go 2 _ ) (cwV 1 ht gcX2_69 rfl rfl rfl (by decide +kernel) ⟨Nat.le_of_ble_eq_true rfl, Nat.le_of_ble_eq_true rfl⟩) ⟨pM.blind, va_recv hKc hPc (ci := 2) (q0 := 0) rfl rfl, pM.call hPc hKc hDc hE⟩ rfl rfl hl.1 rfl (lv_room (Nat.le_of_ble_eq_true rfl)) dX2_about_29 ⟨Nat.le_of_ble_eq_true rfl, Nat.le_of_ble_eq_true rfl⟩) hS (fun q _ h => hFc q h) hFc (fun r_15 u_14 t H1 locs ht9 hvm hw hB hz1 hk1 hS => ?_)
        obtain ⟨rfl, rfl⟩ : r_15 = 0 ∧ u_14 = (2, us, col, mov, so, va, ns, nv, rs, rv, sty, st, go) := ⟨(Prod.mk.inj hw).1, (Prod.mk.inj hw).2⟩
        obtain ⟨hP1, hK1, hD1⟩ := hB
        rw [ht9] at hP1
        obtain ⟨hP, hD⟩ := va_join (wr := []) (w1 := [(mx, .inr (2, [.int 2, .int hf, .int us, .int col, .int mov, .ref aso, .ref ava, .ref ans, .ref anv, .ref ars, .ref arv, .int sty, .ref ast, .ref ago])), (aso, .inl (cI, 2100, .inl so)), (ava, .inl (cI, 2100, .inl va)), (ans, .inl (cI, 2100, .inl ns)), (anv, .inl (cI, 2100, .inl nv)), (ars, .inl (cI, 8, .inl rs)), (arv, .inl (cI, 8, .inl rv)), (ast, .inl (cI, 2100, .inl st)), (ago, .inl (cI, 2100, .inl go))]) hP hD [0, 1, 2, 3, 4, 5, 6, 7, 8] [] rfl rfl (by decide) (by decide) hk1 hFc hP1 hD1
        generalize H1 = H at hP hS ⊢
        have hP := hP.sub (ws' := [(mx, .inr (2, [.int 2, .int hf, .int us, .int col, .int mov, .ref aso, .ref ava, .ref ans, .ref anv, .ref ars, .ref arv, .int sty, .ref ast, .ref ago])), (aso, .inl (cI, 2100, .inl so)), (ava, .inl (cI, 2100, .inl va)), (ans, .inl (cI, 2100, .inl ns)), (anv, .inl (cI, 2100, .inl nv)), (ars, .inl (cI, 8, .inl rs)), (arv, .inl (cI, 8, .inl rv)), (ast, .inl (cI, 2100, .inl st)), (ago, .inl (cI, 2100, .inl go))]) [0, 1, 2, 3, 4, 5, 6, 7, 8] rfl
        have hD := hD.sub (ws' := [(mx, .inr (2, [.int 2, .int hf, .int us, .int col, .int mov, .ref aso, .ref ava, .ref ans, .ref anv, .ref ars, .ref arv, .int sty, .ref ast, .ref ago])), (aso, .inl (cI, 2100, .inl so)), (ava, .inl (cI, 2100, .inl va)), (ans, .inl (cI, 2100, .inl ns)), (anv, .inl (cI, 2100, .inl nv)), (ars, .inl (cI, 8, .inl rs)), (arv, .inl (cI, 8, .inl rv)), (ast, .inl (cI, 2100, .inl st)), (ago, .inl (cI, 2100, .inl go))]) [0, 1, 2, 3, 4, 5, 6, 7, 8] (by decide) rfl
        have hP9 := hP.sub (ws' := [(mx, .inr (2, [.int 2, .int hf, .int us, .int col, .int mov, .ref aso, .ref ava, .ref ans, .ref anv, .ref ars, .ref arv, .int sty, .ref ast, .ref ago])), (aso, .inl (cI, 2100, .inl so)), (ava, .inl (cI, 2100, .inl va)), (ans, .inl (cI, 2100, .inl ns)), (anv, .inl (cI, 2100, .inl nv)), (ars, .inl (cI, 8, .inl rs)), (arv, .inl (cI, 8, .inl rv)), (ast, .inl (cI, 2100, .inl st)), (ago, .inl (cI, 2100, .inl go))]) [0, 1, 2, 3, 4, 5, 6, 7, 8] rfl
        have hD9 := hD.sub (ws' := [(mx, .inr (2, [.int 2, .int hf, .int us, .int col, .int mov, .ref aso, .ref ava, .ref ans, .ref anv, .ref ars, .ref arv, .int sty, .ref ast, .ref ago])), (aso, .inl (cI, 2100, .inl so)), (ava, .inl (cI, 2100, .inl va)), (ans, .inl (cI, 2100, .inl ns)), (anv, .inl (cI, 2100, .inl nv)), (ars, .inl (cI, 8, .inl rs)), (arv, .inl (cI, 8, .inl rv)), (ast, .inl (cI, 2100, .inl st)), (ago, .inl (cI, 2100, .inl go))]) [0, 1, 2, 3, 4, 5, 6, 7, 8] (by decide) rfl
        have hK9 := hK.sub (tys' := [(cI, .int)]) [0] rfl
        exact W.iret (v := 0) hx hb hr (fun t ht hW => ⟨⟨_, (2, us, col, mov, so, va, ns, nv, rs, rv, sty, st, go), rfl, (by simp only [fX2_about, if_neg c_2, if_neg c_3, if_neg c_6]), by rw [ht]; exact hP9, va_K.moved hW.alike hK9, hD9⟩, hS.F ht⟩) hS.2.2 dX2_about_32
  · refine lv_aload_n hx hb dX2_about_12 rfl (lv_at hl 0 rfl) ?_
    refine lv_iconst (v := 1) hx hb dX2_about_13 (by decide) ?_
    have hPc := hP.sub (ws' := [(mx, .inr (2, [.int 0, .int hf, .int us, .int col, .int mov, .ref aso, .ref ava, .ref ans, .ref anv, .ref ars, .ref arv, .int sty, .ref ast, .ref ago])), (aso, .inl (cI, 2100, .inl so)), (ava, .inl (cI, 2100, .inl va)), (ans, .inl (cI, 2100, .inl ns)), (anv, .inl (cI, 2100, .inl nv)), (ars, .inl (cI, 8, .inl rs)), (arv, .inl (cI, 8, .inl rv)), (ast, .inl (cI, 2100, .inl st)), (ago, .inl (cI, 2100, .inl go))]) [0, 1, 2, 3, 4, 5, 6, 7, 8] rfl
    have hKc := hK.sub (tys' := [(cI, .int)]) [0] rfl
    have hDc := hD.sub (ws' := [(mx, .inr (2, [.int 0, .int hf, .int us, .int col, .int mov, .ref aso, .ref ava, .ref ans, .ref anv, .ref ars, .ref arv, .int sty, .ref ast, .ref ago])), (aso, .inl (cI, 2100, .inl so)), (ava, .inl (cI, 2100, .inl va)), (ans, .inl (cI, 2100, .inl ns)), (anv, .inl (cI, 2100, .inl nv)), (ars, .inl (cI, 8, .inl rs)), (arv, .inl (cI, 8, .inl rv)), (ast, .inl (cI, 2100, .inl st)), (ago, .inl (cI, 2100, .inl go))]) [0, 1, 2, 3, 4, 5, 6, 7, 8] (by decide) rfl
    have hFc := va_free (wc := [(mx, .inr (2, [.int 0, .int hf, .int us, .int col, .int mov, .ref aso, .ref ava, .ref ans, .ref anv, .ref ars, .ref arv, .int sty, .ref ast, .ref ago])), (aso, .inl (cI, 2100, .inl so)), (ava, .inl (cI, 2100, .inl va)), (ans, .inl (cI, 2100, .inl ns)), (anv, .inl (cI, 2100, .inl nv)), (ars, .inl (cI, 8, .inl rs)), (arv, .inl (cI, 8, .inl rv)), (ast, .inl (cI, 2100, .inl st)), (ago, .inl (cI, 2100, .inl go))]) hD hS hA [0, 1, 2, 3, 4, 5, 6, 7, 8] rfl
    refine va_calli (va_runV (As := [.int 1]) (rest := []) ⟨hx, hb, hml, hown, ht⟩ (ctX2_fail l dC dI cI mx aso ava ans anv ars arv ast ago 0 hf us col mov sty so va ns nv rs rv st go 1 _ ) (cwV 1 ht gcX2_69 rfl rfl rfl (by decide +kernel) ⟨Nat.le_of_ble_eq_true rfl, Nat.le_of_ble_eq_true rfl⟩) ⟨pM.blind, va_recv hKc hPc (ci := 2) (q0 := 0) rfl rfl, pM.call hPc hKc hDc hE⟩ rfl rfl hl.1 rfl (lv_room (Nat.le_of_ble_eq_true rfl)) dX2_about_14 ⟨Nat.le_of_ble_eq_true rfl, Nat.le_of_ble_eq_true rfl⟩) hS (fun q _ h => hFc q h) hFc (fun r_17 u_16 t H1 locs ht9 hvm hw hB hz1 hk1 hS => ?_)
    obtain ⟨rfl, rfl⟩ : r_17 = 0 ∧ u_16 = (1, us, col, mov, so, va, ns, nv, rs, rv, sty, st, go) := ⟨(Prod.mk.inj hw).1, (Prod.mk.inj hw).2⟩
    obtain ⟨hP1, hK1, hD1⟩ := hB
    rw [ht9] at hP1
    obtain ⟨hP, hD⟩ := va_join (wr := []) (w1 := [(mx, .inr (2, [.int 1, .int hf, .int us, .int col, .int mov, .ref aso, .ref ava, .ref ans, .ref anv, .ref ars, .ref arv, .int sty, .ref ast, .ref ago])), (aso, .inl (cI, 2100, .inl so)), (ava, .inl (cI, 2100, .inl va)), (ans, .inl (cI, 2100, .inl ns)), (anv, .inl (cI, 2100, .inl nv)), (ars, .inl (cI, 8, .inl rs)), (arv, .inl (cI, 8, .inl rv)), (ast, .inl (cI, 2100, .inl st)), (ago, .inl (cI, 2100, .inl go))]) hP hD [0, 1, 2, 3, 4, 5, 6, 7, 8] [] rfl rfl (by decide) (by decide) hk1 hFc hP1 hD1
    generalize H1 = H at hP hS ⊢
    have hP := hP.sub (ws' := [(mx, .inr (2, [.int 1, .int hf, .int us, .int col, .int mov, .ref aso, .ref ava, .ref ans, .ref anv, .ref ars, .ref arv, .int sty, .ref ast, .ref ago])), (aso, .inl (cI, 2100, .inl so)), (ava, .inl (cI, 2100, .inl va)), (ans, .inl (cI, 2100, .inl ns)), (anv, .inl (cI, 2100, .inl nv)), (ars, .inl (cI, 8, .inl rs)), (arv, .inl (cI, 8, .inl rv)), (ast, .inl (cI, 2100, .inl st)), (ago, .inl (cI, 2100, .inl go))]) [0, 1, 2, 3, 4, 5, 6, 7, 8] rfl
    have hD := hD.sub (ws' := [(mx, .inr (2, [.int 1, .int hf, .int us, .int col, .int mov, .ref aso, .ref ava, .ref ans, .ref anv, .ref ars, .ref arv, .int sty, .ref ast, .ref ago])), (aso, .inl (cI, 2100, .inl so)), (ava, .inl (cI, 2100, .inl va)), (ans, .inl (cI, 2100, .inl ns)), (anv, .inl (cI, 2100, .inl nv)), (ars, .inl (cI, 8, .inl rs)), (arv, .inl (cI, 8, .inl rv)), (ast, .inl (cI, 2100, .inl st)), (ago, .inl (cI, 2100, .inl go))]) [0, 1, 2, 3, 4, 5, 6, 7, 8] (by decide) rfl
    have hP9 := hP.sub (ws' := [(mx, .inr (2, [.int 1, .int hf, .int us, .int col, .int mov, .ref aso, .ref ava, .ref ans, .ref anv, .ref ars, .ref arv, .int sty, .ref ast, .ref ago])), (aso, .inl (cI, 2100, .inl so)), (ava, .inl (cI, 2100, .inl va)), (ans, .inl (cI, 2100, .inl ns)), (anv, .inl (cI, 2100, .inl nv)), (ars, .inl (cI, 8, .inl rs)), (arv, .inl (cI, 8, .inl rv)), (ast, .inl (cI, 2100, .inl st)), (ago, .inl (cI, 2100, .inl go))]) [0, 1, 2, 3, 4, 5, 6, 7, 8] rfl
    have hD9 := hD.sub (ws' := [(mx, .inr (2, [.int 1, .int hf, .int us, .int col, .int mov, .ref aso, .ref ava, .ref ans, .ref anv, .ref ars, .ref arv, .int sty, .ref ast, .ref ago])), (aso, .inl (cI, 2100, .inl so)), (ava, .inl (cI, 2100, .inl va)), (ans, .inl (cI, 2100, .inl ns)), (anv, .inl (cI, 2100, .inl nv)), (ars, .inl (cI, 8, .inl rs)), (arv, .inl (cI, 8, .inl rv)), (ast, .inl (cI, 2100, .inl st)), (ago, .inl (cI, 2100, .inl go))]) [0, 1, 2, 3, 4, 5, 6, 7, 8] (by decide) rfl
    have hK9 := hK.sub (tys' := [(cI, .int)]) [0] rfl
    exact W.iret (v := 0) hx hb hr (fun t ht hW => ⟨⟨_, (1, us, col, mov, so, va, ns, nv, rs, rv, sty, st, go), rfl, (by simp only [fX2_about, if_pos c_2]), by rw [ht]; exact hP9, va_K.moved hW.alike hK9, hD9⟩, hS.F ht⟩) hS.2.2 dX2_about_17
def fX2_look (th : Int32) (us : Int32) (col : Int32) (mov : Int32) (so : Nat → Int32) (va : Nat → Int32) (ns : Nat → Int32) (nv : Nat → Int32) (rs : Nat → Int32) (rv : Nat → Int32) (sty : Int32) (st : Nat → Int32) (go : Nat → Int32) (ip : Int32) (iq : Int32) : Int32 × Int32 × Int32 × Int32 × Int32 × (Nat → Int32) × (Nat → Int32) × (Nat → Int32) × (Nat → Int32) × (Nat → Int32) × (Nat → Int32) × Int32 × (Nat → Int32) × (Nat → Int32) := (if ip < 0 then (0, (1, us, col, mov, so, va, ns, nv, rs, rv, sty, st, go)) else (if us ≤ ip then (0, (1, us, col, mov, so, va, ns, nv, rs, rv, sty, st, go)) else (if iq < 0 then (0, (1, us, col, mov, so, va, ns, nv, rs, rv, sty, st, go)) else (if iq ≤ 1 then (if iq = 0 then (so ip.toNatClampNeg, (0, us, col, mov, so, va, ns, nv, rs, rv, sty, st, go)) else (va ip.toNatClampNeg, (0, us, col, mov, so, va, ns, nv, rs, rv, sty, st, go))) else (0, (1, us, col, mov, so, va, ns, nv, rs, rv, sty, st, go))))))
abbrev atX2_look (dC : Nat → ClassId) (dI : Nat → Nat → Nat) (cI : ClassId) (A : Nat → Prop) (mx : Nat) (aso : Nat) (ava : Nat) (ans : Nat) (anv : Nat) (ars : Nat) (arv : Nat) (ast : Nat) (ago : Nat) (hf : Int32) (u : Int32 × Int32 × Int32 × Int32 × (Nat → Int32) × (Nat → Int32) × (Nat → Int32) × (Nat → Int32) × (Nat → Int32) × (Nat → Int32) × Int32 × (Nat → Int32) × (Nat → Int32)) (t : State) : Prop := va_P (dC, dI) vwCl [(mx, .inr (2, [.int u.1, .int hf, .int u.2.1, .int u.2.2.1, .int u.2.2.2.1, .ref aso, .ref ava, .ref ans, .ref anv, .ref ars, .ref arv, .int u.2.2.2.2.2.2.2.2.2.2.1, .ref ast, .ref ago])), (aso, .inl (cI, 2100, .inl u.2.2.2.2.1)), (ava, .inl (cI, 2100, .inl u.2.2.2.2.2.1)), (ans, .inl (cI, 2100, .inl u.2.2.2.2.2.2.1)), (anv, .inl (cI, 2100, .inl u.2.2.2.2.2.2.2.1)), (ars, .inl (cI, 8, .inl u.2.2.2.2.2.2.2.2.1)), (arv, .inl (cI, 8, .inl u.2.2.2.2.2.2.2.2.2.1)), (ast, .inl (cI, 2100, .inl u.2.2.2.2.2.2.2.2.2.2.2.1)), (ago, .inl (cI, 2100, .inl u.2.2.2.2.2.2.2.2.2.2.2.2))] t.heap ∧ va_K (dC, dI) vwCl [(cI, .int)] t ∧ va_D A [(mx, .inr (2, [.int u.1, .int hf, .int u.2.1, .int u.2.2.1, .int u.2.2.2.1, .ref aso, .ref ava, .ref ans, .ref anv, .ref ars, .ref arv, .int u.2.2.2.2.2.2.2.2.2.2.1, .ref ast, .ref ago])), (aso, .inl (cI, 2100, .inl u.2.2.2.2.1)), (ava, .inl (cI, 2100, .inl u.2.2.2.2.2.1)), (ans, .inl (cI, 2100, .inl u.2.2.2.2.2.2.1)), (anv, .inl (cI, 2100, .inl u.2.2.2.2.2.2.2.1)), (ars, .inl (cI, 8, .inl u.2.2.2.2.2.2.2.2.1)), (arv, .inl (cI, 8, .inl u.2.2.2.2.2.2.2.2.2.1)), (ast, .inl (cI, 2100, .inl u.2.2.2.2.2.2.2.2.2.2.2.1)), (ago, .inl (cI, 2100, .inl u.2.2.2.2.2.2.2.2.2.2.2.2))]
set_option maxHeartbeats 4000000 in
set_option maxRecDepth 100000 in
theorem ctX2_look (l : Launch) (dC : Nat → ClassId) (dI : Nat → Nat → Nat) (cI : ClassId) (mx : Nat) (aso : Nat) (ava : Nat) (ans : Nat) (anv : Nat) (ars : Nat) (arv : Nat) (ast : Nat) (ago : Nat) (th : Int32) (hf : Int32) (us : Int32) (col : Int32) (mov : Int32) (sty : Int32) (so : Nat → Int32) (va : Nat → Int32) (ns : Nat → Int32) (nv : Nat → Int32) (rs : Nat → Int32) (rv : Nat → Int32) (st : Nat → Int32) (go : Nat → Int32) (ip : Int32) (iq : Int32) (sz : Nat) (hul : ∀ i : Int32, ¬ i < 0 → ¬ us ≤ i → vp_in i 2100) : Met l yX2_look (kX2_look :: gT) ({ frames := 1, cells := 0, slots := 0, locals := 21 }) (va_Pc [.ref mx, .int ip, .int iq] (pM (dC, dI) [(mx, .inr (2, [.int th, .int hf, .int us, .int col, .int mov, .ref aso, .ref ava, .ref ans, .ref anv, .ref ars, .ref arv, .int sty, .ref ast, .ref ago])), (aso, .inl (cI, 2100, .inl so)), (ava, .inl (cI, 2100, .inl va)), (ans, .inl (cI, 2100, .inl ns)), (anv, .inl (cI, 2100, .inl nv)), (ars, .inl (cI, 8, .inl rs)), (arv, .inl (cI, 8, .inl rv)), (ast, .inl (cI, 2100, .inl st)), (ago, .inl (cI, 2100, .inl go))] [(cI, .int)] sz)) (va_Qi (fun (r : Int32) (u : Int32 × Int32 × Int32 × Int32 × (Nat → Int32) × (Nat → Int32) × (Nat → Int32) × (Nat → Int32) × (Nat → Int32) × (Nat → Int32) × Int32 × (Nat → Int32) × (Nat → Int32)) => (r, u) = fX2_look th us col mov so va ns nv rs rv sty st go ip iq) (atX2_look dC dI cI (va_A [(mx, .inr (2, [.int th, .int hf, .int us, .int col, .int mov, .ref aso, .ref ava, .ref ans, .ref anv, .ref ars, .ref arv, .int sty, .ref ast, .ref ago])), (aso, .inl (cI, 2100, .inl so)), (ava, .inl (cI, 2100, .inl va)), (ans, .inl (cI, 2100, .inl ns)), (anv, .inl (cI, 2100, .inl nv)), (ars, .inl (cI, 8, .inl rs)), (arv, .inl (cI, 8, .inl rv)), (ast, .inl (cI, 2100, .inl st)), (ago, .inl (cI, 2100, .inl go))] sz) mx aso ava ans anv ars arv ast ago hf) (va_A [(mx, .inr (2, [.int th, .int hf, .int us, .int col, .int mov, .ref aso, .ref ava, .ref ans, .ref anv, .ref ars, .ref arv, .int sty, .ref ast, .ref ago])), (aso, .inl (cI, 2100, .inl so)), (ava, .inl (cI, 2100, .inl va)), (ans, .inl (cI, 2100, .inl ns)), (anv, .inl (cI, 2100, .inl nv)), (ars, .inl (cI, 8, .inl rs)), (arv, .inl (cI, 8, .inl rv)), (ast, .inl (cI, 2100, .inl st)), (ago, .inl (cI, 2100, .inl go))] sz)) 0 0 (va_A [(mx, .inr (2, [.int th, .int hf, .int us, .int col, .int mov, .ref aso, .ref ava, .ref ans, .ref anv, .ref ars, .ref arv, .int sty, .ref ast, .ref ago])), (aso, .inl (cI, 2100, .inl so)), (ava, .inl (cI, 2100, .inl va)), (ans, .inl (cI, 2100, .inl ns)), (anv, .inl (cI, 2100, .inl nv)), (ars, .inl (cI, 8, .inl rs)), (arv, .inl (cI, 8, .inl rv)), (ast, .inl (cI, 2100, .inl st)), (ago, .inl (cI, 2100, .inl go))] sz) := by
  refine Met.ofW (cc := cX2_look) (maxL := 3) (ret := (some .int)) (by decide) rfl ?_
  intro p e s m args below meth c s₁ B hml hv
  obtain ⟨rfl, hsz, hP, hK, hD0, hE⟩ := hv
  have hx := B.exec
  have hb := B.bytes
  have hr := B.returns
  have ht : ∀ w ∈ gT, w.before ([.ref mx, .int ip, .int iq] : List Value).toArray s = true := fun w h => atoms_spec (ws := kX2_look :: gT) B.pre w (List.mem_cons_of_mem _ h)
  have hown : s.vm.findClass RX2 = some m.cls := findClass_of_methodNamed B.named
  have hlocks := B.notSynchronized
  subst hsz
  have hD := hD0.self (sz := s.heap.size)
  generalize hAe : va_A [(mx, .inr (2, [.int th, .int hf, .int us, .int col, .int mov, .ref aso, .ref ava, .ref ans, .ref anv, .ref ars, .ref arv, .int sty, .ref ast, .ref ago])), (aso, .inl (cI, 2100, .inl so)), (ava, .inl (cI, 2100, .inl va)), (ans, .inl (cI, 2100, .inl ns)), (anv, .inl (cI, 2100, .inl nv)), (ars, .inl (cI, 8, .inl rs)), (arv, .inl (cI, 8, .inl rv)), (ast, .inl (cI, 2100, .inl st)), (ago, .inl (cI, 2100, .inl go))] s.heap.size = A at hD ⊢
  have hA : ∀ q : Nat, s.heap.size ≤ q → A q := fun q h => by rw [← hAe]; exact Or.inr h
  have hS : va_S A s.heap s.heap [] := va_S.rf
  have hl := lv_entry ([.ref mx, .int ip, .int iq]) (n := 3) (Nat.le_of_ble_eq_true rfl)
  rw [lg_entry_eq]
  generalize (lg_sl ([.ref mx, .int ip, .int iq]) ++ List.replicate (3 - (lg_sl ([.ref mx, .int ip, .int iq])).length) Slot.unset).toArray = ls at hl ⊢
  have hl : lv_has ls 3 [(0, .ref mx), (1, .int ip), (2, .int iq)] := hl
  refine lv_aload_n hx hb dX2_look_0 rfl (lv_at hl 0 rfl) ?_
  refine lv_iconst (v := 0) hx hb dX2_look_1 (by decide) ?_
  refine va_put (D := (dC, dI)) (ci := 2) (v := .int 0) (ty := .int) (C := RX2) (T := TX2) (N := 14) hx hb ht iX2 tyX2 tkX2 nmX2 hown hK hP hD hS 0 rfl rfl 0 (by decide) (ht _ g_326) (fun _ h9 => h9) rfl (by decide +kernel) rfl rfl (Nat.le_of_ble_eq_true rfl) dX2_look_2 (fun H locs hP hD hS => ?_)
  have hP : va_P (dC, dI) vwCl [(mx, .inr (2, [.int 0, .int hf, .int us, .int col, .int mov, .ref aso, .ref ava, .ref ans, .ref anv, .ref ars, .ref arv, .int sty, .ref ast, .ref ago])), (aso, .inl (cI, 2100, .inl so)), (ava, .inl (cI, 2100, .inl va)), (ans, .inl (cI, 2100, .inl ns)), (anv, .inl (cI, 2100, .inl nv)), (ars, .inl (cI, 8, .inl rs)), (arv, .inl (cI, 8, .inl rv)), (ast, .inl (cI, 2100, .inl st)), (ago, .inl (cI, 2100, .inl go))] H := hP
  have hD : va_D A [(mx, .inr (2, [.int 0, .int hf, .int us, .int col, .int mov, .ref aso, .ref ava, .ref ans, .ref anv, .ref ars, .ref arv, .int sty, .ref ast, .ref ago])), (aso, .inl (cI, 2100, .inl so)), (ava, .inl (cI, 2100, .inl va)), (ans, .inl (cI, 2100, .inl ns)), (anv, .inl (cI, 2100, .inl nv)), (ars, .inl (cI, 8, .inl rs)), (arv, .inl (cI, 8, .inl rv)), (ast, .inl (cI, 2100, .inl st)), (ago, .inl (cI, 2100, .inl go))] := hD
  refine lv_iload_n hx hb dX2_look_5 rfl (lv_at hl 1 rfl) ?_
  refine lv_if_lt (tgt := 26) hx hb dX2_look_6 (by decide) (fun c_1 => ?_) (fun c_1 => ?_)
  · refine lv_aload_n hx hb dX2_look_26 rfl (lv_at hl 0 rfl) ?_
    refine lv_iconst (v := 1) hx hb dX2_look_27 (by decide) ?_
    have hPc := hP.sub (ws' := [(mx, .inr (2, [.int 0, .int hf, .int us, .int col, .int mov, .ref aso, .ref ava, .ref ans, .ref anv, .ref ars, .ref arv, .int sty, .ref ast, .ref ago])), (aso, .inl (cI, 2100, .inl so)), (ava, .inl (cI, 2100, .inl va)), (ans, .inl (cI, 2100, .inl ns)), (anv, .inl (cI, 2100, .inl nv)), (ars, .inl (cI, 8, .inl rs)), (arv, .inl (cI, 8, .inl rv)), (ast, .inl (cI, 2100, .inl st)), (ago, .inl (cI, 2100, .inl go))]) [0, 1, 2, 3, 4, 5, 6, 7, 8] rfl
    have hKc := hK.sub (tys' := [(cI, .int)]) [0] rfl
    have hDc := hD.sub (ws' := [(mx, .inr (2, [.int 0, .int hf, .int us, .int col, .int mov, .ref aso, .ref ava, .ref ans, .ref anv, .ref ars, .ref arv, .int sty, .ref ast, .ref ago])), (aso, .inl (cI, 2100, .inl so)), (ava, .inl (cI, 2100, .inl va)), (ans, .inl (cI, 2100, .inl ns)), (anv, .inl (cI, 2100, .inl nv)), (ars, .inl (cI, 8, .inl rs)), (arv, .inl (cI, 8, .inl rv)), (ast, .inl (cI, 2100, .inl st)), (ago, .inl (cI, 2100, .inl go))]) [0, 1, 2, 3, 4, 5, 6, 7, 8] (by decide) rfl
    have hFc := va_free (wc := [(mx, .inr (2, [.int 0, .int hf, .int us, .int col, .int mov, .ref aso, .ref ava, .ref ans, .ref anv, .ref ars, .ref arv, .int sty, .ref ast, .ref ago])), (aso, .inl (cI, 2100, .inl so)), (ava, .inl (cI, 2100, .inl va)), (ans, .inl (cI, 2100, .inl ns)), (anv, .inl (cI, 2100, .inl nv)), (ars, .inl (cI, 8, .inl rs)), (arv, .inl (cI, 8, .inl rv)), (ast, .inl (cI, 2100, .inl st)), (ago, .inl (cI, 2100, .inl go))]) hD hS hA [0, 1, 2, 3, 4, 5, 6, 7, 8] rfl
    refine va_calli (va_runV (As := [.int 1]) (rest := []) ⟨hx, hb, hml, hown, ht⟩ (ctX2_fail l dC dI cI mx aso ava ans anv ars arv ast ago 0 hf us col mov sty so va ns nv rs rv st go 1 _ ) (cwV 1 ht gcX2_69 rfl rfl rfl (by decide +kernel) ⟨Nat.le_of_ble_eq_true rfl, Nat.le_of_ble_eq_true rfl⟩) ⟨pM.blind, va_recv hKc hPc (ci := 2) (q0 := 0) rfl rfl, pM.call hPc hKc hDc hE⟩ rfl rfl hl.1 rfl (lv_room (Nat.le_of_ble_eq_true rfl)) dX2_look_28 ⟨Nat.le_of_ble_eq_true rfl, Nat.le_of_ble_eq_true rfl⟩) hS (fun q _ h => hFc q h) hFc (fun r_3 u_2 t H1 locs ht9 hvm hw hB hz1 hk1 hS => ?_)
    obtain ⟨rfl, rfl⟩ : r_3 = 0 ∧ u_2 = (1, us, col, mov, so, va, ns, nv, rs, rv, sty, st, go) := ⟨(Prod.mk.inj hw).1, (Prod.mk.inj hw).2⟩
    obtain ⟨hP1, hK1, hD1⟩ := hB
    rw [ht9] at hP1
    obtain ⟨hP, hD⟩ := va_join (wr := []) (w1 := [(mx, .inr (2, [.int 1, .int hf, .int us, .int col, .int mov, .ref aso, .ref ava, .ref ans, .ref anv, .ref ars, .ref arv, .int sty, .ref ast, .ref ago])), (aso, .inl (cI, 2100, .inl so)), (ava, .inl (cI, 2100, .inl va)), (ans, .inl (cI, 2100, .inl ns)), (anv, .inl (cI, 2100, .inl nv)), (ars, .inl (cI, 8, .inl rs)), (arv, .inl (cI, 8, .inl rv)), (ast, .inl (cI, 2100, .inl st)), (ago, .inl (cI, 2100, .inl go))]) hP hD [0, 1, 2, 3, 4, 5, 6, 7, 8] [] rfl rfl (by decide) (by decide) hk1 hFc hP1 hD1
    generalize H1 = H at hP hS ⊢
    have hP := hP.sub (ws' := [(mx, .inr (2, [.int 1, .int hf, .int us, .int col, .int mov, .ref aso, .ref ava, .ref ans, .ref anv, .ref ars, .ref arv, .int sty, .ref ast, .ref ago])), (aso, .inl (cI, 2100, .inl so)), (ava, .inl (cI, 2100, .inl va)), (ans, .inl (cI, 2100, .inl ns)), (anv, .inl (cI, 2100, .inl nv)), (ars, .inl (cI, 8, .inl rs)), (arv, .inl (cI, 8, .inl rv)), (ast, .inl (cI, 2100, .inl st)), (ago, .inl (cI, 2100, .inl go))]) [0, 1, 2, 3, 4, 5, 6, 7, 8] rfl
    have hD := hD.sub (ws' := [(mx, .inr (2, [.int 1, .int hf, .int us, .int col, .int mov, .ref aso, .ref ava, .ref ans, .ref anv, .ref ars, .ref arv, .int sty, .ref ast, .ref ago])), (aso, .inl (cI, 2100, .inl so)), (ava, .inl (cI, 2100, .inl va)), (ans, .inl (cI, 2100, .inl ns)), (anv, .inl (cI, 2100, .inl nv)), (ars, .inl (cI, 8, .inl rs)), (arv, .inl (cI, 8, .inl rv)), (ast, .inl (cI, 2100, .inl st)), (ago, .inl (cI, 2100, .inl go))]) [0, 1, 2, 3, 4, 5, 6, 7, 8] (by decide) rfl
    have hP9 := hP.sub (ws' := [(mx, .inr (2, [.int 1, .int hf, .int us, .int col, .int mov, .ref aso, .ref ava, .ref ans, .ref anv, .ref ars, .ref arv, .int sty, .ref ast, .ref ago])), (aso, .inl (cI, 2100, .inl so)), (ava, .inl (cI, 2100, .inl va)), (ans, .inl (cI, 2100, .inl ns)), (anv, .inl (cI, 2100, .inl nv)), (ars, .inl (cI, 8, .inl rs)), (arv, .inl (cI, 8, .inl rv)), (ast, .inl (cI, 2100, .inl st)), (ago, .inl (cI, 2100, .inl go))]) [0, 1, 2, 3, 4, 5, 6, 7, 8] rfl
    have hD9 := hD.sub (ws' := [(mx, .inr (2, [.int 1, .int hf, .int us, .int col, .int mov, .ref aso, .ref ava, .ref ans, .ref anv, .ref ars, .ref arv, .int sty, .ref ast, .ref ago])), (aso, .inl (cI, 2100, .inl so)), (ava, .inl (cI, 2100, .inl va)), (ans, .inl (cI, 2100, .inl ns)), (anv, .inl (cI, 2100, .inl nv)), (ars, .inl (cI, 8, .inl rs)), (arv, .inl (cI, 8, .inl rv)), (ast, .inl (cI, 2100, .inl st)), (ago, .inl (cI, 2100, .inl go))]) [0, 1, 2, 3, 4, 5, 6, 7, 8] (by decide) rfl
    have hK9 := hK.sub (tys' := [(cI, .int)]) [0] rfl
    exact W.iret (v := 0) hx hb hr (fun t ht hW => ⟨⟨_, (1, us, col, mov, so, va, ns, nv, rs, rv, sty, st, go), rfl, (by simp only [fX2_look, if_pos c_1]), by rw [ht]; exact hP9, va_K.moved hW.alike hK9, hD9⟩, hS.F ht⟩) hS.2.2 dX2_look_31
  · refine lv_iload_n hx hb dX2_look_9 rfl (lv_at hl 1 rfl) ?_
    refine lv_aload_n hx hb dX2_look_10 rfl (lv_at hl 0 rfl) ?_
    refine va_get (D := (dC, dI)) (ci := 2) (v := .int us) (C := RX2) (T := TX2) (N := 14) hx hb ht iX2 hown hK hP 0 rfl rfl 2 (by decide) (ht _ g_328) (fun _ h9 => h9) rfl dX2_look_11 ?_
    refine lv_icmp_ge (tgt := 26) hx hb dX2_look_14 (by decide) (fun c_4 => ?_) (fun c_4 => ?_)
    · refine lv_aload_n hx hb dX2_look_26 rfl (lv_at hl 0 rfl) ?_
      refine lv_iconst (v := 1) hx hb dX2_look_27 (by decide) ?_
      have hPc := hP.sub (ws' := [(mx, .inr (2, [.int 0, .int hf, .int us, .int col, .int mov, .ref aso, .ref ava, .ref ans, .ref anv, .ref ars, .ref arv, .int sty, .ref ast, .ref ago])), (aso, .inl (cI, 2100, .inl so)), (ava, .inl (cI, 2100, .inl va)), (ans, .inl (cI, 2100, .inl ns)), (anv, .inl (cI, 2100, .inl nv)), (ars, .inl (cI, 8, .inl rs)), (arv, .inl (cI, 8, .inl rv)), (ast, .inl (cI, 2100, .inl st)), (ago, .inl (cI, 2100, .inl go))]) [0, 1, 2, 3, 4, 5, 6, 7, 8] rfl
      have hKc := hK.sub (tys' := [(cI, .int)]) [0] rfl
      have hDc := hD.sub (ws' := [(mx, .inr (2, [.int 0, .int hf, .int us, .int col, .int mov, .ref aso, .ref ava, .ref ans, .ref anv, .ref ars, .ref arv, .int sty, .ref ast, .ref ago])), (aso, .inl (cI, 2100, .inl so)), (ava, .inl (cI, 2100, .inl va)), (ans, .inl (cI, 2100, .inl ns)), (anv, .inl (cI, 2100, .inl nv)), (ars, .inl (cI, 8, .inl rs)), (arv, .inl (cI, 8, .inl rv)), (ast, .inl (cI, 2100, .inl st)), (ago, .inl (cI, 2100, .inl go))]) [0, 1, 2, 3, 4, 5, 6, 7, 8] (by decide) rfl
      have hFc := va_free (wc := [(mx, .inr (2, [.int 0, .int hf, .int us, .int col, .int mov, .ref aso, .ref ava, .ref ans, .ref anv, .ref ars, .ref arv, .int sty, .ref ast, .ref ago])), (aso, .inl (cI, 2100, .inl so)), (ava, .inl (cI, 2100, .inl va)), (ans, .inl (cI, 2100, .inl ns)), (anv, .inl (cI, 2100, .inl nv)), (ars, .inl (cI, 8, .inl rs)), (arv, .inl (cI, 8, .inl rv)), (ast, .inl (cI, 2100, .inl st)), (ago, .inl (cI, 2100, .inl go))]) hD hS hA [0, 1, 2, 3, 4, 5, 6, 7, 8] rfl
      refine va_calli (va_runV (As := [.int 1]) (rest := []) ⟨hx, hb, hml, hown, ht⟩ (ctX2_fail l dC dI cI mx aso ava ans anv ars arv ast ago 0 hf us col mov sty so va ns nv rs rv st go 1 _ ) (cwV 1 ht gcX2_69 rfl rfl rfl (by decide +kernel) ⟨Nat.le_of_ble_eq_true rfl, Nat.le_of_ble_eq_true rfl⟩) ⟨pM.blind, va_recv hKc hPc (ci := 2) (q0 := 0) rfl rfl, pM.call hPc hKc hDc hE⟩ rfl rfl hl.1 rfl (lv_room (Nat.le_of_ble_eq_true rfl)) dX2_look_28 ⟨Nat.le_of_ble_eq_true rfl, Nat.le_of_ble_eq_true rfl⟩) hS (fun q _ h => hFc q h) hFc (fun r_6 u_5 t H1 locs ht9 hvm hw hB hz1 hk1 hS => ?_)
      obtain ⟨rfl, rfl⟩ : r_6 = 0 ∧ u_5 = (1, us, col, mov, so, va, ns, nv, rs, rv, sty, st, go) := ⟨(Prod.mk.inj hw).1, (Prod.mk.inj hw).2⟩
      obtain ⟨hP1, hK1, hD1⟩ := hB
      rw [ht9] at hP1
      obtain ⟨hP, hD⟩ := va_join (wr := []) (w1 := [(mx, .inr (2, [.int 1, .int hf, .int us, .int col, .int mov, .ref aso, .ref ava, .ref ans, .ref anv, .ref ars, .ref arv, .int sty, .ref ast, .ref ago])), (aso, .inl (cI, 2100, .inl so)), (ava, .inl (cI, 2100, .inl va)), (ans, .inl (cI, 2100, .inl ns)), (anv, .inl (cI, 2100, .inl nv)), (ars, .inl (cI, 8, .inl rs)), (arv, .inl (cI, 8, .inl rv)), (ast, .inl (cI, 2100, .inl st)), (ago, .inl (cI, 2100, .inl go))]) hP hD [0, 1, 2, 3, 4, 5, 6, 7, 8] [] rfl rfl (by decide) (by decide) hk1 hFc hP1 hD1
      generalize H1 = H at hP hS ⊢
      have hP := hP.sub (ws' := [(mx, .inr (2, [.int 1, .int hf, .int us, .int col, .int mov, .ref aso, .ref ava, .ref ans, .ref anv, .ref ars, .ref arv, .int sty, .ref ast, .ref ago])), (aso, .inl (cI, 2100, .inl so)), (ava, .inl (cI, 2100, .inl va)), (ans, .inl (cI, 2100, .inl ns)), (anv, .inl (cI, 2100, .inl nv)), (ars, .inl (cI, 8, .inl rs)), (arv, .inl (cI, 8, .inl rv)), (ast, .inl (cI, 2100, .inl st)), (ago, .inl (cI, 2100, .inl go))]) [0, 1, 2, 3, 4, 5, 6, 7, 8] rfl
      have hD := hD.sub (ws' := [(mx, .inr (2, [.int 1, .int hf, .int us, .int col, .int mov, .ref aso, .ref ava, .ref ans, .ref anv, .ref ars, .ref arv, .int sty, .ref ast, .ref ago])), (aso, .inl (cI, 2100, .inl so)), (ava, .inl (cI, 2100, .inl va)), (ans, .inl (cI, 2100, .inl ns)), (anv, .inl (cI, 2100, .inl nv)), (ars, .inl (cI, 8, .inl rs)), (arv, .inl (cI, 8, .inl rv)), (ast, .inl (cI, 2100, .inl st)), (ago, .inl (cI, 2100, .inl go))]) [0, 1, 2, 3, 4, 5, 6, 7, 8] (by decide) rfl
      have hP9 := hP.sub (ws' := [(mx, .inr (2, [.int 1, .int hf, .int us, .int col, .int mov, .ref aso, .ref ava, .ref ans, .ref anv, .ref ars, .ref arv, .int sty, .ref ast, .ref ago])), (aso, .inl (cI, 2100, .inl so)), (ava, .inl (cI, 2100, .inl va)), (ans, .inl (cI, 2100, .inl ns)), (anv, .inl (cI, 2100, .inl nv)), (ars, .inl (cI, 8, .inl rs)), (arv, .inl (cI, 8, .inl rv)), (ast, .inl (cI, 2100, .inl st)), (ago, .inl (cI, 2100, .inl go))]) [0, 1, 2, 3, 4, 5, 6, 7, 8] rfl
      have hD9 := hD.sub (ws' := [(mx, .inr (2, [.int 1, .int hf, .int us, .int col, .int mov, .ref aso, .ref ava, .ref ans, .ref anv, .ref ars, .ref arv, .int sty, .ref ast, .ref ago])), (aso, .inl (cI, 2100, .inl so)), (ava, .inl (cI, 2100, .inl va)), (ans, .inl (cI, 2100, .inl ns)), (anv, .inl (cI, 2100, .inl nv)), (ars, .inl (cI, 8, .inl rs)), (arv, .inl (cI, 8, .inl rv)), (ast, .inl (cI, 2100, .inl st)), (ago, .inl (cI, 2100, .inl go))]) [0, 1, 2, 3, 4, 5, 6, 7, 8] (by decide) rfl
      have hK9 := hK.sub (tys' := [(cI, .int)]) [0] rfl
      exact W.iret (v := 0) hx hb hr (fun t ht hW => ⟨⟨_, (1, us, col, mov, so, va, ns, nv, rs, rv, sty, st, go), rfl, (by simp only [fX2_look, if_neg c_1, if_pos c_4]), by rw [ht]; exact hP9, va_K.moved hW.alike hK9, hD9⟩, hS.F ht⟩) hS.2.2 dX2_look_31
    · refine lv_iload_n hx hb dX2_look_17 rfl (lv_at hl 2 rfl) ?_
      refine lv_if_lt (tgt := 26) hx hb dX2_look_18 (by decide) (fun c_7 => ?_) (fun c_7 => ?_)
      · refine lv_aload_n hx hb dX2_look_26 rfl (lv_at hl 0 rfl) ?_
        refine lv_iconst (v := 1) hx hb dX2_look_27 (by decide) ?_
        have hPc := hP.sub (ws' := [(mx, .inr (2, [.int 0, .int hf, .int us, .int col, .int mov, .ref aso, .ref ava, .ref ans, .ref anv, .ref ars, .ref arv, .int sty, .ref ast, .ref ago])), (aso, .inl (cI, 2100, .inl so)), (ava, .inl (cI, 2100, .inl va)), (ans, .inl (cI, 2100, .inl ns)), (anv, .inl (cI, 2100, .inl nv)), (ars, .inl (cI, 8, .inl rs)), (arv, .inl (cI, 8, .inl rv)), (ast, .inl (cI, 2100, .inl st)), (ago, .inl (cI, 2100, .inl go))]) [0, 1, 2, 3, 4, 5, 6, 7, 8] rfl
        have hKc := hK.sub (tys' := [(cI, .int)]) [0] rfl
        have hDc := hD.sub (ws' := [(mx, .inr (2, [.int 0, .int hf, .int us, .int col, .int mov, .ref aso, .ref ava, .ref ans, .ref anv, .ref ars, .ref arv, .int sty, .ref ast, .ref ago])), (aso, .inl (cI, 2100, .inl so)), (ava, .inl (cI, 2100, .inl va)), (ans, .inl (cI, 2100, .inl ns)), (anv, .inl (cI, 2100, .inl nv)), (ars, .inl (cI, 8, .inl rs)), (arv, .inl (cI, 8, .inl rv)), (ast, .inl (cI, 2100, .inl st)), (ago, .inl (cI, 2100, .inl go))]) [0, 1, 2, 3, 4, 5, 6, 7, 8] (by decide) rfl
        have hFc := va_free (wc := [(mx, .inr (2, [.int 0, .int hf, .int us, .int col, .int mov, .ref aso, .ref ava, .ref ans, .ref anv, .ref ars, .ref arv, .int sty, .ref ast, .ref ago])), (aso, .inl (cI, 2100, .inl so)), (ava, .inl (cI, 2100, .inl va)), (ans, .inl (cI, 2100, .inl ns)), (anv, .inl (cI, 2100, .inl nv)), (ars, .inl (cI, 8, .inl rs)), (arv, .inl (cI, 8, .inl rv)), (ast, .inl (cI, 2100, .inl st)), (ago, .inl (cI, 2100, .inl go))]) hD hS hA [0, 1, 2, 3, 4, 5, 6, 7, 8] rfl
        refine va_calli (va_runV (As := [.int 1]) (rest := []) ⟨hx, hb, hml, hown, ht⟩ (ctX2_fail l dC dI cI mx aso ava ans anv ars arv ast ago 0 hf us col mov sty so va ns nv rs rv st go 1 _ ) (cwV 1 ht gcX2_69 rfl rfl rfl (by decide +kernel) ⟨Nat.le_of_ble_eq_true rfl, Nat.le_of_ble_eq_true rfl⟩) ⟨pM.blind, va_recv hKc hPc (ci := 2) (q0 := 0) rfl rfl, pM.call hPc hKc hDc hE⟩ rfl rfl hl.1 rfl (lv_room (Nat.le_of_ble_eq_true rfl)) dX2_look_28 ⟨Nat.le_of_ble_eq_true rfl, Nat.le_of_ble_eq_true rfl⟩) hS (fun q _ h => hFc q h) hFc (fun r_9 u_8 t H1 locs ht9 hvm hw hB hz1 hk1 hS => ?_)
        obtain ⟨rfl, rfl⟩ : r_9 = 0 ∧ u_8 = (1, us, col, mov, so, va, ns, nv, rs, rv, sty, st, go) := ⟨(Prod.mk.inj hw).1, (Prod.mk.inj hw).2⟩
        obtain ⟨hP1, hK1, hD1⟩ := hB
        rw [ht9] at hP1
        obtain ⟨hP, hD⟩ := va_join (wr := []) (w1 := [(mx, .inr (2, [.int 1, .int hf, .int us, .int col, .int mov, .ref aso, .ref ava, .ref ans, .ref anv, .ref ars, .ref arv, .int sty, .ref ast, .ref ago])), (aso, .inl (cI, 2100, .inl so)), (ava, .inl (cI, 2100, .inl va)), (ans, .inl (cI, 2100, .inl ns)), (anv, .inl (cI, 2100, .inl nv)), (ars, .inl (cI, 8, .inl rs)), (arv, .inl (cI, 8, .inl rv)), (ast, .inl (cI, 2100, .inl st)), (ago, .inl (cI, 2100, .inl go))]) hP hD [0, 1, 2, 3, 4, 5, 6, 7, 8] [] rfl rfl (by decide) (by decide) hk1 hFc hP1 hD1
        generalize H1 = H at hP hS ⊢
        have hP := hP.sub (ws' := [(mx, .inr (2, [.int 1, .int hf, .int us, .int col, .int mov, .ref aso, .ref ava, .ref ans, .ref anv, .ref ars, .ref arv, .int sty, .ref ast, .ref ago])), (aso, .inl (cI, 2100, .inl so)), (ava, .inl (cI, 2100, .inl va)), (ans, .inl (cI, 2100, .inl ns)), (anv, .inl (cI, 2100, .inl nv)), (ars, .inl (cI, 8, .inl rs)), (arv, .inl (cI, 8, .inl rv)), (ast, .inl (cI, 2100, .inl st)), (ago, .inl (cI, 2100, .inl go))]) [0, 1, 2, 3, 4, 5, 6, 7, 8] rfl
        have hD := hD.sub (ws' := [(mx, .inr (2, [.int 1, .int hf, .int us, .int col, .int mov, .ref aso, .ref ava, .ref ans, .ref anv, .ref ars, .ref arv, .int sty, .ref ast, .ref ago])), (aso, .inl (cI, 2100, .inl so)), (ava, .inl (cI, 2100, .inl va)), (ans, .inl (cI, 2100, .inl ns)), (anv, .inl (cI, 2100, .inl nv)), (ars, .inl (cI, 8, .inl rs)), (arv, .inl (cI, 8, .inl rv)), (ast, .inl (cI, 2100, .inl st)), (ago, .inl (cI, 2100, .inl go))]) [0, 1, 2, 3, 4, 5, 6, 7, 8] (by decide) rfl
        have hP9 := hP.sub (ws' := [(mx, .inr (2, [.int 1, .int hf, .int us, .int col, .int mov, .ref aso, .ref ava, .ref ans, .ref anv, .ref ars, .ref arv, .int sty, .ref ast, .ref ago])), (aso, .inl (cI, 2100, .inl so)), (ava, .inl (cI, 2100, .inl va)), (ans, .inl (cI, 2100, .inl ns)), (anv, .inl (cI, 2100, .inl nv)), (ars, .inl (cI, 8, .inl rs)), (arv, .inl (cI, 8, .inl rv)), (ast, .inl (cI, 2100, .inl st)), (ago, .inl (cI, 2100, .inl go))]) [0, 1, 2, 3, 4, 5, 6, 7, 8] rfl
        have hD9 := hD.sub (ws' := [(mx, .inr (2, [.int 1, .int hf, .int us, .int col, .int mov, .ref aso, .ref ava, .ref ans, .ref anv, .ref ars, .ref arv, .int sty, .ref ast, .ref ago])), (aso, .inl (cI, 2100, .inl so)), (ava, .inl (cI, 2100, .inl va)), (ans, .inl (cI, 2100, .inl ns)), (anv, .inl (cI, 2100, .inl nv)), (ars, .inl (cI, 8, .inl rs)), (arv, .inl (cI, 8, .inl rv)), (ast, .inl (cI, 2100, .inl st)), (ago, .inl (cI, 2100, .inl go))]) [0, 1, 2, 3, 4, 5, 6, 7, 8] (by decide) rfl
        have hK9 := hK.sub (tys' := [(cI, .int)]) [0] rfl
        exact W.iret (v := 0) hx hb hr (fun t ht hW => ⟨⟨_, (1, us, col, mov, so, va, ns, nv, rs, rv, sty, st, go), rfl, (by simp only [fX2_look, if_neg c_1, if_neg c_4, if_pos c_7]), by rw [ht]; exact hP9, va_K.moved hW.alike hK9, hD9⟩, hS.F ht⟩) hS.2.2 dX2_look_31
      · refine lv_iload_n hx hb dX2_look_21 rfl (lv_at hl 2 rfl) ?_
        refine lv_iconst (v := 1) hx hb dX2_look_22 (by decide) ?_
        refine lv_icmp_le (tgt := 32) hx hb dX2_look_23 (by decide) (fun c_10 => ?_) (fun c_10 => ?_)
        · refine lv_iload_n hx hb dX2_look_32 rfl (lv_at hl 2 rfl) ?_
          refine lv_if_ne (tgt := 45) hx hb dX2_look_33 (by decide) (fun c_11 => ?_) (fun c_11 => ?_)
          · refine lv_aload_n hx hb dX2_look_45 rfl (lv_at hl 0 rfl) ?_
            refine va_get (D := (dC, dI)) (ci := 2) (v := .ref ava) (C := RX2) (T := TX2) (N := 14) hx hb ht iX2 hown hK hP 0 rfl rfl 6 (by decide) (ht _ g_332) (fun _ h9 => h9) rfl dX2_look_46 ?_
            refine lv_iload_n hx hb dX2_look_49 rfl (lv_at hl 1 rfl) ?_
            refine va_iald hx hb hK hP 2 0 rfl rfl (hul _ c_1 c_4) dX2_look_50 ?_
            have hP9 := hP.sub (ws' := [(mx, .inr (2, [.int 0, .int hf, .int us, .int col, .int mov, .ref aso, .ref ava, .ref ans, .ref anv, .ref ars, .ref arv, .int sty, .ref ast, .ref ago])), (aso, .inl (cI, 2100, .inl so)), (ava, .inl (cI, 2100, .inl va)), (ans, .inl (cI, 2100, .inl ns)), (anv, .inl (cI, 2100, .inl nv)), (ars, .inl (cI, 8, .inl rs)), (arv, .inl (cI, 8, .inl rv)), (ast, .inl (cI, 2100, .inl st)), (ago, .inl (cI, 2100, .inl go))]) [0, 1, 2, 3, 4, 5, 6, 7, 8] rfl
            have hD9 := hD.sub (ws' := [(mx, .inr (2, [.int 0, .int hf, .int us, .int col, .int mov, .ref aso, .ref ava, .ref ans, .ref anv, .ref ars, .ref arv, .int sty, .ref ast, .ref ago])), (aso, .inl (cI, 2100, .inl so)), (ava, .inl (cI, 2100, .inl va)), (ans, .inl (cI, 2100, .inl ns)), (anv, .inl (cI, 2100, .inl nv)), (ars, .inl (cI, 8, .inl rs)), (arv, .inl (cI, 8, .inl rv)), (ast, .inl (cI, 2100, .inl st)), (ago, .inl (cI, 2100, .inl go))]) [0, 1, 2, 3, 4, 5, 6, 7, 8] (by decide) rfl
            have hK9 := hK.sub (tys' := [(cI, .int)]) [0] rfl
            exact W.iret (v := va ip.toNatClampNeg) hx hb hr (fun t ht hW => ⟨⟨_, (0, us, col, mov, so, va, ns, nv, rs, rv, sty, st, go), rfl, (by simp only [fX2_look, if_neg c_1, if_neg c_4, if_neg c_7, if_pos c_10, if_neg c_11]), by rw [ht]; exact hP9, va_K.moved hW.alike hK9, hD9⟩, hS.F ht⟩) hS.2.2 dX2_look_51
          · refine lv_aload_n hx hb dX2_look_36 rfl (lv_at hl 0 rfl) ?_
            refine va_get (D := (dC, dI)) (ci := 2) (v := .ref aso) (C := RX2) (T := TX2) (N := 14) hx hb ht iX2 hown hK hP 0 rfl rfl 5 (by decide) (ht _ g_331) (fun _ h9 => h9) rfl dX2_look_37 ?_
            refine lv_iload_n hx hb dX2_look_40 rfl (lv_at hl 1 rfl) ?_
            refine va_iald hx hb hK hP 1 0 rfl rfl (hul _ c_1 c_4) dX2_look_41 ?_
            refine lv_goto (tgt := 51) hx hb dX2_look_42 (by decide) ?_
            have hP9 := hP.sub (ws' := [(mx, .inr (2, [.int 0, .int hf, .int us, .int col, .int mov, .ref aso, .ref ava, .ref ans, .ref anv, .ref ars, .ref arv, .int sty, .ref ast, .ref ago])), (aso, .inl (cI, 2100, .inl so)), (ava, .inl (cI, 2100, .inl va)), (ans, .inl (cI, 2100, .inl ns)), (anv, .inl (cI, 2100, .inl nv)), (ars, .inl (cI, 8, .inl rs)), (arv, .inl (cI, 8, .inl rv)), (ast, .inl (cI, 2100, .inl st)), (ago, .inl (cI, 2100, .inl go))]) [0, 1, 2, 3, 4, 5, 6, 7, 8] rfl
            have hD9 := hD.sub (ws' := [(mx, .inr (2, [.int 0, .int hf, .int us, .int col, .int mov, .ref aso, .ref ava, .ref ans, .ref anv, .ref ars, .ref arv, .int sty, .ref ast, .ref ago])), (aso, .inl (cI, 2100, .inl so)), (ava, .inl (cI, 2100, .inl va)), (ans, .inl (cI, 2100, .inl ns)), (anv, .inl (cI, 2100, .inl nv)), (ars, .inl (cI, 8, .inl rs)), (arv, .inl (cI, 8, .inl rv)), (ast, .inl (cI, 2100, .inl st)), (ago, .inl (cI, 2100, .inl go))]) [0, 1, 2, 3, 4, 5, 6, 7, 8] (by decide) rfl
            have hK9 := hK.sub (tys' := [(cI, .int)]) [0] rfl
            exact W.iret (v := so ip.toNatClampNeg) hx hb hr (fun t ht hW => ⟨⟨_, (0, us, col, mov, so, va, ns, nv, rs, rv, sty, st, go), rfl, (by simp only [fX2_look, if_neg c_1, if_neg c_4, if_neg c_7, if_pos c_10, if_pos c_11]), by rw [ht]; exact hP9, va_K.moved hW.alike hK9, hD9⟩, hS.F ht⟩) hS.2.2 dX2_look_51
        · refine lv_aload_n hx hb dX2_look_26 rfl (lv_at hl 0 rfl) ?_
          refine lv_iconst (v := 1) hx hb dX2_look_27 (by decide) ?_
          have hPc := hP.sub (ws' := [(mx, .inr (2, [.int 0, .int hf, .int us, .int col, .int mov, .ref aso, .ref ava, .ref ans, .ref anv, .ref ars, .ref arv, .int sty, .ref ast, .ref ago])), (aso, .inl (cI, 2100, .inl so)), (ava, .inl (cI, 2100, .inl va)), (ans, .inl (cI, 2100, .inl ns)), (anv, .inl (cI, 2100, .inl nv)), (ars, .inl (cI, 8, .inl rs)), (arv, .inl (cI, 8, .inl rv)), (ast, .inl (cI, 2100, .inl st)), (ago, .inl (cI, 2100, .inl go))]) [0, 1, 2, 3, 4, 5, 6, 7, 8] rfl
          have hKc := hK.sub (tys' := [(cI, .int)]) [0] rfl
          have hDc := hD.sub (ws' := [(mx, .inr (2, [.int 0, .int hf, .int us, .int col, .int mov, .ref aso, .ref ava, .ref ans, .ref anv, .ref ars, .ref arv, .int sty, .ref ast, .ref ago])), (aso, .inl (cI, 2100, .inl so)), (ava, .inl (cI, 2100, .inl va)), (ans, .inl (cI, 2100, .inl ns)), (anv, .inl (cI, 2100, .inl nv)), (ars, .inl (cI, 8, .inl rs)), (arv, .inl (cI, 8, .inl rv)), (ast, .inl (cI, 2100, .inl st)), (ago, .inl (cI, 2100, .inl go))]) [0, 1, 2, 3, 4, 5, 6, 7, 8] (by decide) rfl
          have hFc := va_free (wc := [(mx, .inr (2, [.int 0, .int hf, .int us, .int col, .int mov, .ref aso, .ref ava, .ref ans, .ref anv, .ref ars, .ref arv, .int sty, .ref ast, .ref ago])), (aso, .inl (cI, 2100, .inl so)), (ava, .inl (cI, 2100, .inl va)), (ans, .inl (cI, 2100, .inl ns)), (anv, .inl (cI, 2100, .inl nv)), (ars, .inl (cI, 8, .inl rs)), (arv, .inl (cI, 8, .inl rv)), (ast, .inl (cI, 2100, .inl st)), (ago, .inl (cI, 2100, .inl go))]) hD hS hA [0, 1, 2, 3, 4, 5, 6, 7, 8] rfl
          refine va_calli (va_runV (As := [.int 1]) (rest := []) ⟨hx, hb, hml, hown, ht⟩ (ctX2_fail l dC dI cI mx aso ava ans anv ars arv ast ago 0 hf us col mov sty so va ns nv rs rv st go 1 _ ) (cwV 1 ht gcX2_69 rfl rfl rfl (by decide +kernel) ⟨Nat.le_of_ble_eq_true rfl, Nat.le_of_ble_eq_true rfl⟩) ⟨pM.blind, va_recv hKc hPc (ci := 2) (q0 := 0) rfl rfl, pM.call hPc hKc hDc hE⟩ rfl rfl hl.1 rfl (lv_room (Nat.le_of_ble_eq_true rfl)) dX2_look_28 ⟨Nat.le_of_ble_eq_true rfl, Nat.le_of_ble_eq_true rfl⟩) hS (fun q _ h => hFc q h) hFc (fun r_13 u_12 t H1 locs ht9 hvm hw hB hz1 hk1 hS => ?_)
          obtain ⟨rfl, rfl⟩ : r_13 = 0 ∧ u_12 = (1, us, col, mov, so, va, ns, nv, rs, rv, sty, st, go) := ⟨(Prod.mk.inj hw).1, (Prod.mk.inj hw).2⟩
          obtain ⟨hP1, hK1, hD1⟩ := hB
          rw [ht9] at hP1
          obtain ⟨hP, hD⟩ := va_join (wr := []) (w1 := [(mx, .inr (2, [.int 1, .int hf, .int us, .int col, .int mov, .ref aso, .ref ava, .ref ans, .ref anv, .ref ars, .ref arv, .int sty, .ref ast, .ref ago])), (aso, .inl (cI, 2100, .inl so)), (ava, .inl (cI, 2100, .inl va)), (ans, .inl (cI, 2100, .inl ns)), (anv, .inl (cI, 2100, .inl nv)), (ars, .inl (cI, 8, .inl rs)), (arv, .inl (cI, 8, .inl rv)), (ast, .inl (cI, 2100, .inl st)), (ago, .inl (cI, 2100, .inl go))]) hP hD [0, 1, 2, 3, 4, 5, 6, 7, 8] [] rfl rfl (by decide) (by decide) hk1 hFc hP1 hD1
          generalize H1 = H at hP hS ⊢
          have hP := hP.sub (ws' := [(mx, .inr (2, [.int 1, .int hf, .int us, .int col, .int mov, .ref aso, .ref ava, .ref ans, .ref anv, .ref ars, .ref arv, .int sty, .ref ast, .ref ago])), (aso, .inl (cI, 2100, .inl so)), (ava, .inl (cI, 2100, .inl va)), (ans, .inl (cI, 2100, .inl ns)), (anv, .inl (cI, 2100, .inl nv)), (ars, .inl (cI, 8, .inl rs)), (arv, .inl (cI, 8, .inl rv)), (ast, .inl (cI, 2100, .inl st)), (ago, .inl (cI, 2100, .inl go))]) [0, 1, 2, 3, 4, 5, 6, 7, 8] rfl
          have hD := hD.sub (ws' := [(mx, .inr (2, [.int 1, .int hf, .int us, .int col, .int mov, .ref aso, .ref ava, .ref ans, .ref anv, .ref ars, .ref arv, .int sty, .ref ast, .ref ago])), (aso, .inl (cI, 2100, .inl so)), (ava, .inl (cI, 2100, .inl va)), (ans, .inl (cI, 2100, .inl ns)), (anv, .inl (cI, 2100, .inl nv)), (ars, .inl (cI, 8, .inl rs)), (arv, .inl (cI, 8, .inl rv)), (ast, .inl (cI, 2100, .inl st)), (ago, .inl (cI, 2100, .inl go))]) [0, 1, 2, 3, 4, 5, 6, 7, 8] (by decide) rfl
          have hP9 := hP.sub (ws' := [(mx, .inr (2, [.int 1, .int hf, .int us, .int col, .int mov, .ref aso, .ref ava, .ref ans, .ref anv, .ref ars, .ref arv, .int sty, .ref ast, .ref ago])), (aso, .inl (cI, 2100, .inl so)), (ava, .inl (cI, 2100, .inl va)), (ans, .inl (cI, 2100, .inl ns)), (anv, .inl (cI, 2100, .inl nv)), (ars, .inl (cI, 8, .inl rs)), (arv, .inl (cI, 8, .inl rv)), (ast, .inl (cI, 2100, .inl st)), (ago, .inl (cI, 2100, .inl go))]) [0, 1, 2, 3, 4, 5, 6, 7, 8] rfl
          have hD9 := hD.sub (ws' := [(mx, .inr (2, [.int 1, .int hf, .int us, .int col, .int mov, .ref aso, .ref ava, .ref ans, .ref anv, .ref ars, .ref arv, .int sty, .ref ast, .ref ago])), (aso, .inl (cI, 2100, .inl so)), (ava, .inl (cI, 2100, .inl va)), (ans, .inl (cI, 2100, .inl ns)), (anv, .inl (cI, 2100, .inl nv)), (ars, .inl (cI, 8, .inl rs)), (arv, .inl (cI, 8, .inl rv)), (ast, .inl (cI, 2100, .inl st)), (ago, .inl (cI, 2100, .inl go))]) [0, 1, 2, 3, 4, 5, 6, 7, 8] (by decide) rfl
          have hK9 := hK.sub (tys' := [(cI, .int)]) [0] rfl
          exact W.iret (v := 0) hx hb hr (fun t ht hW => ⟨⟨_, (1, us, col, mov, so, va, ns, nv, rs, rv, sty, st, go), rfl, (by simp only [fX2_look, if_neg c_1, if_neg c_4, if_neg c_7, if_neg c_10]), by rw [ht]; exact hP9, va_K.moved hW.alike hK9, hD9⟩, hS.F ht⟩) hS.2.2 dX2_look_31
end
section
theorem rrIn {i : Int32} (h : (fX1_requireRegister i).1 = 0) : vp_in i 8 := by
  unfold fX1_requireRegister at h
  by_cases h0 : i < 0
  · rw [if_pos h0] at h; exact absurd h (by decide)
  · rw [if_neg h0] at h
    by_cases h1 : i < 8
    · exact in2 (n := 8) (by decide) h0 (by rw [Int32.not_le]; exact h1)
    · rw [if_neg h1] at h; exact absurd h (by decide)
theorem isRef01 (x : Int32) : fX1_isReference x = 0 ∨ fX1_isReference x = 1 := by
  unfold fX1_isReference
  by_cases h : x &&& 1 = 0
  · exact Or.inl (if_pos h)
  · exact Or.inr (if_neg h)
theorem rKeep {D : va_G} {ws : va_W} {H H1 : Heap} (hP : va_P D vwCl ws H) (hk : ∀ q : Nat, q < H.size → ¬ va_A [] H.size q → H1[q]? = H[q]?) : va_P D vwCl ws H1 := hP.kept (fun k q hq => hk q.1 (hP k q hq).lt (fun h => h.elim (fun ⟨i, e, h⟩ => by simp at h) (fun h => absurd (hP k q hq).lt (Nat.not_lt.mpr h))))
theorem tiNe {x : Int32} {k : Int32} (h : ¬ x = k) : x.toInt ≠ k.toInt := fun e => h (Int32.toInt_inj.mp e)
theorem sw_out4 {x : Int32} (h0 : ¬ x = 0) (h1 : ¬ x = 1) (h2 : ¬ x = 2) (h3 : ¬ x = 3) : x.toInt < 0 ∨ 3 < x.toInt := by
  have a0 : x.toInt ≠ 0 := tiNe h0
  have a1 : x.toInt ≠ 1 := tiNe h1
  have a2 : x.toInt ≠ 2 := tiNe h2
  have a3 : x.toInt ≠ 3 := tiNe h3
  omega
theorem sw_out5 {x : Int32} (h0 : ¬ x = 0) (h1 : ¬ x = 1) (h2 : ¬ x = 2) (h3 : ¬ x = 3) (h4 : ¬ x = 4) : x.toInt < 0 ∨ 4 < x.toInt := by
  have a0 : x.toInt ≠ 0 := tiNe h0
  have a1 : x.toInt ≠ 1 := tiNe h1
  have a2 : x.toInt ≠ 2 := tiNe h2
  have a3 : x.toInt ≠ 3 := tiNe h3
  have a4 : x.toInt ≠ 4 := tiNe h4
  omega
def fX1_objectOf (rg : Nat → Int32) (ip : Int32) : Nat × Int32 × Unit := (if fX1_isReference (rg ip.toNatClampNeg) = 0 then (2, 0, ()) else (0, fX1_content (rg ip.toNatClampNeg), ()))
set_option maxHeartbeats 4000000 in
set_option maxRecDepth 100000 in
theorem ctX1_objectOf (l : Launch) (hl9 : l.stackTraces = false) (dC : Nat → ClassId) (dI : Nat → Nat → Nat) (cI : ClassId) (sa : Nat → Nat) (cx : Nat) (ar : Nat) (ha : Nat) (hz : Nat) (col : Int32) (mov : Int32) (rg : Nat → Int32) (ip : Int32) (sz : Nat) (hi : vp_in ip 8) : vx_Met l yX1_objectOf (kX1_objectOf :: gT) ({ frames := 6, cells := 1, slots := 6, locals := 90 }) (va_Pc [.ref cx, .int ip] (pR (dC, dI) [(cx, .inr (1, [.ref ar, .ref ha, .ref hz, .int col, .int mov])), (ar, .inl (cI, 8, .inl rg))] [(cI, .int)] sa sz)) (va_Qi (fun (r : Int32) (u : Unit) => fX1_objectOf rg ip = (0, r, u)) (fun _ _ => True) (va_A [] sz)) (vx_X (fun v : Nat × Unit => fX1_objectOf rg ip = (v.1, 0, v.2) ∧ v.1 ≠ 0) (fun E v _ => E = exN v.1) (va_A [] sz)) 1 6 (va_A [] sz) := by
  refine vx_ofW (cc := cX1_objectOf) (maxL := 3) (ret := (some .int)) (by decide) rfl ?_
  intro p e s m args below meth c s₁ B hml hEx hv
  obtain ⟨rfl, hsz, hP, hK, hE, hX⟩ := hv
  have hx := B.exec
  have hb := B.bytes
  have hr := B.returns
  have ht : ∀ w ∈ gT, w.before ([.ref cx, .int ip] : List Value).toArray s = true := fun w h => atoms_spec (ws := kX1_objectOf :: gT) B.pre w (List.mem_cons_of_mem _ h)
  have hown : s.vm.findClass RX1 = some m.cls := findClass_of_methodNamed B.named
  have hlocks := B.notSynchronized
  subst hsz
  generalize hAe : va_A [] s.heap.size = A at hX ⊢
  have hA : ∀ q : Nat, s.heap.size ≤ q → A q := fun q h => by rw [← hAe]; exact Or.inr h
  have hS : va_S A s.heap s.heap [] := va_S.rf
  have hl := lv_entry ([.ref cx, .int ip]) (n := 3) (Nat.le_of_ble_eq_true rfl)
  rw [lg_entry_eq]
  generalize (lg_sl ([.ref cx, .int ip]) ++ List.replicate (3 - (lg_sl ([.ref cx, .int ip])).length) Slot.unset).toArray = ls at hl ⊢
  have hl : lv_has ls 3 [(0, .ref cx), (1, .int ip)] := hl
  refine lv_aload_n hx hb dX1_objectOf_0 rfl (lv_at hl 0 rfl) ?_
  refine va_get (D := (dC, dI)) (ci := 1) (v := .ref ar) (C := RX1) (T := TX1) (N := 5) hx hb ht iX1 hown hK hP 0 rfl rfl 0 (by decide) (ht _ g_38) (fun _ h9 => h9) rfl dX1_objectOf_1 ?_
  refine lv_iload_n hx hb dX1_objectOf_4 rfl (lv_at hl 1 rfl) ?_
  refine va_iald hx hb hK hP 1 0 rfl rfl hi dX1_objectOf_5 ?_
  refine lv_istore_n (lv' := [(2, .int (rg ip.toNatClampNeg)), (0, .ref cx), (1, .int ip)]) hx hb dX1_objectOf_6 rfl hl (by decide) rfl (fun ls hl => ?_)
  refine lv_iload_n hx hb dX1_objectOf_7 rfl (lv_at hl 0 rfl) ?_
  refine vp_callSi (va_runS (As := [.int (rg ip.toNatClampNeg)]) (rest := []) ⟨hx, hb, hml, hown, ht⟩ (ctX1_isReference l (rg ip.toNatClampNeg)) (cwS 1 ht gcX1_61 rfl rfl rfl (by decide +kernel) ⟨Nat.le_of_ble_eq_true rfl, Nat.le_of_ble_eq_true rfl⟩) ⟨pT.blind, pT.call⟩ rfl rfl hl.1 rfl (lv_room (Nat.le_of_ble_eq_true rfl)) dX1_objectOf_8 ⟨Nat.le_of_ble_eq_true rfl, Nat.le_of_ble_eq_true rfl⟩).run (fun r_1 hr_1 => ?_)
  subst hr_1
  refine lv_if_ne (tgt := 24) hx hb dX1_objectOf_11 (by decide) (fun c_2 => ?_) (fun c_2 => ?_)
  · refine lv_iload_n hx hb dX1_objectOf_24 rfl (lv_at hl 0 rfl) ?_
    refine vp_callSi (va_runS (As := [.int (rg ip.toNatClampNeg)]) (rest := []) ⟨hx, hb, hml, hown, ht⟩ (ctX1_content l (rg ip.toNatClampNeg)) (cwS 1 ht gcX1_58 rfl rfl rfl (by decide +kernel) ⟨Nat.le_of_ble_eq_true rfl, Nat.le_of_ble_eq_true rfl⟩) ⟨pT.blind, pT.call⟩ rfl rfl hl.1 rfl (lv_room (Nat.le_of_ble_eq_true rfl)) dX1_objectOf_25 ⟨Nat.le_of_ble_eq_true rfl, Nat.le_of_ble_eq_true rfl⟩).run (fun r_3 hr_3 => ?_)
    subst hr_3
    refine vx_ret ?_
    refine W.widen (k := 1) (n := 6) (Nat.le_of_ble_eq_true rfl) (Nat.le_of_ble_eq_true rfl) ?_
    exact W.iret (v := fX1_content (rg ip.toNatClampNeg)) hx hb hr (fun t ht hW => ⟨⟨_, (), rfl, (by simp only [fX1_objectOf, if_neg c_2]), trivial⟩, hS.F ht⟩) hS.2.2 dX1_objectOf_28
  · exact vx_throwS (own := RX1) (cls := "java/lang/IllegalStateException") (names := ["java/lang/RuntimeException", "java/lang/Exception"]) hx hb hl9 hown (by decide +kernel) (by decide +kernel) (ht _ g_197) (ht _ g_8) hX.s124 (thS ht hE) toS hX.zU hX.zN hS (hl.1.trans hml.symm) dX1_objectOf_14 dX1_objectOf_17 dX1_objectOf_18 dX1_objectOf_20 dX1_objectOf_23 (fun x hx => (hEx x hx).elim) (Nat.le_of_ble_eq_true rfl) (Nat.le_of_ble_eq_true rfl) (Nat.le_of_ble_eq_true rfl) (Nat.le_of_ble_eq_true rfl) hlocks (fun t ha hsz hk => ⟨(2, ()), ⟨(by simp only [fX1_objectOf, if_pos c_2]), Nat.succ_ne_zero _⟩, rfl, Nat.le_trans hS.1 hsz, fun q h1 h2 => (hk q (Nat.lt_of_lt_of_le h1 hS.1)).trans (hS.2.1 q h1 h2)⟩) hS.2.2 (Nat.le_of_ble_eq_true rfl) (Nat.le_of_ble_eq_true rfl)
def fX1_requireField (n : Nat) (f : Nat → Int32) (ip : Int32) (iq : Int32) : Nat × Int32 × Unit := (if iq < 0 then (3, 0, ()) else (if iq < fX0_fieldsAt n f ip then (0, 0, ()) else (3, 0, ())))
set_option maxHeartbeats 4000000 in
set_option maxRecDepth 100000 in
theorem ctX1_requireField (l : Launch) (hl9 : l.stackTraces = false) (dC : Nat → ClassId) (dI : Nat → Nat → Nat) (cI : ClassId) (sa : Nat → Nat) (cx : Nat) (ar : Nat) (ha : Nat) (wa : Nat) (hz : Nat) (n : Nat) (col : Int32) (mov : Int32) (us : Int32) (ob : Int32) (f : Nat → Int32) (ip : Int32) (iq : Int32) (sz : Nat) (hn : n < 2 ^ 31) : vx_Met l yX1_requireField (kX1_requireField :: gT) ({ frames := 6, cells := 1, slots := 6, locals := 90 }) (va_Pc [.ref cx, .int ip, .int iq] (pR (dC, dI) [(cx, .inr (1, [.ref ar, .ref ha, .ref hz, .int col, .int mov])), (ha, .inr (0, [.ref wa, .int us, .int ob])), (wa, .inl (cI, n, .inl f))] [(cI, .int)] sa sz)) (va_Qv (fun u : Unit => fX1_requireField n f ip iq = (0, 0, u)) (fun _ _ => True) (va_A [] sz)) (vx_X (fun v : Nat × Unit => fX1_requireField n f ip iq = (v.1, 0, v.2) ∧ v.1 ≠ 0) (fun E v _ => E = exN v.1) (va_A [] sz)) 1 6 (va_A [] sz) := by
  refine vx_ofW (cc := cX1_requireField) (maxL := 3) (ret := none) (by decide) rfl ?_
  intro p e s m args below meth c s₁ B hml hEx hv
  obtain ⟨rfl, hsz, hP, hK, hE, hX⟩ := hv
  have hx := B.exec
  have hb := B.bytes
  have hr := B.returns
  have ht : ∀ w ∈ gT, w.before ([.ref cx, .int ip, .int iq] : List Value).toArray s = true := fun w h => atoms_spec (ws := kX1_requireField :: gT) B.pre w (List.mem_cons_of_mem _ h)
  have hown : s.vm.findClass RX1 = some m.cls := findClass_of_methodNamed B.named
  have hlocks := B.notSynchronized
  subst hsz
  generalize hAe : va_A [] s.heap.size = A at hX ⊢
  have hA : ∀ q : Nat, s.heap.size ≤ q → A q := fun q h => by rw [← hAe]; exact Or.inr h
  have hS : va_S A s.heap s.heap [] := va_S.rf
  have hl := lv_entry ([.ref cx, .int ip, .int iq]) (n := 3) (Nat.le_of_ble_eq_true rfl)
  rw [lg_entry_eq]
  generalize (lg_sl ([.ref cx, .int ip, .int iq]) ++ List.replicate (3 - (lg_sl ([.ref cx, .int ip, .int iq])).length) Slot.unset).toArray = ls at hl ⊢
  have hl : lv_has ls 3 [(0, .ref cx), (1, .int ip), (2, .int iq)] := hl
  refine lv_iload_n hx hb dX1_requireField_0 rfl (lv_at hl 2 rfl) ?_
  refine lv_if_lt (tgt := 16) hx hb dX1_requireField_1 (by decide) (fun c_1 => ?_) (fun c_1 => ?_)
  · exact vx_throwS (own := RX1) (cls := "java/lang/IndexOutOfBoundsException") (names := ["java/lang/RuntimeException", "java/lang/Exception"]) hx hb hl9 hown (by decide +kernel) (by decide +kernel) (ht _ g_255) (ht _ g_9) hX.s122 (thI ht hE) toI hX.zU hX.zN hS (hl.1.trans hml.symm) dX1_requireField_16 dX1_requireField_19 dX1_requireField_20 dX1_requireField_22 dX1_requireField_25 (fun x hx => (hEx x hx).elim) (Nat.le_of_ble_eq_true rfl) (Nat.le_of_ble_eq_true rfl) (Nat.le_of_ble_eq_true rfl) (Nat.le_of_ble_eq_true rfl) hlocks (fun t ha hsz hk => ⟨(3, ()), ⟨(by simp only [fX1_requireField, if_pos c_1]), Nat.succ_ne_zero _⟩, rfl, Nat.le_trans hS.1 hsz, fun q h1 h2 => (hk q (Nat.lt_of_lt_of_le h1 hS.1)).trans (hS.2.1 q h1 h2)⟩) hS.2.2 (Nat.le_of_ble_eq_true rfl) (Nat.le_of_ble_eq_true rfl)
  · refine lv_iload_n hx hb dX1_requireField_4 rfl (lv_at hl 2 rfl) ?_
    refine lv_aload_n hx hb dX1_requireField_5 rfl (lv_at hl 0 rfl) ?_
    refine va_get (D := (dC, dI)) (ci := 1) (v := .ref ha) (C := RX1) (T := TX1) (N := 5) hx hb ht iX1 hown hK hP 0 rfl rfl 1 (by decide) (ht _ g_39) (fun _ h9 => h9) rfl dX1_requireField_6 ?_
    refine lv_iload_n hx hb dX1_requireField_9 rfl (lv_at hl 1 rfl) ?_
    have hPc := hP.sub (ws' := [(ha, .inr (0, [.ref wa, .int us, .int ob])), (wa, .inl (cI, n, .inl f))]) [1, 2] rfl
    have hKc := hK.sub (tys' := [(cI, .int)]) [0] rfl
    refine vp_callSi (va_runV (As := [.int ip]) (rest := [.int iq]) ⟨hx, hb, hml, hown, ht⟩ (ctX0_fieldsAt l dC dI cI ha wa n us ob f ip hn) (cwV 1 ht gcX1_88 rfl rfl rfl (by decide +kernel) ⟨Nat.le_of_ble_eq_true rfl, Nat.le_of_ble_eq_true rfl⟩) ⟨pS.blind, va_recv hKc hPc (ci := 0) (q0 := 0) rfl rfl, pS.call hPc hKc hE⟩ rfl rfl hl.1 rfl (lv_room (Nat.le_of_ble_eq_true rfl)) dX1_requireField_10 ⟨Nat.le_of_ble_eq_true rfl, Nat.le_of_ble_eq_true rfl⟩).run (fun r_2 hr_2 => ?_)
    subst hr_2
    refine lv_icmp_lt (tgt := 26) hx hb dX1_requireField_13 (by decide) (fun c_3 => ?_) (fun c_3 => ?_)
    · refine vx_ret ?_
      refine W.widen (k := 1) (n := 6) (Nat.le_of_ble_eq_true rfl) (Nat.le_of_ble_eq_true rfl) ?_
      exact W.vret hx hb hr (fun t ht hW => ⟨⟨(), rfl, (by simp only [fX1_requireField, if_neg c_1, if_pos c_3]), trivial⟩, hS.F ht⟩) hS.2.2 dX1_requireField_26
    · exact vx_throwS (own := RX1) (cls := "java/lang/IndexOutOfBoundsException") (names := ["java/lang/RuntimeException", "java/lang/Exception"]) hx hb hl9 hown (by decide +kernel) (by decide +kernel) (ht _ g_255) (ht _ g_9) hX.s122 (thI ht hE) toI hX.zU hX.zN hS (hl.1.trans hml.symm) dX1_requireField_16 dX1_requireField_19 dX1_requireField_20 dX1_requireField_22 dX1_requireField_25 (fun x hx => (hEx x hx).elim) (Nat.le_of_ble_eq_true rfl) (Nat.le_of_ble_eq_true rfl) (Nat.le_of_ble_eq_true rfl) (Nat.le_of_ble_eq_true rfl) hlocks (fun t ha hsz hk => ⟨(3, ()), ⟨(by simp only [fX1_requireField, if_neg c_1, if_neg c_3]), Nat.succ_ne_zero _⟩, rfl, Nat.le_trans hS.1 hsz, fun q h1 h2 => (hk q (Nat.lt_of_lt_of_le h1 hS.1)).trans (hS.2.1 q h1 h2)⟩) hS.2.2 (Nat.le_of_ble_eq_true rfl) (Nat.le_of_ble_eq_true rfl)
def fX1_number (rg : Nat → Int32) (us : Int32) (ob : Int32) (f : Nat → Int32) (us2 : Int32) (ob2 : Int32) (f2 : Nat → Int32) (col : Int32) (mov : Int32) (ip : Int32) (iq : Int32) : Nat × Int32 × (Nat → Int32) × Int32 × Int32 × (Nat → Int32) × Int32 × Int32 × (Nat → Int32) × Int32 × Int32 := (if (fX1_requireRegister ip).1 = 0 then (0, fX1_content ((upd rg ip.toNatClampNeg (fX1_asNumber iq)) ip.toNatClampNeg), (upd rg ip.toNatClampNeg (fX1_asNumber iq), us, ob, f, us2, ob2, f2, col, mov)) else ((fX1_requireRegister ip).1, 0, (rg, us, ob, f, us2, ob2, f2, col, mov)))
abbrev atX1_number (dC : Nat → ClassId) (dI : Nat → Nat → Nat) (cI : ClassId) (A : Nat → Prop) (cx : Nat) (ar : Nat) (ha : Nat) (wa : Nat) (hz : Nat) (wz : Nat) (n : Nat) (u : (Nat → Int32) × Int32 × Int32 × (Nat → Int32) × Int32 × Int32 × (Nat → Int32) × Int32 × Int32) (t : State) : Prop := va_P (dC, dI) vwCl [(cx, .inr (1, [.ref ar, .ref ha, .ref hz, .int u.2.2.2.2.2.2.2.1, .int u.2.2.2.2.2.2.2.2])), (ar, .inl (cI, 8, .inl u.1)), (ha, .inr (0, [.ref wa, .int u.2.1, .int u.2.2.1])), (wa, .inl (cI, n, .inl u.2.2.2.1)), (hz, .inr (0, [.ref wz, .int u.2.2.2.2.1, .int u.2.2.2.2.2.1])), (wz, .inl (cI, n, .inl u.2.2.2.2.2.2.1))] t.heap ∧ va_K (dC, dI) vwCl [(cI, .int)] t ∧ va_D A [(cx, .inr (1, [.ref ar, .ref ha, .ref hz, .int u.2.2.2.2.2.2.2.1, .int u.2.2.2.2.2.2.2.2])), (ar, .inl (cI, 8, .inl u.1)), (ha, .inr (0, [.ref wa, .int u.2.1, .int u.2.2.1])), (wa, .inl (cI, n, .inl u.2.2.2.1)), (hz, .inr (0, [.ref wz, .int u.2.2.2.2.1, .int u.2.2.2.2.2.1])), (wz, .inl (cI, n, .inl u.2.2.2.2.2.2.1))]
set_option maxHeartbeats 4000000 in
set_option maxRecDepth 100000 in
theorem ctX1_number (l : Launch) (hl9 : l.stackTraces = false) (dC : Nat → ClassId) (dI : Nat → Nat → Nat) (cI : ClassId) (sa : Nat → Nat) (cx : Nat) (ar : Nat) (ha : Nat) (wa : Nat) (hz : Nat) (wz : Nat) (n : Nat) (col : Int32) (mov : Int32) (rg : Nat → Int32) (us : Int32) (ob : Int32) (f : Nat → Int32) (us2 : Int32) (ob2 : Int32) (f2 : Nat → Int32) (ip : Int32) (iq : Int32) (sz : Nat) (hn : n < 2 ^ 31) : vx_Met l yX1_number (kX1_number :: gT) ({ frames := 7, cells := 5, slots := 30, locals := 120 }) (va_Pc [.ref cx, .int ip, .int iq] (pY (dC, dI) [(cx, .inr (1, [.ref ar, .ref ha, .ref hz, .int col, .int mov])), (ar, .inl (cI, 8, .inl rg)), (ha, .inr (0, [.ref wa, .int us, .int ob])), (wa, .inl (cI, n, .inl f)), (hz, .inr (0, [.ref wz, .int us2, .int ob2])), (wz, .inl (cI, n, .inl f2))] [(cI, .int)] sa sz)) (va_Qi (fun (r : Int32) (u : (Nat → Int32) × Int32 × Int32 × (Nat → Int32) × Int32 × Int32 × (Nat → Int32) × Int32 × Int32) => fX1_number rg us ob f us2 ob2 f2 col mov ip iq = (0, r, u)) (atX1_number dC dI cI (va_A [(cx, .inr (1, [.ref ar, .ref ha, .ref hz, .int col, .int mov])), (ar, .inl (cI, 8, .inl rg)), (ha, .inr (0, [.ref wa, .int us, .int ob])), (wa, .inl (cI, n, .inl f)), (hz, .inr (0, [.ref wz, .int us2, .int ob2])), (wz, .inl (cI, n, .inl f2))] sz) cx ar ha wa hz wz n) (va_A [(cx, .inr (1, [.ref ar, .ref ha, .ref hz, .int col, .int mov])), (ar, .inl (cI, 8, .inl rg)), (ha, .inr (0, [.ref wa, .int us, .int ob])), (wa, .inl (cI, n, .inl f)), (hz, .inr (0, [.ref wz, .int us2, .int ob2])), (wz, .inl (cI, n, .inl f2))] sz)) (vx_X (fun v : Nat × ((Nat → Int32) × Int32 × Int32 × (Nat → Int32) × Int32 × Int32 × (Nat → Int32) × Int32 × Int32) => fX1_number rg us ob f us2 ob2 f2 col mov ip iq = (v.1, 0, v.2) ∧ v.1 ≠ 0) (fun E v t => E = exN v.1 ∧ atX1_number dC dI cI (va_A [(cx, .inr (1, [.ref ar, .ref ha, .ref hz, .int col, .int mov])), (ar, .inl (cI, 8, .inl rg)), (ha, .inr (0, [.ref wa, .int us, .int ob])), (wa, .inl (cI, n, .inl f)), (hz, .inr (0, [.ref wz, .int us2, .int ob2])), (wz, .inl (cI, n, .inl f2))] sz) cx ar ha wa hz wz n v.2 t) (va_A [(cx, .inr (1, [.ref ar, .ref ha, .ref hz, .int col, .int mov])), (ar, .inl (cI, 8, .inl rg)), (ha, .inr (0, [.ref wa, .int us, .int ob])), (wa, .inl (cI, n, .inl f)), (hz, .inr (0, [.ref wz, .int us2, .int ob2])), (wz, .inl (cI, n, .inl f2))] sz)) 5 30 (va_A [(cx, .inr (1, [.ref ar, .ref ha, .ref hz, .int col, .int mov])), (ar, .inl (cI, 8, .inl rg)), (ha, .inr (0, [.ref wa, .int us, .int ob])), (wa, .inl (cI, n, .inl f)), (hz, .inr (0, [.ref wz, .int us2, .int ob2])), (wz, .inl (cI, n, .inl f2))] sz) := by
  refine vx_ofW (cc := cX1_number) (maxL := 3) (ret := (some .int)) (by decide) rfl ?_
  intro p e s m args below meth c s₁ B hml hEx hv
  obtain ⟨rfl, hsz, hP, hK, hD0, hE, hX⟩ := hv
  have hx := B.exec
  have hb := B.bytes
  have hr := B.returns
  have ht : ∀ w ∈ gT, w.before ([.ref cx, .int ip, .int iq] : List Value).toArray s = true := fun w h => atoms_spec (ws := kX1_number :: gT) B.pre w (List.mem_cons_of_mem _ h)
  have hown : s.vm.findClass RX1 = some m.cls := findClass_of_methodNamed B.named
  have hlocks := B.notSynchronized
  subst hsz
  have hD := hD0.self (sz := s.heap.size)
  generalize hAe : va_A [(cx, .inr (1, [.ref ar, .ref ha, .ref hz, .int col, .int mov])), (ar, .inl (cI, 8, .inl rg)), (ha, .inr (0, [.ref wa, .int us, .int ob])), (wa, .inl (cI, n, .inl f)), (hz, .inr (0, [.ref wz, .int us2, .int ob2])), (wz, .inl (cI, n, .inl f2))] s.heap.size = A at hD hX ⊢
  have hA : ∀ q : Nat, s.heap.size ≤ q → A q := fun q h => by rw [← hAe]; exact Or.inr h
  have hS : va_S A s.heap s.heap [] := va_S.rf
  have hl := lv_entry ([.ref cx, .int ip, .int iq]) (n := 3) (Nat.le_of_ble_eq_true rfl)
  rw [lg_entry_eq]
  generalize (lg_sl ([.ref cx, .int ip, .int iq]) ++ List.replicate (3 - (lg_sl ([.ref cx, .int ip, .int iq])).length) Slot.unset).toArray = ls at hl ⊢
  have hl : lv_has ls 3 [(0, .ref cx), (1, .int ip), (2, .int iq)] := hl
  refine lv_iload_n hx hb dX1_number_0 rfl (lv_at hl 1 rfl) ?_
  have hPc := hP.sub (ws' := []) [] rfl
  have hKc := hK.sub (tys' := []) [] rfl
  have hFc := nilF hS hA
  refine vx_callv (vx_runS (As := [.int ip]) (rest := []) ⟨hx, hb, hml, hown, ht⟩ (ctX1_requireRegister l hl9 dC dI cI sa ip _ ) (cwS 1 ht gcX1_25 rfl rfl rfl (by decide +kernel) ⟨Nat.le_of_ble_eq_true rfl, Nat.le_of_ble_eq_true rfl⟩) ⟨pR.blind, pR.call hPc hKc hE hX hS hFc⟩ rfl rfl hl.1 rfl (lv_room (Nat.le_of_ble_eq_true rfl)) dX1_number_1 ⟨Nat.le_of_ble_eq_true rfl, Nat.le_of_ble_eq_true rfl⟩) hS (fun q _ h => hFc q h) hFc (fun q _ h => hFc q h) (fun E ce q9 u_1 t H1 locs ht9 hvm hp hB hz1 hk1 hS hce hcv hcl => ?_) (fun u_1 t H1 locs ht9 hvm hw hB hz1 hk1 hS => ?_)
  · obtain ⟨hpe, hpk⟩ := hp
    have hB := hB
    obtain rfl : u_1 = ((fX1_requireRegister ip).1, (fX1_requireRegister ip).2.2) := by rw [hpe]
    have c_3 : ¬ (fX1_requireRegister ip).1 = 0 := hpk
    subst hB
    have hP1 := nilP (D := (dC, dI)) (H := H1)
    have hP := rKeep hP hk1
    generalize H1 = H at hP hS hce ⊢
    have hP9 := hP.sub (ws' := [(cx, .inr (1, [.ref ar, .ref ha, .ref hz, .int col, .int mov])), (ar, .inl (cI, 8, .inl rg)), (ha, .inr (0, [.ref wa, .int us, .int ob])), (wa, .inl (cI, n, .inl f)), (hz, .inr (0, [.ref wz, .int us2, .int ob2])), (wz, .inl (cI, n, .inl f2))]) [0, 1, 2, 3, 4, 5] rfl
    have hD9 := hD.sub (ws' := [(cx, .inr (1, [.ref ar, .ref ha, .ref hz, .int col, .int mov])), (ar, .inl (cI, 8, .inl rg)), (ha, .inr (0, [.ref wa, .int us, .int ob])), (wa, .inl (cI, n, .inl f)), (hz, .inr (0, [.ref wz, .int us2, .int ob2])), (wz, .inl (cI, n, .inl f2))]) [0, 1, 2, 3, 4, 5] (by decide) rfl
    have hK9 := hK.sub (tys' := [(cI, .int)]) [0] rfl
    exact vx_out (fun x hx => (hEx x hx).elim) hlocks hce hcv hcl (fun t ht ha => ⟨((fX1_requireRegister ip).1, (rg, us, ob, f, us2, ob2, f2, col, mov)), ⟨(by simp only [fX1_number, if_neg c_3]), hpk⟩, ⟨rfl, by rw [ht]; exact hP9, va_K.moved ha hK9, hD9⟩, hS.F ht⟩) hS.2.2 (Nat.le_of_ble_eq_true rfl) (Nat.le_of_ble_eq_true rfl)
  · have c_3 : (fX1_requireRegister ip).1 = 0 := by rw [hw]
    have hP := rKeep hP hk1
    generalize H1 = H at hP hS ⊢
    refine lv_aload_n hx hb dX1_number_4 rfl (lv_at hl 0 rfl) ?_
    refine va_get (D := (dC, dI)) (ci := 1) (v := .ref ar) (C := RX1) (T := TX1) (N := 5) hx hb ht iX1 hown hK hP 0 rfl rfl 0 (by decide) (ht _ g_38) (fun _ h9 => h9) rfl dX1_number_5 ?_
    refine lv_iload_n hx hb dX1_number_8 rfl (lv_at hl 1 rfl) ?_
    refine lv_iload_n hx hb dX1_number_9 rfl (lv_at hl 2 rfl) ?_
    refine vp_callSi (va_runS (As := [.int iq]) (rest := [.int ip, .ref ar]) ⟨hx, hb, hml, hown, ht⟩ (ctX1_asNumber l iq) (cwS 1 ht gcX1_55 rfl rfl rfl (by decide +kernel) ⟨Nat.le_of_ble_eq_true rfl, Nat.le_of_ble_eq_true rfl⟩) ⟨pT.blind, pT.call⟩ rfl rfl hl.1 rfl (lv_room (Nat.le_of_ble_eq_true rfl)) dX1_number_10 ⟨Nat.le_of_ble_eq_true rfl, Nat.le_of_ble_eq_true rfl⟩).run (fun r_4 hr_4 => ?_)
    subst hr_4
    refine va_iast hx hb hK hP hD hS 1 0 rfl rfl (rrIn c_3) dX1_number_13 (fun H locs hP hD hS => ?_)
    have hP : va_P (dC, dI) vwCl [(cx, .inr (1, [.ref ar, .ref ha, .ref hz, .int col, .int mov])), (ar, .inl (cI, 8, .inl (upd rg ip.toNatClampNeg (fX1_asNumber iq)))), (ha, .inr (0, [.ref wa, .int us, .int ob])), (wa, .inl (cI, n, .inl f)), (hz, .inr (0, [.ref wz, .int us2, .int ob2])), (wz, .inl (cI, n, .inl f2))] H := hP
    have hD : va_D A [(cx, .inr (1, [.ref ar, .ref ha, .ref hz, .int col, .int mov])), (ar, .inl (cI, 8, .inl (upd rg ip.toNatClampNeg (fX1_asNumber iq)))), (ha, .inr (0, [.ref wa, .int us, .int ob])), (wa, .inl (cI, n, .inl f)), (hz, .inr (0, [.ref wz, .int us2, .int ob2])), (wz, .inl (cI, n, .inl f2))] := hD
    refine lv_aload_n hx hb dX1_number_14 rfl (lv_at hl 0 rfl) ?_
    refine va_get (D := (dC, dI)) (ci := 1) (v := .ref ar) (C := RX1) (T := TX1) (N := 5) hx hb ht iX1 hown hK hP 0 rfl rfl 0 (by decide) (ht _ g_38) (fun _ h9 => h9) rfl dX1_number_15 ?_
    refine lv_iload_n hx hb dX1_number_18 rfl (lv_at hl 1 rfl) ?_
    refine va_iald hx hb hK hP 1 0 rfl rfl (rrIn c_3) dX1_number_19 ?_
    refine vp_callSi (va_runS (As := [.int ((upd rg ip.toNatClampNeg (fX1_asNumber iq)) ip.toNatClampNeg)]) (rest := []) ⟨hx, hb, hml, hown, ht⟩ (ctX1_content l ((upd rg ip.toNatClampNeg (fX1_asNumber iq)) ip.toNatClampNeg)) (cwS 1 ht gcX1_58 rfl rfl rfl (by decide +kernel) ⟨Nat.le_of_ble_eq_true rfl, Nat.le_of_ble_eq_true rfl⟩) ⟨pT.blind, pT.call⟩ rfl rfl hl.1 rfl (lv_room (Nat.le_of_ble_eq_true rfl)) dX1_number_20 ⟨Nat.le_of_ble_eq_true rfl, Nat.le_of_ble_eq_true rfl⟩).run (fun r_5 hr_5 => ?_)
    subst hr_5
    refine vx_ret ?_
    refine W.widen (k := 5) (n := 30) (Nat.le_of_ble_eq_true rfl) (Nat.le_of_ble_eq_true rfl) ?_
    have hP9 := hP.sub (ws' := [(cx, .inr (1, [.ref ar, .ref ha, .ref hz, .int col, .int mov])), (ar, .inl (cI, 8, .inl (upd rg ip.toNatClampNeg (fX1_asNumber iq)))), (ha, .inr (0, [.ref wa, .int us, .int ob])), (wa, .inl (cI, n, .inl f)), (hz, .inr (0, [.ref wz, .int us2, .int ob2])), (wz, .inl (cI, n, .inl f2))]) [0, 1, 2, 3, 4, 5] rfl
    have hD9 := hD.sub (ws' := [(cx, .inr (1, [.ref ar, .ref ha, .ref hz, .int col, .int mov])), (ar, .inl (cI, 8, .inl (upd rg ip.toNatClampNeg (fX1_asNumber iq)))), (ha, .inr (0, [.ref wa, .int us, .int ob])), (wa, .inl (cI, n, .inl f)), (hz, .inr (0, [.ref wz, .int us2, .int ob2])), (wz, .inl (cI, n, .inl f2))]) [0, 1, 2, 3, 4, 5] (by decide) rfl
    have hK9 := hK.sub (tys' := [(cI, .int)]) [0] rfl
    exact W.iret (v := fX1_content ((upd rg ip.toNatClampNeg (fX1_asNumber iq)) ip.toNatClampNeg)) hx hb hr (fun t ht hW => ⟨⟨_, (upd rg ip.toNatClampNeg (fX1_asNumber iq), us, ob, f, us2, ob2, f2, col, mov), rfl, (by simp only [fX1_number, if_pos c_3]), by rw [ht]; exact hP9, va_K.moved hW.alike hK9, hD9⟩, hS.F ht⟩) hS.2.2 dX1_number_23
def fX1_copy (rg : Nat → Int32) (us : Int32) (ob : Int32) (f : Nat → Int32) (us2 : Int32) (ob2 : Int32) (f2 : Nat → Int32) (col : Int32) (mov : Int32) (ip : Int32) (iq : Int32) : Nat × Int32 × (Nat → Int32) × Int32 × Int32 × (Nat → Int32) × Int32 × Int32 × (Nat → Int32) × Int32 × Int32 := (if (fX1_requireRegister ip).1 = 0 then (if (fX1_requireRegister iq).1 = 0 then (0, fX1_isReference ((upd rg ip.toNatClampNeg (rg iq.toNatClampNeg)) ip.toNatClampNeg), (upd rg ip.toNatClampNeg (rg iq.toNatClampNeg), us, ob, f, us2, ob2, f2, col, mov)) else ((fX1_requireRegister iq).1, 0, (rg, us, ob, f, us2, ob2, f2, col, mov))) else ((fX1_requireRegister ip).1, 0, (rg, us, ob, f, us2, ob2, f2, col, mov)))
abbrev atX1_copy (dC : Nat → ClassId) (dI : Nat → Nat → Nat) (cI : ClassId) (A : Nat → Prop) (cx : Nat) (ar : Nat) (ha : Nat) (wa : Nat) (hz : Nat) (wz : Nat) (n : Nat) (u : (Nat → Int32) × Int32 × Int32 × (Nat → Int32) × Int32 × Int32 × (Nat → Int32) × Int32 × Int32) (t : State) : Prop := va_P (dC, dI) vwCl [(cx, .inr (1, [.ref ar, .ref ha, .ref hz, .int u.2.2.2.2.2.2.2.1, .int u.2.2.2.2.2.2.2.2])), (ar, .inl (cI, 8, .inl u.1)), (ha, .inr (0, [.ref wa, .int u.2.1, .int u.2.2.1])), (wa, .inl (cI, n, .inl u.2.2.2.1)), (hz, .inr (0, [.ref wz, .int u.2.2.2.2.1, .int u.2.2.2.2.2.1])), (wz, .inl (cI, n, .inl u.2.2.2.2.2.2.1))] t.heap ∧ va_K (dC, dI) vwCl [(cI, .int)] t ∧ va_D A [(cx, .inr (1, [.ref ar, .ref ha, .ref hz, .int u.2.2.2.2.2.2.2.1, .int u.2.2.2.2.2.2.2.2])), (ar, .inl (cI, 8, .inl u.1)), (ha, .inr (0, [.ref wa, .int u.2.1, .int u.2.2.1])), (wa, .inl (cI, n, .inl u.2.2.2.1)), (hz, .inr (0, [.ref wz, .int u.2.2.2.2.1, .int u.2.2.2.2.2.1])), (wz, .inl (cI, n, .inl u.2.2.2.2.2.2.1))]
set_option maxHeartbeats 4000000 in
set_option maxRecDepth 100000 in
theorem ctX1_copy (l : Launch) (hl9 : l.stackTraces = false) (dC : Nat → ClassId) (dI : Nat → Nat → Nat) (cI : ClassId) (sa : Nat → Nat) (cx : Nat) (ar : Nat) (ha : Nat) (wa : Nat) (hz : Nat) (wz : Nat) (n : Nat) (col : Int32) (mov : Int32) (rg : Nat → Int32) (us : Int32) (ob : Int32) (f : Nat → Int32) (us2 : Int32) (ob2 : Int32) (f2 : Nat → Int32) (ip : Int32) (iq : Int32) (sz : Nat) (hn : n < 2 ^ 31) : vx_Met l yX1_copy (kX1_copy :: gT) ({ frames := 7, cells := 5, slots := 30, locals := 120 }) (va_Pc [.ref cx, .int ip, .int iq] (pY (dC, dI) [(cx, .inr (1, [.ref ar, .ref ha, .ref hz, .int col, .int mov])), (ar, .inl (cI, 8, .inl rg)), (ha, .inr (0, [.ref wa, .int us, .int ob])), (wa, .inl (cI, n, .inl f)), (hz, .inr (0, [.ref wz, .int us2, .int ob2])), (wz, .inl (cI, n, .inl f2))] [(cI, .int)] sa sz)) (va_Qi (fun (r : Int32) (u : (Nat → Int32) × Int32 × Int32 × (Nat → Int32) × Int32 × Int32 × (Nat → Int32) × Int32 × Int32) => fX1_copy rg us ob f us2 ob2 f2 col mov ip iq = (0, r, u)) (atX1_copy dC dI cI (va_A [(cx, .inr (1, [.ref ar, .ref ha, .ref hz, .int col, .int mov])), (ar, .inl (cI, 8, .inl rg)), (ha, .inr (0, [.ref wa, .int us, .int ob])), (wa, .inl (cI, n, .inl f)), (hz, .inr (0, [.ref wz, .int us2, .int ob2])), (wz, .inl (cI, n, .inl f2))] sz) cx ar ha wa hz wz n) (va_A [(cx, .inr (1, [.ref ar, .ref ha, .ref hz, .int col, .int mov])), (ar, .inl (cI, 8, .inl rg)), (ha, .inr (0, [.ref wa, .int us, .int ob])), (wa, .inl (cI, n, .inl f)), (hz, .inr (0, [.ref wz, .int us2, .int ob2])), (wz, .inl (cI, n, .inl f2))] sz)) (vx_X (fun v : Nat × ((Nat → Int32) × Int32 × Int32 × (Nat → Int32) × Int32 × Int32 × (Nat → Int32) × Int32 × Int32) => fX1_copy rg us ob f us2 ob2 f2 col mov ip iq = (v.1, 0, v.2) ∧ v.1 ≠ 0) (fun E v t => E = exN v.1 ∧ atX1_copy dC dI cI (va_A [(cx, .inr (1, [.ref ar, .ref ha, .ref hz, .int col, .int mov])), (ar, .inl (cI, 8, .inl rg)), (ha, .inr (0, [.ref wa, .int us, .int ob])), (wa, .inl (cI, n, .inl f)), (hz, .inr (0, [.ref wz, .int us2, .int ob2])), (wz, .inl (cI, n, .inl f2))] sz) cx ar ha wa hz wz n v.2 t) (va_A [(cx, .inr (1, [.ref ar, .ref ha, .ref hz, .int col, .int mov])), (ar, .inl (cI, 8, .inl rg)), (ha, .inr (0, [.ref wa, .int us, .int ob])), (wa, .inl (cI, n, .inl f)), (hz, .inr (0, [.ref wz, .int us2, .int ob2])), (wz, .inl (cI, n, .inl f2))] sz)) 5 30 (va_A [(cx, .inr (1, [.ref ar, .ref ha, .ref hz, .int col, .int mov])), (ar, .inl (cI, 8, .inl rg)), (ha, .inr (0, [.ref wa, .int us, .int ob])), (wa, .inl (cI, n, .inl f)), (hz, .inr (0, [.ref wz, .int us2, .int ob2])), (wz, .inl (cI, n, .inl f2))] sz) := by
  refine vx_ofW (cc := cX1_copy) (maxL := 3) (ret := (some .boolean)) (by decide) rfl ?_
  intro p e s m args below meth c s₁ B hml hEx hv
  obtain ⟨rfl, hsz, hP, hK, hD0, hE, hX⟩ := hv
  have hx := B.exec
  have hb := B.bytes
  have hr := B.returns
  have ht : ∀ w ∈ gT, w.before ([.ref cx, .int ip, .int iq] : List Value).toArray s = true := fun w h => atoms_spec (ws := kX1_copy :: gT) B.pre w (List.mem_cons_of_mem _ h)
  have hown : s.vm.findClass RX1 = some m.cls := findClass_of_methodNamed B.named
  have hlocks := B.notSynchronized
  subst hsz
  have hD := hD0.self (sz := s.heap.size)
  generalize hAe : va_A [(cx, .inr (1, [.ref ar, .ref ha, .ref hz, .int col, .int mov])), (ar, .inl (cI, 8, .inl rg)), (ha, .inr (0, [.ref wa, .int us, .int ob])), (wa, .inl (cI, n, .inl f)), (hz, .inr (0, [.ref wz, .int us2, .int ob2])), (wz, .inl (cI, n, .inl f2))] s.heap.size = A at hD hX ⊢
  have hA : ∀ q : Nat, s.heap.size ≤ q → A q := fun q h => by rw [← hAe]; exact Or.inr h
  have hS : va_S A s.heap s.heap [] := va_S.rf
  have hl := lv_entry ([.ref cx, .int ip, .int iq]) (n := 3) (Nat.le_of_ble_eq_true rfl)
  rw [lg_entry_eq]
  generalize (lg_sl ([.ref cx, .int ip, .int iq]) ++ List.replicate (3 - (lg_sl ([.ref cx, .int ip, .int iq])).length) Slot.unset).toArray = ls at hl ⊢
  have hl : lv_has ls 3 [(0, .ref cx), (1, .int ip), (2, .int iq)] := hl
  refine lv_iload_n hx hb dX1_copy_0 rfl (lv_at hl 1 rfl) ?_
  have hPc := hP.sub (ws' := []) [] rfl
  have hKc := hK.sub (tys' := []) [] rfl
  have hFc := nilF hS hA
  refine vx_callv (vx_runS (As := [.int ip]) (rest := []) ⟨hx, hb, hml, hown, ht⟩ (ctX1_requireRegister l hl9 dC dI cI sa ip _ ) (cwS 1 ht gcX1_25 rfl rfl rfl (by decide +kernel) ⟨Nat.le_of_ble_eq_true rfl, Nat.le_of_ble_eq_true rfl⟩) ⟨pR.blind, pR.call hPc hKc hE hX hS hFc⟩ rfl rfl hl.1 rfl (lv_room (Nat.le_of_ble_eq_true rfl)) dX1_copy_1 ⟨Nat.le_of_ble_eq_true rfl, Nat.le_of_ble_eq_true rfl⟩) hS (fun q _ h => hFc q h) hFc (fun q _ h => hFc q h) (fun E ce q9 u_1 t H1 locs ht9 hvm hp hB hz1 hk1 hS hce hcv hcl => ?_) (fun u_1 t H1 locs ht9 hvm hw hB hz1 hk1 hS => ?_)
  · obtain ⟨hpe, hpk⟩ := hp
    have hB := hB
    obtain rfl : u_1 = ((fX1_requireRegister ip).1, (fX1_requireRegister ip).2.2) := by rw [hpe]
    have c_3 : ¬ (fX1_requireRegister ip).1 = 0 := hpk
    subst hB
    have hP1 := nilP (D := (dC, dI)) (H := H1)
    have hP := rKeep hP hk1
    generalize H1 = H at hP hS hce ⊢
    have hP9 := hP.sub (ws' := [(cx, .inr (1, [.ref ar, .ref ha, .ref hz, .int col, .int mov])), (ar, .inl (cI, 8, .inl rg)), (ha, .inr (0, [.ref wa, .int us, .int ob])), (wa, .inl (cI, n, .inl f)), (hz, .inr (0, [.ref wz, .int us2, .int ob2])), (wz, .inl (cI, n, .inl f2))]) [0, 1, 2, 3, 4, 5] rfl
    have hD9 := hD.sub (ws' := [(cx, .inr (1, [.ref ar, .ref ha, .ref hz, .int col, .int mov])), (ar, .inl (cI, 8, .inl rg)), (ha, .inr (0, [.ref wa, .int us, .int ob])), (wa, .inl (cI, n, .inl f)), (hz, .inr (0, [.ref wz, .int us2, .int ob2])), (wz, .inl (cI, n, .inl f2))]) [0, 1, 2, 3, 4, 5] (by decide) rfl
    have hK9 := hK.sub (tys' := [(cI, .int)]) [0] rfl
    exact vx_out (fun x hx => (hEx x hx).elim) hlocks hce hcv hcl (fun t ht ha => ⟨((fX1_requireRegister ip).1, (rg, us, ob, f, us2, ob2, f2, col, mov)), ⟨(by simp only [fX1_copy, if_neg c_3]), hpk⟩, ⟨rfl, by rw [ht]; exact hP9, va_K.moved ha hK9, hD9⟩, hS.F ht⟩) hS.2.2 (Nat.le_of_ble_eq_true rfl) (Nat.le_of_ble_eq_true rfl)
  · have c_3 : (fX1_requireRegister ip).1 = 0 := by rw [hw]
    have hP := rKeep hP hk1
    generalize H1 = H at hP hS ⊢
    refine lv_iload_n hx hb dX1_copy_4 rfl (lv_at hl 2 rfl) ?_
    have hPc := hP.sub (ws' := []) [] rfl
    have hKc := hK.sub (tys' := []) [] rfl
    have hFc := nilF hS hA
    refine vx_callv (vx_runS (As := [.int iq]) (rest := []) ⟨hx, hb, hml, hown, ht⟩ (ctX1_requireRegister l hl9 dC dI cI sa iq _ ) (cwS 1 ht gcX1_25 rfl rfl rfl (by decide +kernel) ⟨Nat.le_of_ble_eq_true rfl, Nat.le_of_ble_eq_true rfl⟩) ⟨pR.blind, pR.call hPc hKc hE hX hS hFc⟩ rfl rfl hl.1 rfl (lv_room (Nat.le_of_ble_eq_true rfl)) dX1_copy_5 ⟨Nat.le_of_ble_eq_true rfl, Nat.le_of_ble_eq_true rfl⟩) hS (fun q _ h => hFc q h) hFc (fun q _ h => hFc q h) (fun E ce q9 u_4 t H1 locs ht9 hvm hp hB hz1 hk1 hS hce hcv hcl => ?_) (fun u_4 t H1 locs ht9 hvm hw hB hz1 hk1 hS => ?_)
    · obtain ⟨hpe, hpk⟩ := hp
      have hB := hB
      obtain rfl : u_4 = ((fX1_requireRegister iq).1, (fX1_requireRegister iq).2.2) := by rw [hpe]
      have c_6 : ¬ (fX1_requireRegister iq).1 = 0 := hpk
      subst hB
      have hP1 := nilP (D := (dC, dI)) (H := H1)
      have hP := rKeep hP hk1
      generalize H1 = H at hP hS hce ⊢
      have hP9 := hP.sub (ws' := [(cx, .inr (1, [.ref ar, .ref ha, .ref hz, .int col, .int mov])), (ar, .inl (cI, 8, .inl rg)), (ha, .inr (0, [.ref wa, .int us, .int ob])), (wa, .inl (cI, n, .inl f)), (hz, .inr (0, [.ref wz, .int us2, .int ob2])), (wz, .inl (cI, n, .inl f2))]) [0, 1, 2, 3, 4, 5] rfl
      have hD9 := hD.sub (ws' := [(cx, .inr (1, [.ref ar, .ref ha, .ref hz, .int col, .int mov])), (ar, .inl (cI, 8, .inl rg)), (ha, .inr (0, [.ref wa, .int us, .int ob])), (wa, .inl (cI, n, .inl f)), (hz, .inr (0, [.ref wz, .int us2, .int ob2])), (wz, .inl (cI, n, .inl f2))]) [0, 1, 2, 3, 4, 5] (by decide) rfl
      have hK9 := hK.sub (tys' := [(cI, .int)]) [0] rfl
      exact vx_out (fun x hx => (hEx x hx).elim) hlocks hce hcv hcl (fun t ht ha => ⟨((fX1_requireRegister iq).1, (rg, us, ob, f, us2, ob2, f2, col, mov)), ⟨(by simp only [fX1_copy, if_pos c_3, if_neg c_6]), hpk⟩, ⟨rfl, by rw [ht]; exact hP9, va_K.moved ha hK9, hD9⟩, hS.F ht⟩) hS.2.2 (Nat.le_of_ble_eq_true rfl) (Nat.le_of_ble_eq_true rfl)
    · have c_6 : (fX1_requireRegister iq).1 = 0 := by rw [hw]
      have hP := rKeep hP hk1
      generalize H1 = H at hP hS ⊢
      refine lv_aload_n hx hb dX1_copy_8 rfl (lv_at hl 0 rfl) ?_
      refine va_get (D := (dC, dI)) (ci := 1) (v := .ref ar) (C := RX1) (T := TX1) (N := 5) hx hb ht iX1 hown hK hP 0 rfl rfl 0 (by decide) (ht _ g_38) (fun _ h9 => h9) rfl dX1_copy_9 ?_
      refine lv_iload_n hx hb dX1_copy_12 rfl (lv_at hl 1 rfl) ?_
      refine lv_aload_n hx hb dX1_copy_13 rfl (lv_at hl 0 rfl) ?_
      refine va_get (D := (dC, dI)) (ci := 1) (v := .ref ar) (C := RX1) (T := TX1) (N := 5) hx hb ht iX1 hown hK hP 0 rfl rfl 0 (by decide) (ht _ g_38) (fun _ h9 => h9) rfl dX1_copy_14 ?_
      refine lv_iload_n hx hb dX1_copy_17 rfl (lv_at hl 2 rfl) ?_
      refine va_iald hx hb hK hP 1 0 rfl rfl (rrIn c_6) dX1_copy_18 ?_
      refine va_iast hx hb hK hP hD hS 1 0 rfl rfl (rrIn c_3) dX1_copy_19 (fun H locs hP hD hS => ?_)
      have hP : va_P (dC, dI) vwCl [(cx, .inr (1, [.ref ar, .ref ha, .ref hz, .int col, .int mov])), (ar, .inl (cI, 8, .inl (upd rg ip.toNatClampNeg (rg iq.toNatClampNeg)))), (ha, .inr (0, [.ref wa, .int us, .int ob])), (wa, .inl (cI, n, .inl f)), (hz, .inr (0, [.ref wz, .int us2, .int ob2])), (wz, .inl (cI, n, .inl f2))] H := hP
      have hD : va_D A [(cx, .inr (1, [.ref ar, .ref ha, .ref hz, .int col, .int mov])), (ar, .inl (cI, 8, .inl (upd rg ip.toNatClampNeg (rg iq.toNatClampNeg)))), (ha, .inr (0, [.ref wa, .int us, .int ob])), (wa, .inl (cI, n, .inl f)), (hz, .inr (0, [.ref wz, .int us2, .int ob2])), (wz, .inl (cI, n, .inl f2))] := hD
      refine lv_aload_n hx hb dX1_copy_20 rfl (lv_at hl 0 rfl) ?_
      refine va_get (D := (dC, dI)) (ci := 1) (v := .ref ar) (C := RX1) (T := TX1) (N := 5) hx hb ht iX1 hown hK hP 0 rfl rfl 0 (by decide) (ht _ g_38) (fun _ h9 => h9) rfl dX1_copy_21 ?_
      refine lv_iload_n hx hb dX1_copy_24 rfl (lv_at hl 1 rfl) ?_
      refine va_iald hx hb hK hP 1 0 rfl rfl (rrIn c_3) dX1_copy_25 ?_
      refine vp_callSi (va_runS (As := [.int ((upd rg ip.toNatClampNeg (rg iq.toNatClampNeg)) ip.toNatClampNeg)]) (rest := []) ⟨hx, hb, hml, hown, ht⟩ (ctX1_isReference l ((upd rg ip.toNatClampNeg (rg iq.toNatClampNeg)) ip.toNatClampNeg)) (cwS 1 ht gcX1_61 rfl rfl rfl (by decide +kernel) ⟨Nat.le_of_ble_eq_true rfl, Nat.le_of_ble_eq_true rfl⟩) ⟨pT.blind, pT.call⟩ rfl rfl hl.1 rfl (lv_room (Nat.le_of_ble_eq_true rfl)) dX1_copy_26 ⟨Nat.le_of_ble_eq_true rfl, Nat.le_of_ble_eq_true rfl⟩).run (fun r_7 hr_7 => ?_)
      subst hr_7
      refine vx_ret ?_
      refine W.widen (k := 5) (n := 30) (Nat.le_of_ble_eq_true rfl) (Nat.le_of_ble_eq_true rfl) ?_
      have hP9 := hP.sub (ws' := [(cx, .inr (1, [.ref ar, .ref ha, .ref hz, .int col, .int mov])), (ar, .inl (cI, 8, .inl (upd rg ip.toNatClampNeg (rg iq.toNatClampNeg)))), (ha, .inr (0, [.ref wa, .int us, .int ob])), (wa, .inl (cI, n, .inl f)), (hz, .inr (0, [.ref wz, .int us2, .int ob2])), (wz, .inl (cI, n, .inl f2))]) [0, 1, 2, 3, 4, 5] rfl
      have hD9 := hD.sub (ws' := [(cx, .inr (1, [.ref ar, .ref ha, .ref hz, .int col, .int mov])), (ar, .inl (cI, 8, .inl (upd rg ip.toNatClampNeg (rg iq.toNatClampNeg)))), (ha, .inr (0, [.ref wa, .int us, .int ob])), (wa, .inl (cI, n, .inl f)), (hz, .inr (0, [.ref wz, .int us2, .int ob2])), (wz, .inl (cI, n, .inl f2))]) [0, 1, 2, 3, 4, 5] (by decide) rfl
      have hK9 := hK.sub (tys' := [(cI, .int)]) [0] rfl
      exact W.zret (v := fX1_isReference ((upd rg ip.toNatClampNeg (rg iq.toNatClampNeg)) ip.toNatClampNeg)) hx hb hr (zb (isRef01 _)) (fun t ht hW => ⟨⟨_, (upd rg ip.toNatClampNeg (rg iq.toNatClampNeg), us, ob, f, us2, ob2, f2, col, mov), rfl, (by simp only [fX1_copy, if_pos c_3, if_pos c_6]), by rw [ht]; exact hP9, va_K.moved hW.alike hK9, hD9⟩, hS.F ht⟩) hS.2.2 dX1_copy_29
def fX1_put (n : Nat) (rg : Nat → Int32) (us : Int32) (ob : Int32) (f : Nat → Int32) (us2 : Int32) (ob2 : Int32) (f2 : Nat → Int32) (col : Int32) (mov : Int32) (ip : Int32) (iq : Int32) (ir : Int32) : Nat × Int32 × (Nat → Int32) × Int32 × Int32 × (Nat → Int32) × Int32 × Int32 × (Nat → Int32) × Int32 × Int32 := (if (fX1_requireRegister ip).1 = 0 then (if (fX1_requireRegister ir).1 = 0 then (if (fX1_objectOf rg ip).1 = 0 then (if fX0_kindAt n f ((fX1_objectOf rg ip).2.1) = 1 then (if fX1_isReference (rg ir.toNatClampNeg) = 0 then (if (fX1_requireField n f ((fX1_objectOf rg ip).2.1) iq).1 = 0 then (0, 0, (rg, (fX0_setWord n us ob f ((((fX1_objectOf rg ip).2.1) + 1) + iq) (fX1_content (rg ir.toNatClampNeg))).1, (fX0_setWord n us ob f ((((fX1_objectOf rg ip).2.1) + 1) + iq) (fX1_content (rg ir.toNatClampNeg))).2.1, (fX0_setWord n us ob f ((((fX1_objectOf rg ip).2.1) + 1) + iq) (fX1_content (rg ir.toNatClampNeg))).2.2, us2, ob2, f2, col, mov)) else ((fX1_requireField n f ((fX1_objectOf rg ip).2.1) iq).1, 0, (rg, us, ob, f, us2, ob2, f2, col, mov))) else (2, 0, (rg, us, ob, f, us2, ob2, f2, col, mov))) else (if (fX1_requireField n f ((fX1_objectOf rg ip).2.1) iq).1 = 0 then (0, 0, (rg, (fX0_setWord n us ob f ((((fX1_objectOf rg ip).2.1) + 1) + iq) (rg ir.toNatClampNeg)).1, (fX0_setWord n us ob f ((((fX1_objectOf rg ip).2.1) + 1) + iq) (rg ir.toNatClampNeg)).2.1, (fX0_setWord n us ob f ((((fX1_objectOf rg ip).2.1) + 1) + iq) (rg ir.toNatClampNeg)).2.2, us2, ob2, f2, col, mov)) else ((fX1_requireField n f ((fX1_objectOf rg ip).2.1) iq).1, 0, (rg, us, ob, f, us2, ob2, f2, col, mov)))) else ((fX1_objectOf rg ip).1, 0, (rg, us, ob, f, us2, ob2, f2, col, mov))) else ((fX1_requireRegister ir).1, 0, (rg, us, ob, f, us2, ob2, f2, col, mov))) else ((fX1_requireRegister ip).1, 0, (rg, us, ob, f, us2, ob2, f2, col, mov)))
abbrev atX1_put (dC : Nat → ClassId) (dI : Nat → Nat → Nat) (cI : ClassId) (A : Nat → Prop) (cx : Nat) (ar : Nat) (ha : Nat) (wa : Nat) (hz : Nat) (wz : Nat) (n : Nat) (u : (Nat → Int32) × Int32 × Int32 × (Nat → Int32) × Int32 × Int32 × (Nat → Int32) × Int32 × Int32) (t : State) : Prop := va_P (dC, dI) vwCl [(cx, .inr (1, [.ref ar, .ref ha, .ref hz, .int u.2.2.2.2.2.2.2.1, .int u.2.2.2.2.2.2.2.2])), (ar, .inl (cI, 8, .inl u.1)), (ha, .inr (0, [.ref wa, .int u.2.1, .int u.2.2.1])), (wa, .inl (cI, n, .inl u.2.2.2.1)), (hz, .inr (0, [.ref wz, .int u.2.2.2.2.1, .int u.2.2.2.2.2.1])), (wz, .inl (cI, n, .inl u.2.2.2.2.2.2.1))] t.heap ∧ va_K (dC, dI) vwCl [(cI, .int)] t ∧ va_D A [(cx, .inr (1, [.ref ar, .ref ha, .ref hz, .int u.2.2.2.2.2.2.2.1, .int u.2.2.2.2.2.2.2.2])), (ar, .inl (cI, 8, .inl u.1)), (ha, .inr (0, [.ref wa, .int u.2.1, .int u.2.2.1])), (wa, .inl (cI, n, .inl u.2.2.2.1)), (hz, .inr (0, [.ref wz, .int u.2.2.2.2.1, .int u.2.2.2.2.2.1])), (wz, .inl (cI, n, .inl u.2.2.2.2.2.2.1))]
set_option maxHeartbeats 4000000 in
set_option maxRecDepth 100000 in
theorem ctX1_put (l : Launch) (hl9 : l.stackTraces = false) (dC : Nat → ClassId) (dI : Nat → Nat → Nat) (cI : ClassId) (sa : Nat → Nat) (cx : Nat) (ar : Nat) (ha : Nat) (wa : Nat) (hz : Nat) (wz : Nat) (n : Nat) (col : Int32) (mov : Int32) (rg : Nat → Int32) (us : Int32) (ob : Int32) (f : Nat → Int32) (us2 : Int32) (ob2 : Int32) (f2 : Nat → Int32) (ip : Int32) (iq : Int32) (ir : Int32) (sz : Nat) (hn : n < 2 ^ 31) : vx_Met l yX1_put (kX1_put :: gT) ({ frames := 7, cells := 5, slots := 30, locals := 120 }) (va_Pc [.ref cx, .int ip, .int iq, .int ir] (pY (dC, dI) [(cx, .inr (1, [.ref ar, .ref ha, .ref hz, .int col, .int mov])), (ar, .inl (cI, 8, .inl rg)), (ha, .inr (0, [.ref wa, .int us, .int ob])), (wa, .inl (cI, n, .inl f)), (hz, .inr (0, [.ref wz, .int us2, .int ob2])), (wz, .inl (cI, n, .inl f2))] [(cI, .int)] sa sz)) (va_Qv (fun u : (Nat → Int32) × Int32 × Int32 × (Nat → Int32) × Int32 × Int32 × (Nat → Int32) × Int32 × Int32 => fX1_put n rg us ob f us2 ob2 f2 col mov ip iq ir = (0, 0, u)) (atX1_put dC dI cI (va_A [(cx, .inr (1, [.ref ar, .ref ha, .ref hz, .int col, .int mov])), (ar, .inl (cI, 8, .inl rg)), (ha, .inr (0, [.ref wa, .int us, .int ob])), (wa, .inl (cI, n, .inl f)), (hz, .inr (0, [.ref wz, .int us2, .int ob2])), (wz, .inl (cI, n, .inl f2))] sz) cx ar ha wa hz wz n) (va_A [(cx, .inr (1, [.ref ar, .ref ha, .ref hz, .int col, .int mov])), (ar, .inl (cI, 8, .inl rg)), (ha, .inr (0, [.ref wa, .int us, .int ob])), (wa, .inl (cI, n, .inl f)), (hz, .inr (0, [.ref wz, .int us2, .int ob2])), (wz, .inl (cI, n, .inl f2))] sz)) (vx_X (fun v : Nat × ((Nat → Int32) × Int32 × Int32 × (Nat → Int32) × Int32 × Int32 × (Nat → Int32) × Int32 × Int32) => fX1_put n rg us ob f us2 ob2 f2 col mov ip iq ir = (v.1, 0, v.2) ∧ v.1 ≠ 0) (fun E v t => E = exN v.1 ∧ atX1_put dC dI cI (va_A [(cx, .inr (1, [.ref ar, .ref ha, .ref hz, .int col, .int mov])), (ar, .inl (cI, 8, .inl rg)), (ha, .inr (0, [.ref wa, .int us, .int ob])), (wa, .inl (cI, n, .inl f)), (hz, .inr (0, [.ref wz, .int us2, .int ob2])), (wz, .inl (cI, n, .inl f2))] sz) cx ar ha wa hz wz n v.2 t) (va_A [(cx, .inr (1, [.ref ar, .ref ha, .ref hz, .int col, .int mov])), (ar, .inl (cI, 8, .inl rg)), (ha, .inr (0, [.ref wa, .int us, .int ob])), (wa, .inl (cI, n, .inl f)), (hz, .inr (0, [.ref wz, .int us2, .int ob2])), (wz, .inl (cI, n, .inl f2))] sz)) 5 30 (va_A [(cx, .inr (1, [.ref ar, .ref ha, .ref hz, .int col, .int mov])), (ar, .inl (cI, 8, .inl rg)), (ha, .inr (0, [.ref wa, .int us, .int ob])), (wa, .inl (cI, n, .inl f)), (hz, .inr (0, [.ref wz, .int us2, .int ob2])), (wz, .inl (cI, n, .inl f2))] sz) := by
  refine vx_ofW (cc := cX1_put) (maxL := 7) (ret := none) (by decide) rfl ?_
  intro p e s m args below meth c s₁ B hml hEx hv
  obtain ⟨rfl, hsz, hP, hK, hD0, hE, hX⟩ := hv
  have hx := B.exec
  have hb := B.bytes
  have hr := B.returns
  have ht : ∀ w ∈ gT, w.before ([.ref cx, .int ip, .int iq, .int ir] : List Value).toArray s = true := fun w h => atoms_spec (ws := kX1_put :: gT) B.pre w (List.mem_cons_of_mem _ h)
  have hown : s.vm.findClass RX1 = some m.cls := findClass_of_methodNamed B.named
  have hlocks := B.notSynchronized
  subst hsz
  have hD := hD0.self (sz := s.heap.size)
  generalize hAe : va_A [(cx, .inr (1, [.ref ar, .ref ha, .ref hz, .int col, .int mov])), (ar, .inl (cI, 8, .inl rg)), (ha, .inr (0, [.ref wa, .int us, .int ob])), (wa, .inl (cI, n, .inl f)), (hz, .inr (0, [.ref wz, .int us2, .int ob2])), (wz, .inl (cI, n, .inl f2))] s.heap.size = A at hD hX ⊢
  have hA : ∀ q : Nat, s.heap.size ≤ q → A q := fun q h => by rw [← hAe]; exact Or.inr h
  have hS : va_S A s.heap s.heap [] := va_S.rf
  have hl := lv_entry ([.ref cx, .int ip, .int iq, .int ir]) (n := 7) (Nat.le_of_ble_eq_true rfl)
  rw [lg_entry_eq]
  generalize (lg_sl ([.ref cx, .int ip, .int iq, .int ir]) ++ List.replicate (7 - (lg_sl ([.ref cx, .int ip, .int iq, .int ir])).length) Slot.unset).toArray = ls at hl ⊢
  have hl : lv_has ls 7 [(0, .ref cx), (1, .int ip), (2, .int iq), (3, .int ir)] := hl
  refine lv_iload_n hx hb dX1_put_0 rfl (lv_at hl 1 rfl) ?_
  have hPc := hP.sub (ws' := []) [] rfl
  have hKc := hK.sub (tys' := []) [] rfl
  have hFc := nilF hS hA
  refine vx_callv (vx_runS (As := [.int ip]) (rest := []) ⟨hx, hb, hml, hown, ht⟩ (ctX1_requireRegister l hl9 dC dI cI sa ip _ ) (cwS 1 ht gcX1_25 rfl rfl rfl (by decide +kernel) ⟨Nat.le_of_ble_eq_true rfl, Nat.le_of_ble_eq_true rfl⟩) ⟨pR.blind, pR.call hPc hKc hE hX hS hFc⟩ rfl rfl hl.1 rfl (lv_room (Nat.le_of_ble_eq_true rfl)) dX1_put_1 ⟨Nat.le_of_ble_eq_true rfl, Nat.le_of_ble_eq_true rfl⟩) hS (fun q _ h => hFc q h) hFc (fun q _ h => hFc q h) (fun E ce q9 u_1 t H1 locs ht9 hvm hp hB hz1 hk1 hS hce hcv hcl => ?_) (fun u_1 t H1 locs ht9 hvm hw hB hz1 hk1 hS => ?_)
  · obtain ⟨hpe, hpk⟩ := hp
    have hB := hB
    obtain rfl : u_1 = ((fX1_requireRegister ip).1, (fX1_requireRegister ip).2.2) := by rw [hpe]
    have c_3 : ¬ (fX1_requireRegister ip).1 = 0 := hpk
    subst hB
    have hP1 := nilP (D := (dC, dI)) (H := H1)
    have hP := rKeep hP hk1
    generalize H1 = H at hP hS hce ⊢
    have hP9 := hP.sub (ws' := [(cx, .inr (1, [.ref ar, .ref ha, .ref hz, .int col, .int mov])), (ar, .inl (cI, 8, .inl rg)), (ha, .inr (0, [.ref wa, .int us, .int ob])), (wa, .inl (cI, n, .inl f)), (hz, .inr (0, [.ref wz, .int us2, .int ob2])), (wz, .inl (cI, n, .inl f2))]) [0, 1, 2, 3, 4, 5] rfl
    have hD9 := hD.sub (ws' := [(cx, .inr (1, [.ref ar, .ref ha, .ref hz, .int col, .int mov])), (ar, .inl (cI, 8, .inl rg)), (ha, .inr (0, [.ref wa, .int us, .int ob])), (wa, .inl (cI, n, .inl f)), (hz, .inr (0, [.ref wz, .int us2, .int ob2])), (wz, .inl (cI, n, .inl f2))]) [0, 1, 2, 3, 4, 5] (by decide) rfl
    have hK9 := hK.sub (tys' := [(cI, .int)]) [0] rfl
    exact vx_out (fun x hx => (hEx x hx).elim) hlocks hce hcv hcl (fun t ht ha => ⟨((fX1_requireRegister ip).1, (rg, us, ob, f, us2, ob2, f2, col, mov)), ⟨(by simp only [fX1_put, if_neg c_3]), hpk⟩, ⟨rfl, by rw [ht]; exact hP9, va_K.moved ha hK9, hD9⟩, hS.F ht⟩) hS.2.2 (Nat.le_of_ble_eq_true rfl) (Nat.le_of_ble_eq_true rfl)
  · have c_3 : (fX1_requireRegister ip).1 = 0 := by rw [hw]
    have hP := rKeep hP hk1
    generalize H1 = H at hP hS ⊢
    refine lv_iload_n hx hb dX1_put_4 rfl (lv_at hl 3 rfl) ?_
    have hPc := hP.sub (ws' := []) [] rfl
    have hKc := hK.sub (tys' := []) [] rfl
    have hFc := nilF hS hA
    refine vx_callv (vx_runS (As := [.int ir]) (rest := []) ⟨hx, hb, hml, hown, ht⟩ (ctX1_requireRegister l hl9 dC dI cI sa ir _ ) (cwS 1 ht gcX1_25 rfl rfl rfl (by decide +kernel) ⟨Nat.le_of_ble_eq_true rfl, Nat.le_of_ble_eq_true rfl⟩) ⟨pR.blind, pR.call hPc hKc hE hX hS hFc⟩ rfl rfl hl.1 rfl (lv_room (Nat.le_of_ble_eq_true rfl)) dX1_put_5 ⟨Nat.le_of_ble_eq_true rfl, Nat.le_of_ble_eq_true rfl⟩) hS (fun q _ h => hFc q h) hFc (fun q _ h => hFc q h) (fun E ce q9 u_4 t H1 locs ht9 hvm hp hB hz1 hk1 hS hce hcv hcl => ?_) (fun u_4 t H1 locs ht9 hvm hw hB hz1 hk1 hS => ?_)
    · obtain ⟨hpe, hpk⟩ := hp
      have hB := hB
      obtain rfl : u_4 = ((fX1_requireRegister ir).1, (fX1_requireRegister ir).2.2) := by rw [hpe]
      have c_6 : ¬ (fX1_requireRegister ir).1 = 0 := hpk
      subst hB
      have hP1 := nilP (D := (dC, dI)) (H := H1)
      have hP := rKeep hP hk1
      generalize H1 = H at hP hS hce ⊢
      have hP9 := hP.sub (ws' := [(cx, .inr (1, [.ref ar, .ref ha, .ref hz, .int col, .int mov])), (ar, .inl (cI, 8, .inl rg)), (ha, .inr (0, [.ref wa, .int us, .int ob])), (wa, .inl (cI, n, .inl f)), (hz, .inr (0, [.ref wz, .int us2, .int ob2])), (wz, .inl (cI, n, .inl f2))]) [0, 1, 2, 3, 4, 5] rfl
      have hD9 := hD.sub (ws' := [(cx, .inr (1, [.ref ar, .ref ha, .ref hz, .int col, .int mov])), (ar, .inl (cI, 8, .inl rg)), (ha, .inr (0, [.ref wa, .int us, .int ob])), (wa, .inl (cI, n, .inl f)), (hz, .inr (0, [.ref wz, .int us2, .int ob2])), (wz, .inl (cI, n, .inl f2))]) [0, 1, 2, 3, 4, 5] (by decide) rfl
      have hK9 := hK.sub (tys' := [(cI, .int)]) [0] rfl
      exact vx_out (fun x hx => (hEx x hx).elim) hlocks hce hcv hcl (fun t ht ha => ⟨((fX1_requireRegister ir).1, (rg, us, ob, f, us2, ob2, f2, col, mov)), ⟨(by simp only [fX1_put, if_pos c_3, if_neg c_6]), hpk⟩, ⟨rfl, by rw [ht]; exact hP9, va_K.moved ha hK9, hD9⟩, hS.F ht⟩) hS.2.2 (Nat.le_of_ble_eq_true rfl) (Nat.le_of_ble_eq_true rfl)
    · have c_6 : (fX1_requireRegister ir).1 = 0 := by rw [hw]
      have hP := rKeep hP hk1
      generalize H1 = H at hP hS ⊢
      refine lv_aload_n hx hb dX1_put_8 rfl (lv_at hl 0 rfl) ?_
      refine lv_iload_n hx hb dX1_put_9 rfl (lv_at hl 1 rfl) ?_
      have hPc := hP.sub (ws' := [(cx, .inr (1, [.ref ar, .ref ha, .ref hz, .int col, .int mov])), (ar, .inl (cI, 8, .inl rg))]) [0, 1] rfl
      have hKc := hK.sub (tys' := [(cI, .int)]) [0] rfl
      have hFc := nilF hS hA
      refine vx_calli (vx_runV (As := [.int ip]) (rest := []) ⟨hx, hb, hml, hown, ht⟩ (ctX1_objectOf l hl9 dC dI cI sa cx ar ha hz col mov rg ip _ (rrIn c_3)) (cwV 1 ht gcX1_64 rfl rfl rfl (by decide +kernel) ⟨Nat.le_of_ble_eq_true rfl, Nat.le_of_ble_eq_true rfl⟩) ⟨pR.blind, va_recv hKc hPc (ci := 1) (q0 := 0) rfl rfl, pR.call hPc hKc hE hX hS hFc⟩ rfl rfl hl.1 rfl (lv_room (Nat.le_of_ble_eq_true rfl)) dX1_put_10 ⟨Nat.le_of_ble_eq_true rfl, Nat.le_of_ble_eq_true rfl⟩) hS (fun q _ h => hFc q h) hFc (fun q _ h => hFc q h) (fun E ce q9 u_7 t H1 locs ht9 hvm hp hB hz1 hk1 hS hce hcv hcl => ?_) (fun r_8 u_7 t H1 locs ht9 hvm hw hB hz1 hk1 hS => ?_)
      · obtain ⟨hpe, hpk⟩ := hp
        have hB := hB
        obtain rfl : u_7 = ((fX1_objectOf rg ip).1, (fX1_objectOf rg ip).2.2) := by rw [hpe]
        have c_9 : ¬ (fX1_objectOf rg ip).1 = 0 := hpk
        subst hB
        have hP1 := nilP (D := (dC, dI)) (H := H1)
        have hP := rKeep hP hk1
        generalize H1 = H at hP hS hce ⊢
        have hP9 := hP.sub (ws' := [(cx, .inr (1, [.ref ar, .ref ha, .ref hz, .int col, .int mov])), (ar, .inl (cI, 8, .inl rg)), (ha, .inr (0, [.ref wa, .int us, .int ob])), (wa, .inl (cI, n, .inl f)), (hz, .inr (0, [.ref wz, .int us2, .int ob2])), (wz, .inl (cI, n, .inl f2))]) [0, 1, 2, 3, 4, 5] rfl
        have hD9 := hD.sub (ws' := [(cx, .inr (1, [.ref ar, .ref ha, .ref hz, .int col, .int mov])), (ar, .inl (cI, 8, .inl rg)), (ha, .inr (0, [.ref wa, .int us, .int ob])), (wa, .inl (cI, n, .inl f)), (hz, .inr (0, [.ref wz, .int us2, .int ob2])), (wz, .inl (cI, n, .inl f2))]) [0, 1, 2, 3, 4, 5] (by decide) rfl
        have hK9 := hK.sub (tys' := [(cI, .int)]) [0] rfl
        exact vx_out (fun x hx => (hEx x hx).elim) hlocks hce hcv hcl (fun t ht ha => ⟨((fX1_objectOf rg ip).1, (rg, us, ob, f, us2, ob2, f2, col, mov)), ⟨(by simp only [fX1_put, if_pos c_3, if_pos c_6, if_neg c_9]), hpk⟩, ⟨rfl, by rw [ht]; exact hP9, va_K.moved ha hK9, hD9⟩, hS.F ht⟩) hS.2.2 (Nat.le_of_ble_eq_true rfl) (Nat.le_of_ble_eq_true rfl)
      · have c_9 : (fX1_objectOf rg ip).1 = 0 := by rw [hw]
        obtain rfl : r_8 = (fX1_objectOf rg ip).2.1 := by rw [hw]
        have hP := rKeep hP hk1
        generalize H1 = H at hP hS ⊢
        refine lv_istore (lv' := [(4, .int ((fX1_objectOf rg ip).2.1)), (0, .ref cx), (1, .int ip), (2, .int iq), (3, .int ir)]) hx hb dX1_put_13 hl (by decide) rfl (fun ls hl => ?_)
        refine lv_aload_n hx hb dX1_put_15 rfl (lv_at hl 1 rfl) ?_
        refine va_get (D := (dC, dI)) (ci := 1) (v := .ref ar) (C := RX1) (T := TX1) (N := 5) hx hb ht iX1 hown hK hP 0 rfl rfl 0 (by decide) (ht _ g_38) (fun _ h9 => h9) rfl dX1_put_16 ?_
        refine lv_iload_n hx hb dX1_put_19 rfl (lv_at hl 4 rfl) ?_
        refine va_iald hx hb hK hP 1 0 rfl rfl (rrIn c_6) dX1_put_20 ?_
        refine lv_istore (lv' := [(5, .int (rg ir.toNatClampNeg)), (4, .int ((fX1_objectOf rg ip).2.1)), (0, .ref cx), (1, .int ip), (2, .int iq), (3, .int ir)]) hx hb dX1_put_21 hl (by decide) rfl (fun ls hl => ?_)
        refine lv_aload_n hx hb dX1_put_23 rfl (lv_at hl 2 rfl) ?_
        refine va_get (D := (dC, dI)) (ci := 1) (v := .ref ha) (C := RX1) (T := TX1) (N := 5) hx hb ht iX1 hown hK hP 0 rfl rfl 1 (by decide) (ht _ g_39) (fun _ h9 => h9) rfl dX1_put_24 ?_
        refine lv_iload hx hb dX1_put_27 (lv_at hl 1 rfl) ?_
        have hPc := hP.sub (ws' := [(ha, .inr (0, [.ref wa, .int us, .int ob])), (wa, .inl (cI, n, .inl f))]) [2, 3] rfl
        have hKc := hK.sub (tys' := [(cI, .int)]) [0] rfl
        refine vp_callSi (va_runV (As := [.int ((fX1_objectOf rg ip).2.1)]) (rest := []) ⟨hx, hb, hml, hown, ht⟩ (ctX0_kindAt l dC dI cI ha wa n us ob f ((fX1_objectOf rg ip).2.1) hn) (cwV 1 ht gcX1_67 rfl rfl rfl (by decide +kernel) ⟨Nat.le_of_ble_eq_true rfl, Nat.le_of_ble_eq_true rfl⟩) ⟨pS.blind, va_recv hKc hPc (ci := 0) (q0 := 0) rfl rfl, pS.call hPc hKc hE⟩ rfl rfl hl.1 rfl (lv_room (Nat.le_of_ble_eq_true rfl)) dX1_put_29 ⟨Nat.le_of_ble_eq_true rfl, Nat.le_of_ble_eq_true rfl⟩).run (fun r_10 hr_10 => ?_)
        subst hr_10
        refine lv_iconst (v := 1) hx hb dX1_put_32 (by decide) ?_
        refine lv_icmp_ne (tgt := 40) hx hb dX1_put_33 (by decide) (fun c_11 => ?_) (fun c_11 => ?_)
        · refine lv_iconst (v := 0) hx hb dX1_put_40 (by decide) ?_
          refine lv_istore (lv' := [(6, .int 0), (5, .int (rg ir.toNatClampNeg)), (4, .int ((fX1_objectOf rg ip).2.1)), (0, .ref cx), (1, .int ip), (2, .int iq), (3, .int ir)]) hx hb dX1_put_41 hl (by decide) rfl (fun ls hl => ?_)
          refine lv_iload hx hb dX1_put_43 (lv_at hl 0 rfl) ?_
          refine lv_if_eq (tgt := 66) hx hb dX1_put_45 (by decide) (fun _ => ?_) (fun h => absurd (by decide) h)
          refine lv_aload_n hx hb dX1_put_66 rfl (lv_at hl 3 rfl) ?_
          refine lv_iload hx hb dX1_put_67 (lv_at hl 2 rfl) ?_
          refine lv_iload_n hx hb dX1_put_69 rfl (lv_at hl 5 rfl) ?_
          have hPc := hP.sub (ws' := [(cx, .inr (1, [.ref ar, .ref ha, .ref hz, .int col, .int mov])), (ha, .inr (0, [.ref wa, .int us, .int ob])), (wa, .inl (cI, n, .inl f))]) [0, 2, 3] rfl
          have hKc := hK.sub (tys' := [(cI, .int)]) [0] rfl
          have hFc := nilF hS hA
          refine vx_callv (vx_runV (As := [.int ((fX1_objectOf rg ip).2.1), .int iq]) (rest := []) ⟨hx, hb, hml, hown, ht⟩ (ctX1_requireField l hl9 dC dI cI sa cx ar ha wa hz n col mov us ob f ((fX1_objectOf rg ip).2.1) iq _ hn) (cwV 2 ht gcX1_72 rfl rfl rfl (by decide +kernel) ⟨Nat.le_of_ble_eq_true rfl, Nat.le_of_ble_eq_true rfl⟩) ⟨pR.blind, va_recv hKc hPc (ci := 1) (q0 := 0) rfl rfl, pR.call hPc hKc hE hX hS hFc⟩ rfl rfl hl.1 rfl (lv_room (Nat.le_of_ble_eq_true rfl)) dX1_put_70 ⟨Nat.le_of_ble_eq_true rfl, Nat.le_of_ble_eq_true rfl⟩) hS (fun q _ h => hFc q h) hFc (fun q _ h => hFc q h) (fun E ce q9 u_12 t H1 locs ht9 hvm hp hB hz1 hk1 hS hce hcv hcl => ?_) (fun u_12 t H1 locs ht9 hvm hw hB hz1 hk1 hS => ?_)
          · obtain ⟨hpe, hpk⟩ := hp
            have hB := hB
            obtain rfl : u_12 = ((fX1_requireField n f ((fX1_objectOf rg ip).2.1) iq).1, (fX1_requireField n f ((fX1_objectOf rg ip).2.1) iq).2.2) := by rw [hpe]
            have c_14 : ¬ (fX1_requireField n f ((fX1_objectOf rg ip).2.1) iq).1 = 0 := hpk
            subst hB
            have hP1 := nilP (D := (dC, dI)) (H := H1)
            have hP := rKeep hP hk1
            generalize H1 = H at hP hS hce ⊢
            have hP9 := hP.sub (ws' := [(cx, .inr (1, [.ref ar, .ref ha, .ref hz, .int col, .int mov])), (ar, .inl (cI, 8, .inl rg)), (ha, .inr (0, [.ref wa, .int us, .int ob])), (wa, .inl (cI, n, .inl f)), (hz, .inr (0, [.ref wz, .int us2, .int ob2])), (wz, .inl (cI, n, .inl f2))]) [0, 1, 2, 3, 4, 5] rfl
            have hD9 := hD.sub (ws' := [(cx, .inr (1, [.ref ar, .ref ha, .ref hz, .int col, .int mov])), (ar, .inl (cI, 8, .inl rg)), (ha, .inr (0, [.ref wa, .int us, .int ob])), (wa, .inl (cI, n, .inl f)), (hz, .inr (0, [.ref wz, .int us2, .int ob2])), (wz, .inl (cI, n, .inl f2))]) [0, 1, 2, 3, 4, 5] (by decide) rfl
            have hK9 := hK.sub (tys' := [(cI, .int)]) [0] rfl
            exact vx_out (fun x hx => (hEx x hx).elim) hlocks hce hcv hcl (fun t ht ha => ⟨((fX1_requireField n f ((fX1_objectOf rg ip).2.1) iq).1, (rg, us, ob, f, us2, ob2, f2, col, mov)), ⟨(by simp only [fX1_put, if_pos c_3, if_pos c_6, if_pos c_9, if_neg c_11, if_neg c_14]), hpk⟩, ⟨rfl, by rw [ht]; exact hP9, va_K.moved ha hK9, hD9⟩, hS.F ht⟩) hS.2.2 (Nat.le_of_ble_eq_true rfl) (Nat.le_of_ble_eq_true rfl)
          · have c_14 : (fX1_requireField n f ((fX1_objectOf rg ip).2.1) iq).1 = 0 := by rw [hw]
            have hP := rKeep hP hk1
            generalize H1 = H at hP hS ⊢
            refine lv_aload_n hx hb dX1_put_73 rfl (lv_at hl 3 rfl) ?_
            refine va_get (D := (dC, dI)) (ci := 1) (v := .ref ha) (C := RX1) (T := TX1) (N := 5) hx hb ht iX1 hown hK hP 0 rfl rfl 1 (by decide) (ht _ g_39) (fun _ h9 => h9) rfl dX1_put_74 ?_
            refine lv_iload hx hb dX1_put_77 (lv_at hl 2 rfl) ?_
            refine lv_iconst (v := 1) hx hb dX1_put_79 (by decide) ?_
            refine lv_iadd hx hb dX1_put_80 ?_
            refine lv_iload_n hx hb dX1_put_81 rfl (lv_at hl 5 rfl) ?_
            refine lv_iadd hx hb dX1_put_82 ?_
            refine lv_iload hx hb dX1_put_83 (lv_at hl 0 rfl) ?_
            refine lv_if_eq (tgt := 96) hx hb dX1_put_85 (by decide) (fun _ => ?_) (fun h => absurd (by decide) h)
            refine lv_iload hx hb dX1_put_96 (lv_at hl 1 rfl) ?_
            have hPc := hP.sub (ws' := [(ha, .inr (0, [.ref wa, .int us, .int ob])), (wa, .inl (cI, n, .inl f))]) [2, 3] rfl
            have hKc := hK.sub (tys' := [(cI, .int)]) [0] rfl
            have hDc := hD.sub (ws' := [(ha, .inr (0, [.ref wa, .int us, .int ob])), (wa, .inl (cI, n, .inl f))]) [2, 3] (by decide) rfl
            have hFc := va_free (wc := [(ha, .inr (0, [.ref wa, .int us, .int ob])), (wa, .inl (cI, n, .inl f))]) hD hS hA [2, 3] rfl
            refine va_callv (va_runV (As := [.int ((((fX1_objectOf rg ip).2.1) + 1) + iq), .int (rg ir.toNatClampNeg)]) (rest := []) ⟨hx, hb, hml, hown, ht⟩ (ctX0_setWord l dC dI cI ha wa n us ob f ((((fX1_objectOf rg ip).2.1) + 1) + iq) (rg ir.toNatClampNeg) _ hn) (cwV 2 ht gcX1_76 rfl rfl rfl (by decide +kernel) ⟨Nat.le_of_ble_eq_true rfl, Nat.le_of_ble_eq_true rfl⟩) ⟨pM.blind, va_recv hKc hPc (ci := 0) (q0 := 0) rfl rfl, pM.call hPc hKc hDc hE⟩ rfl rfl hl.1 rfl (lv_room (Nat.le_of_ble_eq_true rfl)) dX1_put_98 ⟨Nat.le_of_ble_eq_true rfl, Nat.le_of_ble_eq_true rfl⟩) hS (fun q _ h => hFc q h) hFc (fun u_15 t H1 locs ht9 hvm hw hB hz1 hk1 hS => ?_)
            subst hw
            obtain ⟨hP1, hK1, hD1⟩ := hB
            rw [ht9] at hP1
            obtain ⟨hP, hD⟩ := va_join (wr := [(cx, .inr (1, [.ref ar, .ref ha, .ref hz, .int col, .int mov])), (ar, .inl (cI, 8, .inl rg)), (hz, .inr (0, [.ref wz, .int us2, .int ob2])), (wz, .inl (cI, n, .inl f2))]) (w1 := [(ha, .inr (0, [.ref wa, .int ((fX0_setWord n us ob f ((((fX1_objectOf rg ip).2.1) + 1) + iq) (rg ir.toNatClampNeg)).1), .int ((fX0_setWord n us ob f ((((fX1_objectOf rg ip).2.1) + 1) + iq) (rg ir.toNatClampNeg)).2.1)])), (wa, .inl (cI, n, .inl ((fX0_setWord n us ob f ((((fX1_objectOf rg ip).2.1) + 1) + iq) (rg ir.toNatClampNeg)).2.2)))]) hP hD [2, 3] [0, 1, 4, 5] rfl rfl (by decide) (by decide) hk1 hFc hP1 hD1
            generalize H1 = H at hP hS ⊢
            have hP := hP.sub (ws' := [(cx, .inr (1, [.ref ar, .ref ha, .ref hz, .int col, .int mov])), (ar, .inl (cI, 8, .inl rg)), (ha, .inr (0, [.ref wa, .int ((fX0_setWord n us ob f ((((fX1_objectOf rg ip).2.1) + 1) + iq) (rg ir.toNatClampNeg)).1), .int ((fX0_setWord n us ob f ((((fX1_objectOf rg ip).2.1) + 1) + iq) (rg ir.toNatClampNeg)).2.1)])), (wa, .inl (cI, n, .inl ((fX0_setWord n us ob f ((((fX1_objectOf rg ip).2.1) + 1) + iq) (rg ir.toNatClampNeg)).2.2))), (hz, .inr (0, [.ref wz, .int us2, .int ob2])), (wz, .inl (cI, n, .inl f2))]) [0, 1, 4, 5, 2, 3] rfl
            have hD := hD.sub (ws' := [(cx, .inr (1, [.ref ar, .ref ha, .ref hz, .int col, .int mov])), (ar, .inl (cI, 8, .inl rg)), (ha, .inr (0, [.ref wa, .int ((fX0_setWord n us ob f ((((fX1_objectOf rg ip).2.1) + 1) + iq) (rg ir.toNatClampNeg)).1), .int ((fX0_setWord n us ob f ((((fX1_objectOf rg ip).2.1) + 1) + iq) (rg ir.toNatClampNeg)).2.1)])), (wa, .inl (cI, n, .inl ((fX0_setWord n us ob f ((((fX1_objectOf rg ip).2.1) + 1) + iq) (rg ir.toNatClampNeg)).2.2))), (hz, .inr (0, [.ref wz, .int us2, .int ob2])), (wz, .inl (cI, n, .inl f2))]) [0, 1, 4, 5, 2, 3] (by decide) rfl
            refine vx_ret ?_
            refine W.widen (k := 5) (n := 30) (Nat.le_of_ble_eq_true rfl) (Nat.le_of_ble_eq_true rfl) ?_
            have hP9 := hP.sub (ws' := [(cx, .inr (1, [.ref ar, .ref ha, .ref hz, .int col, .int mov])), (ar, .inl (cI, 8, .inl rg)), (ha, .inr (0, [.ref wa, .int ((fX0_setWord n us ob f ((((fX1_objectOf rg ip).2.1) + 1) + iq) (rg ir.toNatClampNeg)).1), .int ((fX0_setWord n us ob f ((((fX1_objectOf rg ip).2.1) + 1) + iq) (rg ir.toNatClampNeg)).2.1)])), (wa, .inl (cI, n, .inl ((fX0_setWord n us ob f ((((fX1_objectOf rg ip).2.1) + 1) + iq) (rg ir.toNatClampNeg)).2.2))), (hz, .inr (0, [.ref wz, .int us2, .int ob2])), (wz, .inl (cI, n, .inl f2))]) [0, 1, 2, 3, 4, 5] rfl
            have hD9 := hD.sub (ws' := [(cx, .inr (1, [.ref ar, .ref ha, .ref hz, .int col, .int mov])), (ar, .inl (cI, 8, .inl rg)), (ha, .inr (0, [.ref wa, .int ((fX0_setWord n us ob f ((((fX1_objectOf rg ip).2.1) + 1) + iq) (rg ir.toNatClampNeg)).1), .int ((fX0_setWord n us ob f ((((fX1_objectOf rg ip).2.1) + 1) + iq) (rg ir.toNatClampNeg)).2.1)])), (wa, .inl (cI, n, .inl ((fX0_setWord n us ob f ((((fX1_objectOf rg ip).2.1) + 1) + iq) (rg ir.toNatClampNeg)).2.2))), (hz, .inr (0, [.ref wz, .int us2, .int ob2])), (wz, .inl (cI, n, .inl f2))]) [0, 1, 2, 3, 4, 5] (by decide) rfl
            have hK9 := hK.sub (tys' := [(cI, .int)]) [0] rfl
            exact W.vret hx hb hr (fun t ht hW => ⟨⟨(rg, (fX0_setWord n us ob f ((((fX1_objectOf rg ip).2.1) + 1) + iq) (rg ir.toNatClampNeg)).1, (fX0_setWord n us ob f ((((fX1_objectOf rg ip).2.1) + 1) + iq) (rg ir.toNatClampNeg)).2.1, (fX0_setWord n us ob f ((((fX1_objectOf rg ip).2.1) + 1) + iq) (rg ir.toNatClampNeg)).2.2, us2, ob2, f2, col, mov), rfl, (by simp only [fX1_put, if_pos c_3, if_pos c_6, if_pos c_9, if_neg c_11, if_pos c_14]), by rw [ht]; exact hP9, va_K.moved hW.alike hK9, hD9⟩, hS.F ht⟩) hS.2.2 dX1_put_101
        · refine lv_iconst (v := 1) hx hb dX1_put_36 (by decide) ?_
          refine lv_goto (tgt := 41) hx hb dX1_put_37 (by decide) ?_
          refine lv_istore (lv' := [(6, .int 1), (5, .int (rg ir.toNatClampNeg)), (4, .int ((fX1_objectOf rg ip).2.1)), (0, .ref cx), (1, .int ip), (2, .int iq), (3, .int ir)]) hx hb dX1_put_41 hl (by decide) rfl (fun ls hl => ?_)
          refine lv_iload hx hb dX1_put_43 (lv_at hl 0 rfl) ?_
          refine lv_if_eq (tgt := 66) hx hb dX1_put_45 (by decide) (fun h => absurd h (by decide)) (fun _ => ?_)
          refine lv_iload hx hb dX1_put_48 (lv_at hl 1 rfl) ?_
          refine vp_callSi (va_runS (As := [.int (rg ir.toNatClampNeg)]) (rest := []) ⟨hx, hb, hml, hown, ht⟩ (ctX1_isReference l (rg ir.toNatClampNeg)) (cwS 1 ht gcX1_61 rfl rfl rfl (by decide +kernel) ⟨Nat.le_of_ble_eq_true rfl, Nat.le_of_ble_eq_true rfl⟩) ⟨pT.blind, pT.call⟩ rfl rfl hl.1 rfl (lv_room (Nat.le_of_ble_eq_true rfl)) dX1_put_50 ⟨Nat.le_of_ble_eq_true rfl, Nat.le_of_ble_eq_true rfl⟩).run (fun r_16 hr_16 => ?_)
          subst hr_16
          refine lv_if_eq (tgt := 66) hx hb dX1_put_53 (by decide) (fun c_17 => ?_) (fun c_17 => ?_)
          · refine lv_aload_n hx hb dX1_put_66 rfl (lv_at hl 3 rfl) ?_
            refine lv_iload hx hb dX1_put_67 (lv_at hl 2 rfl) ?_
            refine lv_iload_n hx hb dX1_put_69 rfl (lv_at hl 5 rfl) ?_
            have hPc := hP.sub (ws' := [(cx, .inr (1, [.ref ar, .ref ha, .ref hz, .int col, .int mov])), (ha, .inr (0, [.ref wa, .int us, .int ob])), (wa, .inl (cI, n, .inl f))]) [0, 2, 3] rfl
            have hKc := hK.sub (tys' := [(cI, .int)]) [0] rfl
            have hFc := nilF hS hA
            refine vx_callv (vx_runV (As := [.int ((fX1_objectOf rg ip).2.1), .int iq]) (rest := []) ⟨hx, hb, hml, hown, ht⟩ (ctX1_requireField l hl9 dC dI cI sa cx ar ha wa hz n col mov us ob f ((fX1_objectOf rg ip).2.1) iq _ hn) (cwV 2 ht gcX1_72 rfl rfl rfl (by decide +kernel) ⟨Nat.le_of_ble_eq_true rfl, Nat.le_of_ble_eq_true rfl⟩) ⟨pR.blind, va_recv hKc hPc (ci := 1) (q0 := 0) rfl rfl, pR.call hPc hKc hE hX hS hFc⟩ rfl rfl hl.1 rfl (lv_room (Nat.le_of_ble_eq_true rfl)) dX1_put_70 ⟨Nat.le_of_ble_eq_true rfl, Nat.le_of_ble_eq_true rfl⟩) hS (fun q _ h => hFc q h) hFc (fun q _ h => hFc q h) (fun E ce q9 u_18 t H1 locs ht9 hvm hp hB hz1 hk1 hS hce hcv hcl => ?_) (fun u_18 t H1 locs ht9 hvm hw hB hz1 hk1 hS => ?_)
            · obtain ⟨hpe, hpk⟩ := hp
              have hB := hB
              obtain rfl : u_18 = ((fX1_requireField n f ((fX1_objectOf rg ip).2.1) iq).1, (fX1_requireField n f ((fX1_objectOf rg ip).2.1) iq).2.2) := by rw [hpe]
              have c_20 : ¬ (fX1_requireField n f ((fX1_objectOf rg ip).2.1) iq).1 = 0 := hpk
              subst hB
              have hP1 := nilP (D := (dC, dI)) (H := H1)
              have hP := rKeep hP hk1
              generalize H1 = H at hP hS hce ⊢
              have hP9 := hP.sub (ws' := [(cx, .inr (1, [.ref ar, .ref ha, .ref hz, .int col, .int mov])), (ar, .inl (cI, 8, .inl rg)), (ha, .inr (0, [.ref wa, .int us, .int ob])), (wa, .inl (cI, n, .inl f)), (hz, .inr (0, [.ref wz, .int us2, .int ob2])), (wz, .inl (cI, n, .inl f2))]) [0, 1, 2, 3, 4, 5] rfl
              have hD9 := hD.sub (ws' := [(cx, .inr (1, [.ref ar, .ref ha, .ref hz, .int col, .int mov])), (ar, .inl (cI, 8, .inl rg)), (ha, .inr (0, [.ref wa, .int us, .int ob])), (wa, .inl (cI, n, .inl f)), (hz, .inr (0, [.ref wz, .int us2, .int ob2])), (wz, .inl (cI, n, .inl f2))]) [0, 1, 2, 3, 4, 5] (by decide) rfl
              have hK9 := hK.sub (tys' := [(cI, .int)]) [0] rfl
              exact vx_out (fun x hx => (hEx x hx).elim) hlocks hce hcv hcl (fun t ht ha => ⟨((fX1_requireField n f ((fX1_objectOf rg ip).2.1) iq).1, (rg, us, ob, f, us2, ob2, f2, col, mov)), ⟨(by simp only [fX1_put, if_pos c_3, if_pos c_6, if_pos c_9, if_pos c_11, if_pos c_17, if_neg c_20]), hpk⟩, ⟨rfl, by rw [ht]; exact hP9, va_K.moved ha hK9, hD9⟩, hS.F ht⟩) hS.2.2 (Nat.le_of_ble_eq_true rfl) (Nat.le_of_ble_eq_true rfl)
            · have c_20 : (fX1_requireField n f ((fX1_objectOf rg ip).2.1) iq).1 = 0 := by rw [hw]
              have hP := rKeep hP hk1
              generalize H1 = H at hP hS ⊢
              refine lv_aload_n hx hb dX1_put_73 rfl (lv_at hl 3 rfl) ?_
              refine va_get (D := (dC, dI)) (ci := 1) (v := .ref ha) (C := RX1) (T := TX1) (N := 5) hx hb ht iX1 hown hK hP 0 rfl rfl 1 (by decide) (ht _ g_39) (fun _ h9 => h9) rfl dX1_put_74 ?_
              refine lv_iload hx hb dX1_put_77 (lv_at hl 2 rfl) ?_
              refine lv_iconst (v := 1) hx hb dX1_put_79 (by decide) ?_
              refine lv_iadd hx hb dX1_put_80 ?_
              refine lv_iload_n hx hb dX1_put_81 rfl (lv_at hl 5 rfl) ?_
              refine lv_iadd hx hb dX1_put_82 ?_
              refine lv_iload hx hb dX1_put_83 (lv_at hl 0 rfl) ?_
              refine lv_if_eq (tgt := 96) hx hb dX1_put_85 (by decide) (fun h => absurd h (by decide)) (fun _ => ?_)
              refine lv_iload hx hb dX1_put_88 (lv_at hl 1 rfl) ?_
              refine vp_callSi (va_runS (As := [.int (rg ir.toNatClampNeg)]) (rest := [.int ((((fX1_objectOf rg ip).2.1) + 1) + iq), .ref ha]) ⟨hx, hb, hml, hown, ht⟩ (ctX1_content l (rg ir.toNatClampNeg)) (cwS 1 ht gcX1_58 rfl rfl rfl (by decide +kernel) ⟨Nat.le_of_ble_eq_true rfl, Nat.le_of_ble_eq_true rfl⟩) ⟨pT.blind, pT.call⟩ rfl rfl hl.1 rfl (lv_room (Nat.le_of_ble_eq_true rfl)) dX1_put_90 ⟨Nat.le_of_ble_eq_true rfl, Nat.le_of_ble_eq_true rfl⟩).run (fun r_21 hr_21 => ?_)
              subst hr_21
              refine lv_goto (tgt := 98) hx hb dX1_put_93 (by decide) ?_
              have hPc := hP.sub (ws' := [(ha, .inr (0, [.ref wa, .int us, .int ob])), (wa, .inl (cI, n, .inl f))]) [2, 3] rfl
              have hKc := hK.sub (tys' := [(cI, .int)]) [0] rfl
              have hDc := hD.sub (ws' := [(ha, .inr (0, [.ref wa, .int us, .int ob])), (wa, .inl (cI, n, .inl f))]) [2, 3] (by decide) rfl
              have hFc := va_free (wc := [(ha, .inr (0, [.ref wa, .int us, .int ob])), (wa, .inl (cI, n, .inl f))]) hD hS hA [2, 3] rfl
              refine va_callv (va_runV (As := [.int ((((fX1_objectOf rg ip).2.1) + 1) + iq), .int (fX1_content (rg ir.toNatClampNeg))]) (rest := []) ⟨hx, hb, hml, hown, ht⟩ (ctX0_setWord l dC dI cI ha wa n us ob f ((((fX1_objectOf rg ip).2.1) + 1) + iq) (fX1_content (rg ir.toNatClampNeg)) _ hn) (cwV 2 ht gcX1_76 rfl rfl rfl (by decide +kernel) ⟨Nat.le_of_ble_eq_true rfl, Nat.le_of_ble_eq_true rfl⟩) ⟨pM.blind, va_recv hKc hPc (ci := 0) (q0 := 0) rfl rfl, pM.call hPc hKc hDc hE⟩ rfl rfl hl.1 rfl (lv_room (Nat.le_of_ble_eq_true rfl)) dX1_put_98 ⟨Nat.le_of_ble_eq_true rfl, Nat.le_of_ble_eq_true rfl⟩) hS (fun q _ h => hFc q h) hFc (fun u_22 t H1 locs ht9 hvm hw hB hz1 hk1 hS => ?_)
              subst hw
              obtain ⟨hP1, hK1, hD1⟩ := hB
              rw [ht9] at hP1
              obtain ⟨hP, hD⟩ := va_join (wr := [(cx, .inr (1, [.ref ar, .ref ha, .ref hz, .int col, .int mov])), (ar, .inl (cI, 8, .inl rg)), (hz, .inr (0, [.ref wz, .int us2, .int ob2])), (wz, .inl (cI, n, .inl f2))]) (w1 := [(ha, .inr (0, [.ref wa, .int ((fX0_setWord n us ob f ((((fX1_objectOf rg ip).2.1) + 1) + iq) (fX1_content (rg ir.toNatClampNeg))).1), .int ((fX0_setWord n us ob f ((((fX1_objectOf rg ip).2.1) + 1) + iq) (fX1_content (rg ir.toNatClampNeg))).2.1)])), (wa, .inl (cI, n, .inl ((fX0_setWord n us ob f ((((fX1_objectOf rg ip).2.1) + 1) + iq) (fX1_content (rg ir.toNatClampNeg))).2.2)))]) hP hD [2, 3] [0, 1, 4, 5] rfl rfl (by decide) (by decide) hk1 hFc hP1 hD1
              generalize H1 = H at hP hS ⊢
              have hP := hP.sub (ws' := [(cx, .inr (1, [.ref ar, .ref ha, .ref hz, .int col, .int mov])), (ar, .inl (cI, 8, .inl rg)), (ha, .inr (0, [.ref wa, .int ((fX0_setWord n us ob f ((((fX1_objectOf rg ip).2.1) + 1) + iq) (fX1_content (rg ir.toNatClampNeg))).1), .int ((fX0_setWord n us ob f ((((fX1_objectOf rg ip).2.1) + 1) + iq) (fX1_content (rg ir.toNatClampNeg))).2.1)])), (wa, .inl (cI, n, .inl ((fX0_setWord n us ob f ((((fX1_objectOf rg ip).2.1) + 1) + iq) (fX1_content (rg ir.toNatClampNeg))).2.2))), (hz, .inr (0, [.ref wz, .int us2, .int ob2])), (wz, .inl (cI, n, .inl f2))]) [0, 1, 4, 5, 2, 3] rfl
              have hD := hD.sub (ws' := [(cx, .inr (1, [.ref ar, .ref ha, .ref hz, .int col, .int mov])), (ar, .inl (cI, 8, .inl rg)), (ha, .inr (0, [.ref wa, .int ((fX0_setWord n us ob f ((((fX1_objectOf rg ip).2.1) + 1) + iq) (fX1_content (rg ir.toNatClampNeg))).1), .int ((fX0_setWord n us ob f ((((fX1_objectOf rg ip).2.1) + 1) + iq) (fX1_content (rg ir.toNatClampNeg))).2.1)])), (wa, .inl (cI, n, .inl ((fX0_setWord n us ob f ((((fX1_objectOf rg ip).2.1) + 1) + iq) (fX1_content (rg ir.toNatClampNeg))).2.2))), (hz, .inr (0, [.ref wz, .int us2, .int ob2])), (wz, .inl (cI, n, .inl f2))]) [0, 1, 4, 5, 2, 3] (by decide) rfl
              refine vx_ret ?_
              refine W.widen (k := 5) (n := 30) (Nat.le_of_ble_eq_true rfl) (Nat.le_of_ble_eq_true rfl) ?_
              have hP9 := hP.sub (ws' := [(cx, .inr (1, [.ref ar, .ref ha, .ref hz, .int col, .int mov])), (ar, .inl (cI, 8, .inl rg)), (ha, .inr (0, [.ref wa, .int ((fX0_setWord n us ob f ((((fX1_objectOf rg ip).2.1) + 1) + iq) (fX1_content (rg ir.toNatClampNeg))).1), .int ((fX0_setWord n us ob f ((((fX1_objectOf rg ip).2.1) + 1) + iq) (fX1_content (rg ir.toNatClampNeg))).2.1)])), (wa, .inl (cI, n, .inl ((fX0_setWord n us ob f ((((fX1_objectOf rg ip).2.1) + 1) + iq) (fX1_content (rg ir.toNatClampNeg))).2.2))), (hz, .inr (0, [.ref wz, .int us2, .int ob2])), (wz, .inl (cI, n, .inl f2))]) [0, 1, 2, 3, 4, 5] rfl
              have hD9 := hD.sub (ws' := [(cx, .inr (1, [.ref ar, .ref ha, .ref hz, .int col, .int mov])), (ar, .inl (cI, 8, .inl rg)), (ha, .inr (0, [.ref wa, .int ((fX0_setWord n us ob f ((((fX1_objectOf rg ip).2.1) + 1) + iq) (fX1_content (rg ir.toNatClampNeg))).1), .int ((fX0_setWord n us ob f ((((fX1_objectOf rg ip).2.1) + 1) + iq) (fX1_content (rg ir.toNatClampNeg))).2.1)])), (wa, .inl (cI, n, .inl ((fX0_setWord n us ob f ((((fX1_objectOf rg ip).2.1) + 1) + iq) (fX1_content (rg ir.toNatClampNeg))).2.2))), (hz, .inr (0, [.ref wz, .int us2, .int ob2])), (wz, .inl (cI, n, .inl f2))]) [0, 1, 2, 3, 4, 5] (by decide) rfl
              have hK9 := hK.sub (tys' := [(cI, .int)]) [0] rfl
              exact W.vret hx hb hr (fun t ht hW => ⟨⟨(rg, (fX0_setWord n us ob f ((((fX1_objectOf rg ip).2.1) + 1) + iq) (fX1_content (rg ir.toNatClampNeg))).1, (fX0_setWord n us ob f ((((fX1_objectOf rg ip).2.1) + 1) + iq) (fX1_content (rg ir.toNatClampNeg))).2.1, (fX0_setWord n us ob f ((((fX1_objectOf rg ip).2.1) + 1) + iq) (fX1_content (rg ir.toNatClampNeg))).2.2, us2, ob2, f2, col, mov), rfl, (by simp only [fX1_put, if_pos c_3, if_pos c_6, if_pos c_9, if_pos c_11, if_pos c_17, if_pos c_20]), by rw [ht]; exact hP9, va_K.moved hW.alike hK9, hD9⟩, hS.F ht⟩) hS.2.2 dX1_put_101
          · have hP9 := hP.sub (ws' := [(cx, .inr (1, [.ref ar, .ref ha, .ref hz, .int col, .int mov])), (ar, .inl (cI, 8, .inl rg)), (ha, .inr (0, [.ref wa, .int us, .int ob])), (wa, .inl (cI, n, .inl f)), (hz, .inr (0, [.ref wz, .int us2, .int ob2])), (wz, .inl (cI, n, .inl f2))]) [0, 1, 2, 3, 4, 5] rfl
            have hD9 := hD.sub (ws' := [(cx, .inr (1, [.ref ar, .ref ha, .ref hz, .int col, .int mov])), (ar, .inl (cI, 8, .inl rg)), (ha, .inr (0, [.ref wa, .int us, .int ob])), (wa, .inl (cI, n, .inl f)), (hz, .inr (0, [.ref wz, .int us2, .int ob2])), (wz, .inl (cI, n, .inl f2))]) [0, 1, 2, 3, 4, 5] (by decide) rfl
            have hK9 := hK.sub (tys' := [(cI, .int)]) [0] rfl
            exact vx_throwS (own := RX1) (cls := "java/lang/IllegalStateException") (names := ["java/lang/RuntimeException", "java/lang/Exception"]) hx hb hl9 hown (by decide +kernel) (by decide +kernel) (ht _ g_197) (ht _ g_8) hX.s70 (thS ht hE) toS hX.zU hX.zN hS (hl.1.trans hml.symm) dX1_put_56 dX1_put_59 dX1_put_60 dX1_put_62 dX1_put_65 (fun x hx => (hEx x hx).elim) (Nat.le_of_ble_eq_true rfl) (Nat.le_of_ble_eq_true rfl) (Nat.le_of_ble_eq_true rfl) (Nat.le_of_ble_eq_true rfl) hlocks (fun t ha hsz hk => ⟨(2, (rg, us, ob, f, us2, ob2, f2, col, mov)), ⟨(by simp only [fX1_put, if_pos c_3, if_pos c_6, if_pos c_9, if_pos c_11, if_neg c_17]), Nat.succ_ne_zero _⟩, ⟨rfl, hP9.kept (fun k q hq => hk q.1 (hP9 k q hq).lt), va_K.moved ha hK9, hD9⟩, Nat.le_trans hS.1 hsz, fun q h1 h2 => (hk q (Nat.lt_of_lt_of_le h1 hS.1)).trans (hS.2.1 q h1 h2)⟩) hS.2.2 (Nat.le_of_ble_eq_true rfl) (Nat.le_of_ble_eq_true rfl)
def fX1_raw (n : Nat) (rg : Nat → Int32) (us : Int32) (ob : Int32) (f : Nat → Int32) (us2 : Int32) (ob2 : Int32) (f2 : Nat → Int32) (col : Int32) (mov : Int32) (ip : Int32) (iq : Int32) (ir : Int32) : Nat × Int32 × (Nat → Int32) × Int32 × Int32 × (Nat → Int32) × Int32 × Int32 × (Nat → Int32) × Int32 × Int32 := (if (fX1_requireRegister ip).1 = 0 then (if (fX1_objectOf rg ip).1 = 0 then (if fX0_kindAt n f ((fX1_objectOf rg ip).2.1) = 1 then (if (fX1_requireField n f ((fX1_objectOf rg ip).2.1) iq).1 = 0 then (0, fX0_wordAt n f ((((fX1_objectOf rg ip).2.1) + 1) + iq), (rg, (fX0_setWord n us ob f ((((fX1_objectOf rg ip).2.1) + 1) + iq) ir).1, (fX0_setWord n us ob f ((((fX1_objectOf rg ip).2.1) + 1) + iq) ir).2.1, (fX0_setWord n us ob f ((((fX1_objectOf rg ip).2.1) + 1) + iq) ir).2.2, us2, ob2, f2, col, mov)) else ((fX1_requireField n f ((fX1_objectOf rg ip).2.1) iq).1, 0, (rg, us, ob, f, us2, ob2, f2, col, mov))) else (2, 0, (rg, us, ob, f, us2, ob2, f2, col, mov))) else ((fX1_objectOf rg ip).1, 0, (rg, us, ob, f, us2, ob2, f2, col, mov))) else ((fX1_requireRegister ip).1, 0, (rg, us, ob, f, us2, ob2, f2, col, mov)))
abbrev atX1_raw (dC : Nat → ClassId) (dI : Nat → Nat → Nat) (cI : ClassId) (A : Nat → Prop) (cx : Nat) (ar : Nat) (ha : Nat) (wa : Nat) (hz : Nat) (wz : Nat) (n : Nat) (u : (Nat → Int32) × Int32 × Int32 × (Nat → Int32) × Int32 × Int32 × (Nat → Int32) × Int32 × Int32) (t : State) : Prop := va_P (dC, dI) vwCl [(cx, .inr (1, [.ref ar, .ref ha, .ref hz, .int u.2.2.2.2.2.2.2.1, .int u.2.2.2.2.2.2.2.2])), (ar, .inl (cI, 8, .inl u.1)), (ha, .inr (0, [.ref wa, .int u.2.1, .int u.2.2.1])), (wa, .inl (cI, n, .inl u.2.2.2.1)), (hz, .inr (0, [.ref wz, .int u.2.2.2.2.1, .int u.2.2.2.2.2.1])), (wz, .inl (cI, n, .inl u.2.2.2.2.2.2.1))] t.heap ∧ va_K (dC, dI) vwCl [(cI, .int)] t ∧ va_D A [(cx, .inr (1, [.ref ar, .ref ha, .ref hz, .int u.2.2.2.2.2.2.2.1, .int u.2.2.2.2.2.2.2.2])), (ar, .inl (cI, 8, .inl u.1)), (ha, .inr (0, [.ref wa, .int u.2.1, .int u.2.2.1])), (wa, .inl (cI, n, .inl u.2.2.2.1)), (hz, .inr (0, [.ref wz, .int u.2.2.2.2.1, .int u.2.2.2.2.2.1])), (wz, .inl (cI, n, .inl u.2.2.2.2.2.2.1))]
set_option maxHeartbeats 4000000 in
set_option maxRecDepth 100000 in
theorem ctX1_raw (l : Launch) (hl9 : l.stackTraces = false) (dC : Nat → ClassId) (dI : Nat → Nat → Nat) (cI : ClassId) (sa : Nat → Nat) (cx : Nat) (ar : Nat) (ha : Nat) (wa : Nat) (hz : Nat) (wz : Nat) (n : Nat) (col : Int32) (mov : Int32) (rg : Nat → Int32) (us : Int32) (ob : Int32) (f : Nat → Int32) (us2 : Int32) (ob2 : Int32) (f2 : Nat → Int32) (ip : Int32) (iq : Int32) (ir : Int32) (sz : Nat) (hn : n < 2 ^ 31) : vx_Met l yX1_raw (kX1_raw :: gT) ({ frames := 7, cells := 5, slots := 30, locals := 120 }) (va_Pc [.ref cx, .int ip, .int iq, .int ir] (pY (dC, dI) [(cx, .inr (1, [.ref ar, .ref ha, .ref hz, .int col, .int mov])), (ar, .inl (cI, 8, .inl rg)), (ha, .inr (0, [.ref wa, .int us, .int ob])), (wa, .inl (cI, n, .inl f)), (hz, .inr (0, [.ref wz, .int us2, .int ob2])), (wz, .inl (cI, n, .inl f2))] [(cI, .int)] sa sz)) (va_Qi (fun (r : Int32) (u : (Nat → Int32) × Int32 × Int32 × (Nat → Int32) × Int32 × Int32 × (Nat → Int32) × Int32 × Int32) => fX1_raw n rg us ob f us2 ob2 f2 col mov ip iq ir = (0, r, u)) (atX1_raw dC dI cI (va_A [(cx, .inr (1, [.ref ar, .ref ha, .ref hz, .int col, .int mov])), (ar, .inl (cI, 8, .inl rg)), (ha, .inr (0, [.ref wa, .int us, .int ob])), (wa, .inl (cI, n, .inl f)), (hz, .inr (0, [.ref wz, .int us2, .int ob2])), (wz, .inl (cI, n, .inl f2))] sz) cx ar ha wa hz wz n) (va_A [(cx, .inr (1, [.ref ar, .ref ha, .ref hz, .int col, .int mov])), (ar, .inl (cI, 8, .inl rg)), (ha, .inr (0, [.ref wa, .int us, .int ob])), (wa, .inl (cI, n, .inl f)), (hz, .inr (0, [.ref wz, .int us2, .int ob2])), (wz, .inl (cI, n, .inl f2))] sz)) (vx_X (fun v : Nat × ((Nat → Int32) × Int32 × Int32 × (Nat → Int32) × Int32 × Int32 × (Nat → Int32) × Int32 × Int32) => fX1_raw n rg us ob f us2 ob2 f2 col mov ip iq ir = (v.1, 0, v.2) ∧ v.1 ≠ 0) (fun E v t => E = exN v.1 ∧ atX1_raw dC dI cI (va_A [(cx, .inr (1, [.ref ar, .ref ha, .ref hz, .int col, .int mov])), (ar, .inl (cI, 8, .inl rg)), (ha, .inr (0, [.ref wa, .int us, .int ob])), (wa, .inl (cI, n, .inl f)), (hz, .inr (0, [.ref wz, .int us2, .int ob2])), (wz, .inl (cI, n, .inl f2))] sz) cx ar ha wa hz wz n v.2 t) (va_A [(cx, .inr (1, [.ref ar, .ref ha, .ref hz, .int col, .int mov])), (ar, .inl (cI, 8, .inl rg)), (ha, .inr (0, [.ref wa, .int us, .int ob])), (wa, .inl (cI, n, .inl f)), (hz, .inr (0, [.ref wz, .int us2, .int ob2])), (wz, .inl (cI, n, .inl f2))] sz)) 5 30 (va_A [(cx, .inr (1, [.ref ar, .ref ha, .ref hz, .int col, .int mov])), (ar, .inl (cI, 8, .inl rg)), (ha, .inr (0, [.ref wa, .int us, .int ob])), (wa, .inl (cI, n, .inl f)), (hz, .inr (0, [.ref wz, .int us2, .int ob2])), (wz, .inl (cI, n, .inl f2))] sz) := by
  refine vx_ofW (cc := cX1_raw) (maxL := 6) (ret := (some .int)) (by decide) rfl ?_
  intro p e s m args below meth c s₁ B hml hEx hv
  obtain ⟨rfl, hsz, hP, hK, hD0, hE, hX⟩ := hv
  have hx := B.exec
  have hb := B.bytes
  have hr := B.returns
  have ht : ∀ w ∈ gT, w.before ([.ref cx, .int ip, .int iq, .int ir] : List Value).toArray s = true := fun w h => atoms_spec (ws := kX1_raw :: gT) B.pre w (List.mem_cons_of_mem _ h)
  have hown : s.vm.findClass RX1 = some m.cls := findClass_of_methodNamed B.named
  have hlocks := B.notSynchronized
  subst hsz
  have hD := hD0.self (sz := s.heap.size)
  generalize hAe : va_A [(cx, .inr (1, [.ref ar, .ref ha, .ref hz, .int col, .int mov])), (ar, .inl (cI, 8, .inl rg)), (ha, .inr (0, [.ref wa, .int us, .int ob])), (wa, .inl (cI, n, .inl f)), (hz, .inr (0, [.ref wz, .int us2, .int ob2])), (wz, .inl (cI, n, .inl f2))] s.heap.size = A at hD hX ⊢
  have hA : ∀ q : Nat, s.heap.size ≤ q → A q := fun q h => by rw [← hAe]; exact Or.inr h
  have hS : va_S A s.heap s.heap [] := va_S.rf
  have hl := lv_entry ([.ref cx, .int ip, .int iq, .int ir]) (n := 6) (Nat.le_of_ble_eq_true rfl)
  rw [lg_entry_eq]
  generalize (lg_sl ([.ref cx, .int ip, .int iq, .int ir]) ++ List.replicate (6 - (lg_sl ([.ref cx, .int ip, .int iq, .int ir])).length) Slot.unset).toArray = ls at hl ⊢
  have hl : lv_has ls 6 [(0, .ref cx), (1, .int ip), (2, .int iq), (3, .int ir)] := hl
  refine lv_iload_n hx hb dX1_raw_0 rfl (lv_at hl 1 rfl) ?_
  have hPc := hP.sub (ws' := []) [] rfl
  have hKc := hK.sub (tys' := []) [] rfl
  have hFc := nilF hS hA
  refine vx_callv (vx_runS (As := [.int ip]) (rest := []) ⟨hx, hb, hml, hown, ht⟩ (ctX1_requireRegister l hl9 dC dI cI sa ip _ ) (cwS 1 ht gcX1_25 rfl rfl rfl (by decide +kernel) ⟨Nat.le_of_ble_eq_true rfl, Nat.le_of_ble_eq_true rfl⟩) ⟨pR.blind, pR.call hPc hKc hE hX hS hFc⟩ rfl rfl hl.1 rfl (lv_room (Nat.le_of_ble_eq_true rfl)) dX1_raw_1 ⟨Nat.le_of_ble_eq_true rfl, Nat.le_of_ble_eq_true rfl⟩) hS (fun q _ h => hFc q h) hFc (fun q _ h => hFc q h) (fun E ce q9 u_1 t H1 locs ht9 hvm hp hB hz1 hk1 hS hce hcv hcl => ?_) (fun u_1 t H1 locs ht9 hvm hw hB hz1 hk1 hS => ?_)
  · obtain ⟨hpe, hpk⟩ := hp
    have hB := hB
    obtain rfl : u_1 = ((fX1_requireRegister ip).1, (fX1_requireRegister ip).2.2) := by rw [hpe]
    have c_3 : ¬ (fX1_requireRegister ip).1 = 0 := hpk
    subst hB
    have hP1 := nilP (D := (dC, dI)) (H := H1)
    have hP := rKeep hP hk1
    generalize H1 = H at hP hS hce ⊢
    have hP9 := hP.sub (ws' := [(cx, .inr (1, [.ref ar, .ref ha, .ref hz, .int col, .int mov])), (ar, .inl (cI, 8, .inl rg)), (ha, .inr (0, [.ref wa, .int us, .int ob])), (wa, .inl (cI, n, .inl f)), (hz, .inr (0, [.ref wz, .int us2, .int ob2])), (wz, .inl (cI, n, .inl f2))]) [0, 1, 2, 3, 4, 5] rfl
    have hD9 := hD.sub (ws' := [(cx, .inr (1, [.ref ar, .ref ha, .ref hz, .int col, .int mov])), (ar, .inl (cI, 8, .inl rg)), (ha, .inr (0, [.ref wa, .int us, .int ob])), (wa, .inl (cI, n, .inl f)), (hz, .inr (0, [.ref wz, .int us2, .int ob2])), (wz, .inl (cI, n, .inl f2))]) [0, 1, 2, 3, 4, 5] (by decide) rfl
    have hK9 := hK.sub (tys' := [(cI, .int)]) [0] rfl
    exact vx_out (fun x hx => (hEx x hx).elim) hlocks hce hcv hcl (fun t ht ha => ⟨((fX1_requireRegister ip).1, (rg, us, ob, f, us2, ob2, f2, col, mov)), ⟨(by simp only [fX1_raw, if_neg c_3]), hpk⟩, ⟨rfl, by rw [ht]; exact hP9, va_K.moved ha hK9, hD9⟩, hS.F ht⟩) hS.2.2 (Nat.le_of_ble_eq_true rfl) (Nat.le_of_ble_eq_true rfl)
  · have c_3 : (fX1_requireRegister ip).1 = 0 := by rw [hw]
    have hP := rKeep hP hk1
    generalize H1 = H at hP hS ⊢
    refine lv_aload_n hx hb dX1_raw_4 rfl (lv_at hl 0 rfl) ?_
    refine lv_iload_n hx hb dX1_raw_5 rfl (lv_at hl 1 rfl) ?_
    have hPc := hP.sub (ws' := [(cx, .inr (1, [.ref ar, .ref ha, .ref hz, .int col, .int mov])), (ar, .inl (cI, 8, .inl rg))]) [0, 1] rfl
    have hKc := hK.sub (tys' := [(cI, .int)]) [0] rfl
    have hFc := nilF hS hA
    refine vx_calli (vx_runV (As := [.int ip]) (rest := []) ⟨hx, hb, hml, hown, ht⟩ (ctX1_objectOf l hl9 dC dI cI sa cx ar ha hz col mov rg ip _ (rrIn c_3)) (cwV 1 ht gcX1_64 rfl rfl rfl (by decide +kernel) ⟨Nat.le_of_ble_eq_true rfl, Nat.le_of_ble_eq_true rfl⟩) ⟨pR.blind, va_recv hKc hPc (ci := 1) (q0 := 0) rfl rfl, pR.call hPc hKc hE hX hS hFc⟩ rfl rfl hl.1 rfl (lv_room (Nat.le_of_ble_eq_true rfl)) dX1_raw_6 ⟨Nat.le_of_ble_eq_true rfl, Nat.le_of_ble_eq_true rfl⟩) hS (fun q _ h => hFc q h) hFc (fun q _ h => hFc q h) (fun E ce q9 u_4 t H1 locs ht9 hvm hp hB hz1 hk1 hS hce hcv hcl => ?_) (fun r_5 u_4 t H1 locs ht9 hvm hw hB hz1 hk1 hS => ?_)
    · obtain ⟨hpe, hpk⟩ := hp
      have hB := hB
      obtain rfl : u_4 = ((fX1_objectOf rg ip).1, (fX1_objectOf rg ip).2.2) := by rw [hpe]
      have c_6 : ¬ (fX1_objectOf rg ip).1 = 0 := hpk
      subst hB
      have hP1 := nilP (D := (dC, dI)) (H := H1)
      have hP := rKeep hP hk1
      generalize H1 = H at hP hS hce ⊢
      have hP9 := hP.sub (ws' := [(cx, .inr (1, [.ref ar, .ref ha, .ref hz, .int col, .int mov])), (ar, .inl (cI, 8, .inl rg)), (ha, .inr (0, [.ref wa, .int us, .int ob])), (wa, .inl (cI, n, .inl f)), (hz, .inr (0, [.ref wz, .int us2, .int ob2])), (wz, .inl (cI, n, .inl f2))]) [0, 1, 2, 3, 4, 5] rfl
      have hD9 := hD.sub (ws' := [(cx, .inr (1, [.ref ar, .ref ha, .ref hz, .int col, .int mov])), (ar, .inl (cI, 8, .inl rg)), (ha, .inr (0, [.ref wa, .int us, .int ob])), (wa, .inl (cI, n, .inl f)), (hz, .inr (0, [.ref wz, .int us2, .int ob2])), (wz, .inl (cI, n, .inl f2))]) [0, 1, 2, 3, 4, 5] (by decide) rfl
      have hK9 := hK.sub (tys' := [(cI, .int)]) [0] rfl
      exact vx_out (fun x hx => (hEx x hx).elim) hlocks hce hcv hcl (fun t ht ha => ⟨((fX1_objectOf rg ip).1, (rg, us, ob, f, us2, ob2, f2, col, mov)), ⟨(by simp only [fX1_raw, if_pos c_3, if_neg c_6]), hpk⟩, ⟨rfl, by rw [ht]; exact hP9, va_K.moved ha hK9, hD9⟩, hS.F ht⟩) hS.2.2 (Nat.le_of_ble_eq_true rfl) (Nat.le_of_ble_eq_true rfl)
    · have c_6 : (fX1_objectOf rg ip).1 = 0 := by rw [hw]
      obtain rfl : r_5 = (fX1_objectOf rg ip).2.1 := by rw [hw]
      have hP := rKeep hP hk1
      generalize H1 = H at hP hS ⊢
      refine lv_istore (lv' := [(4, .int ((fX1_objectOf rg ip).2.1)), (0, .ref cx), (1, .int ip), (2, .int iq), (3, .int ir)]) hx hb dX1_raw_9 hl (by decide) rfl (fun ls hl => ?_)
      refine lv_aload_n hx hb dX1_raw_11 rfl (lv_at hl 1 rfl) ?_
      refine va_get (D := (dC, dI)) (ci := 1) (v := .ref ha) (C := RX1) (T := TX1) (N := 5) hx hb ht iX1 hown hK hP 0 rfl rfl 1 (by decide) (ht _ g_39) (fun _ h9 => h9) rfl dX1_raw_12 ?_
      refine lv_iload hx hb dX1_raw_15 (lv_at hl 0 rfl) ?_
      have hPc := hP.sub (ws' := [(ha, .inr (0, [.ref wa, .int us, .int ob])), (wa, .inl (cI, n, .inl f))]) [2, 3] rfl
      have hKc := hK.sub (tys' := [(cI, .int)]) [0] rfl
      refine vp_callSi (va_runV (As := [.int ((fX1_objectOf rg ip).2.1)]) (rest := []) ⟨hx, hb, hml, hown, ht⟩ (ctX0_kindAt l dC dI cI ha wa n us ob f ((fX1_objectOf rg ip).2.1) hn) (cwV 1 ht gcX1_67 rfl rfl rfl (by decide +kernel) ⟨Nat.le_of_ble_eq_true rfl, Nat.le_of_ble_eq_true rfl⟩) ⟨pS.blind, va_recv hKc hPc (ci := 0) (q0 := 0) rfl rfl, pS.call hPc hKc hE⟩ rfl rfl hl.1 rfl (lv_room (Nat.le_of_ble_eq_true rfl)) dX1_raw_17 ⟨Nat.le_of_ble_eq_true rfl, Nat.le_of_ble_eq_true rfl⟩).run (fun r_7 hr_7 => ?_)
      subst hr_7
      refine lv_iconst (v := 1) hx hb dX1_raw_20 (by decide) ?_
      refine lv_icmp_eq (tgt := 34) hx hb dX1_raw_21 (by decide) (fun c_8 => ?_) (fun c_8 => ?_)
      · refine lv_aload_n hx hb dX1_raw_34 rfl (lv_at hl 1 rfl) ?_
        refine lv_iload hx hb dX1_raw_35 (lv_at hl 0 rfl) ?_
        refine lv_iload_n hx hb dX1_raw_37 rfl (lv_at hl 3 rfl) ?_
        have hPc := hP.sub (ws' := [(cx, .inr (1, [.ref ar, .ref ha, .ref hz, .int col, .int mov])), (ha, .inr (0, [.ref wa, .int us, .int ob])), (wa, .inl (cI, n, .inl f))]) [0, 2, 3] rfl
        have hKc := hK.sub (tys' := [(cI, .int)]) [0] rfl
        have hFc := nilF hS hA
        refine vx_callv (vx_runV (As := [.int ((fX1_objectOf rg ip).2.1), .int iq]) (rest := []) ⟨hx, hb, hml, hown, ht⟩ (ctX1_requireField l hl9 dC dI cI sa cx ar ha wa hz n col mov us ob f ((fX1_objectOf rg ip).2.1) iq _ hn) (cwV 2 ht gcX1_72 rfl rfl rfl (by decide +kernel) ⟨Nat.le_of_ble_eq_true rfl, Nat.le_of_ble_eq_true rfl⟩) ⟨pR.blind, va_recv hKc hPc (ci := 1) (q0 := 0) rfl rfl, pR.call hPc hKc hE hX hS hFc⟩ rfl rfl hl.1 rfl (lv_room (Nat.le_of_ble_eq_true rfl)) dX1_raw_38 ⟨Nat.le_of_ble_eq_true rfl, Nat.le_of_ble_eq_true rfl⟩) hS (fun q _ h => hFc q h) hFc (fun q _ h => hFc q h) (fun E ce q9 u_9 t H1 locs ht9 hvm hp hB hz1 hk1 hS hce hcv hcl => ?_) (fun u_9 t H1 locs ht9 hvm hw hB hz1 hk1 hS => ?_)
        · obtain ⟨hpe, hpk⟩ := hp
          have hB := hB
          obtain rfl : u_9 = ((fX1_requireField n f ((fX1_objectOf rg ip).2.1) iq).1, (fX1_requireField n f ((fX1_objectOf rg ip).2.1) iq).2.2) := by rw [hpe]
          have c_11 : ¬ (fX1_requireField n f ((fX1_objectOf rg ip).2.1) iq).1 = 0 := hpk
          subst hB
          have hP1 := nilP (D := (dC, dI)) (H := H1)
          have hP := rKeep hP hk1
          generalize H1 = H at hP hS hce ⊢
          have hP9 := hP.sub (ws' := [(cx, .inr (1, [.ref ar, .ref ha, .ref hz, .int col, .int mov])), (ar, .inl (cI, 8, .inl rg)), (ha, .inr (0, [.ref wa, .int us, .int ob])), (wa, .inl (cI, n, .inl f)), (hz, .inr (0, [.ref wz, .int us2, .int ob2])), (wz, .inl (cI, n, .inl f2))]) [0, 1, 2, 3, 4, 5] rfl
          have hD9 := hD.sub (ws' := [(cx, .inr (1, [.ref ar, .ref ha, .ref hz, .int col, .int mov])), (ar, .inl (cI, 8, .inl rg)), (ha, .inr (0, [.ref wa, .int us, .int ob])), (wa, .inl (cI, n, .inl f)), (hz, .inr (0, [.ref wz, .int us2, .int ob2])), (wz, .inl (cI, n, .inl f2))]) [0, 1, 2, 3, 4, 5] (by decide) rfl
          have hK9 := hK.sub (tys' := [(cI, .int)]) [0] rfl
          exact vx_out (fun x hx => (hEx x hx).elim) hlocks hce hcv hcl (fun t ht ha => ⟨((fX1_requireField n f ((fX1_objectOf rg ip).2.1) iq).1, (rg, us, ob, f, us2, ob2, f2, col, mov)), ⟨(by simp only [fX1_raw, if_pos c_3, if_pos c_6, if_pos c_8, if_neg c_11]), hpk⟩, ⟨rfl, by rw [ht]; exact hP9, va_K.moved ha hK9, hD9⟩, hS.F ht⟩) hS.2.2 (Nat.le_of_ble_eq_true rfl) (Nat.le_of_ble_eq_true rfl)
        · have c_11 : (fX1_requireField n f ((fX1_objectOf rg ip).2.1) iq).1 = 0 := by rw [hw]
          have hP := rKeep hP hk1
          generalize H1 = H at hP hS ⊢
          refine lv_aload_n hx hb dX1_raw_41 rfl (lv_at hl 1 rfl) ?_
          refine va_get (D := (dC, dI)) (ci := 1) (v := .ref ha) (C := RX1) (T := TX1) (N := 5) hx hb ht iX1 hown hK hP 0 rfl rfl 1 (by decide) (ht _ g_39) (fun _ h9 => h9) rfl dX1_raw_42 ?_
          refine lv_iload hx hb dX1_raw_45 (lv_at hl 0 rfl) ?_
          refine lv_iconst (v := 1) hx hb dX1_raw_47 (by decide) ?_
          refine lv_iadd hx hb dX1_raw_48 ?_
          refine lv_iload_n hx hb dX1_raw_49 rfl (lv_at hl 3 rfl) ?_
          refine lv_iadd hx hb dX1_raw_50 ?_
          have hPc := hP.sub (ws' := [(ha, .inr (0, [.ref wa, .int us, .int ob])), (wa, .inl (cI, n, .inl f))]) [2, 3] rfl
          have hKc := hK.sub (tys' := [(cI, .int)]) [0] rfl
          refine vp_callSi (va_runV (As := [.int ((((fX1_objectOf rg ip).2.1) + 1) + iq)]) (rest := []) ⟨hx, hb, hml, hown, ht⟩ (ctX0_wordAt l dC dI cI ha wa n us ob f ((((fX1_objectOf rg ip).2.1) + 1) + iq) hn) (cwV 1 ht gcX1_81 rfl rfl rfl (by decide +kernel) ⟨Nat.le_of_ble_eq_true rfl, Nat.le_of_ble_eq_true rfl⟩) ⟨pS.blind, va_recv hKc hPc (ci := 0) (q0 := 0) rfl rfl, pS.call hPc hKc hE⟩ rfl rfl hl.1 rfl (lv_room (Nat.le_of_ble_eq_true rfl)) dX1_raw_51 ⟨Nat.le_of_ble_eq_true rfl, Nat.le_of_ble_eq_true rfl⟩).run (fun r_12 hr_12 => ?_)
          subst hr_12
          refine lv_istore (lv' := [(5, .int (fX0_wordAt n f ((((fX1_objectOf rg ip).2.1) + 1) + iq))), (4, .int ((fX1_objectOf rg ip).2.1)), (0, .ref cx), (1, .int ip), (2, .int iq), (3, .int ir)]) hx hb dX1_raw_54 hl (by decide) rfl (fun ls hl => ?_)
          refine lv_aload_n hx hb dX1_raw_56 rfl (lv_at hl 2 rfl) ?_
          refine va_get (D := (dC, dI)) (ci := 1) (v := .ref ha) (C := RX1) (T := TX1) (N := 5) hx hb ht iX1 hown hK hP 0 rfl rfl 1 (by decide) (ht _ g_39) (fun _ h9 => h9) rfl dX1_raw_57 ?_
          refine lv_iload hx hb dX1_raw_60 (lv_at hl 1 rfl) ?_
          refine lv_iconst (v := 1) hx hb dX1_raw_62 (by decide) ?_
          refine lv_iadd hx hb dX1_raw_63 ?_
          refine lv_iload_n hx hb dX1_raw_64 rfl (lv_at hl 4 rfl) ?_
          refine lv_iadd hx hb dX1_raw_65 ?_
          refine lv_iload_n hx hb dX1_raw_66 rfl (lv_at hl 5 rfl) ?_
          have hPc := hP.sub (ws' := [(ha, .inr (0, [.ref wa, .int us, .int ob])), (wa, .inl (cI, n, .inl f))]) [2, 3] rfl
          have hKc := hK.sub (tys' := [(cI, .int)]) [0] rfl
          have hDc := hD.sub (ws' := [(ha, .inr (0, [.ref wa, .int us, .int ob])), (wa, .inl (cI, n, .inl f))]) [2, 3] (by decide) rfl
          have hFc := va_free (wc := [(ha, .inr (0, [.ref wa, .int us, .int ob])), (wa, .inl (cI, n, .inl f))]) hD hS hA [2, 3] rfl
          refine va_callv (va_runV (As := [.int ((((fX1_objectOf rg ip).2.1) + 1) + iq), .int ir]) (rest := []) ⟨hx, hb, hml, hown, ht⟩ (ctX0_setWord l dC dI cI ha wa n us ob f ((((fX1_objectOf rg ip).2.1) + 1) + iq) ir _ hn) (cwV 2 ht gcX1_76 rfl rfl rfl (by decide +kernel) ⟨Nat.le_of_ble_eq_true rfl, Nat.le_of_ble_eq_true rfl⟩) ⟨pM.blind, va_recv hKc hPc (ci := 0) (q0 := 0) rfl rfl, pM.call hPc hKc hDc hE⟩ rfl rfl hl.1 rfl (lv_room (Nat.le_of_ble_eq_true rfl)) dX1_raw_67 ⟨Nat.le_of_ble_eq_true rfl, Nat.le_of_ble_eq_true rfl⟩) hS (fun q _ h => hFc q h) hFc (fun u_13 t H1 locs ht9 hvm hw hB hz1 hk1 hS => ?_)
          subst hw
          obtain ⟨hP1, hK1, hD1⟩ := hB
          rw [ht9] at hP1
          obtain ⟨hP, hD⟩ := va_join (wr := [(cx, .inr (1, [.ref ar, .ref ha, .ref hz, .int col, .int mov])), (ar, .inl (cI, 8, .inl rg)), (hz, .inr (0, [.ref wz, .int us2, .int ob2])), (wz, .inl (cI, n, .inl f2))]) (w1 := [(ha, .inr (0, [.ref wa, .int ((fX0_setWord n us ob f ((((fX1_objectOf rg ip).2.1) + 1) + iq) ir).1), .int ((fX0_setWord n us ob f ((((fX1_objectOf rg ip).2.1) + 1) + iq) ir).2.1)])), (wa, .inl (cI, n, .inl ((fX0_setWord n us ob f ((((fX1_objectOf rg ip).2.1) + 1) + iq) ir).2.2)))]) hP hD [2, 3] [0, 1, 4, 5] rfl rfl (by decide) (by decide) hk1 hFc hP1 hD1
          generalize H1 = H at hP hS ⊢
          have hP := hP.sub (ws' := [(cx, .inr (1, [.ref ar, .ref ha, .ref hz, .int col, .int mov])), (ar, .inl (cI, 8, .inl rg)), (ha, .inr (0, [.ref wa, .int ((fX0_setWord n us ob f ((((fX1_objectOf rg ip).2.1) + 1) + iq) ir).1), .int ((fX0_setWord n us ob f ((((fX1_objectOf rg ip).2.1) + 1) + iq) ir).2.1)])), (wa, .inl (cI, n, .inl ((fX0_setWord n us ob f ((((fX1_objectOf rg ip).2.1) + 1) + iq) ir).2.2))), (hz, .inr (0, [.ref wz, .int us2, .int ob2])), (wz, .inl (cI, n, .inl f2))]) [0, 1, 4, 5, 2, 3] rfl
          have hD := hD.sub (ws' := [(cx, .inr (1, [.ref ar, .ref ha, .ref hz, .int col, .int mov])), (ar, .inl (cI, 8, .inl rg)), (ha, .inr (0, [.ref wa, .int ((fX0_setWord n us ob f ((((fX1_objectOf rg ip).2.1) + 1) + iq) ir).1), .int ((fX0_setWord n us ob f ((((fX1_objectOf rg ip).2.1) + 1) + iq) ir).2.1)])), (wa, .inl (cI, n, .inl ((fX0_setWord n us ob f ((((fX1_objectOf rg ip).2.1) + 1) + iq) ir).2.2))), (hz, .inr (0, [.ref wz, .int us2, .int ob2])), (wz, .inl (cI, n, .inl f2))]) [0, 1, 4, 5, 2, 3] (by decide) rfl
          refine lv_iload hx hb dX1_raw_70 (lv_at hl 0 rfl) ?_
          refine vx_ret ?_
          refine W.widen (k := 5) (n := 30) (Nat.le_of_ble_eq_true rfl) (Nat.le_of_ble_eq_true rfl) ?_
          have hP9 := hP.sub (ws' := [(cx, .inr (1, [.ref ar, .ref ha, .ref hz, .int col, .int mov])), (ar, .inl (cI, 8, .inl rg)), (ha, .inr (0, [.ref wa, .int ((fX0_setWord n us ob f ((((fX1_objectOf rg ip).2.1) + 1) + iq) ir).1), .int ((fX0_setWord n us ob f ((((fX1_objectOf rg ip).2.1) + 1) + iq) ir).2.1)])), (wa, .inl (cI, n, .inl ((fX0_setWord n us ob f ((((fX1_objectOf rg ip).2.1) + 1) + iq) ir).2.2))), (hz, .inr (0, [.ref wz, .int us2, .int ob2])), (wz, .inl (cI, n, .inl f2))]) [0, 1, 2, 3, 4, 5] rfl
          have hD9 := hD.sub (ws' := [(cx, .inr (1, [.ref ar, .ref ha, .ref hz, .int col, .int mov])), (ar, .inl (cI, 8, .inl rg)), (ha, .inr (0, [.ref wa, .int ((fX0_setWord n us ob f ((((fX1_objectOf rg ip).2.1) + 1) + iq) ir).1), .int ((fX0_setWord n us ob f ((((fX1_objectOf rg ip).2.1) + 1) + iq) ir).2.1)])), (wa, .inl (cI, n, .inl ((fX0_setWord n us ob f ((((fX1_objectOf rg ip).2.1) + 1) + iq) ir).2.2))), (hz, .inr (0, [.ref wz, .int us2, .int ob2])), (wz, .inl (cI, n, .inl f2))]) [0, 1, 2, 3, 4, 5] (by decide) rfl
          have hK9 := hK.sub (tys' := [(cI, .int)]) [0] rfl
          exact W.iret (v := fX0_wordAt n f ((((fX1_objectOf rg ip).2.1) + 1) + iq)) hx hb hr (fun t ht hW => ⟨⟨_, (rg, (fX0_setWord n us ob f ((((fX1_objectOf rg ip).2.1) + 1) + iq) ir).1, (fX0_setWord n us ob f ((((fX1_objectOf rg ip).2.1) + 1) + iq) ir).2.1, (fX0_setWord n us ob f ((((fX1_objectOf rg ip).2.1) + 1) + iq) ir).2.2, us2, ob2, f2, col, mov), rfl, (by simp only [fX1_raw, if_pos c_3, if_pos c_6, if_pos c_8, if_pos c_11]), by rw [ht]; exact hP9, va_K.moved hW.alike hK9, hD9⟩, hS.F ht⟩) hS.2.2 dX1_raw_72
      · have hP9 := hP.sub (ws' := [(cx, .inr (1, [.ref ar, .ref ha, .ref hz, .int col, .int mov])), (ar, .inl (cI, 8, .inl rg)), (ha, .inr (0, [.ref wa, .int us, .int ob])), (wa, .inl (cI, n, .inl f)), (hz, .inr (0, [.ref wz, .int us2, .int ob2])), (wz, .inl (cI, n, .inl f2))]) [0, 1, 2, 3, 4, 5] rfl
        have hD9 := hD.sub (ws' := [(cx, .inr (1, [.ref ar, .ref ha, .ref hz, .int col, .int mov])), (ar, .inl (cI, 8, .inl rg)), (ha, .inr (0, [.ref wa, .int us, .int ob])), (wa, .inl (cI, n, .inl f)), (hz, .inr (0, [.ref wz, .int us2, .int ob2])), (wz, .inl (cI, n, .inl f2))]) [0, 1, 2, 3, 4, 5] (by decide) rfl
        have hK9 := hK.sub (tys' := [(cI, .int)]) [0] rfl
        exact vx_throwS (own := RX1) (cls := "java/lang/IllegalStateException") (names := ["java/lang/RuntimeException", "java/lang/Exception"]) hx hb hl9 hown (by decide +kernel) (by decide +kernel) (ht _ g_197) (ht _ g_8) hX.s79 (thS ht hE) toS hX.zU hX.zN hS (hl.1.trans hml.symm) dX1_raw_24 dX1_raw_27 dX1_raw_28 dX1_raw_30 dX1_raw_33 (fun x hx => (hEx x hx).elim) (Nat.le_of_ble_eq_true rfl) (Nat.le_of_ble_eq_true rfl) (Nat.le_of_ble_eq_true rfl) (Nat.le_of_ble_eq_true rfl) hlocks (fun t ha hsz hk => ⟨(2, (rg, us, ob, f, us2, ob2, f2, col, mov)), ⟨(by simp only [fX1_raw, if_pos c_3, if_pos c_6, if_neg c_8]), Nat.succ_ne_zero _⟩, ⟨rfl, hP9.kept (fun k q hq => hk q.1 (hP9 k q hq).lt), va_K.moved ha hK9, hD9⟩, Nat.le_trans hS.1 hsz, fun q h1 h2 => (hk q (Nat.lt_of_lt_of_le h1 hS.1)).trans (hS.2.1 q h1 h2)⟩) hS.2.2 (Nat.le_of_ble_eq_true rfl) (Nat.le_of_ble_eq_true rfl)
def fX1_get (n : Nat) (rg : Nat → Int32) (us : Int32) (ob : Int32) (f : Nat → Int32) (us2 : Int32) (ob2 : Int32) (f2 : Nat → Int32) (col : Int32) (mov : Int32) (ip : Int32) (iq : Int32) (ir : Int32) : Nat × Int32 × (Nat → Int32) × Int32 × Int32 × (Nat → Int32) × Int32 × Int32 × (Nat → Int32) × Int32 × Int32 := (if (fX1_requireRegister ip).1 = 0 then (if (fX1_requireRegister iq).1 = 0 then (if (fX1_objectOf rg iq).1 = 0 then (if (fX1_requireField n f ((fX1_objectOf rg iq).2.1) ir).1 = 0 then (if fX0_kindAt n f ((fX1_objectOf rg iq).2.1) = 1 then (0, fX1_isReference ((upd rg ip.toNatClampNeg (fX1_asNumber (fX0_wordAt n f ((((fX1_objectOf rg iq).2.1) + 1) + ir)))) ip.toNatClampNeg), (upd rg ip.toNatClampNeg (fX1_asNumber (fX0_wordAt n f ((((fX1_objectOf rg iq).2.1) + 1) + ir))), us, ob, f, us2, ob2, f2, col, mov)) else (0, fX1_isReference ((upd rg ip.toNatClampNeg (fX0_wordAt n f ((((fX1_objectOf rg iq).2.1) + 1) + ir))) ip.toNatClampNeg), (upd rg ip.toNatClampNeg (fX0_wordAt n f ((((fX1_objectOf rg iq).2.1) + 1) + ir)), us, ob, f, us2, ob2, f2, col, mov))) else ((fX1_requireField n f ((fX1_objectOf rg iq).2.1) ir).1, 0, (rg, us, ob, f, us2, ob2, f2, col, mov))) else ((fX1_objectOf rg iq).1, 0, (rg, us, ob, f, us2, ob2, f2, col, mov))) else ((fX1_requireRegister iq).1, 0, (rg, us, ob, f, us2, ob2, f2, col, mov))) else ((fX1_requireRegister ip).1, 0, (rg, us, ob, f, us2, ob2, f2, col, mov)))
abbrev atX1_get (dC : Nat → ClassId) (dI : Nat → Nat → Nat) (cI : ClassId) (A : Nat → Prop) (cx : Nat) (ar : Nat) (ha : Nat) (wa : Nat) (hz : Nat) (wz : Nat) (n : Nat) (u : (Nat → Int32) × Int32 × Int32 × (Nat → Int32) × Int32 × Int32 × (Nat → Int32) × Int32 × Int32) (t : State) : Prop := va_P (dC, dI) vwCl [(cx, .inr (1, [.ref ar, .ref ha, .ref hz, .int u.2.2.2.2.2.2.2.1, .int u.2.2.2.2.2.2.2.2])), (ar, .inl (cI, 8, .inl u.1)), (ha, .inr (0, [.ref wa, .int u.2.1, .int u.2.2.1])), (wa, .inl (cI, n, .inl u.2.2.2.1)), (hz, .inr (0, [.ref wz, .int u.2.2.2.2.1, .int u.2.2.2.2.2.1])), (wz, .inl (cI, n, .inl u.2.2.2.2.2.2.1))] t.heap ∧ va_K (dC, dI) vwCl [(cI, .int)] t ∧ va_D A [(cx, .inr (1, [.ref ar, .ref ha, .ref hz, .int u.2.2.2.2.2.2.2.1, .int u.2.2.2.2.2.2.2.2])), (ar, .inl (cI, 8, .inl u.1)), (ha, .inr (0, [.ref wa, .int u.2.1, .int u.2.2.1])), (wa, .inl (cI, n, .inl u.2.2.2.1)), (hz, .inr (0, [.ref wz, .int u.2.2.2.2.1, .int u.2.2.2.2.2.1])), (wz, .inl (cI, n, .inl u.2.2.2.2.2.2.1))]
set_option maxHeartbeats 4000000 in
set_option maxRecDepth 100000 in
theorem ctX1_get (l : Launch) (hl9 : l.stackTraces = false) (dC : Nat → ClassId) (dI : Nat → Nat → Nat) (cI : ClassId) (sa : Nat → Nat) (cx : Nat) (ar : Nat) (ha : Nat) (wa : Nat) (hz : Nat) (wz : Nat) (n : Nat) (col : Int32) (mov : Int32) (rg : Nat → Int32) (us : Int32) (ob : Int32) (f : Nat → Int32) (us2 : Int32) (ob2 : Int32) (f2 : Nat → Int32) (ip : Int32) (iq : Int32) (ir : Int32) (sz : Nat) (hn : n < 2 ^ 31) : vx_Met l yX1_get (kX1_get :: gT) ({ frames := 7, cells := 5, slots := 30, locals := 120 }) (va_Pc [.ref cx, .int ip, .int iq, .int ir] (pY (dC, dI) [(cx, .inr (1, [.ref ar, .ref ha, .ref hz, .int col, .int mov])), (ar, .inl (cI, 8, .inl rg)), (ha, .inr (0, [.ref wa, .int us, .int ob])), (wa, .inl (cI, n, .inl f)), (hz, .inr (0, [.ref wz, .int us2, .int ob2])), (wz, .inl (cI, n, .inl f2))] [(cI, .int)] sa sz)) (va_Qi (fun (r : Int32) (u : (Nat → Int32) × Int32 × Int32 × (Nat → Int32) × Int32 × Int32 × (Nat → Int32) × Int32 × Int32) => fX1_get n rg us ob f us2 ob2 f2 col mov ip iq ir = (0, r, u)) (atX1_get dC dI cI (va_A [(cx, .inr (1, [.ref ar, .ref ha, .ref hz, .int col, .int mov])), (ar, .inl (cI, 8, .inl rg)), (ha, .inr (0, [.ref wa, .int us, .int ob])), (wa, .inl (cI, n, .inl f)), (hz, .inr (0, [.ref wz, .int us2, .int ob2])), (wz, .inl (cI, n, .inl f2))] sz) cx ar ha wa hz wz n) (va_A [(cx, .inr (1, [.ref ar, .ref ha, .ref hz, .int col, .int mov])), (ar, .inl (cI, 8, .inl rg)), (ha, .inr (0, [.ref wa, .int us, .int ob])), (wa, .inl (cI, n, .inl f)), (hz, .inr (0, [.ref wz, .int us2, .int ob2])), (wz, .inl (cI, n, .inl f2))] sz)) (vx_X (fun v : Nat × ((Nat → Int32) × Int32 × Int32 × (Nat → Int32) × Int32 × Int32 × (Nat → Int32) × Int32 × Int32) => fX1_get n rg us ob f us2 ob2 f2 col mov ip iq ir = (v.1, 0, v.2) ∧ v.1 ≠ 0) (fun E v t => E = exN v.1 ∧ atX1_get dC dI cI (va_A [(cx, .inr (1, [.ref ar, .ref ha, .ref hz, .int col, .int mov])), (ar, .inl (cI, 8, .inl rg)), (ha, .inr (0, [.ref wa, .int us, .int ob])), (wa, .inl (cI, n, .inl f)), (hz, .inr (0, [.ref wz, .int us2, .int ob2])), (wz, .inl (cI, n, .inl f2))] sz) cx ar ha wa hz wz n v.2 t) (va_A [(cx, .inr (1, [.ref ar, .ref ha, .ref hz, .int col, .int mov])), (ar, .inl (cI, 8, .inl rg)), (ha, .inr (0, [.ref wa, .int us, .int ob])), (wa, .inl (cI, n, .inl f)), (hz, .inr (0, [.ref wz, .int us2, .int ob2])), (wz, .inl (cI, n, .inl f2))] sz)) 5 30 (va_A [(cx, .inr (1, [.ref ar, .ref ha, .ref hz, .int col, .int mov])), (ar, .inl (cI, 8, .inl rg)), (ha, .inr (0, [.ref wa, .int us, .int ob])), (wa, .inl (cI, n, .inl f)), (hz, .inr (0, [.ref wz, .int us2, .int ob2])), (wz, .inl (cI, n, .inl f2))] sz) := by
  refine vx_ofW (cc := cX1_get) (maxL := 6) (ret := (some .boolean)) (by decide) rfl ?_
  intro p e s m args below meth c s₁ B hml hEx hv
  obtain ⟨rfl, hsz, hP, hK, hD0, hE, hX⟩ := hv
  have hx := B.exec
  have hb := B.bytes
  have hr := B.returns
  have ht : ∀ w ∈ gT, w.before ([.ref cx, .int ip, .int iq, .int ir] : List Value).toArray s = true := fun w h => atoms_spec (ws := kX1_get :: gT) B.pre w (List.mem_cons_of_mem _ h)
  have hown : s.vm.findClass RX1 = some m.cls := findClass_of_methodNamed B.named
  have hlocks := B.notSynchronized
  subst hsz
  have hD := hD0.self (sz := s.heap.size)
  generalize hAe : va_A [(cx, .inr (1, [.ref ar, .ref ha, .ref hz, .int col, .int mov])), (ar, .inl (cI, 8, .inl rg)), (ha, .inr (0, [.ref wa, .int us, .int ob])), (wa, .inl (cI, n, .inl f)), (hz, .inr (0, [.ref wz, .int us2, .int ob2])), (wz, .inl (cI, n, .inl f2))] s.heap.size = A at hD hX ⊢
  have hA : ∀ q : Nat, s.heap.size ≤ q → A q := fun q h => by rw [← hAe]; exact Or.inr h
  have hS : va_S A s.heap s.heap [] := va_S.rf
  have hl := lv_entry ([.ref cx, .int ip, .int iq, .int ir]) (n := 6) (Nat.le_of_ble_eq_true rfl)
  rw [lg_entry_eq]
  generalize (lg_sl ([.ref cx, .int ip, .int iq, .int ir]) ++ List.replicate (6 - (lg_sl ([.ref cx, .int ip, .int iq, .int ir])).length) Slot.unset).toArray = ls at hl ⊢
  have hl : lv_has ls 6 [(0, .ref cx), (1, .int ip), (2, .int iq), (3, .int ir)] := hl
  refine lv_iload_n hx hb dX1_get_0 rfl (lv_at hl 1 rfl) ?_
  have hPc := hP.sub (ws' := []) [] rfl
  have hKc := hK.sub (tys' := []) [] rfl
  have hFc := nilF hS hA
  refine vx_callv (vx_runS (As := [.int ip]) (rest := []) ⟨hx, hb, hml, hown, ht⟩ (ctX1_requireRegister l hl9 dC dI cI sa ip _ ) (cwS 1 ht gcX1_25 rfl rfl rfl (by decide +kernel) ⟨Nat.le_of_ble_eq_true rfl, Nat.le_of_ble_eq_true rfl⟩) ⟨pR.blind, pR.call hPc hKc hE hX hS hFc⟩ rfl rfl hl.1 rfl (lv_room (Nat.le_of_ble_eq_true rfl)) dX1_get_1 ⟨Nat.le_of_ble_eq_true rfl, Nat.le_of_ble_eq_true rfl⟩) hS (fun q _ h => hFc q h) hFc (fun q _ h => hFc q h) (fun E ce q9 u_1 t H1 locs ht9 hvm hp hB hz1 hk1 hS hce hcv hcl => ?_) (fun u_1 t H1 locs ht9 hvm hw hB hz1 hk1 hS => ?_)
  · obtain ⟨hpe, hpk⟩ := hp
    have hB := hB
    obtain rfl : u_1 = ((fX1_requireRegister ip).1, (fX1_requireRegister ip).2.2) := by rw [hpe]
    have c_3 : ¬ (fX1_requireRegister ip).1 = 0 := hpk
    subst hB
    have hP1 := nilP (D := (dC, dI)) (H := H1)
    have hP := rKeep hP hk1
    generalize H1 = H at hP hS hce ⊢
    have hP9 := hP.sub (ws' := [(cx, .inr (1, [.ref ar, .ref ha, .ref hz, .int col, .int mov])), (ar, .inl (cI, 8, .inl rg)), (ha, .inr (0, [.ref wa, .int us, .int ob])), (wa, .inl (cI, n, .inl f)), (hz, .inr (0, [.ref wz, .int us2, .int ob2])), (wz, .inl (cI, n, .inl f2))]) [0, 1, 2, 3, 4, 5] rfl
    have hD9 := hD.sub (ws' := [(cx, .inr (1, [.ref ar, .ref ha, .ref hz, .int col, .int mov])), (ar, .inl (cI, 8, .inl rg)), (ha, .inr (0, [.ref wa, .int us, .int ob])), (wa, .inl (cI, n, .inl f)), (hz, .inr (0, [.ref wz, .int us2, .int ob2])), (wz, .inl (cI, n, .inl f2))]) [0, 1, 2, 3, 4, 5] (by decide) rfl
    have hK9 := hK.sub (tys' := [(cI, .int)]) [0] rfl
    exact vx_out (fun x hx => (hEx x hx).elim) hlocks hce hcv hcl (fun t ht ha => ⟨((fX1_requireRegister ip).1, (rg, us, ob, f, us2, ob2, f2, col, mov)), ⟨(by simp only [fX1_get, if_neg c_3]), hpk⟩, ⟨rfl, by rw [ht]; exact hP9, va_K.moved ha hK9, hD9⟩, hS.F ht⟩) hS.2.2 (Nat.le_of_ble_eq_true rfl) (Nat.le_of_ble_eq_true rfl)
  · have c_3 : (fX1_requireRegister ip).1 = 0 := by rw [hw]
    have hP := rKeep hP hk1
    generalize H1 = H at hP hS ⊢
    refine lv_iload_n hx hb dX1_get_4 rfl (lv_at hl 2 rfl) ?_
    have hPc := hP.sub (ws' := []) [] rfl
    have hKc := hK.sub (tys' := []) [] rfl
    have hFc := nilF hS hA
    refine vx_callv (vx_runS (As := [.int iq]) (rest := []) ⟨hx, hb, hml, hown, ht⟩ (ctX1_requireRegister l hl9 dC dI cI sa iq _ ) (cwS 1 ht gcX1_25 rfl rfl rfl (by decide +kernel) ⟨Nat.le_of_ble_eq_true rfl, Nat.le_of_ble_eq_true rfl⟩) ⟨pR.blind, pR.call hPc hKc hE hX hS hFc⟩ rfl rfl hl.1 rfl (lv_room (Nat.le_of_ble_eq_true rfl)) dX1_get_5 ⟨Nat.le_of_ble_eq_true rfl, Nat.le_of_ble_eq_true rfl⟩) hS (fun q _ h => hFc q h) hFc (fun q _ h => hFc q h) (fun E ce q9 u_4 t H1 locs ht9 hvm hp hB hz1 hk1 hS hce hcv hcl => ?_) (fun u_4 t H1 locs ht9 hvm hw hB hz1 hk1 hS => ?_)
    · obtain ⟨hpe, hpk⟩ := hp
      have hB := hB
      obtain rfl : u_4 = ((fX1_requireRegister iq).1, (fX1_requireRegister iq).2.2) := by rw [hpe]
      have c_6 : ¬ (fX1_requireRegister iq).1 = 0 := hpk
      subst hB
      have hP1 := nilP (D := (dC, dI)) (H := H1)
      have hP := rKeep hP hk1
      generalize H1 = H at hP hS hce ⊢
      have hP9 := hP.sub (ws' := [(cx, .inr (1, [.ref ar, .ref ha, .ref hz, .int col, .int mov])), (ar, .inl (cI, 8, .inl rg)), (ha, .inr (0, [.ref wa, .int us, .int ob])), (wa, .inl (cI, n, .inl f)), (hz, .inr (0, [.ref wz, .int us2, .int ob2])), (wz, .inl (cI, n, .inl f2))]) [0, 1, 2, 3, 4, 5] rfl
      have hD9 := hD.sub (ws' := [(cx, .inr (1, [.ref ar, .ref ha, .ref hz, .int col, .int mov])), (ar, .inl (cI, 8, .inl rg)), (ha, .inr (0, [.ref wa, .int us, .int ob])), (wa, .inl (cI, n, .inl f)), (hz, .inr (0, [.ref wz, .int us2, .int ob2])), (wz, .inl (cI, n, .inl f2))]) [0, 1, 2, 3, 4, 5] (by decide) rfl
      have hK9 := hK.sub (tys' := [(cI, .int)]) [0] rfl
      exact vx_out (fun x hx => (hEx x hx).elim) hlocks hce hcv hcl (fun t ht ha => ⟨((fX1_requireRegister iq).1, (rg, us, ob, f, us2, ob2, f2, col, mov)), ⟨(by simp only [fX1_get, if_pos c_3, if_neg c_6]), hpk⟩, ⟨rfl, by rw [ht]; exact hP9, va_K.moved ha hK9, hD9⟩, hS.F ht⟩) hS.2.2 (Nat.le_of_ble_eq_true rfl) (Nat.le_of_ble_eq_true rfl)
    · have c_6 : (fX1_requireRegister iq).1 = 0 := by rw [hw]
      have hP := rKeep hP hk1
      generalize H1 = H at hP hS ⊢
      refine lv_aload_n hx hb dX1_get_8 rfl (lv_at hl 0 rfl) ?_
      refine lv_iload_n hx hb dX1_get_9 rfl (lv_at hl 2 rfl) ?_
      have hPc := hP.sub (ws' := [(cx, .inr (1, [.ref ar, .ref ha, .ref hz, .int col, .int mov])), (ar, .inl (cI, 8, .inl rg))]) [0, 1] rfl
      have hKc := hK.sub (tys' := [(cI, .int)]) [0] rfl
      have hFc := nilF hS hA
      refine vx_calli (vx_runV (As := [.int iq]) (rest := []) ⟨hx, hb, hml, hown, ht⟩ (ctX1_objectOf l hl9 dC dI cI sa cx ar ha hz col mov rg iq _ (rrIn c_6)) (cwV 1 ht gcX1_64 rfl rfl rfl (by decide +kernel) ⟨Nat.le_of_ble_eq_true rfl, Nat.le_of_ble_eq_true rfl⟩) ⟨pR.blind, va_recv hKc hPc (ci := 1) (q0 := 0) rfl rfl, pR.call hPc hKc hE hX hS hFc⟩ rfl rfl hl.1 rfl (lv_room (Nat.le_of_ble_eq_true rfl)) dX1_get_10 ⟨Nat.le_of_ble_eq_true rfl, Nat.le_of_ble_eq_true rfl⟩) hS (fun q _ h => hFc q h) hFc (fun q _ h => hFc q h) (fun E ce q9 u_7 t H1 locs ht9 hvm hp hB hz1 hk1 hS hce hcv hcl => ?_) (fun r_8 u_7 t H1 locs ht9 hvm hw hB hz1 hk1 hS => ?_)
      · obtain ⟨hpe, hpk⟩ := hp
        have hB := hB
        obtain rfl : u_7 = ((fX1_objectOf rg iq).1, (fX1_objectOf rg iq).2.2) := by rw [hpe]
        have c_9 : ¬ (fX1_objectOf rg iq).1 = 0 := hpk
        subst hB
        have hP1 := nilP (D := (dC, dI)) (H := H1)
        have hP := rKeep hP hk1
        generalize H1 = H at hP hS hce ⊢
        have hP9 := hP.sub (ws' := [(cx, .inr (1, [.ref ar, .ref ha, .ref hz, .int col, .int mov])), (ar, .inl (cI, 8, .inl rg)), (ha, .inr (0, [.ref wa, .int us, .int ob])), (wa, .inl (cI, n, .inl f)), (hz, .inr (0, [.ref wz, .int us2, .int ob2])), (wz, .inl (cI, n, .inl f2))]) [0, 1, 2, 3, 4, 5] rfl
        have hD9 := hD.sub (ws' := [(cx, .inr (1, [.ref ar, .ref ha, .ref hz, .int col, .int mov])), (ar, .inl (cI, 8, .inl rg)), (ha, .inr (0, [.ref wa, .int us, .int ob])), (wa, .inl (cI, n, .inl f)), (hz, .inr (0, [.ref wz, .int us2, .int ob2])), (wz, .inl (cI, n, .inl f2))]) [0, 1, 2, 3, 4, 5] (by decide) rfl
        have hK9 := hK.sub (tys' := [(cI, .int)]) [0] rfl
        exact vx_out (fun x hx => (hEx x hx).elim) hlocks hce hcv hcl (fun t ht ha => ⟨((fX1_objectOf rg iq).1, (rg, us, ob, f, us2, ob2, f2, col, mov)), ⟨(by simp only [fX1_get, if_pos c_3, if_pos c_6, if_neg c_9]), hpk⟩, ⟨rfl, by rw [ht]; exact hP9, va_K.moved ha hK9, hD9⟩, hS.F ht⟩) hS.2.2 (Nat.le_of_ble_eq_true rfl) (Nat.le_of_ble_eq_true rfl)
      · have c_9 : (fX1_objectOf rg iq).1 = 0 := by rw [hw]
        obtain rfl : r_8 = (fX1_objectOf rg iq).2.1 := by rw [hw]
        have hP := rKeep hP hk1
        generalize H1 = H at hP hS ⊢
        refine lv_istore (lv' := [(4, .int ((fX1_objectOf rg iq).2.1)), (0, .ref cx), (1, .int ip), (2, .int iq), (3, .int ir)]) hx hb dX1_get_13 hl (by decide) rfl (fun ls hl => ?_)
        refine lv_aload_n hx hb dX1_get_15 rfl (lv_at hl 1 rfl) ?_
        refine lv_iload hx hb dX1_get_16 (lv_at hl 0 rfl) ?_
        refine lv_iload_n hx hb dX1_get_18 rfl (lv_at hl 4 rfl) ?_
        have hPc := hP.sub (ws' := [(cx, .inr (1, [.ref ar, .ref ha, .ref hz, .int col, .int mov])), (ha, .inr (0, [.ref wa, .int us, .int ob])), (wa, .inl (cI, n, .inl f))]) [0, 2, 3] rfl
        have hKc := hK.sub (tys' := [(cI, .int)]) [0] rfl
        have hFc := nilF hS hA
        refine vx_callv (vx_runV (As := [.int ((fX1_objectOf rg iq).2.1), .int ir]) (rest := []) ⟨hx, hb, hml, hown, ht⟩ (ctX1_requireField l hl9 dC dI cI sa cx ar ha wa hz n col mov us ob f ((fX1_objectOf rg iq).2.1) ir _ hn) (cwV 2 ht gcX1_72 rfl rfl rfl (by decide +kernel) ⟨Nat.le_of_ble_eq_true rfl, Nat.le_of_ble_eq_true rfl⟩) ⟨pR.blind, va_recv hKc hPc (ci := 1) (q0 := 0) rfl rfl, pR.call hPc hKc hE hX hS hFc⟩ rfl rfl hl.1 rfl (lv_room (Nat.le_of_ble_eq_true rfl)) dX1_get_19 ⟨Nat.le_of_ble_eq_true rfl, Nat.le_of_ble_eq_true rfl⟩) hS (fun q _ h => hFc q h) hFc (fun q _ h => hFc q h) (fun E ce q9 u_10 t H1 locs ht9 hvm hp hB hz1 hk1 hS hce hcv hcl => ?_) (fun u_10 t H1 locs ht9 hvm hw hB hz1 hk1 hS => ?_)
        · obtain ⟨hpe, hpk⟩ := hp
          have hB := hB
          obtain rfl : u_10 = ((fX1_requireField n f ((fX1_objectOf rg iq).2.1) ir).1, (fX1_requireField n f ((fX1_objectOf rg iq).2.1) ir).2.2) := by rw [hpe]
          have c_12 : ¬ (fX1_requireField n f ((fX1_objectOf rg iq).2.1) ir).1 = 0 := hpk
          subst hB
          have hP1 := nilP (D := (dC, dI)) (H := H1)
          have hP := rKeep hP hk1
          generalize H1 = H at hP hS hce ⊢
          have hP9 := hP.sub (ws' := [(cx, .inr (1, [.ref ar, .ref ha, .ref hz, .int col, .int mov])), (ar, .inl (cI, 8, .inl rg)), (ha, .inr (0, [.ref wa, .int us, .int ob])), (wa, .inl (cI, n, .inl f)), (hz, .inr (0, [.ref wz, .int us2, .int ob2])), (wz, .inl (cI, n, .inl f2))]) [0, 1, 2, 3, 4, 5] rfl
          have hD9 := hD.sub (ws' := [(cx, .inr (1, [.ref ar, .ref ha, .ref hz, .int col, .int mov])), (ar, .inl (cI, 8, .inl rg)), (ha, .inr (0, [.ref wa, .int us, .int ob])), (wa, .inl (cI, n, .inl f)), (hz, .inr (0, [.ref wz, .int us2, .int ob2])), (wz, .inl (cI, n, .inl f2))]) [0, 1, 2, 3, 4, 5] (by decide) rfl
          have hK9 := hK.sub (tys' := [(cI, .int)]) [0] rfl
          exact vx_out (fun x hx => (hEx x hx).elim) hlocks hce hcv hcl (fun t ht ha => ⟨((fX1_requireField n f ((fX1_objectOf rg iq).2.1) ir).1, (rg, us, ob, f, us2, ob2, f2, col, mov)), ⟨(by simp only [fX1_get, if_pos c_3, if_pos c_6, if_pos c_9, if_neg c_12]), hpk⟩, ⟨rfl, by rw [ht]; exact hP9, va_K.moved ha hK9, hD9⟩, hS.F ht⟩) hS.2.2 (Nat.le_of_ble_eq_true rfl) (Nat.le_of_ble_eq_true rfl)
        · have c_12 : (fX1_requireField n f ((fX1_objectOf rg iq).2.1) ir).1 = 0 := by rw [hw]
          have hP := rKeep hP hk1
          generalize H1 = H at hP hS ⊢
          refine lv_aload_n hx hb dX1_get_22 rfl (lv_at hl 1 rfl) ?_
          refine va_get (D := (dC, dI)) (ci := 1) (v := .ref ha) (C := RX1) (T := TX1) (N := 5) hx hb ht iX1 hown hK hP 0 rfl rfl 1 (by decide) (ht _ g_39) (fun _ h9 => h9) rfl dX1_get_23 ?_
          refine lv_iload hx hb dX1_get_26 (lv_at hl 0 rfl) ?_
          refine lv_iconst (v := 1) hx hb dX1_get_28 (by decide) ?_
          refine lv_iadd hx hb dX1_get_29 ?_
          refine lv_iload_n hx hb dX1_get_30 rfl (lv_at hl 4 rfl) ?_
          refine lv_iadd hx hb dX1_get_31 ?_
          have hPc := hP.sub (ws' := [(ha, .inr (0, [.ref wa, .int us, .int ob])), (wa, .inl (cI, n, .inl f))]) [2, 3] rfl
          have hKc := hK.sub (tys' := [(cI, .int)]) [0] rfl
          refine vp_callSi (va_runV (As := [.int ((((fX1_objectOf rg iq).2.1) + 1) + ir)]) (rest := []) ⟨hx, hb, hml, hown, ht⟩ (ctX0_wordAt l dC dI cI ha wa n us ob f ((((fX1_objectOf rg iq).2.1) + 1) + ir) hn) (cwV 1 ht gcX1_81 rfl rfl rfl (by decide +kernel) ⟨Nat.le_of_ble_eq_true rfl, Nat.le_of_ble_eq_true rfl⟩) ⟨pS.blind, va_recv hKc hPc (ci := 0) (q0 := 0) rfl rfl, pS.call hPc hKc hE⟩ rfl rfl hl.1 rfl (lv_room (Nat.le_of_ble_eq_true rfl)) dX1_get_32 ⟨Nat.le_of_ble_eq_true rfl, Nat.le_of_ble_eq_true rfl⟩).run (fun r_13 hr_13 => ?_)
          subst hr_13
          refine lv_istore (lv' := [(5, .int (fX0_wordAt n f ((((fX1_objectOf rg iq).2.1) + 1) + ir))), (4, .int ((fX1_objectOf rg iq).2.1)), (0, .ref cx), (1, .int ip), (2, .int iq), (3, .int ir)]) hx hb dX1_get_35 hl (by decide) rfl (fun ls hl => ?_)
          refine lv_aload_n hx hb dX1_get_37 rfl (lv_at hl 2 rfl) ?_
          refine va_get (D := (dC, dI)) (ci := 1) (v := .ref ar) (C := RX1) (T := TX1) (N := 5) hx hb ht iX1 hown hK hP 0 rfl rfl 0 (by decide) (ht _ g_38) (fun _ h9 => h9) rfl dX1_get_38 ?_
          refine lv_iload_n hx hb dX1_get_41 rfl (lv_at hl 3 rfl) ?_
          refine lv_aload_n hx hb dX1_get_42 rfl (lv_at hl 2 rfl) ?_
          refine va_get (D := (dC, dI)) (ci := 1) (v := .ref ha) (C := RX1) (T := TX1) (N := 5) hx hb ht iX1 hown hK hP 0 rfl rfl 1 (by decide) (ht _ g_39) (fun _ h9 => h9) rfl dX1_get_43 ?_
          refine lv_iload hx hb dX1_get_46 (lv_at hl 1 rfl) ?_
          have hPc := hP.sub (ws' := [(ha, .inr (0, [.ref wa, .int us, .int ob])), (wa, .inl (cI, n, .inl f))]) [2, 3] rfl
          have hKc := hK.sub (tys' := [(cI, .int)]) [0] rfl
          refine vp_callSi (va_runV (As := [.int ((fX1_objectOf rg iq).2.1)]) (rest := [.int ip, .ref ar]) ⟨hx, hb, hml, hown, ht⟩ (ctX0_kindAt l dC dI cI ha wa n us ob f ((fX1_objectOf rg iq).2.1) hn) (cwV 1 ht gcX1_67 rfl rfl rfl (by decide +kernel) ⟨Nat.le_of_ble_eq_true rfl, Nat.le_of_ble_eq_true rfl⟩) ⟨pS.blind, va_recv hKc hPc (ci := 0) (q0 := 0) rfl rfl, pS.call hPc hKc hE⟩ rfl rfl hl.1 rfl (lv_room (Nat.le_of_ble_eq_true rfl)) dX1_get_48 ⟨Nat.le_of_ble_eq_true rfl, Nat.le_of_ble_eq_true rfl⟩).run (fun r_14 hr_14 => ?_)
          subst hr_14
          refine lv_iconst (v := 1) hx hb dX1_get_51 (by decide) ?_
          refine lv_icmp_ne (tgt := 63) hx hb dX1_get_52 (by decide) (fun c_15 => ?_) (fun c_15 => ?_)
          · refine lv_iload hx hb dX1_get_63 (lv_at hl 0 rfl) ?_
            refine va_iast hx hb hK hP hD hS 1 0 rfl rfl (rrIn c_3) dX1_get_65 (fun H locs hP hD hS => ?_)
            have hP : va_P (dC, dI) vwCl [(cx, .inr (1, [.ref ar, .ref ha, .ref hz, .int col, .int mov])), (ar, .inl (cI, 8, .inl (upd rg ip.toNatClampNeg (fX0_wordAt n f ((((fX1_objectOf rg iq).2.1) + 1) + ir))))), (ha, .inr (0, [.ref wa, .int us, .int ob])), (wa, .inl (cI, n, .inl f)), (hz, .inr (0, [.ref wz, .int us2, .int ob2])), (wz, .inl (cI, n, .inl f2))] H := hP
            have hD : va_D A [(cx, .inr (1, [.ref ar, .ref ha, .ref hz, .int col, .int mov])), (ar, .inl (cI, 8, .inl (upd rg ip.toNatClampNeg (fX0_wordAt n f ((((fX1_objectOf rg iq).2.1) + 1) + ir))))), (ha, .inr (0, [.ref wa, .int us, .int ob])), (wa, .inl (cI, n, .inl f)), (hz, .inr (0, [.ref wz, .int us2, .int ob2])), (wz, .inl (cI, n, .inl f2))] := hD
            refine lv_aload_n hx hb dX1_get_66 rfl (lv_at hl 2 rfl) ?_
            refine va_get (D := (dC, dI)) (ci := 1) (v := .ref ar) (C := RX1) (T := TX1) (N := 5) hx hb ht iX1 hown hK hP 0 rfl rfl 0 (by decide) (ht _ g_38) (fun _ h9 => h9) rfl dX1_get_67 ?_
            refine lv_iload_n hx hb dX1_get_70 rfl (lv_at hl 3 rfl) ?_
            refine va_iald hx hb hK hP 1 0 rfl rfl (rrIn c_3) dX1_get_71 ?_
            refine vp_callSi (va_runS (As := [.int ((upd rg ip.toNatClampNeg (fX0_wordAt n f ((((fX1_objectOf rg iq).2.1) + 1) + ir))) ip.toNatClampNeg)]) (rest := []) ⟨hx, hb, hml, hown, ht⟩ (ctX1_isReference l ((upd rg ip.toNatClampNeg (fX0_wordAt n f ((((fX1_objectOf rg iq).2.1) + 1) + ir))) ip.toNatClampNeg)) (cwS 1 ht gcX1_61 rfl rfl rfl (by decide +kernel) ⟨Nat.le_of_ble_eq_true rfl, Nat.le_of_ble_eq_true rfl⟩) ⟨pT.blind, pT.call⟩ rfl rfl hl.1 rfl (lv_room (Nat.le_of_ble_eq_true rfl)) dX1_get_72 ⟨Nat.le_of_ble_eq_true rfl, Nat.le_of_ble_eq_true rfl⟩).run (fun r_16 hr_16 => ?_)
            subst hr_16
            refine vx_ret ?_
            refine W.widen (k := 5) (n := 30) (Nat.le_of_ble_eq_true rfl) (Nat.le_of_ble_eq_true rfl) ?_
            have hP9 := hP.sub (ws' := [(cx, .inr (1, [.ref ar, .ref ha, .ref hz, .int col, .int mov])), (ar, .inl (cI, 8, .inl (upd rg ip.toNatClampNeg (fX0_wordAt n f ((((fX1_objectOf rg iq).2.1) + 1) + ir))))), (ha, .inr (0, [.ref wa, .int us, .int ob])), (wa, .inl (cI, n, .inl f)), (hz, .inr (0, [.ref wz, .int us2, .int ob2])), (wz, .inl (cI, n, .inl f2))]) [0, 1, 2, 3, 4, 5] rfl
            have hD9 := hD.sub (ws' := [(cx, .inr (1, [.ref ar, .ref ha, .ref hz, .int col, .int mov])), (ar, .inl (cI, 8, .inl (upd rg ip.toNatClampNeg (fX0_wordAt n f ((((fX1_objectOf rg iq).2.1) + 1) + ir))))), (ha, .inr (0, [.ref wa, .int us, .int ob])), (wa, .inl (cI, n, .inl f)), (hz, .inr (0, [.ref wz, .int us2, .int ob2])), (wz, .inl (cI, n, .inl f2))]) [0, 1, 2, 3, 4, 5] (by decide) rfl
            have hK9 := hK.sub (tys' := [(cI, .int)]) [0] rfl
            exact W.zret (v := fX1_isReference ((upd rg ip.toNatClampNeg (fX0_wordAt n f ((((fX1_objectOf rg iq).2.1) + 1) + ir))) ip.toNatClampNeg)) hx hb hr (zb (isRef01 _)) (fun t ht hW => ⟨⟨_, (upd rg ip.toNatClampNeg (fX0_wordAt n f ((((fX1_objectOf rg iq).2.1) + 1) + ir)), us, ob, f, us2, ob2, f2, col, mov), rfl, (by simp only [fX1_get, if_pos c_3, if_pos c_6, if_pos c_9, if_pos c_12, if_neg c_15]), by rw [ht]; exact hP9, va_K.moved hW.alike hK9, hD9⟩, hS.F ht⟩) hS.2.2 dX1_get_75
          · refine lv_iload hx hb dX1_get_55 (lv_at hl 0 rfl) ?_
            refine vp_callSi (va_runS (As := [.int (fX0_wordAt n f ((((fX1_objectOf rg iq).2.1) + 1) + ir))]) (rest := [.int ip, .ref ar]) ⟨hx, hb, hml, hown, ht⟩ (ctX1_asNumber l (fX0_wordAt n f ((((fX1_objectOf rg iq).2.1) + 1) + ir))) (cwS 1 ht gcX1_55 rfl rfl rfl (by decide +kernel) ⟨Nat.le_of_ble_eq_true rfl, Nat.le_of_ble_eq_true rfl⟩) ⟨pT.blind, pT.call⟩ rfl rfl hl.1 rfl (lv_room (Nat.le_of_ble_eq_true rfl)) dX1_get_57 ⟨Nat.le_of_ble_eq_true rfl, Nat.le_of_ble_eq_true rfl⟩).run (fun r_17 hr_17 => ?_)
            subst hr_17
            refine lv_goto (tgt := 65) hx hb dX1_get_60 (by decide) ?_
            refine va_iast hx hb hK hP hD hS 1 0 rfl rfl (rrIn c_3) dX1_get_65 (fun H locs hP hD hS => ?_)
            have hP : va_P (dC, dI) vwCl [(cx, .inr (1, [.ref ar, .ref ha, .ref hz, .int col, .int mov])), (ar, .inl (cI, 8, .inl (upd rg ip.toNatClampNeg (fX1_asNumber (fX0_wordAt n f ((((fX1_objectOf rg iq).2.1) + 1) + ir)))))), (ha, .inr (0, [.ref wa, .int us, .int ob])), (wa, .inl (cI, n, .inl f)), (hz, .inr (0, [.ref wz, .int us2, .int ob2])), (wz, .inl (cI, n, .inl f2))] H := hP
            have hD : va_D A [(cx, .inr (1, [.ref ar, .ref ha, .ref hz, .int col, .int mov])), (ar, .inl (cI, 8, .inl (upd rg ip.toNatClampNeg (fX1_asNumber (fX0_wordAt n f ((((fX1_objectOf rg iq).2.1) + 1) + ir)))))), (ha, .inr (0, [.ref wa, .int us, .int ob])), (wa, .inl (cI, n, .inl f)), (hz, .inr (0, [.ref wz, .int us2, .int ob2])), (wz, .inl (cI, n, .inl f2))] := hD
            refine lv_aload_n hx hb dX1_get_66 rfl (lv_at hl 2 rfl) ?_
            refine va_get (D := (dC, dI)) (ci := 1) (v := .ref ar) (C := RX1) (T := TX1) (N := 5) hx hb ht iX1 hown hK hP 0 rfl rfl 0 (by decide) (ht _ g_38) (fun _ h9 => h9) rfl dX1_get_67 ?_
            refine lv_iload_n hx hb dX1_get_70 rfl (lv_at hl 3 rfl) ?_
            refine va_iald hx hb hK hP 1 0 rfl rfl (rrIn c_3) dX1_get_71 ?_
            refine vp_callSi (va_runS (As := [.int ((upd rg ip.toNatClampNeg (fX1_asNumber (fX0_wordAt n f ((((fX1_objectOf rg iq).2.1) + 1) + ir)))) ip.toNatClampNeg)]) (rest := []) ⟨hx, hb, hml, hown, ht⟩ (ctX1_isReference l ((upd rg ip.toNatClampNeg (fX1_asNumber (fX0_wordAt n f ((((fX1_objectOf rg iq).2.1) + 1) + ir)))) ip.toNatClampNeg)) (cwS 1 ht gcX1_61 rfl rfl rfl (by decide +kernel) ⟨Nat.le_of_ble_eq_true rfl, Nat.le_of_ble_eq_true rfl⟩) ⟨pT.blind, pT.call⟩ rfl rfl hl.1 rfl (lv_room (Nat.le_of_ble_eq_true rfl)) dX1_get_72 ⟨Nat.le_of_ble_eq_true rfl, Nat.le_of_ble_eq_true rfl⟩).run (fun r_18 hr_18 => ?_)
            subst hr_18
            refine vx_ret ?_
            refine W.widen (k := 5) (n := 30) (Nat.le_of_ble_eq_true rfl) (Nat.le_of_ble_eq_true rfl) ?_
            have hP9 := hP.sub (ws' := [(cx, .inr (1, [.ref ar, .ref ha, .ref hz, .int col, .int mov])), (ar, .inl (cI, 8, .inl (upd rg ip.toNatClampNeg (fX1_asNumber (fX0_wordAt n f ((((fX1_objectOf rg iq).2.1) + 1) + ir)))))), (ha, .inr (0, [.ref wa, .int us, .int ob])), (wa, .inl (cI, n, .inl f)), (hz, .inr (0, [.ref wz, .int us2, .int ob2])), (wz, .inl (cI, n, .inl f2))]) [0, 1, 2, 3, 4, 5] rfl
            have hD9 := hD.sub (ws' := [(cx, .inr (1, [.ref ar, .ref ha, .ref hz, .int col, .int mov])), (ar, .inl (cI, 8, .inl (upd rg ip.toNatClampNeg (fX1_asNumber (fX0_wordAt n f ((((fX1_objectOf rg iq).2.1) + 1) + ir)))))), (ha, .inr (0, [.ref wa, .int us, .int ob])), (wa, .inl (cI, n, .inl f)), (hz, .inr (0, [.ref wz, .int us2, .int ob2])), (wz, .inl (cI, n, .inl f2))]) [0, 1, 2, 3, 4, 5] (by decide) rfl
            have hK9 := hK.sub (tys' := [(cI, .int)]) [0] rfl
            exact W.zret (v := fX1_isReference ((upd rg ip.toNatClampNeg (fX1_asNumber (fX0_wordAt n f ((((fX1_objectOf rg iq).2.1) + 1) + ir)))) ip.toNatClampNeg)) hx hb hr (zb (isRef01 _)) (fun t ht hW => ⟨⟨_, (upd rg ip.toNatClampNeg (fX1_asNumber (fX0_wordAt n f ((((fX1_objectOf rg iq).2.1) + 1) + ir))), us, ob, f, us2, ob2, f2, col, mov), rfl, (by simp only [fX1_get, if_pos c_3, if_pos c_6, if_pos c_9, if_pos c_12, if_pos c_15]), by rw [ht]; exact hP9, va_K.moved hW.alike hK9, hD9⟩, hS.F ht⟩) hS.2.2 dX1_get_75
def fX1_about (n : Nat) (rg : Nat → Int32) (f : Nat → Int32) (ip : Int32) (iq : Int32) : Nat × Int32 × Unit := (if (fX1_requireRegister ip).1 = 0 then (if iq = 0 then (if fX1_isReference (rg ip.toNatClampNeg) = 0 then (0, (-1), ()) else (0, fX1_content (rg ip.toNatClampNeg), ())) else (if iq = 1 then (if fX1_isReference (rg ip.toNatClampNeg) = 0 then (0, fX1_content (rg ip.toNatClampNeg), ()) else (0, 0, ())) else (if iq = 2 then (if fX1_isReference (rg ip.toNatClampNeg) = 0 then (0, (-1), ()) else (0, fX0_kindAt n f (fX1_content (rg ip.toNatClampNeg)), ())) else (if iq = 3 then (if fX1_isReference (rg ip.toNatClampNeg) = 0 then (0, (-1), ()) else (0, fX0_fieldsAt n f (fX1_content (rg ip.toNatClampNeg)), ())) else (3, 0, ()))))) else ((fX1_requireRegister ip).1, 0, ()))
set_option maxHeartbeats 4000000 in
set_option maxRecDepth 100000 in
theorem ctX1_about (l : Launch) (hl9 : l.stackTraces = false) (dC : Nat → ClassId) (dI : Nat → Nat → Nat) (cI : ClassId) (sa : Nat → Nat) (cx : Nat) (ar : Nat) (ha : Nat) (wa : Nat) (hz : Nat) (wz : Nat) (n : Nat) (col : Int32) (mov : Int32) (rg : Nat → Int32) (us : Int32) (ob : Int32) (f : Nat → Int32) (us2 : Int32) (ob2 : Int32) (f2 : Nat → Int32) (ip : Int32) (iq : Int32) (sz : Nat) (hn : n < 2 ^ 31) : vx_Met l yX1_about (kX1_about :: gT) ({ frames := 7, cells := 5, slots := 30, locals := 120 }) (va_Pc [.ref cx, .int ip, .int iq] (pR (dC, dI) [(cx, .inr (1, [.ref ar, .ref ha, .ref hz, .int col, .int mov])), (ar, .inl (cI, 8, .inl rg)), (ha, .inr (0, [.ref wa, .int us, .int ob])), (wa, .inl (cI, n, .inl f)), (hz, .inr (0, [.ref wz, .int us2, .int ob2])), (wz, .inl (cI, n, .inl f2))] [(cI, .int)] sa sz)) (va_Qi (fun (r : Int32) (u : Unit) => fX1_about n rg f ip iq = (0, r, u)) (fun _ _ => True) (va_A [] sz)) (vx_X (fun v : Nat × Unit => fX1_about n rg f ip iq = (v.1, 0, v.2) ∧ v.1 ≠ 0) (fun E v _ => E = exN v.1) (va_A [] sz)) 5 30 (va_A [] sz) := by
  refine vx_ofW (cc := cX1_about) (maxL := 6) (ret := (some .int)) (by decide) rfl ?_
  intro p e s m args below meth c s₁ B hml hEx hv
  obtain ⟨rfl, hsz, hP, hK, hE, hX⟩ := hv
  have hx := B.exec
  have hb := B.bytes
  have hr := B.returns
  have ht : ∀ w ∈ gT, w.before ([.ref cx, .int ip, .int iq] : List Value).toArray s = true := fun w h => atoms_spec (ws := kX1_about :: gT) B.pre w (List.mem_cons_of_mem _ h)
  have hown : s.vm.findClass RX1 = some m.cls := findClass_of_methodNamed B.named
  have hlocks := B.notSynchronized
  subst hsz
  generalize hAe : va_A [] s.heap.size = A at hX ⊢
  have hA : ∀ q : Nat, s.heap.size ≤ q → A q := fun q h => by rw [← hAe]; exact Or.inr h
  have hS : va_S A s.heap s.heap [] := va_S.rf
  have hl := lv_entry ([.ref cx, .int ip, .int iq]) (n := 6) (Nat.le_of_ble_eq_true rfl)
  rw [lg_entry_eq]
  generalize (lg_sl ([.ref cx, .int ip, .int iq]) ++ List.replicate (6 - (lg_sl ([.ref cx, .int ip, .int iq])).length) Slot.unset).toArray = ls at hl ⊢
  have hl : lv_has ls 6 [(0, .ref cx), (1, .int ip), (2, .int iq)] := hl
  refine lv_iload_n hx hb dX1_about_0 rfl (lv_at hl 1 rfl) ?_
  have hPc := hP.sub (ws' := []) [] rfl
  have hKc := hK.sub (tys' := []) [] rfl
  have hFc := nilF hS hA
  refine vx_callv (vx_runS (As := [.int ip]) (rest := []) ⟨hx, hb, hml, hown, ht⟩ (ctX1_requireRegister l hl9 dC dI cI sa ip _ ) (cwS 1 ht gcX1_25 rfl rfl rfl (by decide +kernel) ⟨Nat.le_of_ble_eq_true rfl, Nat.le_of_ble_eq_true rfl⟩) ⟨pR.blind, pR.call hPc hKc hE hX hS hFc⟩ rfl rfl hl.1 rfl (lv_room (Nat.le_of_ble_eq_true rfl)) dX1_about_1 ⟨Nat.le_of_ble_eq_true rfl, Nat.le_of_ble_eq_true rfl⟩) hS (fun q _ h => hFc q h) hFc (fun q _ h => hFc q h) (fun E ce q9 u_1 t H1 locs ht9 hvm hp hB hz1 hk1 hS hce hcv hcl => ?_) (fun u_1 t H1 locs ht9 hvm hw hB hz1 hk1 hS => ?_)
  · obtain ⟨hpe, hpk⟩ := hp
    have hB := hB
    obtain rfl : u_1 = ((fX1_requireRegister ip).1, (fX1_requireRegister ip).2.2) := by rw [hpe]
    have c_3 : ¬ (fX1_requireRegister ip).1 = 0 := hpk
    subst hB
    have hP1 := nilP (D := (dC, dI)) (H := H1)
    have hP := rKeep hP hk1
    generalize H1 = H at hP hS hce ⊢
    exact vx_out (fun x hx => (hEx x hx).elim) hlocks hce hcv hcl (fun t ht ha => ⟨((fX1_requireRegister ip).1, ()), ⟨(by simp only [fX1_about, if_neg c_3]), hpk⟩, rfl, hS.F ht⟩) hS.2.2 (Nat.le_of_ble_eq_true rfl) (Nat.le_of_ble_eq_true rfl)
  · have c_3 : (fX1_requireRegister ip).1 = 0 := by rw [hw]
    have hP := rKeep hP hk1
    generalize H1 = H at hP hS ⊢
    refine lv_aload_n hx hb dX1_about_4 rfl (lv_at hl 0 rfl) ?_
    refine va_get (D := (dC, dI)) (ci := 1) (v := .ref ar) (C := RX1) (T := TX1) (N := 5) hx hb ht iX1 hown hK hP 0 rfl rfl 0 (by decide) (ht _ g_38) (fun _ h9 => h9) rfl dX1_about_5 ?_
    refine lv_iload_n hx hb dX1_about_8 rfl (lv_at hl 1 rfl) ?_
    refine va_iald hx hb hK hP 1 0 rfl rfl (rrIn c_3) dX1_about_9 ?_
    refine lv_istore_n (lv' := [(3, .int (rg ip.toNatClampNeg)), (0, .ref cx), (1, .int ip), (2, .int iq)]) hx hb dX1_about_10 rfl hl (by decide) rfl (fun ls hl => ?_)
    refine lv_iload_n hx hb dX1_about_11 rfl (lv_at hl 0 rfl) ?_
    refine vp_callSi (va_runS (As := [.int (rg ip.toNatClampNeg)]) (rest := []) ⟨hx, hb, hml, hown, ht⟩ (ctX1_isReference l (rg ip.toNatClampNeg)) (cwS 1 ht gcX1_61 rfl rfl rfl (by decide +kernel) ⟨Nat.le_of_ble_eq_true rfl, Nat.le_of_ble_eq_true rfl⟩) ⟨pT.blind, pT.call⟩ rfl rfl hl.1 rfl (lv_room (Nat.le_of_ble_eq_true rfl)) dX1_about_12 ⟨Nat.le_of_ble_eq_true rfl, Nat.le_of_ble_eq_true rfl⟩).run (fun r_4 hr_4 => ?_)
    subst hr_4
    refine lv_istore (lv' := [(4, .int (fX1_isReference (rg ip.toNatClampNeg))), (3, .int (rg ip.toNatClampNeg)), (0, .ref cx), (1, .int ip), (2, .int iq)]) hx hb dX1_about_15 hl (by decide) rfl (fun ls hl => ?_)
    refine lv_iload_n hx hb dX1_about_17 rfl (lv_at hl 1 rfl) ?_
    refine vp_callSi (va_runS (As := [.int (rg ip.toNatClampNeg)]) (rest := []) ⟨hx, hb, hml, hown, ht⟩ (ctX1_content l (rg ip.toNatClampNeg)) (cwS 1 ht gcX1_58 rfl rfl rfl (by decide +kernel) ⟨Nat.le_of_ble_eq_true rfl, Nat.le_of_ble_eq_true rfl⟩) ⟨pT.blind, pT.call⟩ rfl rfl hl.1 rfl (lv_room (Nat.le_of_ble_eq_true rfl)) dX1_about_18 ⟨Nat.le_of_ble_eq_true rfl, Nat.le_of_ble_eq_true rfl⟩).run (fun r_5 hr_5 => ?_)
    subst hr_5
    refine lv_istore (lv' := [(5, .int (fX1_content (rg ip.toNatClampNeg))), (4, .int (fX1_isReference (rg ip.toNatClampNeg))), (3, .int (rg ip.toNatClampNeg)), (0, .ref cx), (1, .int ip), (2, .int iq)]) hx hb dX1_about_21 hl (by decide) rfl (fun ls hl => ?_)
    refine lv_iload_n hx hb dX1_about_23 rfl (lv_at hl 5 rfl) ?_
    by_cases c_6 : iq = 0
    · refine lv_tableIn (tgt := 56) hx hb dX1_about_24 (by rw [c_6]; decide) (by rw [c_6]; decide) (by rw [c_6]; rfl) (by decide) ?_
      refine lv_iload hx hb dX1_about_56 (lv_at hl 1 rfl) ?_
      refine lv_if_eq (tgt := 66) hx hb dX1_about_58 (by decide) (fun c_7 => ?_) (fun c_7 => ?_)
      · refine lv_iconst (v := (-1)) hx hb dX1_about_66 (by decide) ?_
        refine vx_ret ?_
        refine W.widen (k := 5) (n := 30) (Nat.le_of_ble_eq_true rfl) (Nat.le_of_ble_eq_true rfl) ?_
        exact W.iret (v := (-1)) hx hb hr (fun t ht hW => ⟨⟨_, (), rfl, (by simp only [fX1_about, if_pos c_3, if_pos c_6, if_pos c_7]), trivial⟩, hS.F ht⟩) hS.2.2 dX1_about_67
      · refine lv_iload hx hb dX1_about_61 (lv_at hl 0 rfl) ?_
        refine lv_goto (tgt := 67) hx hb dX1_about_63 (by decide) ?_
        refine vx_ret ?_
        refine W.widen (k := 5) (n := 30) (Nat.le_of_ble_eq_true rfl) (Nat.le_of_ble_eq_true rfl) ?_
        exact W.iret (v := fX1_content (rg ip.toNatClampNeg)) hx hb hr (fun t ht hW => ⟨⟨_, (), rfl, (by simp only [fX1_about, if_pos c_3, if_pos c_6, if_neg c_7]), trivial⟩, hS.F ht⟩) hS.2.2 dX1_about_67
    · by_cases c_8 : iq = 1
      · refine lv_tableIn (tgt := 68) hx hb dX1_about_24 (by rw [c_8]; decide) (by rw [c_8]; decide) (by rw [c_8]; rfl) (by decide) ?_
        refine lv_iload hx hb dX1_about_68 (lv_at hl 1 rfl) ?_
        refine lv_if_eq (tgt := 77) hx hb dX1_about_70 (by decide) (fun c_9 => ?_) (fun c_9 => ?_)
        · refine lv_iload hx hb dX1_about_77 (lv_at hl 0 rfl) ?_
          refine vx_ret ?_
          refine W.widen (k := 5) (n := 30) (Nat.le_of_ble_eq_true rfl) (Nat.le_of_ble_eq_true rfl) ?_
          exact W.iret (v := fX1_content (rg ip.toNatClampNeg)) hx hb hr (fun t ht hW => ⟨⟨_, (), rfl, (by simp only [fX1_about, if_pos c_3, if_neg c_6, if_pos c_8, if_pos c_9]), trivial⟩, hS.F ht⟩) hS.2.2 dX1_about_79
        · refine lv_iconst (v := 0) hx hb dX1_about_73 (by decide) ?_
          refine lv_goto (tgt := 79) hx hb dX1_about_74 (by decide) ?_
          refine vx_ret ?_
          refine W.widen (k := 5) (n := 30) (Nat.le_of_ble_eq_true rfl) (Nat.le_of_ble_eq_true rfl) ?_
          exact W.iret (v := 0) hx hb hr (fun t ht hW => ⟨⟨_, (), rfl, (by simp only [fX1_about, if_pos c_3, if_neg c_6, if_pos c_8, if_neg c_9]), trivial⟩, hS.F ht⟩) hS.2.2 dX1_about_79
      · by_cases c_10 : iq = 2
        · refine lv_tableIn (tgt := 80) hx hb dX1_about_24 (by rw [c_10]; decide) (by rw [c_10]; decide) (by rw [c_10]; rfl) (by decide) ?_
          refine lv_iload hx hb dX1_about_80 (lv_at hl 1 rfl) ?_
          refine lv_if_eq (tgt := 97) hx hb dX1_about_82 (by decide) (fun c_11 => ?_) (fun c_11 => ?_)
          · refine lv_iconst (v := (-1)) hx hb dX1_about_97 (by decide) ?_
            refine vx_ret ?_
            refine W.widen (k := 5) (n := 30) (Nat.le_of_ble_eq_true rfl) (Nat.le_of_ble_eq_true rfl) ?_
            exact W.iret (v := (-1)) hx hb hr (fun t ht hW => ⟨⟨_, (), rfl, (by simp only [fX1_about, if_pos c_3, if_neg c_6, if_neg c_8, if_pos c_10, if_pos c_11]), trivial⟩, hS.F ht⟩) hS.2.2 dX1_about_98
          · refine lv_aload_n hx hb dX1_about_85 rfl (lv_at hl 3 rfl) ?_
            refine va_get (D := (dC, dI)) (ci := 1) (v := .ref ha) (C := RX1) (T := TX1) (N := 5) hx hb ht iX1 hown hK hP 0 rfl rfl 1 (by decide) (ht _ g_39) (fun _ h9 => h9) rfl dX1_about_86 ?_
            refine lv_iload hx hb dX1_about_89 (lv_at hl 0 rfl) ?_
            have hPc := hP.sub (ws' := [(ha, .inr (0, [.ref wa, .int us, .int ob])), (wa, .inl (cI, n, .inl f))]) [2, 3] rfl
            have hKc := hK.sub (tys' := [(cI, .int)]) [0] rfl
            refine vp_callSi (va_runV (As := [.int (fX1_content (rg ip.toNatClampNeg))]) (rest := []) ⟨hx, hb, hml, hown, ht⟩ (ctX0_kindAt l dC dI cI ha wa n us ob f (fX1_content (rg ip.toNatClampNeg)) hn) (cwV 1 ht gcX1_67 rfl rfl rfl (by decide +kernel) ⟨Nat.le_of_ble_eq_true rfl, Nat.le_of_ble_eq_true rfl⟩) ⟨pS.blind, va_recv hKc hPc (ci := 0) (q0 := 0) rfl rfl, pS.call hPc hKc hE⟩ rfl rfl hl.1 rfl (lv_room (Nat.le_of_ble_eq_true rfl)) dX1_about_91 ⟨Nat.le_of_ble_eq_true rfl, Nat.le_of_ble_eq_true rfl⟩).run (fun r_12 hr_12 => ?_)
            subst hr_12
            refine lv_goto (tgt := 98) hx hb dX1_about_94 (by decide) ?_
            refine vx_ret ?_
            refine W.widen (k := 5) (n := 30) (Nat.le_of_ble_eq_true rfl) (Nat.le_of_ble_eq_true rfl) ?_
            exact W.iret (v := fX0_kindAt n f (fX1_content (rg ip.toNatClampNeg))) hx hb hr (fun t ht hW => ⟨⟨_, (), rfl, (by simp only [fX1_about, if_pos c_3, if_neg c_6, if_neg c_8, if_pos c_10, if_neg c_11]), trivial⟩, hS.F ht⟩) hS.2.2 dX1_about_98
        · by_cases c_13 : iq = 3
          · refine lv_tableIn (tgt := 99) hx hb dX1_about_24 (by rw [c_13]; decide) (by rw [c_13]; decide) (by rw [c_13]; rfl) (by decide) ?_
            refine lv_iload hx hb dX1_about_99 (lv_at hl 1 rfl) ?_
            refine lv_if_eq (tgt := 116) hx hb dX1_about_101 (by decide) (fun c_14 => ?_) (fun c_14 => ?_)
            · refine lv_iconst (v := (-1)) hx hb dX1_about_116 (by decide) ?_
              refine vx_ret ?_
              refine W.widen (k := 5) (n := 30) (Nat.le_of_ble_eq_true rfl) (Nat.le_of_ble_eq_true rfl) ?_
              exact W.iret (v := (-1)) hx hb hr (fun t ht hW => ⟨⟨_, (), rfl, (by simp only [fX1_about, if_pos c_3, if_neg c_6, if_neg c_8, if_neg c_10, if_pos c_13, if_pos c_14]), trivial⟩, hS.F ht⟩) hS.2.2 dX1_about_117
            · refine lv_aload_n hx hb dX1_about_104 rfl (lv_at hl 3 rfl) ?_
              refine va_get (D := (dC, dI)) (ci := 1) (v := .ref ha) (C := RX1) (T := TX1) (N := 5) hx hb ht iX1 hown hK hP 0 rfl rfl 1 (by decide) (ht _ g_39) (fun _ h9 => h9) rfl dX1_about_105 ?_
              refine lv_iload hx hb dX1_about_108 (lv_at hl 0 rfl) ?_
              have hPc := hP.sub (ws' := [(ha, .inr (0, [.ref wa, .int us, .int ob])), (wa, .inl (cI, n, .inl f))]) [2, 3] rfl
              have hKc := hK.sub (tys' := [(cI, .int)]) [0] rfl
              refine vp_callSi (va_runV (As := [.int (fX1_content (rg ip.toNatClampNeg))]) (rest := []) ⟨hx, hb, hml, hown, ht⟩ (ctX0_fieldsAt l dC dI cI ha wa n us ob f (fX1_content (rg ip.toNatClampNeg)) hn) (cwV 1 ht gcX1_88 rfl rfl rfl (by decide +kernel) ⟨Nat.le_of_ble_eq_true rfl, Nat.le_of_ble_eq_true rfl⟩) ⟨pS.blind, va_recv hKc hPc (ci := 0) (q0 := 0) rfl rfl, pS.call hPc hKc hE⟩ rfl rfl hl.1 rfl (lv_room (Nat.le_of_ble_eq_true rfl)) dX1_about_110 ⟨Nat.le_of_ble_eq_true rfl, Nat.le_of_ble_eq_true rfl⟩).run (fun r_15 hr_15 => ?_)
              subst hr_15
              refine lv_goto (tgt := 117) hx hb dX1_about_113 (by decide) ?_
              refine vx_ret ?_
              refine W.widen (k := 5) (n := 30) (Nat.le_of_ble_eq_true rfl) (Nat.le_of_ble_eq_true rfl) ?_
              exact W.iret (v := fX0_fieldsAt n f (fX1_content (rg ip.toNatClampNeg))) hx hb hr (fun t ht hW => ⟨⟨_, (), rfl, (by simp only [fX1_about, if_pos c_3, if_neg c_6, if_neg c_8, if_neg c_10, if_pos c_13, if_neg c_14]), trivial⟩, hS.F ht⟩) hS.2.2 dX1_about_117
          · refine lv_tableOut (tgt := 118) hx hb dX1_about_24 (sw_out4 c_6 c_8 c_10 c_13) (by decide) ?_
            exact vx_throwS (own := RX1) (cls := "java/lang/IndexOutOfBoundsException") (names := ["java/lang/RuntimeException", "java/lang/Exception"]) hx hb hl9 hown (by decide +kernel) (by decide +kernel) (ht _ g_255) (ht _ g_9) hX.s93 (thI ht hE) toI hX.zU hX.zN hS (hl.1.trans hml.symm) dX1_about_118 dX1_about_121 dX1_about_122 dX1_about_124 dX1_about_127 (fun x hx => (hEx x hx).elim) (Nat.le_of_ble_eq_true rfl) (Nat.le_of_ble_eq_true rfl) (Nat.le_of_ble_eq_true rfl) (Nat.le_of_ble_eq_true rfl) hlocks (fun t ha hsz hk => ⟨(3, ()), ⟨(by simp only [fX1_about, if_pos c_3, if_neg c_6, if_neg c_8, if_neg c_10, if_neg c_13]), Nat.succ_ne_zero _⟩, rfl, Nat.le_trans hS.1 hsz, fun q h1 h2 => (hk q (Nat.lt_of_lt_of_le h1 hS.1)).trans (hS.2.1 q h1 h2)⟩) hS.2.2 (Nat.le_of_ble_eq_true rfl) (Nat.le_of_ble_eq_true rfl)
def fX1_count (n : Nat) (us : Int32) (ob : Int32) (col : Int32) (mov : Int32) (ip : Int32) : Nat × Int32 × Unit := (if ip = 0 then (0, nI n, ()) else (if ip = 1 then (0, us, ()) else (if ip = 2 then (0, col, ()) else (if ip = 3 then (0, mov, ()) else (if ip = 4 then (0, ob, ()) else (3, 0, ()))))))
set_option maxHeartbeats 4000000 in
set_option maxRecDepth 100000 in
theorem ctX1_count (l : Launch) (hl9 : l.stackTraces = false) (dC : Nat → ClassId) (dI : Nat → Nat → Nat) (cI : ClassId) (sa : Nat → Nat) (cx : Nat) (ar : Nat) (ha : Nat) (wa : Nat) (hz : Nat) (wz : Nat) (n : Nat) (col : Int32) (mov : Int32) (rg : Nat → Int32) (us : Int32) (ob : Int32) (f : Nat → Int32) (us2 : Int32) (ob2 : Int32) (f2 : Nat → Int32) (ip : Int32) (sz : Nat) (hn : n < 2 ^ 31) : vx_Met l yX1_count (kX1_count :: gT) ({ frames := 7, cells := 5, slots := 30, locals := 120 }) (va_Pc [.ref cx, .int ip] (pR (dC, dI) [(cx, .inr (1, [.ref ar, .ref ha, .ref hz, .int col, .int mov])), (ar, .inl (cI, 8, .inl rg)), (ha, .inr (0, [.ref wa, .int us, .int ob])), (wa, .inl (cI, n, .inl f)), (hz, .inr (0, [.ref wz, .int us2, .int ob2])), (wz, .inl (cI, n, .inl f2))] [(cI, .int)] sa sz)) (va_Qi (fun (r : Int32) (u : Unit) => fX1_count n us ob col mov ip = (0, r, u)) (fun _ _ => True) (va_A [] sz)) (vx_X (fun v : Nat × Unit => fX1_count n us ob col mov ip = (v.1, 0, v.2) ∧ v.1 ≠ 0) (fun E v _ => E = exN v.1) (va_A [] sz)) 5 30 (va_A [] sz) := by
  refine vx_ofW (cc := cX1_count) (maxL := 2) (ret := (some .int)) (by decide) rfl ?_
  intro p e s m args below meth c s₁ B hml hEx hv
  obtain ⟨rfl, hsz, hP, hK, hE, hX⟩ := hv
  have hx := B.exec
  have hb := B.bytes
  have hr := B.returns
  have ht : ∀ w ∈ gT, w.before ([.ref cx, .int ip] : List Value).toArray s = true := fun w h => atoms_spec (ws := kX1_count :: gT) B.pre w (List.mem_cons_of_mem _ h)
  have hown : s.vm.findClass RX1 = some m.cls := findClass_of_methodNamed B.named
  have hlocks := B.notSynchronized
  subst hsz
  generalize hAe : va_A [] s.heap.size = A at hX ⊢
  have hA : ∀ q : Nat, s.heap.size ≤ q → A q := fun q h => by rw [← hAe]; exact Or.inr h
  have hS : va_S A s.heap s.heap [] := va_S.rf
  have hl := lv_entry ([.ref cx, .int ip]) (n := 2) (Nat.le_of_ble_eq_true rfl)
  rw [lg_entry_eq]
  generalize (lg_sl ([.ref cx, .int ip]) ++ List.replicate (2 - (lg_sl ([.ref cx, .int ip])).length) Slot.unset).toArray = ls at hl ⊢
  have hl : lv_has ls 2 [(0, .ref cx), (1, .int ip)] := hl
  refine lv_iload_n hx hb dX1_count_0 rfl (lv_at hl 1 rfl) ?_
  by_cases c_1 : ip = 0
  · refine lv_tableIn (tgt := 36) hx hb dX1_count_1 (by rw [c_1]; decide) (by rw [c_1]; decide) (by rw [c_1]; rfl) (by decide) ?_
    refine lv_aload_n hx hb dX1_count_36 rfl (lv_at hl 0 rfl) ?_
    refine va_get (D := (dC, dI)) (ci := 1) (v := .ref ha) (C := RX1) (T := TX1) (N := 5) hx hb ht iX1 hown hK hP 0 rfl rfl 1 (by decide) (ht _ g_39) (fun _ h9 => h9) rfl dX1_count_37 ?_
    refine va_getN (D := (dC, dI)) (ci := 0) (v := .ref wa) (C := RX0) (T := TX0) (N := 3) hx hb ht iX0 hown hK hP 2 rfl rfl 0 (by decide) hE.w25 (fun _ h9 => h9) rfl dX1_count_40 ?_
    refine va_alen (v := nI n) hx hb hK hP 3 0 rfl rfl rfl dX1_count_43 ?_
    refine vx_ret ?_
    refine W.widen (k := 5) (n := 30) (Nat.le_of_ble_eq_true rfl) (Nat.le_of_ble_eq_true rfl) ?_
    exact W.iret (v := nI n) hx hb hr (fun t ht hW => ⟨⟨_, (), rfl, (by simp only [fX1_count, if_pos c_1]), trivial⟩, hS.F ht⟩) hS.2.2 dX1_count_44
  · by_cases c_2 : ip = 1
    · refine lv_tableIn (tgt := 45) hx hb dX1_count_1 (by rw [c_2]; decide) (by rw [c_2]; decide) (by rw [c_2]; rfl) (by decide) ?_
      refine lv_aload_n hx hb dX1_count_45 rfl (lv_at hl 0 rfl) ?_
      refine va_get (D := (dC, dI)) (ci := 1) (v := .ref ha) (C := RX1) (T := TX1) (N := 5) hx hb ht iX1 hown hK hP 0 rfl rfl 1 (by decide) (ht _ g_39) (fun _ h9 => h9) rfl dX1_count_46 ?_
      refine va_getN (D := (dC, dI)) (ci := 0) (v := .int us) (C := RX0) (T := TX0) (N := 3) hx hb ht iX0 hown hK hP 2 rfl rfl 1 (by decide) hE.w27 (fun _ h9 => h9) rfl dX1_count_49 ?_
      refine vx_ret ?_
      refine W.widen (k := 5) (n := 30) (Nat.le_of_ble_eq_true rfl) (Nat.le_of_ble_eq_true rfl) ?_
      exact W.iret (v := us) hx hb hr (fun t ht hW => ⟨⟨_, (), rfl, (by simp only [fX1_count, if_neg c_1, if_pos c_2]), trivial⟩, hS.F ht⟩) hS.2.2 dX1_count_52
    · by_cases c_3 : ip = 2
      · refine lv_tableIn (tgt := 53) hx hb dX1_count_1 (by rw [c_3]; decide) (by rw [c_3]; decide) (by rw [c_3]; rfl) (by decide) ?_
        refine lv_aload_n hx hb dX1_count_53 rfl (lv_at hl 0 rfl) ?_
        refine va_get (D := (dC, dI)) (ci := 1) (v := .int col) (C := RX1) (T := TX1) (N := 5) hx hb ht iX1 hown hK hP 0 rfl rfl 3 (by decide) (ht _ g_41) (fun _ h9 => h9) rfl dX1_count_54 ?_
        refine vx_ret ?_
        refine W.widen (k := 5) (n := 30) (Nat.le_of_ble_eq_true rfl) (Nat.le_of_ble_eq_true rfl) ?_
        exact W.iret (v := col) hx hb hr (fun t ht hW => ⟨⟨_, (), rfl, (by simp only [fX1_count, if_neg c_1, if_neg c_2, if_pos c_3]), trivial⟩, hS.F ht⟩) hS.2.2 dX1_count_57
      · by_cases c_4 : ip = 3
        · refine lv_tableIn (tgt := 58) hx hb dX1_count_1 (by rw [c_4]; decide) (by rw [c_4]; decide) (by rw [c_4]; rfl) (by decide) ?_
          refine lv_aload_n hx hb dX1_count_58 rfl (lv_at hl 0 rfl) ?_
          refine va_get (D := (dC, dI)) (ci := 1) (v := .int mov) (C := RX1) (T := TX1) (N := 5) hx hb ht iX1 hown hK hP 0 rfl rfl 4 (by decide) (ht _ g_42) (fun _ h9 => h9) rfl dX1_count_59 ?_
          refine vx_ret ?_
          refine W.widen (k := 5) (n := 30) (Nat.le_of_ble_eq_true rfl) (Nat.le_of_ble_eq_true rfl) ?_
          exact W.iret (v := mov) hx hb hr (fun t ht hW => ⟨⟨_, (), rfl, (by simp only [fX1_count, if_neg c_1, if_neg c_2, if_neg c_3, if_pos c_4]), trivial⟩, hS.F ht⟩) hS.2.2 dX1_count_62
        · by_cases c_5 : ip = 4
          · refine lv_tableIn (tgt := 63) hx hb dX1_count_1 (by rw [c_5]; decide) (by rw [c_5]; decide) (by rw [c_5]; rfl) (by decide) ?_
            refine lv_aload_n hx hb dX1_count_63 rfl (lv_at hl 0 rfl) ?_
            refine va_get (D := (dC, dI)) (ci := 1) (v := .ref ha) (C := RX1) (T := TX1) (N := 5) hx hb ht iX1 hown hK hP 0 rfl rfl 1 (by decide) (ht _ g_39) (fun _ h9 => h9) rfl dX1_count_64 ?_
            refine va_getN (D := (dC, dI)) (ci := 0) (v := .int ob) (C := RX0) (T := TX0) (N := 3) hx hb ht iX0 hown hK hP 2 rfl rfl 2 (by decide) hE.w29 (fun _ h9 => h9) rfl dX1_count_67 ?_
            refine vx_ret ?_
            refine W.widen (k := 5) (n := 30) (Nat.le_of_ble_eq_true rfl) (Nat.le_of_ble_eq_true rfl) ?_
            exact W.iret (v := ob) hx hb hr (fun t ht hW => ⟨⟨_, (), rfl, (by simp only [fX1_count, if_neg c_1, if_neg c_2, if_neg c_3, if_neg c_4, if_pos c_5]), trivial⟩, hS.F ht⟩) hS.2.2 dX1_count_70
          · refine lv_tableOut (tgt := 71) hx hb dX1_count_1 (sw_out5 c_1 c_2 c_3 c_4 c_5) (by decide) ?_
            exact vx_throwS (own := RX1) (cls := "java/lang/IndexOutOfBoundsException") (names := ["java/lang/RuntimeException", "java/lang/Exception"]) hx hb hl9 hown (by decide +kernel) (by decide +kernel) (ht _ g_255) (ht _ g_9) hX.s118 (thI ht hE) toI hX.zU hX.zN hS (hl.1.trans hml.symm) dX1_count_71 dX1_count_74 dX1_count_75 dX1_count_77 dX1_count_80 (fun x hx => (hEx x hx).elim) (Nat.le_of_ble_eq_true rfl) (Nat.le_of_ble_eq_true rfl) (Nat.le_of_ble_eq_true rfl) (Nat.le_of_ble_eq_true rfl) hlocks (fun t ha hsz hk => ⟨(3, ()), ⟨(by simp only [fX1_count, if_neg c_1, if_neg c_2, if_neg c_3, if_neg c_4, if_neg c_5]), Nat.succ_ne_zero _⟩, rfl, Nat.le_trans hS.1 hsz, fun q h1 h2 => (hk q (Nat.lt_of_lt_of_le h1 hS.1)).trans (hS.2.1 q h1 h2)⟩) hS.2.2 (Nat.le_of_ble_eq_true rfl) (Nat.le_of_ble_eq_true rfl)
end
section
/-! THE COLLECTION AS A PURE MATTER: objects, the list of those that are kept, where they go -/
def oF (f : Nat → Int32) (k : Nat) : Nat := (f k).toNatClampNeg / 2
def oK (f : Nat → Int32) (k : Nat) : Nat := (f k).toNatClampNeg % 2
def plc (x : Int32) : Nat := x.toNatClampNeg / 2
def tot (f : Nat → Int32) : List Nat → Nat
  | [] => 0
  | p :: L => oF f p + 1 + tot f L
def tgt (f : Nat → Int32) : List Nat → Nat → Nat
  | [], _ => 0
  | q :: L, p => if q = p then 0 else oF f q + 1 + tgt f L p
def lcp (f : Nat → Int32) : List Nat → Nat → Nat × Nat
  | [], _ => (0, 0)
  | q :: L, i => if i ≤ oF f q then (q, i) else lcp f L (i - (oF f q + 1))
def kpL (L : List Nat) (p : Nat) : List Nat := if p ∈ L then L else L ++ [p]
theorem tot_app (f : Nat → Int32) (L M : List Nat) : tot f (L ++ M) = tot f L + tot f M := by
  induction L with
  | nil => simp [tot]
  | cons a L ih => simp only [List.cons_append, tot, ih]; omega
theorem tot_snoc (f : Nat → Int32) (L : List Nat) (p : Nat) : tot f (L ++ [p]) = tot f L + oF f p + 1 := by
  rw [tot_app]; simp only [tot]; omega
theorem tgt_lt {f : Nat → Int32} {L : List Nat} {p : Nat} (h : p ∈ L) : tgt f L p + oF f p < tot f L := by
  induction L with
  | nil => cases h
  | cons a L ih =>
    simp only [tgt, tot]
    by_cases e : a = p
    · rw [if_pos e, e]; omega
    · rw [if_neg e]
      have h2 : p ∈ L := by
        rcases List.mem_cons.mp h with h | h
        · exact absurd h.symm e
        · exact h
      have := ih h2
      omega
theorem tgt_app {f : Nat → Int32} {L M : List Nat} {p : Nat} (h : p ∈ L) : tgt f (L ++ M) p = tgt f L p := by
  induction L with
  | nil => cases h
  | cons a L ih =>
    simp only [List.cons_append, tgt]
    by_cases e : a = p
    · rw [if_pos e, if_pos e]
    · rw [if_neg e, if_neg e]
      rcases List.mem_cons.mp h with h | h
      · exact absurd h.symm e
      · rw [ih h]
theorem tgt_snoc {f : Nat → Int32} {L : List Nat} {p : Nat} (h : p ∉ L) : tgt f (L ++ [p]) p = tot f L := by
  induction L with
  | nil => simp [tgt, tot]
  | cons a L ih =>
    simp only [List.cons_append, tgt, tot]
    have e : ¬ a = p := fun e => h (by rw [e]; exact List.mem_cons_self)
    rw [if_neg e, ih (fun q => h (List.mem_cons_of_mem _ q))]
/-- two places of L go to places apart -/
theorem tgt_apart {f : Nat → Int32} {L : List Nat} {p q : Nat} (hp : p ∈ L) (hq : q ∈ L) (hne : p ≠ q) : tgt f L p + oF f p < tgt f L q ∨ tgt f L q + oF f q < tgt f L p := by
  induction L with
  | nil => cases hp
  | cons a L ih =>
    simp only [tgt]
    by_cases e1 : a = p
    · by_cases e2 : a = q
      · exact absurd (e1.symm.trans e2) hne
      · rw [if_pos e1, if_neg e2, e1]; left; omega
    · by_cases e2 : a = q
      · rw [if_neg e1, if_pos e2, e2]; right; omega
      · rw [if_neg e1, if_neg e2]
        have h1 : p ∈ L := (List.mem_cons.mp hp).elim (fun h => absurd h.symm e1) id
        have h2 : q ∈ L := (List.mem_cons.mp hq).elim (fun h => absurd h.symm e2) id
        rcases ih h1 h2 with h | h
        · left; omega
        · right; omega
theorem lcp_spec {f : Nat → Int32} {L : List Nat} {i : Nat} (hN : L.Nodup) (h : i < tot f L) : (lcp f L i).1 ∈ L ∧ (lcp f L i).2 ≤ oF f (lcp f L i).1 ∧ tgt f L (lcp f L i).1 + (lcp f L i).2 = i := by
  induction L generalizing i with
  | nil => simp [tot] at h
  | cons a L ih =>
    simp only [tot] at h
    simp only [lcp]
    obtain ⟨ha, hN⟩ := List.nodup_cons.mp hN
    by_cases e : i ≤ oF f a
    · rw [if_pos e]
      refine ⟨List.mem_cons_self, e, ?_⟩
      simp only [tgt, if_true]; omega
    · rw [if_neg e]
      obtain ⟨h1, h2, h3⟩ := ih (i := i - (oF f a + 1)) hN (by omega)
      refine ⟨List.mem_cons_of_mem _ h1, h2, ?_⟩
      have e2 : ¬ a = (lcp f L (i - (oF f a + 1))).1 := fun e2 => ha (by rw [e2]; exact h1)
      simp only [tgt]
      rw [if_neg e2]
      omega
theorem lcp_tgt {f : Nat → Int32} {L : List Nat} {p j : Nat} (hp : p ∈ L) (hj : j ≤ oF f p) : lcp f L (tgt f L p + j) = (p, j) := by
  induction L with
  | nil => cases hp
  | cons a L ih =>
    by_cases e : a = p
    · subst e
      have t0 : tgt f (a :: L) a = 0 := by simp [tgt]
      rw [t0, Nat.zero_add]
      show (if j ≤ oF f a then (a, j) else lcp f L (j - (oF f a + 1))) = (a, j)
      rw [if_pos hj]
    · have t0 : tgt f (a :: L) p = oF f a + 1 + tgt f L p := by
        simp only [tgt]; rw [if_neg e]
      have h1 : p ∈ L := (List.mem_cons.mp hp).elim (fun h => absurd h.symm e) id
      rw [t0]
      show (if oF f a + 1 + tgt f L p + j ≤ oF f a then (a, oF f a + 1 + tgt f L p + j) else lcp f L (oF f a + 1 + tgt f L p + j - (oF f a + 1))) = (p, j)
      rw [if_neg (by omega), show oF f a + 1 + tgt f L p + j - (oF f a + 1) = tgt f L p + j by omega]
      exact ih h1
theorem lcp_app {f : Nat → Int32} {L M : List Nat} {i : Nat} (hN : L.Nodup) (h : i < tot f L) : lcp f (L ++ M) i = lcp f L i := by
  obtain ⟨h1, h2, h3⟩ := lcp_spec hN h
  have := lcp_tgt (f := f) (L := L ++ M) (p := (lcp f L i).1) (j := (lcp f L i).2) (List.mem_append_left _ h1) h2
  rw [tgt_app h1, h3] at this
  exact this
theorem mem_kpL (L : List Nat) (p : Nat) : p ∈ kpL L p := by
  unfold kpL
  by_cases h : p ∈ L
  · rw [if_pos h]; exact h
  · rw [if_neg h]; exact List.mem_append_right _ List.mem_cons_self
theorem kpL_ext (L : List Nat) (p : Nat) : ∃ M, kpL L p = L ++ M := by
  unfold kpL
  by_cases h : p ∈ L
  · exact ⟨[], by rw [if_pos h, List.append_nil]⟩
  · exact ⟨[p], by rw [if_neg h]⟩
theorem kpL_nodup {L : List Nat} {p : Nat} (h : L.Nodup) : (kpL L p).Nodup := by
  unfold kpL
  by_cases e : p ∈ L
  · rw [if_pos e]; exact h
  · rw [if_neg e]
    refine List.nodup_append.mpr ⟨h, by simp, ?_⟩
    intro a ha b hb
    rcases List.mem_cons.mp hb with hb | hb
    · rw [hb]; exact fun e2 => e (by rw [← e2]; exact ha)
    · cases hb
theorem mem_of_kpL {L : List Nat} {p q : Nat} (h : q ∈ kpL L p) : q ∈ L ∨ q = p := by
  unfold kpL at h
  by_cases e : p ∈ L
  · rw [if_pos e] at h; exact Or.inl h
  · rw [if_neg e] at h
    rcases List.mem_append.mp h with h | h
    · exact Or.inl h
    · right
      rcases List.mem_cons.mp h with h | h
      · exact h
      · cases h
/-- counting -/
def cntP (P : Nat → Bool) : Nat → Nat
  | 0 => 0
  | m + 1 => cntP P m + if P m = true then 1 else 0
theorem cntP_le (P : Nat → Bool) (m : Nat) : cntP P m ≤ m := by
  induction m with
  | zero => exact Nat.le_refl _
  | succ m ih => simp only [cntP]; split <;> omega
theorem cntP_or {P Q : Nat → Bool} {m : Nat} (h : ∀ k, k < m → ¬ (P k = true ∧ Q k = true)) : cntP (fun k => P k || Q k) m = cntP P m + cntP Q m := by
  induction m with
  | zero => rfl
  | succ m ih =>
    simp only [cntP]
    rw [ih (fun k hk => h k (by omega))]
    have h1 := h m (by omega)
    by_cases hp : P m = true
    · by_cases hq : Q m = true
      · exact absurd ⟨hp, hq⟩ h1
      · simp [hp, hq]; omega
    · by_cases hq : Q m = true
      · simp [hp, hq]; omega
      · simp [hp, hq]
theorem cntP_int (a b : Nat) : ∀ m, b ≤ m → a ≤ b → cntP (fun k => decide (a ≤ k) && decide (k < b)) m = b - a := by
  intro m
  induction m with
  | zero => intro h1 h2; simp only [cntP]; omega
  | succ m ih =>
    intro h1 h2
    simp only [cntP]
    by_cases e : b ≤ m
    · rw [ih e h2]
      have : ¬ (m < b) := by omega
      simp [this]
    · have e2 : b = m + 1 := by omega
      subst e2
      by_cases e3 : a ≤ m
      · have key : ∀ k, k ≤ m → cntP (fun k => decide (a ≤ k) && decide (k < m + 1)) k = k - a := by
          intro k
          induction k with
          | zero => intro _; simp [cntP]
          | succ k ihk =>
            intro hk
            simp only [cntP]
            rw [ihk (by omega)]
            by_cases e4 : a ≤ k
            · have : k < m + 1 := by omega
              simp [e4, this]; omega
            · have : ¬ a ≤ k := e4
              simp [this]; omega
        rw [key m (Nat.le_refl _)]
        simp [e3]; omega
      · have e4 : a = m + 1 := by omega
        have key : ∀ k, k ≤ m → cntP (fun k => decide (a ≤ k) && decide (k < m + 1)) k = 0 := by
          intro k
          induction k with
          | zero => intro _; rfl
          | succ k ihk =>
            intro hk
            simp only [cntP]
            rw [ihk (by omega)]
            have : ¬ a ≤ k := by omega
            simp [this]
        rw [key m (Nat.le_refl _)]
        simp [e3]; omega
/-- what a half in use is: u words, where each begins an object, a number, a reference or raw (so) -/
def hWf (u n : Nat) (f so : Nat → Int32) : Prop :=
  u ≤ n ∧ n ≤ 2063 ∧ (0 < u → so 0 = 0) ∧
  (∀ k, k < u → so k = 0 → ¬ f k < 0 ∧ oF f k ≤ 200 ∧ k + oF f k < u ∧ (∀ j, 1 ≤ j → j ≤ oF f k → (oK f k = 1 ∧ so (k + j) = 3) ∨ (oK f k = 0 ∧ (so (k + j) = 1 ∨ so (k + j) = 2))) ∧ (k + oF f k + 1 < u → so (k + oF f k + 1) = 0)) ∧
  (∀ k, k < u → so k = 2 → ∃ p, p < u ∧ so p = 0 ∧ f k = nI (2 * p + 1)) ∧
  (∀ k, k < u → so k = 1 → f k &&& 1 = 0)
theorem hWf.owner {u n : Nat} {f so : Nat → Int32} (h : hWf u n f so) : ∀ k, k < u → ∃ a, a ≤ k ∧ a < u ∧ so a = 0 ∧ k ≤ a + oF f a := by
  intro k
  induction k with
  | zero => intro hk; exact ⟨0, Nat.le_refl _, hk, h.2.2.1 hk, Nat.zero_le _⟩
  | succ k ih =>
    intro hk
    obtain ⟨a, h1, h2, h3, h4⟩ := ih (by omega)
    by_cases e : k + 1 ≤ a + oF f a
    · exact ⟨a, by omega, h2, h3, e⟩
    · have e2 : k + 1 = a + oF f a + 1 := by omega
      refine ⟨k + 1, Nat.le_refl _, hk, ?_, by omega⟩
      have := (h.2.2.2.1 a h2 h3).2.2.2.2 (by omega)
      rw [e2]; exact this
theorem hWf.apart {u n : Nat} {f so : Nat → Int32} (h : hWf u n f so) {a b : Nat} (ha : a < u) (sa : so a = 0) (sb : so b = 0) (hab : a < b) : a + oF f a < b := by
  by_cases e : b ≤ a + oF f a
  · have h1 := (h.2.2.2.1 a ha sa).2.2.2.1 (b - a) (by omega) (by omega)
    have e2 : a + (b - a) = b := by omega
    rw [e2, sb] at h1
    rcases h1 with ⟨-, h1⟩ | ⟨-, h1 | h1⟩ <;> exact absurd h1 (by decide)
  · omega
theorem hWf.tot_le {u n : Nat} {f so : Nat → Int32} (h : hWf u n f so) {L : List Nat} (hN : L.Nodup) (hL : ∀ p, p ∈ L → p < u ∧ so p = 0) : tot f L ≤ u := by
  have key : ∀ M : List Nat, M.Nodup → (∀ p, p ∈ M → p < u ∧ so p = 0) → tot f M = cntP (fun k => M.any (fun p => decide (p ≤ k) && decide (k < p + oF f p + 1))) u := by
    intro M
    induction M with
    | nil =>
      intro _ _
      have : ∀ m, cntP (fun k => ([] : List Nat).any (fun p => decide (p ≤ k) && decide (k < p + oF f p + 1))) m = 0 := by
        intro m
        induction m with
        | zero => rfl
        | succ m ih => simp only [cntP, ih]; simp
      rw [this u]; rfl
    | cons a M ih =>
      intro hN hM
      obtain ⟨ha, hN⟩ := List.nodup_cons.mp hN
      have hau := hM a List.mem_cons_self
      have h1 := ih hN (fun p hp => hM p (List.mem_cons_of_mem _ hp))
      have e : (fun k => (a :: M).any (fun p => decide (p ≤ k) && decide (k < p + oF f p + 1))) = (fun k => (decide (a ≤ k) && decide (k < a + oF f a + 1)) || M.any (fun p => decide (p ≤ k) && decide (k < p + oF f p + 1))) := by
        funext k; simp [List.any_cons]
      rw [e, cntP_or, ← h1, cntP_int a (a + oF f a + 1) u (by have := (h.2.2.2.1 a hau.1 hau.2).2.2.1; omega) (by omega)]
      · simp only [tot]; omega
      · rintro k hk ⟨q1, q2⟩
        simp only [Bool.and_eq_true, decide_eq_true_eq] at q1
        obtain ⟨b, hb, q3⟩ := List.any_eq_true.mp q2
        simp only [Bool.and_eq_true, decide_eq_true_eq] at q3
        have hbu := hM b (List.mem_cons_of_mem _ hb)
        rcases Nat.lt_trichotomy a b with c | c | c
        · have := h.apart hau.1 hau.2 hbu.2 c; omega
        · exact ha (by rw [c]; exact hb)
        · have := h.apart hbu.1 hbu.2 hau.2 c; omega
  rw [key L hN hL]
  exact cntP_le _ _
end
section
theorem waI {n k : Nat} {f : Nat → Int32} (hk : k < n) (hn : n < 2 ^ 31) : fX0_wordAt n f (nI k) = f k := by
  unfold fX0_wordAt
  rw [if_neg (nI_pos (by omega)), if_neg (nI_ge hk hn), nI_clamp (by omega)]
theorem swI {n k : Nat} {us ob q : Int32} {f : Nat → Int32} (hk : k < n) (hn : n < 2 ^ 31) : fX0_setWord n us ob f (nI k) q = (us, ob, upd f k q) := by
  unfold fX0_setWord
  rw [if_neg (nI_pos (by omega)), if_neg (nI_ge hk hn), nI_clamp (by omega)]
theorem awI {n k : Nat} {ob q : Int32} {f : Nat → Int32} (hk : k < n) (hn : n < 2 ^ 31) : fX0_addWord n (nI k) ob f q = (nI (k + 1), ob, upd f k q) := by
  unfold fX0_addWord
  rw [swI hk hn, ← nI_1 k]
theorem cpy_0 (f g : Nat → Int32) (a b : Nat) : va_cpy f g a b 0 = g := by
  funext j; exact pk_cpy_out (by omega)
theorem cpy_s (f g : Nat → Int32) (a b j : Nat) : upd (va_cpy f g a b j) (b + j) (f (a + j)) = va_cpy f g a b (j + 1) := by
  funext i
  by_cases e : i = b + j
  · rw [e, pk_us, pk_cpy_in (by omega) (by omega)]
    congr 1; omega
  · rw [pk_un e]
    by_cases e2 : b ≤ i ∧ i < b + j
    · rw [pk_cpy_in e2.1 e2.2, pk_cpy_in e2.1 (by omega)]
    · rw [pk_cpy_out (by omega), pk_cpy_out (by omega)]
theorem shl1 {k : Nat} (h : k < 2 ^ 30) : nI k <<< ((1 : Int32) &&& 31) = nI (2 * k) := by
  rw [pk_shlN _ 1 (by decide) (by omega)]; congr 1; omega
theorem shr1 {k : Nat} (h : k < 2 ^ 31) : nI k >>> ((1 : Int32) &&& 31) = nI (k / 2) := by
  rw [pk_shrN h _ 1 (by decide)]
def fX0_moveObject (ob2 : Int32) (f : Nat → Int32) (f2 : Nat → Int32) (P : Nat) (U : Nat) (Fd : Nat) : Int32 × Int32 × Int32 × (Nat → Int32) := (nI U, nI (U + Fd + 1), ob2 + 1, va_cpy f f2 P U (Fd + 1))
abbrev atX0_moveObject (dC : Nat → ClassId) (dI : Nat → Nat → Nat) (cI : ClassId) (A : Nat → Prop) (ha : Nat) (wa : Nat) (n : Nat) (us : Int32) (ob : Int32) (f : Nat → Int32) (hz : Nat) (wz : Nat) (u : Int32 × Int32 × (Nat → Int32)) (t : State) : Prop := va_P (dC, dI) vwCl [(ha, .inr (0, [.ref wa, .int us, .int ob])), (wa, .inl (cI, n, .inl f)), (hz, .inr (0, [.ref wz, .int u.1, .int u.2.1])), (wz, .inl (cI, n, .inl u.2.2))] t.heap ∧ va_K (dC, dI) vwCl [(cI, .int)] t ∧ va_D A [(ha, .inr (0, [.ref wa, .int us, .int ob])), (wa, .inl (cI, n, .inl f)), (hz, .inr (0, [.ref wz, .int u.1, .int u.2.1])), (wz, .inl (cI, n, .inl u.2.2))]
set_option maxHeartbeats 4000000 in
set_option maxRecDepth 100000 in
theorem ctX0_moveObject (l : Launch) (dC : Nat → ClassId) (dI : Nat → Nat → Nat) (cI : ClassId) (ha : Nat) (wa : Nat) (n : Nat) (us : Int32) (ob : Int32) (f : Nat → Int32) (hz : Nat) (wz : Nat) (us2 : Int32) (ob2 : Int32) (f2 : Nat → Int32) (ip : Int32) (P : Nat) (U : Nat) (Fd : Nat) (sz : Nat) (hn : n < 2 ^ 31) (hip : ip = nI P) (hu : us2 = nI U) (hF : fX0_fieldsAt n f (nI P) = nI Fd) (h1 : P + Fd < n) (h2 : U + Fd + 1 ≤ n) : Met l yX0_moveObject (kX0_moveObject :: gT) ({ frames := 2, cells := 0, slots := 0, locals := 43 }) (va_Pc [.ref ha, .int ip, .ref hz] (pM (dC, dI) [(ha, .inr (0, [.ref wa, .int us, .int ob])), (wa, .inl (cI, n, .inl f)), (hz, .inr (0, [.ref wz, .int us2, .int ob2])), (wz, .inl (cI, n, .inl f2))] [(cI, .int)] sz)) (va_Qi (fun (r : Int32) (u : Int32 × Int32 × (Nat → Int32)) => (r, u) = fX0_moveObject ob2 f f2 P U Fd) (atX0_moveObject dC dI cI (va_A [(ha, .inr (0, [.ref wa, .int us, .int ob])), (wa, .inl (cI, n, .inl f)), (hz, .inr (0, [.ref wz, .int us2, .int ob2])), (wz, .inl (cI, n, .inl f2))] sz) ha wa n us ob f hz wz) (va_A [(ha, .inr (0, [.ref wa, .int us, .int ob])), (wa, .inl (cI, n, .inl f)), (hz, .inr (0, [.ref wz, .int us2, .int ob2])), (wz, .inl (cI, n, .inl f2))] sz)) 0 0 (va_A [(ha, .inr (0, [.ref wa, .int us, .int ob])), (wa, .inl (cI, n, .inl f)), (hz, .inr (0, [.ref wz, .int us2, .int ob2])), (wz, .inl (cI, n, .inl f2))] sz) := by
  subst hip
  subst hu
  refine Met.ofW (cc := cX0_moveObject) (maxL := 6) (ret := (some .int)) (by decide) rfl ?_
  intro p e s m args below meth c s₁ B hml hv
  obtain ⟨rfl, hsz, hP, hK, hD0, hE⟩ := hv
  have hx := B.exec
  have hb := B.bytes
  have hr := B.returns
  have ht : ∀ w ∈ gT, w.before ([.ref ha, .int (nI P), .ref hz] : List Value).toArray s = true := fun w h => atoms_spec (ws := kX0_moveObject :: gT) B.pre w (List.mem_cons_of_mem _ h)
  have hown : s.vm.findClass RX0 = some m.cls := findClass_of_methodNamed B.named
  have hlocks := B.notSynchronized
  subst hsz
  have hD := hD0.self (sz := s.heap.size)
  generalize hAe : va_A [(ha, .inr (0, [.ref wa, .int us, .int ob])), (wa, .inl (cI, n, .inl f)), (hz, .inr (0, [.ref wz, .int (nI U), .int ob2])), (wz, .inl (cI, n, .inl f2))] s.heap.size = A at hD ⊢
  have hA : ∀ q : Nat, s.heap.size ≤ q → A q := fun q h => by rw [← hAe]; exact Or.inr h
  have hS : va_S A s.heap s.heap [] := va_S.rf
  have hl := lv_entry ([.ref ha, .int (nI P), .ref hz]) (n := 6) (Nat.le_of_ble_eq_true rfl)
  rw [lg_entry_eq]
  generalize (lg_sl ([.ref ha, .int (nI P), .ref hz]) ++ List.replicate (6 - (lg_sl ([.ref ha, .int (nI P), .ref hz])).length) Slot.unset).toArray = ls at hl ⊢
  have hl : lv_has ls 6 [(0, .ref ha), (1, .int (nI P)), (2, .ref hz)] := hl
  refine lv_aload_n hx hb dX0_moveObject_0 rfl (lv_at hl 2 rfl) ?_
  refine va_get (D := (dC, dI)) (ci := 0) (v := .int (nI U)) (C := RX0) (T := TX0) (N := 3) hx hb ht iX0 hown hK hP 2 rfl rfl 1 (by decide) (ht _ g_26) (fun _ h9 => h9) rfl dX0_moveObject_1 ?_
  refine lv_istore_n (lv' := [(3, .int (nI U)), (0, .ref ha), (1, .int (nI P)), (2, .ref hz)]) hx hb dX0_moveObject_4 rfl hl (by decide) rfl (fun ls hl => ?_)
  refine lv_aload_n hx hb dX0_moveObject_5 rfl (lv_at hl 1 rfl) ?_
  refine lv_iload_n hx hb dX0_moveObject_6 rfl (lv_at hl 2 rfl) ?_
  have hPc := hP.sub (ws' := [(ha, .inr (0, [.ref wa, .int us, .int ob])), (wa, .inl (cI, n, .inl f))]) [0, 1] rfl
  have hKc := hK.sub (tys' := [(cI, .int)]) [0] rfl
  refine vp_callSi (va_runV (As := [.int (nI P)]) (rest := []) ⟨hx, hb, hml, hown, ht⟩ (ctX0_fieldsAt l dC dI cI ha wa n us ob f (nI P) hn) (cwV 1 ht gcX0_26 rfl rfl rfl (by decide +kernel) ⟨Nat.le_of_ble_eq_true rfl, Nat.le_of_ble_eq_true rfl⟩) ⟨pS.blind, va_recv hKc hPc (ci := 0) (q0 := 0) rfl rfl, pS.call hPc hKc hE⟩ rfl rfl hl.1 rfl (lv_room (Nat.le_of_ble_eq_true rfl)) dX0_moveObject_7 ⟨Nat.le_of_ble_eq_true rfl, Nat.le_of_ble_eq_true rfl⟩).run (fun r_1 hr_1 => ?_)
  subst hr_1
  refine lv_istore (lv' := [(4, .int (fX0_fieldsAt n f (nI P))), (3, .int (nI U)), (0, .ref ha), (1, .int (nI P)), (2, .ref hz)]) hx hb dX0_moveObject_10 hl (by decide) rfl (fun ls hl => ?_)
  refine lv_iconst (v := 0) hx hb dX0_moveObject_12 (by decide) ?_
  refine lv_istore (lv' := [(5, .int 0), (4, .int (fX0_fieldsAt n f (nI P))), (3, .int (nI U)), (0, .ref ha), (1, .int (nI P)), (2, .ref hz)]) hx hb dX0_moveObject_13 hl (by decide) rfl (fun ls hl => ?_)
  rw [hF] at hl
  have hU0 : nI U = nI (U + 0) := rfl
  have hloop : ∀ (d : Nat) (j : Nat) (g : Nat → Int32), (hj : j + d = Fd + 1) → (eg : g = va_cpy f f2 P U j) → ∀ (H : Heap) (locs : List Loc) (ls : Array Slot), va_P (dC, dI) vwCl [(ha, .inr (0, [.ref wa, .int us, .int ob])), (wa, .inl (cI, n, .inl f)), (hz, .inr (0, [.ref wz, .int (nI (U + j)), .int ob2])), (wz, .inl (cI, n, .inl g))] H → va_D A [(ha, .inr (0, [.ref wa, .int us, .int ob])), (wa, .inl (cI, n, .inl f)), (hz, .inr (0, [.ref wz, .int (nI (U + j)), .int ob2])), (wz, .inl (cI, n, .inl g))] → va_S A s.heap H locs → lv_has ls 6 [(0, .ref ha), (1, .int (nI P)), (2, .ref hz), (3, .int (nI U)), (4, .int (nI Fd)), (5, .int (nI j))] → W p l e (headSpec (kX0_moveObject :: gT) ({ frames := 2, cells := 0, slots := 0, locals := 43 })).room s m ([.ref ha, .int (nI P), .ref hz] : List Value).toArray below meth c H locs 0 0 (MQ below (va_Qi (fun (r : Int32) (u : Int32 × Int32 × (Nat → Int32)) => (r, u) = fX0_moveObject ob2 f f2 P U Fd) (atX0_moveObject dC dI cI A ha wa n us ob f hz wz) A) ([.ref ha, .int (nI P), .ref hz] : List Value).toArray s 0 0 A) (F0 m 15 ls []) := by
    intro d
    induction d with
    | zero =>
      intro j g hj eg H locs ls hP hD hS hl
      refine lv_iload hx hb dX0_moveObject_15 (lv_at hl 5 rfl) ?_
      refine lv_iload hx hb dX0_moveObject_17 (lv_at hl 4 rfl) ?_
      refine lv_icmp_gt (tgt := 40) hx hb dX0_moveObject_19 (by decide) (fun _ => ?_) (fun h => absurd (nI_lt (by omega) (by omega)) h)
      refine lv_aload_n hx hb dX0_moveObject_40 rfl (lv_at hl 2 rfl) ?_
      refine lv_dup hx hb dX0_moveObject_41 rfl ?_
      refine va_get (D := (dC, dI)) (ci := 0) (v := .int ob2) (C := RX0) (T := TX0) (N := 3) hx hb ht iX0 hown hK hP 2 rfl rfl 2 (by decide) (ht _ g_28) (fun _ h9 => h9) rfl dX0_moveObject_42 ?_
      refine lv_iconst (v := 1) hx hb dX0_moveObject_45 (by decide) ?_
      refine lv_iadd hx hb dX0_moveObject_46 ?_
      refine va_put (D := (dC, dI)) (ci := 0) (v := .int (ob2 + 1)) (ty := .int) (C := RX0) (T := TX0) (N := 3) hx hb ht iX0 tyX0 tkX0 nmX0 hown hK hP hD hS 2 rfl rfl 2 (by decide) (ht _ g_28) (fun _ h9 => h9) rfl (by decide +kernel) rfl rfl (Nat.le_of_ble_eq_true rfl) dX0_moveObject_47 (fun H locs hP hD hS => ?_)
      have hP : va_P (dC, dI) vwCl [(ha, .inr (0, [.ref wa, .int us, .int ob])), (wa, .inl (cI, n, .inl f)), (hz, .inr (0, [.ref wz, .int (nI (U + j)), .int (ob2 + 1)])), (wz, .inl (cI, n, .inl g))] H := hP
      have hD : va_D A [(ha, .inr (0, [.ref wa, .int us, .int ob])), (wa, .inl (cI, n, .inl f)), (hz, .inr (0, [.ref wz, .int (nI (U + j)), .int (ob2 + 1)])), (wz, .inl (cI, n, .inl g))] := hD
      refine lv_iload_n hx hb dX0_moveObject_50 rfl (lv_at hl 3 rfl) ?_
      have hP9 := hP.sub (ws' := [(ha, .inr (0, [.ref wa, .int us, .int ob])), (wa, .inl (cI, n, .inl f)), (hz, .inr (0, [.ref wz, .int (nI (U + j)), .int (ob2 + 1)])), (wz, .inl (cI, n, .inl g))]) [0, 1, 2, 3] rfl
      have hD9 := hD.sub (ws' := [(ha, .inr (0, [.ref wa, .int us, .int ob])), (wa, .inl (cI, n, .inl f)), (hz, .inr (0, [.ref wz, .int (nI (U + j)), .int (ob2 + 1)])), (wz, .inl (cI, n, .inl g))]) [0, 1, 2, 3] (by decide) rfl
      have hK9 := hK.sub (tys' := [(cI, .int)]) [0] rfl
      exact W.iret (v := nI U) hx hb hr (fun t ht hW => ⟨⟨_, (nI (U + j), ob2 + 1, g), rfl, (by have hj1 : j = Fd + 1 := (by omega); subst hj1; subst eg; rfl), by rw [ht]; exact hP9, va_K.moved hW.alike hK9, hD9⟩, hS.F ht⟩) hS.2.2 dX0_moveObject_51
    | succ d ih =>
      intro j g hj eg H locs ls hP hD hS hl
      refine lv_iload hx hb dX0_moveObject_15 (lv_at hl 5 rfl) ?_
      refine lv_iload hx hb dX0_moveObject_17 (lv_at hl 4 rfl) ?_
      refine lv_icmp_gt (tgt := 40) hx hb dX0_moveObject_19 (by decide) (fun h => absurd h (nI_nlt (by omega) (by omega))) (fun _ => ?_)
      refine lv_aload_n hx hb dX0_moveObject_22 rfl (lv_at hl 2 rfl) ?_
      refine lv_aload_n hx hb dX0_moveObject_23 rfl (lv_at hl 0 rfl) ?_
      refine lv_iload_n hx hb dX0_moveObject_24 rfl (lv_at hl 1 rfl) ?_
      refine lv_iload hx hb dX0_moveObject_25 (lv_at hl 5 rfl) ?_
      refine lv_iadd hx hb dX0_moveObject_27 ?_
      have hPc := hP.sub (ws' := [(ha, .inr (0, [.ref wa, .int us, .int ob])), (wa, .inl (cI, n, .inl f))]) [0, 1] rfl
      have hKc := hK.sub (tys' := [(cI, .int)]) [0] rfl
      refine vp_callSi (va_runV (As := [.int ((nI P) + (nI j))]) (rest := [.ref hz]) ⟨hx, hb, hml, hown, ht⟩ (ctX0_wordAt l dC dI cI ha wa n us ob f ((nI P) + (nI j)) hn) (cwV 1 ht gcX0_22 rfl rfl rfl (by decide +kernel) ⟨Nat.le_of_ble_eq_true rfl, Nat.le_of_ble_eq_true rfl⟩) ⟨pS.blind, va_recv hKc hPc (ci := 0) (q0 := 0) rfl rfl, pS.call hPc hKc hE⟩ rfl rfl hl.1 rfl (lv_room (Nat.le_of_ble_eq_true rfl)) dX0_moveObject_28 ⟨Nat.le_of_ble_eq_true rfl, Nat.le_of_ble_eq_true rfl⟩).run (fun r_2 hr_2 => ?_)
      subst hr_2
      have hPc := hP.sub (ws' := [(hz, .inr (0, [.ref wz, .int (nI (U + j)), .int ob2])), (wz, .inl (cI, n, .inl g))]) [2, 3] rfl
      have hKc := hK.sub (tys' := [(cI, .int)]) [0] rfl
      have hDc := hD.sub (ws' := [(hz, .inr (0, [.ref wz, .int (nI (U + j)), .int ob2])), (wz, .inl (cI, n, .inl g))]) [2, 3] (by decide) rfl
      have hFc := va_free (wc := [(hz, .inr (0, [.ref wz, .int (nI (U + j)), .int ob2])), (wz, .inl (cI, n, .inl g))]) hD hS hA [2, 3] rfl
      refine va_callv (va_runV (As := [.int (fX0_wordAt n f ((nI P) + (nI j)))]) (rest := []) ⟨hx, hb, hml, hown, ht⟩ (ctX0_addWord l dC dI cI hz wz n (nI (U + j)) ob2 g (fX0_wordAt n f ((nI P) + (nI j))) _ hn) (cwV 1 ht gcX0_36 rfl rfl rfl (by decide +kernel) ⟨Nat.le_of_ble_eq_true rfl, Nat.le_of_ble_eq_true rfl⟩) ⟨pM.blind, va_recv hKc hPc (ci := 0) (q0 := 0) rfl rfl, pM.call hPc hKc hDc hE⟩ rfl rfl hl.1 rfl (lv_room (Nat.le_of_ble_eq_true rfl)) dX0_moveObject_31 ⟨Nat.le_of_ble_eq_true rfl, Nat.le_of_ble_eq_true rfl⟩) hS (fun q _ h => hFc q h) hFc (fun u_3 t H1 locs ht9 hvm hw hB hz1 hk1 hS => ?_)
      subst hw
      obtain ⟨hP1, hK1, hD1⟩ := hB
      rw [ht9] at hP1
      obtain ⟨hP, hD⟩ := va_join (wr := [(ha, .inr (0, [.ref wa, .int us, .int ob])), (wa, .inl (cI, n, .inl f))]) (w1 := [(hz, .inr (0, [.ref wz, .int ((fX0_addWord n (nI (U + j)) ob2 g (fX0_wordAt n f ((nI P) + (nI j)))).1), .int ((fX0_addWord n (nI (U + j)) ob2 g (fX0_wordAt n f ((nI P) + (nI j)))).2.1)])), (wz, .inl (cI, n, .inl ((fX0_addWord n (nI (U + j)) ob2 g (fX0_wordAt n f ((nI P) + (nI j)))).2.2)))]) hP hD [2, 3] [0, 1] rfl rfl (by decide) (by decide) hk1 hFc hP1 hD1
      generalize H1 = H at hP hS ⊢
      have hP := hP.sub (ws' := [(ha, .inr (0, [.ref wa, .int us, .int ob])), (wa, .inl (cI, n, .inl f)), (hz, .inr (0, [.ref wz, .int ((fX0_addWord n (nI (U + j)) ob2 g (fX0_wordAt n f ((nI P) + (nI j)))).1), .int ((fX0_addWord n (nI (U + j)) ob2 g (fX0_wordAt n f ((nI P) + (nI j)))).2.1)])), (wz, .inl (cI, n, .inl ((fX0_addWord n (nI (U + j)) ob2 g (fX0_wordAt n f ((nI P) + (nI j)))).2.2)))]) [0, 1, 2, 3] rfl
      have hD := hD.sub (ws' := [(ha, .inr (0, [.ref wa, .int us, .int ob])), (wa, .inl (cI, n, .inl f)), (hz, .inr (0, [.ref wz, .int ((fX0_addWord n (nI (U + j)) ob2 g (fX0_wordAt n f ((nI P) + (nI j)))).1), .int ((fX0_addWord n (nI (U + j)) ob2 g (fX0_wordAt n f ((nI P) + (nI j)))).2.1)])), (wz, .inl (cI, n, .inl ((fX0_addWord n (nI (U + j)) ob2 g (fX0_wordAt n f ((nI P) + (nI j)))).2.2)))]) [0, 1, 2, 3] (by decide) rfl
      obtain ⟨x_4, ex_4⟩ : ∃ y : Int32, y = nI j + 1 := ⟨_, rfl⟩
      refine lv_iinc (v := x_4) (lv' := [(5, .int x_4), (0, .ref ha), (1, .int (nI P)), (2, .ref hz), (3, .int (nI U)), (4, .int (nI Fd))]) hx hb dX0_moveObject_34 hl (k := 5) rfl (by rw [ex_4]; rfl) (by decide) rfl (fun ls hl => ?_)
      refine lv_goto (tgt := 15) hx hb dX0_moveObject_37 (by decide) ?_
      have e1 : fX0_addWord n (nI (U + j)) ob2 g (fX0_wordAt n f ((nI P) + (nI j))) = (nI (U + (j + 1)), ob2, va_cpy f f2 P U (j + 1)) := by
        rw [nI_add, waI (by omega) hn, awI (by omega) hn, eg, cpy_s]; rfl
      rw [e1] at hP hD
      rw [ex_4, nI_1] at hl
      exact ih (j + 1) (va_cpy f f2 P U (j + 1)) (by omega) rfl _ _ ls hP hD hS (lv_sub hl [1, 2, 3, 4, 5, 0] rfl)
  exact hloop (Fd + 1) 0 f2 (by omega) (cpy_0 _ _ _ _).symm _ _ ls hP hD hS (lv_sub hl [3, 4, 5, 2, 1, 0] rfl)
def fX0_addObject (ob : Int32) (f : Nat → Int32) (ip : Int32) (U : Nat) (Fd : Nat) : Int32 × Int32 × Int32 × (Nat → Int32) := (nI U, nI (U + Fd + 1), ob + 1, va_cpy (fun _ => 0) (upd f U (nI (2 * Fd) ||| ip)) 0 (U + 1) Fd)
abbrev atX0_addObject (dC : Nat → ClassId) (dI : Nat → Nat → Nat) (cI : ClassId) (A : Nat → Prop) (ha : Nat) (wa : Nat) (n : Nat) (u : Int32 × Int32 × (Nat → Int32)) (t : State) : Prop := va_P (dC, dI) vwCl [(ha, .inr (0, [.ref wa, .int u.1, .int u.2.1])), (wa, .inl (cI, n, .inl u.2.2))] t.heap ∧ va_K (dC, dI) vwCl [(cI, .int)] t ∧ va_D A [(ha, .inr (0, [.ref wa, .int u.1, .int u.2.1])), (wa, .inl (cI, n, .inl u.2.2))]
set_option maxHeartbeats 4000000 in
set_option maxRecDepth 100000 in
theorem ctX0_addObject (l : Launch) (dC : Nat → ClassId) (dI : Nat → Nat → Nat) (cI : ClassId) (ha : Nat) (wa : Nat) (n : Nat) (us : Int32) (ob : Int32) (f : Nat → Int32) (ip : Int32) (iq : Int32) (U : Nat) (Fd : Nat) (sz : Nat) (hn : n < 2 ^ 31) (hiq : iq = nI Fd) (hu : us = nI U) (h2 : U + Fd + 1 ≤ n) (h3 : Fd < 2 ^ 30) : Met l yX0_addObject (kX0_addObject :: gT) ({ frames := 2, cells := 0, slots := 0, locals := 43 }) (va_Pc [.ref ha, .int ip, .int iq] (pM (dC, dI) [(ha, .inr (0, [.ref wa, .int us, .int ob])), (wa, .inl (cI, n, .inl f))] [(cI, .int)] sz)) (va_Qi (fun (r : Int32) (u : Int32 × Int32 × (Nat → Int32)) => (r, u) = fX0_addObject ob f ip U Fd) (atX0_addObject dC dI cI (va_A [(ha, .inr (0, [.ref wa, .int us, .int ob])), (wa, .inl (cI, n, .inl f))] sz) ha wa n) (va_A [(ha, .inr (0, [.ref wa, .int us, .int ob])), (wa, .inl (cI, n, .inl f))] sz)) 0 0 (va_A [(ha, .inr (0, [.ref wa, .int us, .int ob])), (wa, .inl (cI, n, .inl f))] sz) := by
  subst hiq
  subst hu
  refine Met.ofW (cc := cX0_addObject) (maxL := 5) (ret := (some .int)) (by decide) rfl ?_
  intro p e s m args below meth c s₁ B hml hv
  obtain ⟨rfl, hsz, hP, hK, hD0, hE⟩ := hv
  have hx := B.exec
  have hb := B.bytes
  have hr := B.returns
  have ht : ∀ w ∈ gT, w.before ([.ref ha, .int ip, .int (nI Fd)] : List Value).toArray s = true := fun w h => atoms_spec (ws := kX0_addObject :: gT) B.pre w (List.mem_cons_of_mem _ h)
  have hown : s.vm.findClass RX0 = some m.cls := findClass_of_methodNamed B.named
  have hlocks := B.notSynchronized
  subst hsz
  have hD := hD0.self (sz := s.heap.size)
  generalize hAe : va_A [(ha, .inr (0, [.ref wa, .int (nI U), .int ob])), (wa, .inl (cI, n, .inl f))] s.heap.size = A at hD ⊢
  have hA : ∀ q : Nat, s.heap.size ≤ q → A q := fun q h => by rw [← hAe]; exact Or.inr h
  have hS : va_S A s.heap s.heap [] := va_S.rf
  have hl := lv_entry ([.ref ha, .int ip, .int (nI Fd)]) (n := 5) (Nat.le_of_ble_eq_true rfl)
  rw [lg_entry_eq]
  generalize (lg_sl ([.ref ha, .int ip, .int (nI Fd)]) ++ List.replicate (5 - (lg_sl ([.ref ha, .int ip, .int (nI Fd)])).length) Slot.unset).toArray = ls at hl ⊢
  have hl : lv_has ls 5 [(0, .ref ha), (1, .int ip), (2, .int (nI Fd))] := hl
  refine lv_aload_n hx hb dX0_addObject_0 rfl (lv_at hl 0 rfl) ?_
  refine va_get (D := (dC, dI)) (ci := 0) (v := .int (nI U)) (C := RX0) (T := TX0) (N := 3) hx hb ht iX0 hown hK hP 0 rfl rfl 1 (by decide) (ht _ g_26) (fun _ h9 => h9) rfl dX0_addObject_1 ?_
  refine lv_istore_n (lv' := [(3, .int (nI U)), (0, .ref ha), (1, .int ip), (2, .int (nI Fd))]) hx hb dX0_addObject_4 rfl hl (by decide) rfl (fun ls hl => ?_)
  refine lv_aload_n hx hb dX0_addObject_5 rfl (lv_at hl 1 rfl) ?_
  refine lv_iload_n hx hb dX0_addObject_6 rfl (lv_at hl 3 rfl) ?_
  refine lv_iconst (v := 1) hx hb dX0_addObject_7 (by decide) ?_
  refine lv_ishl hx hb dX0_addObject_8 ?_
  refine lv_iload_n hx hb dX0_addObject_9 rfl (lv_at hl 2 rfl) ?_
  refine lv_ior hx hb dX0_addObject_10 ?_
  have hPc := hP.sub (ws' := [(ha, .inr (0, [.ref wa, .int (nI U), .int ob])), (wa, .inl (cI, n, .inl f))]) [0, 1] rfl
  have hKc := hK.sub (tys' := [(cI, .int)]) [0] rfl
  have hDc := hD.sub (ws' := [(ha, .inr (0, [.ref wa, .int (nI U), .int ob])), (wa, .inl (cI, n, .inl f))]) [0, 1] (by decide) rfl
  have hFc := va_free (wc := [(ha, .inr (0, [.ref wa, .int (nI U), .int ob])), (wa, .inl (cI, n, .inl f))]) hD hS hA [0, 1] rfl
  refine va_callv (va_runV (As := [.int (((nI Fd) <<< (1 &&& 31)) ||| ip)]) (rest := []) ⟨hx, hb, hml, hown, ht⟩ (ctX0_addWord l dC dI cI ha wa n (nI U) ob f (((nI Fd) <<< (1 &&& 31)) ||| ip) _ hn) (cwV 1 ht gcX0_36 rfl rfl rfl (by decide +kernel) ⟨Nat.le_of_ble_eq_true rfl, Nat.le_of_ble_eq_true rfl⟩) ⟨pM.blind, va_recv hKc hPc (ci := 0) (q0 := 0) rfl rfl, pM.call hPc hKc hDc hE⟩ rfl rfl hl.1 rfl (lv_room (Nat.le_of_ble_eq_true rfl)) dX0_addObject_11 ⟨Nat.le_of_ble_eq_true rfl, Nat.le_of_ble_eq_true rfl⟩) hS (fun q _ h => hFc q h) hFc (fun u_1 t H1 locs ht9 hvm hw hB hz1 hk1 hS => ?_)
  subst hw
  obtain ⟨hP1, hK1, hD1⟩ := hB
  rw [ht9] at hP1
  obtain ⟨hP, hD⟩ := va_join (wr := []) (w1 := [(ha, .inr (0, [.ref wa, .int ((fX0_addWord n (nI U) ob f (((nI Fd) <<< (1 &&& 31)) ||| ip)).1), .int ((fX0_addWord n (nI U) ob f (((nI Fd) <<< (1 &&& 31)) ||| ip)).2.1)])), (wa, .inl (cI, n, .inl ((fX0_addWord n (nI U) ob f (((nI Fd) <<< (1 &&& 31)) ||| ip)).2.2)))]) hP hD [0, 1] [] rfl rfl (by decide) (by decide) hk1 hFc hP1 hD1
  generalize H1 = H at hP hS ⊢
  have hP := hP.sub (ws' := [(ha, .inr (0, [.ref wa, .int ((fX0_addWord n (nI U) ob f (((nI Fd) <<< (1 &&& 31)) ||| ip)).1), .int ((fX0_addWord n (nI U) ob f (((nI Fd) <<< (1 &&& 31)) ||| ip)).2.1)])), (wa, .inl (cI, n, .inl ((fX0_addWord n (nI U) ob f (((nI Fd) <<< (1 &&& 31)) ||| ip)).2.2)))]) [0, 1] rfl
  have hD := hD.sub (ws' := [(ha, .inr (0, [.ref wa, .int ((fX0_addWord n (nI U) ob f (((nI Fd) <<< (1 &&& 31)) ||| ip)).1), .int ((fX0_addWord n (nI U) ob f (((nI Fd) <<< (1 &&& 31)) ||| ip)).2.1)])), (wa, .inl (cI, n, .inl ((fX0_addWord n (nI U) ob f (((nI Fd) <<< (1 &&& 31)) ||| ip)).2.2)))]) [0, 1] (by decide) rfl
  refine lv_iconst (v := 0) hx hb dX0_addObject_14 (by decide) ?_
  refine lv_istore (lv' := [(4, .int 0), (3, .int (nI U)), (0, .ref ha), (1, .int ip), (2, .int (nI Fd))]) hx hb dX0_addObject_15 hl (by decide) rfl (fun ls hl => ?_)
  have e0 : fX0_addWord n (nI U) ob f ((nI Fd <<< ((1 : Int32) &&& 31)) ||| ip) = (nI (U + 1), ob, upd f U (nI (2 * Fd) ||| ip)) := by
    rw [shl1 h3, awI (by omega) hn]
  rw [e0] at hP hD
  have hloop : ∀ (d : Nat) (j : Nat) (g : Nat → Int32), (hj : j + d = Fd) → (eg : g = va_cpy (fun _ => 0) (upd f U (nI (2 * Fd) ||| ip)) 0 (U + 1) j) → ∀ (H : Heap) (locs : List Loc) (ls : Array Slot), va_P (dC, dI) vwCl [(ha, .inr (0, [.ref wa, .int (nI (U + 1 + j)), .int ob])), (wa, .inl (cI, n, .inl g))] H → va_D A [(ha, .inr (0, [.ref wa, .int (nI (U + 1 + j)), .int ob])), (wa, .inl (cI, n, .inl g))] → va_S A s.heap H locs → lv_has ls 5 [(0, .ref ha), (1, .int ip), (2, .int (nI Fd)), (3, .int (nI U)), (4, .int (nI j))] → W p l e (headSpec (kX0_addObject :: gT) ({ frames := 2, cells := 0, slots := 0, locals := 43 })).room s m ([.ref ha, .int ip, .int (nI Fd)] : List Value).toArray below meth c H locs 0 0 (MQ below (va_Qi (fun (r : Int32) (u : Int32 × Int32 × (Nat → Int32)) => (r, u) = fX0_addObject ob f ip U Fd) (atX0_addObject dC dI cI A ha wa n) A) ([.ref ha, .int ip, .int (nI Fd)] : List Value).toArray s 0 0 A) (F0 m 17 ls []) := by
    intro d
    induction d with
    | zero =>
      intro j g hj eg H locs ls hP hD hS hl
      refine lv_iload hx hb dX0_addObject_17 (lv_at hl 4 rfl) ?_
      refine lv_iload_n hx hb dX0_addObject_19 rfl (lv_at hl 2 rfl) ?_
      refine lv_icmp_ge (tgt := 34) hx hb dX0_addObject_20 (by decide) (fun _ => ?_) (fun h => absurd (nI_le (by omega) (by omega)) h)
      refine lv_aload_n hx hb dX0_addObject_34 rfl (lv_at hl 0 rfl) ?_
      refine lv_dup hx hb dX0_addObject_35 rfl ?_
      refine va_get (D := (dC, dI)) (ci := 0) (v := .int ob) (C := RX0) (T := TX0) (N := 3) hx hb ht iX0 hown hK hP 0 rfl rfl 2 (by decide) (ht _ g_28) (fun _ h9 => h9) rfl dX0_addObject_36 ?_
      refine lv_iconst (v := 1) hx hb dX0_addObject_39 (by decide) ?_
      refine lv_iadd hx hb dX0_addObject_40 ?_
      refine va_put (D := (dC, dI)) (ci := 0) (v := .int (ob + 1)) (ty := .int) (C := RX0) (T := TX0) (N := 3) hx hb ht iX0 tyX0 tkX0 nmX0 hown hK hP hD hS 0 rfl rfl 2 (by decide) (ht _ g_28) (fun _ h9 => h9) rfl (by decide +kernel) rfl rfl (Nat.le_of_ble_eq_true rfl) dX0_addObject_41 (fun H locs hP hD hS => ?_)
      have hP : va_P (dC, dI) vwCl [(ha, .inr (0, [.ref wa, .int (nI (U + 1 + j)), .int (ob + 1)])), (wa, .inl (cI, n, .inl g))] H := hP
      have hD : va_D A [(ha, .inr (0, [.ref wa, .int (nI (U + 1 + j)), .int (ob + 1)])), (wa, .inl (cI, n, .inl g))] := hD
      refine lv_iload_n hx hb dX0_addObject_44 rfl (lv_at hl 3 rfl) ?_
      have hP9 := hP.sub (ws' := [(ha, .inr (0, [.ref wa, .int (nI (U + 1 + j)), .int (ob + 1)])), (wa, .inl (cI, n, .inl g))]) [0, 1] rfl
      have hD9 := hD.sub (ws' := [(ha, .inr (0, [.ref wa, .int (nI (U + 1 + j)), .int (ob + 1)])), (wa, .inl (cI, n, .inl g))]) [0, 1] (by decide) rfl
      have hK9 := hK.sub (tys' := [(cI, .int)]) [0] rfl
      exact W.iret (v := nI U) hx hb hr (fun t ht hW => ⟨⟨_, (nI (U + 1 + j), ob + 1, g), rfl, (by have hj1 : j = Fd := (by omega); subst hj1; subst eg; show (nI U, nI (U + 1 + j), ob + 1, _) = fX0_addObject ob f ip U j; unfold fX0_addObject; rw [show U + 1 + j = U + j + 1 by omega]), by rw [ht]; exact hP9, va_K.moved hW.alike hK9, hD9⟩, hS.F ht⟩) hS.2.2 dX0_addObject_45
    | succ d ih =>
      intro j g hj eg H locs ls hP hD hS hl
      refine lv_iload hx hb dX0_addObject_17 (lv_at hl 4 rfl) ?_
      refine lv_iload_n hx hb dX0_addObject_19 rfl (lv_at hl 2 rfl) ?_
      refine lv_icmp_ge (tgt := 34) hx hb dX0_addObject_20 (by decide) (fun h => absurd h (nI_ge (by omega) (by omega))) (fun _ => ?_)
      refine lv_aload_n hx hb dX0_addObject_23 rfl (lv_at hl 0 rfl) ?_
      refine lv_iconst (v := 0) hx hb dX0_addObject_24 (by decide) ?_
      have hPc := hP.sub (ws' := [(ha, .inr (0, [.ref wa, .int (nI (U + 1 + j)), .int ob])), (wa, .inl (cI, n, .inl g))]) [0, 1] rfl
      have hKc := hK.sub (tys' := [(cI, .int)]) [0] rfl
      have hDc := hD.sub (ws' := [(ha, .inr (0, [.ref wa, .int (nI (U + 1 + j)), .int ob])), (wa, .inl (cI, n, .inl g))]) [0, 1] (by decide) rfl
      have hFc := va_free (wc := [(ha, .inr (0, [.ref wa, .int (nI (U + 1 + j)), .int ob])), (wa, .inl (cI, n, .inl g))]) hD hS hA [0, 1] rfl
      refine va_callv (va_runV (As := [.int 0]) (rest := []) ⟨hx, hb, hml, hown, ht⟩ (ctX0_addWord l dC dI cI ha wa n (nI (U + 1 + j)) ob g 0 _ hn) (cwV 1 ht gcX0_36 rfl rfl rfl (by decide +kernel) ⟨Nat.le_of_ble_eq_true rfl, Nat.le_of_ble_eq_true rfl⟩) ⟨pM.blind, va_recv hKc hPc (ci := 0) (q0 := 0) rfl rfl, pM.call hPc hKc hDc hE⟩ rfl rfl hl.1 rfl (lv_room (Nat.le_of_ble_eq_true rfl)) dX0_addObject_25 ⟨Nat.le_of_ble_eq_true rfl, Nat.le_of_ble_eq_true rfl⟩) hS (fun q _ h => hFc q h) hFc (fun u_2 t H1 locs ht9 hvm hw hB hz1 hk1 hS => ?_)
      subst hw
      obtain ⟨hP1, hK1, hD1⟩ := hB
      rw [ht9] at hP1
      obtain ⟨hP, hD⟩ := va_join (wr := []) (w1 := [(ha, .inr (0, [.ref wa, .int ((fX0_addWord n (nI (U + 1 + j)) ob g 0).1), .int ((fX0_addWord n (nI (U + 1 + j)) ob g 0).2.1)])), (wa, .inl (cI, n, .inl ((fX0_addWord n (nI (U + 1 + j)) ob g 0).2.2)))]) hP hD [0, 1] [] rfl rfl (by decide) (by decide) hk1 hFc hP1 hD1
      generalize H1 = H at hP hS ⊢
      have hP := hP.sub (ws' := [(ha, .inr (0, [.ref wa, .int ((fX0_addWord n (nI (U + 1 + j)) ob g 0).1), .int ((fX0_addWord n (nI (U + 1 + j)) ob g 0).2.1)])), (wa, .inl (cI, n, .inl ((fX0_addWord n (nI (U + 1 + j)) ob g 0).2.2)))]) [0, 1] rfl
      have hD := hD.sub (ws' := [(ha, .inr (0, [.ref wa, .int ((fX0_addWord n (nI (U + 1 + j)) ob g 0).1), .int ((fX0_addWord n (nI (U + 1 + j)) ob g 0).2.1)])), (wa, .inl (cI, n, .inl ((fX0_addWord n (nI (U + 1 + j)) ob g 0).2.2)))]) [0, 1] (by decide) rfl
      obtain ⟨x_3, ex_3⟩ : ∃ y : Int32, y = nI j + 1 := ⟨_, rfl⟩
      refine lv_iinc (v := x_3) (lv' := [(4, .int x_3), (0, .ref ha), (1, .int ip), (2, .int (nI Fd)), (3, .int (nI U))]) hx hb dX0_addObject_28 hl (k := 4) rfl (by rw [ex_3]; rfl) (by decide) rfl (fun ls hl => ?_)
      refine lv_goto (tgt := 17) hx hb dX0_addObject_31 (by decide) ?_
      have e1 : fX0_addWord n (nI (U + 1 + j)) ob g 0 = (nI (U + 1 + (j + 1)), ob, va_cpy (fun _ => 0) (upd f U (nI (2 * Fd) ||| ip)) 0 (U + 1) (j + 1)) := by
        rw [awI (by omega) hn, eg, ← cpy_s]; rfl
      rw [e1] at hP hD
      rw [ex_3, nI_1] at hl
      exact ih (j + 1) (va_cpy (fun _ => 0) (upd f U (nI (2 * Fd) ||| ip)) 0 (U + 1) (j + 1)) (by omega) rfl _ _ ls hP hD hS (lv_sub hl [1, 2, 3, 4, 0] rfl)
  exact hloop Fd 0 (upd f U (nI (2 * Fd) ||| ip)) (by omega) (cpy_0 _ _ _ _).symm _ _ ls hP hD hS (lv_sub hl [2, 3, 4, 1, 0] rfl)
end
