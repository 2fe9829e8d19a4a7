/-! the scan of the new half: its invariant, step by step -/
def rawV (f : Nat → Int32) (L : List Nat) (k : Nat) : Int32 := f ((lcp f L k).1 + (lcp f L k).2)
def fwV (f so : Nat → Int32) (L : List Nat) (k : Nat) : Int32 := if (lcp f L k).2 ≠ 0 ∧ so ((lcp f L k).1 + (lcp f L k).2) = 2 then nI (2 * tgt f L (plc (rawV f L k)) + 1) else rawV f L k
def scI (u n : Nat) (f so : Nat → Int32) (L : List Nat) (i : Nat) (g : Nat → Int32) : Prop :=
  CL u n f so L ∧ i ≤ tot f L ∧ (∀ k, k < tot f L → g k = if k < i then fwV f so L k else rawV f L k) ∧
  (∀ k, k < i → (lcp f L k).2 ≠ 0 → so ((lcp f L k).1 + (lcp f L k).2) = 2 → plc (rawV f L k) ∈ L)
def bdI (f : Nat → Int32) (L : List Nat) (i nf kd : Nat) : Prop :=
  (nf = i ∧ (i = 0 ∨ ∃ p, p ∈ L ∧ i = tgt f L p + oF f p + 1)) ∨
  (∃ p, p ∈ L ∧ tgt f L p < i ∧ i ≤ tgt f L p + oF f p ∧ nf = tgt f L p + oF f p + 1 ∧ kd = oK f p)
theorem bd0 {f : Nat → Int32} {L : List Nat} {i : Nat} (hN : L.Nodup) (hi : i < tot f L) (h : i = 0 ∨ ∃ p, p ∈ L ∧ i = tgt f L p + oF f p + 1) : (lcp f L i).2 = 0 := by
  obtain ⟨h1, h2, h3⟩ := lcp_spec hN hi
  rcases h with h | ⟨p, hp, h⟩
  · omega
  · by_cases e : (lcp f L i).2 = 0
    · exact e
    · exfalso
      have a := lcp_tgt (f := f) (L := L) (p := p) (j := oF f p) hp (Nat.le_refl _)
      have b := lcp_tgt (f := f) (L := L) (p := (lcp f L i).1) (j := (lcp f L i).2 - 1) h1 (by omega)
      have c : tgt f L (lcp f L i).1 + ((lcp f L i).2 - 1) = tgt f L p + oF f p := by omega
      rw [c, a] at b
      have d1 := congrArg Prod.fst b
      have d2 := congrArg Prod.snd b
      simp only at d1 d2
      rw [← d1] at h2
      omega
theorem fwV_app {f so : Nat → Int32} {L M : List Nat} {k : Nat} (hN : L.Nodup) (hk : k < tot f L) (hr : (lcp f L k).2 ≠ 0 → so ((lcp f L k).1 + (lcp f L k).2) = 2 → plc (rawV f L k) ∈ L) : fwV f so (L ++ M) k = fwV f so L k := by
  unfold fwV rawV
  rw [lcp_app hN hk]
  by_cases e : (lcp f L k).2 ≠ 0 ∧ so ((lcp f L k).1 + (lcp f L k).2) = 2
  · have hr9 := hr e.1 e.2
    unfold rawV at hr9
    rw [if_pos e, if_pos e, tgt_app hr9]
  · rw [if_neg e, if_neg e]
theorem rawV_app {f : Nat → Int32} {L M : List Nat} {k : Nat} (hN : L.Nodup) (hk : k < tot f L) : rawV f (L ++ M) k = rawV f L k := by
  unfold rawV; rw [lcp_app hN hk]
/-- a place whose word stays as it is -/
theorem scI.stay {u n : Nat} {f so : Nat → Int32} {L : List Nat} {i : Nat} {g : Nat → Int32} (h : scI u n f so L i g) (hi : i < tot f L) (hs : ¬ ((lcp f L i).2 ≠ 0 ∧ so ((lcp f L i).1 + (lcp f L i).2) = 2)) : scI u n f so L (i + 1) g ∧ stpL f so L i = L ∧ g i = rawV f L i := by
  obtain ⟨h1, h2, h3, h4⟩ := h
  have e : g i = rawV f L i := by rw [h3 i hi, if_neg (Nat.lt_irrefl i)]
  refine ⟨⟨h1, hi, ?_, ?_⟩, ?_, e⟩
  · intro k hk
    by_cases e1 : k = i
    · rw [e1, if_pos (Nat.lt_succ_self i), e]; unfold fwV; rw [if_neg hs]
    · rw [h3 k hk]
      by_cases e2 : k < i
      · rw [if_pos e2, if_pos (by omega)]
      · rw [if_neg e2, if_neg (by omega)]
  · intro k hk a b
    by_cases e1 : k = i
    · rw [e1] at a b; exact absurd ⟨a, b⟩ hs
    · exact h4 k (by omega) a b
  · unfold stpL; rw [if_neg hs]
/-- a place whose word refers to q -/
theorem scI.move {u n : Nat} {f so : Nat → Int32} {L : List Nat} {i : Nat} {g : Nat → Int32} (h : scI u n f so L i g) (hi : i < tot f L) (ha : (lcp f L i).2 ≠ 0) (hs : so ((lcp f L i).1 + (lcp f L i).2) = 2) {q : Nat} (hq : q < u) (sq : so q = 0) (ev : rawV f L i = nI (2 * q + 1)) :
    stpL f so L i = kpL L q ∧ scI u n f so (kpL L q) (i + 1) (upd (if q ∈ L then g else va_cpy (fwdW f L) g q (tot f L) (oF f q + 1)) i (nI (2 * tgt f (kpL L q) q + 1))) := by
  obtain ⟨h1, h2, h3, h4⟩ := h
  have hb := h1.bd
  have hpl : plc (rawV f L i) = q := by rw [ev]; exact plcO (by omega)
  have est : stpL f so L i = kpL L q := by
    unfold stpL; rw [if_pos ⟨ha, hs⟩]; show kpL L (plc (rawV f L i)) = _; rw [hpl]
  refine ⟨est, h1.kp hq sq, ?_, ?_, ?_⟩
  · obtain ⟨M, hM⟩ := kpL_ext L q
    rw [hM, tot_app]; omega
  · intro k hk
    obtain ⟨M, hM⟩ := kpL_ext L q
    by_cases e1 : k = i
    · rw [e1, pk_us, if_pos (Nat.lt_succ_self i)]
      unfold fwV
      rw [hM, rawV_app h1.2.1 hi, lcp_app h1.2.1 hi, if_pos ⟨ha, hs⟩, hpl]
    · rw [pk_un e1]
      by_cases ek : k < tot f L
      · have eg : (if q ∈ L then g else va_cpy (fwdW f L) g q (tot f L) (oF f q + 1)) k = g k := by
          by_cases eq : q ∈ L
          · rw [if_pos eq]
          · rw [if_neg eq, pk_cpy_out (by omega)]
        rw [eg, h3 k ek, hM]
        by_cases e2 : k < i
        · rw [if_pos e2, if_pos (by omega), fwV_app h1.2.1 ek (h4 k e2)]
        · rw [if_neg e2, if_neg (by omega), rawV_app h1.2.1 ek]
      · have eq : q ∉ L := fun eq => ek (by unfold kpL at hk; rw [if_pos eq] at hk; exact hk)
        have eL : kpL L q = L ++ [q] := by unfold kpL; rw [if_neg eq]
        rw [eL, tot_snoc] at hk
        rw [if_neg eq, if_neg (by omega), pk_cpy_in (by omega) (by omega)]
        have ej : k - tot f L ≤ oF f q := by omega
        have el : lcp f (L ++ [q]) k = (q, k - tot f L) := by
          have := lcp_tgt (f := f) (L := L ++ [q]) (p := q) (j := k - tot f L) (List.mem_append_right _ List.mem_cons_self) ej
          rw [tgt_snoc eq] at this
          rw [← this]; congr 1; omega
        unfold rawV
        rw [eL, el]
        show fwdW f L (q + (k - tot f L)) = f (q + (k - tot f L))
        unfold fwdW
        rw [if_neg]
        intro hm
        by_cases e0 : k - tot f L = 0
        · rw [e0] at hm; exact eq hm
        · have hh := (h1.1.2.2.2.1 q hq sq).2.2.2.1 (k - tot f L) (by omega) ej
          rw [(h1.2.2 _ hm).2] at hh
          rcases hh with ⟨-, hh⟩ | ⟨-, hh | hh⟩ <;> exact absurd hh (by decide)
  · intro k hk a b
    obtain ⟨M, hM⟩ := kpL_ext L q
    have ek : k < tot f L := by omega
    rw [hM, lcp_app h1.2.1 ek] at a b
    rw [hM, rawV_app h1.2.1 ek, ← hM]
    by_cases e1 : k = i
    · rw [e1, hpl]; exact mem_kpL L q
    · rw [hM]; exact List.mem_append_left _ (h4 k (by omega) a b)
theorem bdI.app {f : Nat → Int32} {L M : List Nat} {i nf kd : Nat} (h : bdI f L i nf kd) : bdI f (L ++ M) i nf kd := by
  rcases h with ⟨h1, h2 | ⟨p, hp, h2⟩⟩ | ⟨p, hp, h1, h2, h3, h4⟩
  · exact Or.inl ⟨h1, Or.inl h2⟩
  · exact Or.inl ⟨h1, Or.inr ⟨p, List.mem_append_left _ hp, by rw [tgt_app hp]; exact h2⟩⟩
  · exact Or.inr ⟨p, List.mem_append_left _ hp, by rw [tgt_app hp]; exact h1, by rw [tgt_app hp]; exact h2, by rw [tgt_app hp]; exact h3, h4⟩
/-- at an object's first word -/
theorem bdI.first {u n : Nat} {f so : Nat → Int32} {L : List Nat} {i nf kd : Nat} {g : Nat → Int32} (h : scI u n f so L i g) (hb : bdI f L i nf kd) (hi : i < tot f L) (e : nf = i) :
    ∃ p, p ∈ L ∧ lcp f L i = (p, 0) ∧ g i = f p ∧ bdI f L (i + 1) (i + 1 + oF f p) (oK f p) := by
  have hz : (lcp f L i).2 = 0 := by
    rcases hb with ⟨-, h2⟩ | ⟨p, hp, h1, h2, h3, -⟩
    · exact bd0 h.1.2.1 hi h2
    · omega
  obtain ⟨h1, h2, h3⟩ := lcp_spec h.1.2.1 hi
  have hl : lcp f L i = ((lcp f L i).1, 0) := by rw [← hz]
  refine ⟨(lcp f L i).1, h1, hl, ?_, ?_⟩
  · have := (h.stay hi (fun q => q.1 hz)).2.2
    rw [this]; unfold rawV; rw [hz]; rfl
  · rw [hz] at h3
    by_cases e0 : oF f (lcp f L i).1 = 0
    · left; rw [e0]; exact ⟨rfl, Or.inr ⟨_, h1, by rw [e0]; omega⟩⟩
    · right; exact ⟨_, h1, by omega, by omega, by omega, rfl⟩
/-- inside an object -/
theorem bdI.inside {u n : Nat} {f so : Nat → Int32} {L : List Nat} {i nf kd : Nat} {g : Nat → Int32} (h : scI u n f so L i g) (hb : bdI f L i nf kd) (hi : i < tot f L) (e : nf ≠ i) :
    ∃ p j, p ∈ L ∧ lcp f L i = (p, j) ∧ j ≠ 0 ∧ j ≤ oF f p ∧ kd = oK f p ∧ bdI f L (i + 1) nf kd := by
  rcases hb with ⟨h1, -⟩ | ⟨p, hp, h1, h2, h3, h4⟩
  · exact absurd h1 e
  · refine ⟨p, i - tgt f L p, hp, ?_, by omega, by omega, h4, ?_⟩
    · have := lcp_tgt (f := f) (L := L) (p := p) (j := i - tgt f L p) hp (by omega)
      rw [← this]; congr 1; omega
    · by_cases e2 : i + 1 ≤ tgt f L p + oF f p
      · right; exact ⟨p, hp, by omega, e2, h3, h4⟩
      · left; exact ⟨by omega, Or.inr ⟨p, hp, by omega⟩⟩
/-- a field's word by its sort -/
theorem CL.field {u n : Nat} {f so : Nat → Int32} {L : List Nat} (h : CL u n f so L) {p j : Nat} (hp : p ∈ L) (h0 : j ≠ 0) (hj : j ≤ oF f p) :
    (oK f p = 1 ∧ so (p + j) = 3) ∨ (oK f p = 0 ∧ so (p + j) = 1 ∧ f (p + j) &&& 1 = 0) ∨ (oK f p = 0 ∧ so (p + j) = 2 ∧ ∃ q, q < u ∧ so q = 0 ∧ f (p + j) = nI (2 * q + 1)) := by
  obtain ⟨pu, ps⟩ := h.2.2 p hp
  have hh := h.1.2.2.2.1 p pu ps
  rcases hh.2.2.2.1 j (by omega) hj with ⟨a, b⟩ | ⟨a, b | b⟩
  · exact Or.inl ⟨a, b⟩
  · exact Or.inr (Or.inl ⟨a, b, h.1.2.2.2.2.2 (p + j) (by omega) b⟩)
  · exact Or.inr (Or.inr ⟨a, b, h.1.2.2.2.2.1 (p + j) (by omega) b⟩)
theorem scn_s {f so : Nat → Int32} {d : Nat} {L : List Nat} {i : Nat} (h : i < tot f L) : scnL f so (d + 1) L i = scnL f so d (stpL f so L i) (i + 1) := by
  simp only [scnL]; rw [if_pos h]
theorem scn_e {f so : Nat → Int32} {d : Nat} {L : List Nat} {i : Nat} (h : ¬ i < tot f L) : scnL f so d L i = L := by
  cases d with
  | zero => rfl
  | succ d => simp only [scnL]; rw [if_neg h]
