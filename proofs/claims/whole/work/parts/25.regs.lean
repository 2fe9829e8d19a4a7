/-! the registers' part of a collection -/
def rgOK (u : Nat) (so rs rg : Nat → Int32) : Prop := ∀ r, r < 8 → (rs r = 2 ∧ ∃ p, p < u ∧ so p = 0 ∧ rg r = nI (2 * p + 1)) ∨ (¬ rs r = 2 ∧ rg r &&& 1 = 0)
def rgI (f rs rg h : Nat → Int32) (r : Nat) (L : List Nat) : Prop :=
  (∀ k, k < r → h k = if rs k = 2 then nI (2 * tgt f L (plc (rg k)) + 1) else rg k) ∧ (∀ k, r ≤ k → h k = rg k) ∧ (∀ k, k < r → rs k = 2 → plc (rg k) ∈ L)
theorem fwd_nil (f : Nat → Int32) : f = fwdW f [] := by
  funext k; unfold fwdW; rw [if_neg List.not_mem_nil]
theorem scI_nil {u n : Nat} {f so g : Nat → Int32} (h : hWf u n f so) : scI u n f so [] 0 g :=
  ⟨⟨h, List.nodup_nil, fun p hp => absurd hp List.not_mem_nil⟩, Nat.le_refl _, fun k hk => absurd hk (Nat.not_lt_zero k), fun k hk => absurd hk (Nat.not_lt_zero k)⟩
theorem scI.keep0 {u n : Nat} {f so : Nat → Int32} {L : List Nat} {g : Nat → Int32} (h : scI u n f so L 0 g) {q : Nat} (hq : q < u) (sq : so q = 0) :
    scI u n f so (kpL L q) 0 (if q ∈ L then g else va_cpy (fwdW f L) g q (tot f L) (oF f q + 1)) := by
  obtain ⟨h1, h2, h3, h4⟩ := h
  refine ⟨h1.kp hq sq, Nat.zero_le _, ?_, fun k hk => absurd hk (Nat.not_lt_zero k)⟩
  intro k hk
  rw [if_neg (Nat.not_lt_zero k)]
  obtain ⟨M, hM⟩ := kpL_ext L q
  by_cases ek : k < tot f L
  · have eg : (if q ∈ L then g else va_cpy (fwdW f L) g q (tot f L) (oF f q + 1)) k = g k := by
      by_cases eq : q ∈ L
      · rw [if_pos eq]
      · rw [if_neg eq, pk_cpy_out (by omega)]
    rw [eg, h3 k ek, if_neg (Nat.not_lt_zero k), hM, rawV_app h1.2.1 ek]
  · have eq : q ∉ L := fun eq => ek (by unfold kpL at hk; rw [if_pos eq] at hk; exact hk)
    have eL : kpL L q = L ++ [q] := by unfold kpL; rw [if_neg eq]
    rw [eL, tot_snoc] at hk
    rw [if_neg eq, pk_cpy_in (by omega) (by omega)]
    have ej : k - tot f L ≤ oF f q := by omega
    have el : lcp f (L ++ [q]) k = (q, k - tot f L) := by
      have := lcp_tgt (f := f) (L := L ++ [q]) (p := q) (j := k - tot f L) (List.mem_append_right _ List.mem_cons_self) ej
      rw [tgt_snoc eq] at this
      rw [← this]; congr 1; omega
    unfold rawV
    rw [eL, el]
    show fwdW f L (q + (k - tot f L)) = f (q + (k - tot f L))
    unfold fwdW
    rw [if_neg]
    intro hm
    by_cases e0 : k - tot f L = 0
    · rw [e0] at hm; exact eq hm
    · have hh := (h1.1.2.2.2.1 q hq sq).2.2.2.1 (k - tot f L) (by omega) ej
      rw [(h1.2.2 _ hm).2] at hh
      rcases hh with ⟨-, hh⟩ | ⟨-, hh | hh⟩ <;> exact absurd hh (by decide)
theorem rgI_0 (f rs rg : Nat → Int32) (L : List Nat) : rgI f rs rg rg 0 L := ⟨fun k hk => absurd hk (Nat.not_lt_zero k), fun _ _ => rfl, fun k hk => absurd hk (Nat.not_lt_zero k)⟩
theorem rgI.ext {f rs rg h : Nat → Int32} {r : Nat} {L M : List Nat} (hI : rgI f rs rg h r L) : rgI f rs rg h r (L ++ M) := by
  refine ⟨fun k hk => ?_, hI.2.1, fun k hk e => List.mem_append_left _ (hI.2.2 k hk e)⟩
  rw [hI.1 k hk]
  by_cases e : rs k = 2
  · rw [if_pos e, if_pos e, tgt_app (hI.2.2 k hk e)]
  · rw [if_neg e, if_neg e]
theorem rgI.num {f rs rg h : Nat → Int32} {r : Nat} {L : List Nat} (hI : rgI f rs rg h r L) (e : ¬ rs r = 2) : rgI f rs rg h (r + 1) L := by
  refine ⟨fun k hk => ?_, fun k hk => hI.2.1 k (by omega), fun k hk e2 => ?_⟩
  · by_cases ek : k = r
    · rw [ek, if_neg e]; exact hI.2.1 r (Nat.le_refl _)
    · exact hI.1 k (by omega)
  · by_cases ek : k = r
    · rw [ek] at e2; exact absurd e2 e
    · exact hI.2.2 k (by omega) e2
theorem rgI.ref {f rs rg h : Nat → Int32} {r q : Nat} {L : List Nat} (hI : rgI f rs rg h r L) (e : rs r = 2) (hq : plc (rg r) = q) : rgI f rs rg (upd h r (nI (2 * tgt f (kpL L q) q + 1))) (r + 1) (kpL L q) := by
  obtain ⟨M, hM⟩ := kpL_ext L q
  have h2 : rgI f rs rg h r (kpL L q) := by rw [hM]; exact hI.ext
  refine ⟨fun k hk => ?_, fun k hk => ?_, fun k hk e2 => ?_⟩
  · by_cases ek : k = r
    · rw [ek, pk_us, if_pos e, hq]
    · rw [pk_un ek]; exact h2.1 k (by omega)
  · rw [pk_un (by omega)]; exact hI.2.1 k (by omega)
  · by_cases ek : k = r
    · rw [ek, hq]; exact mem_kpL L q
    · exact h2.2.2 k (by omega) e2
theorem regL_ref {rs rg : Nat → Int32} {r q : Nat} (e : rs r = 2) (hq : plc (rg r) = q) : regL rs rg (r + 1) = kpL (regL rs rg r) q := by
  simp only [regL]; rw [if_pos e, hq]
theorem regL_num {rs rg : Nat → Int32} {r : Nat} (e : ¬ rs r = 2) : regL rs rg (r + 1) = regL rs rg r := by
  simp only [regL]; rw [if_neg e]
theorem stp_ext (f so : Nat → Int32) (L : List Nat) (i : Nat) : ∃ M, stpL f so L i = L ++ M := by
  unfold stpL
  by_cases e : (lcp f L i).2 ≠ 0 ∧ so ((lcp f L i).1 + (lcp f L i).2) = 2
  · rw [if_pos e]; exact kpL_ext _ _
  · exact ⟨[], by rw [if_neg e, List.append_nil]⟩
theorem scn_ext (f so : Nat → Int32) : ∀ (d : Nat) (L : List Nat) (i : Nat), ∃ M, scnL f so d L i = L ++ M := by
  intro d
  induction d with
  | zero => intro L i; exact ⟨[], by simp [scnL]⟩
  | succ d ih =>
    intro L i
    by_cases e : i < tot f L
    · obtain ⟨M1, h1⟩ := stp_ext f so L i
      obtain ⟨M2, h2⟩ := ih (stpL f so L i) (i + 1)
      exact ⟨M1 ++ M2, by rw [scn_s e, h2, h1, List.append_assoc]⟩
    · exact ⟨[], by rw [scn_e e, List.append_nil]⟩
/-- the list of what a collection keeps -/
def allL (u : Nat) (f so rs rg : Nat → Int32) : List Nat := scnL f so (u + 1) (regL rs rg 8) 0
