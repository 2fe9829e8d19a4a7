/-! for the model's gather: lists by their places; closedness -/
theorem take_tot {f : Nat → Int32} {L : List Nat} (hN : L.Nodup) : ∀ {i : Nat}, i < L.length → L.getD i 0 ∈ L ∧ tgt f L (L.getD i 0) = tot f (L.take i) ∧ tot f (L.take (i + 1)) = tot f (L.take i) + oF f (L.getD i 0) + 1 := by
  induction L with
  | nil => intro i h; simp at h
  | cons a L ih =>
    obtain ⟨ha, hN⟩ := List.nodup_cons.mp hN
    intro i h
    cases i with
    | zero => simp [tgt, tot]
    | succ i =>
      have h1 := ih hN (i := i) (by simpa using h)
      have e : (a :: L).getD (i + 1) 0 = L.getD i 0 := by simp
      rw [e]
      refine ⟨List.mem_cons_of_mem _ h1.1, ?_, ?_⟩
      · have e2 : ¬ a = L.getD i 0 := fun e2 => ha (by rw [e2]; exact h1.1)
        simp only [tgt, List.take_succ_cons, tot]
        rw [if_neg e2, h1.2.1]
      · simp only [List.take_succ_cons, tot]
        have := h1.2.2
        omega
theorem take_le {f : Nat → Int32} (L : List Nat) (i : Nat) : tot f (L.take i) ≤ tot f L := by
  have := tot_app f (L.take i) (L.drop i)
  rw [List.take_append_drop] at this
  omega
theorem take_ext {L M : List Nat} {i : Nat} (h : i < L.length) : i < (L ++ M).length ∧ (L ++ M).getD i 0 = L.getD i 0 ∧ (L ++ M).take i = L.take i := by
  refine ⟨by rw [List.length_append]; omega, ?_, ?_⟩
  · simp [List.getD_eq_getElem?_getD, List.getElem?_append_left h]
  · exact List.take_append_of_le_length (by omega)
/-- what lies at a place of the new half, for the model -/
def srcA (f : Nat → Int32) (L : List Nat) (k : Nat) : Nat := (lcp f L k).1 + (lcp f L k).2
def mvV (f so va : Nat → Int32) (L : List Nat) (k : Nat) : Int32 := if so (srcA f L k) = 2 then nI (tgt f L (plc (f (srcA f L k)))) else va (srcA f L k)
def clI (f so : Nat → Int32) (L : List Nat) (i : Nat) : Prop := ∀ k, k < i → so (srcA f L k) = 2 → plc (f (srcA f L k)) ∈ L
theorem CL.src {u n : Nat} {f so : Nat → Int32} {L : List Nat} (h : CL u n f so L) {k : Nat} (hk : k < tot f L) : srcA f L k < u ∧ (so (srcA f L k) = 2 → (lcp f L k).2 ≠ 0 ∧ ∃ q, q < u ∧ so q = 0 ∧ f (srcA f L k) = nI (2 * q + 1) ∧ plc (f (srcA f L k)) = q) := by
  obtain ⟨h1, h2, h3⟩ := lcp_spec h.2.1 hk
  obtain ⟨pu, ps⟩ := h.2.2 _ h1
  have hh := h.1.2.2.2.1 _ pu ps
  have hb := h.bd
  have hu : srcA f L k < u := by unfold srcA; omega
  refine ⟨hu, fun e => ⟨fun e0 => ?_, ?_⟩⟩
  · unfold srcA at e; rw [e0, Nat.add_zero, ps] at e; exact absurd e (by decide)
  · obtain ⟨q, q1, q2, q3⟩ := h.1.2.2.2.2.1 _ hu e
    exact ⟨q, q1, q2, q3, by rw [q3]; exact plcO (by omega)⟩
theorem stp_src {f so : Nat → Int32} {L : List Nat} {i : Nat} : stpL f so L i = if (lcp f L i).2 ≠ 0 ∧ so (srcA f L i) = 2 then kpL L (plc (f (srcA f L i))) else L := rfl
theorem CL.stp {u n : Nat} {f so : Nat → Int32} {L : List Nat} (h : CL u n f so L) {i : Nat} (hi : i < tot f L) (hc : clI f so L i) : CL u n f so (stpL f so L i) ∧ clI f so (stpL f so L i) (i + 1) ∧ i + 1 ≤ tot f (stpL f so L i) := by
  obtain ⟨M, hM⟩ := stp_ext f so L i
  have hsrc : ∀ k, k < tot f L → srcA f (stpL f so L i) k = srcA f L k := fun k hk => by unfold srcA; rw [hM, lcp_app h.2.1 hk]
  refine ⟨?_, ?_, by rw [hM, tot_app]; omega⟩
  · rw [stp_src]
    by_cases e : (lcp f L i).2 ≠ 0 ∧ so (srcA f L i) = 2
    · rw [if_pos e]
      obtain ⟨-, q, q1, q2, q3, q4⟩ := (h.src hi).2 e.2
      rw [q4]; exact h.kp q1 q2
    · rw [if_neg e]; exact h
  · intro k hk e
    rw [hsrc k (by omega)] at e ⊢
    by_cases ek : k = i
    · subst ek
      have h2 := (h.src hi).2 e
      rw [stp_src, if_pos ⟨h2.1, e⟩]
      exact mem_kpL _ _
    · rw [hM]; exact List.mem_append_left _ (hc k (by omega) e)
theorem scn_cl {u n : Nat} {f so : Nat → Int32} : ∀ (d : Nat) (L : List Nat) (i : Nat), CL u n f so L → i ≤ tot f L → clI f so L i → u + 1 ≤ i + d → CL u n f so (scnL f so d L i) ∧ clI f so (scnL f so d L i) (tot f (scnL f so d L i)) := by
  intro d
  induction d with
  | zero => intro L i h h1 h2 h3; have := h.bd; omega
  | succ d ih =>
    intro L i h h1 h2 h3
    by_cases e : i < tot f L
    · rw [scn_s e]
      have h4 := h.stp e h2
      exact ih _ _ h4.1 h4.2.2 h4.2.1 (by omega)
    · rw [scn_e e]
      have e2 : i = tot f L := by omega
      rw [← e2]; exact ⟨h, h2⟩
theorem regCL {u n : Nat} {f so rs rg : Nat → Int32} (h : hWf u n f so) (hr : rgOK u so rs rg) : ∀ r, r ≤ 8 → CL u n f so (regL rs rg r) := by
  intro r
  induction r with
  | zero => intro _; exact (scI_nil (g := f) h).1
  | succ r ih =>
    intro h8
    have hb := h.2.1
    have hb2 := h.1
    rcases hr r (by omega) with ⟨q1, q5, q6, q7, q8⟩ | ⟨q1, -⟩
    · have hpl : plc (rg r) = q5 := by rw [q8]; exact plcO (by omega)
      rw [regL_ref q1 hpl]
      exact (ih (by omega)).kp q6 q7
    · rw [regL_num q1]; exact ih (by omega)
theorem allCL {u n : Nat} {f so rs rg : Nat → Int32} (h : hWf u n f so) (hr : rgOK u so rs rg) : CL u n f so (allL u f so rs rg) ∧ clI f so (allL u f so rs rg) (tot f (allL u f so rs rg)) :=
  scn_cl (u + 1) _ 0 (regCL h hr 8 (Nat.le_refl _)) (Nat.zero_le _) (fun k hk => absurd hk (Nat.not_lt_zero k)) (by omega)
theorem reg_in {rs rg : Nat → Int32} : ∀ (r k : Nat), k < r → rs k = 2 → plc (rg k) ∈ regL rs rg r := by
  intro r
  induction r with
  | zero => intro k hk; omega
  | succ r ih =>
    intro k hk e
    simp only [regL]
    by_cases ek : k = r
    · subst ek; rw [if_pos e]; exact mem_kpL _ _
    · by_cases er : rs r = 2
      · rw [if_pos er]
        obtain ⟨M, hM⟩ := kpL_ext (regL rs rg r) (plc (rg r))
        rw [hM]; exact List.mem_append_left _ (ih k (by omega) e)
      · rw [if_neg er]; exact ih k (by omega) e
theorem all_in {u : Nat} {f so rs rg : Nat → Int32} {k : Nat} (hk : k < 8) (e : rs k = 2) : plc (rg k) ∈ allL u f so rs rg := by
  unfold allL
  obtain ⟨M, hM⟩ := scn_ext f so (u + 1) (regL rs rg 8) 0
  rw [hM]; exact List.mem_append_left _ (reg_in 8 k hk e)
theorem lcp_take {f : Nat → Int32} {L : List Nat} (hN : L.Nodup) {i k : Nat} (hi : i < L.length) (hk : k ≤ oF f (L.getD i 0)) : lcp f L (tot f (L.take i) + k) = (L.getD i 0, k) := by
  obtain ⟨h1, h2, h3⟩ := take_tot (f := f) hN hi
  rw [← h2]; exact lcp_tgt h1 hk
