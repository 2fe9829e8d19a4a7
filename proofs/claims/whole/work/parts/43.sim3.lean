/-! about, look, count -/
def SimR (cd : Nat → Int32) (n : Nat) (x : St9) (z : Nat × Int32 × Unit) (m : Int32 × St13) : Prop := m.2.1 = (if z.1 = 0 then 0 else cd z.1) ∧ (z.1 = 0 → z.2.1 = m.1) ∧ CplT n x m.2
theorem rng4 (K : Nat) (x : Int32) (hK : K < 2 ^ 31) : (∃ j, j ≤ K ∧ x = nI j) ∨ ((x < 0 ∨ ¬ x ≤ nI K) ∧ ∀ j, j ≤ K → ¬ x = nI j) := by
  by_cases h0 : x < 0
  · exact Or.inr ⟨Or.inl h0, fun j hj e => by rw [e] at h0; exact nI_pos (by omega) h0⟩
  · by_cases h1 : x ≤ nI K
    · obtain ⟨j, hj, e⟩ := nI_of2 (nI_toInt hK) h0 h1
      exact Or.inl ⟨j, hj, e⟩
    · exact Or.inr ⟨Or.inr h1, fun j hj e => h1 (by rw [e]; exact nI_le hj hK)⟩
theorem sm_about {n u : Nat} {rg f f2 : Nat → Int32} {us ob us2 ob2 col mov th mus mcol mmov sty : Int32} {so va rs rv ns nv st go : Nat → Int32} {ip iq : Int32} (h : Cpl n u rg f us ob col mov mus mcol mmov so va rs rv) :
    SimR (fun k => if k = 1 then 1 else 2) n (rg, us, ob, f, us2, ob2, f2, col, mov) (fX1_about n rg f ip iq) (fX2_about th mus mcol mmov so va ns nv rs rv sty st go ip iq) := by
  have hl := h.lt
  unfold fX1_about fX2_about
  by_cases hr : fX2_isRegister ip = 0
  · have h1 : ¬ (fX1_requireRegister ip).1 = 0 := fun q => rr_is.mp q hr
    rw [if_neg h1, if_pos hr, rr1 h1]
    exact ⟨rfl, fun q => absurd (show (1 : Nat) = 0 from q) (by decide), u, h⟩
  rw [if_pos (rr_is.mpr hr), if_neg hr]
  rcases rng4 3 iq (by decide) with ⟨j, hj, e⟩ | ⟨h1, h2⟩
  · rw [if_neg (show ¬ iq < 0 by rw [e]; exact nI_pos (by omega)), if_pos (show iq ≤ 3 by rw [e]; exact nI_le (b := 3) hj (by decide))]
    by_cases he : rs ip.toNatClampNeg = 2
    · obtain ⟨p, p1, p2, p3, p4, p5, p6, p7, p8, p9, p10, p11, p12, p13⟩ := h.obj (in8 hr) he
      rw [if_pos he, p5, p6, p7, p8, p4, p9, nI_clamp (by omega), p10]
      rcases (show j = 0 ∨ j = 1 ∨ j = 2 ∨ j = 3 by omega) with q | q | q | q <;> subst q <;> subst e <;> exact ⟨rfl, fun _ => rfl, u, h⟩
    · obtain ⟨n1, n2, n3, n4, n5⟩ := h.num (in8 hr) he
      rw [if_neg he, n4, n5]
      rcases (show j = 0 ∨ j = 1 ∨ j = 2 ∨ j = 3 by omega) with q | q | q | q <;> subst q <;> subst e <;> exact ⟨rfl, fun _ => rfl, u, h⟩
  · rw [if_neg (show ¬ iq = 0 from h2 0 (by omega)), if_neg (show ¬ iq = 1 from h2 1 (by omega)), if_neg (show ¬ iq = 2 from h2 2 (by omega)), if_neg (show ¬ iq = 3 from h2 3 (by omega))]
    by_cases h0 : iq < 0
    · rw [if_pos h0]; exact ⟨rfl, fun q => absurd (show (3 : Nat) = 0 from q) (by decide), u, h⟩
    · rw [if_neg h0, if_neg (show ¬ iq ≤ 3 from h1.resolve_left h0)]; exact ⟨rfl, fun q => absurd (show (3 : Nat) = 0 from q) (by decide), u, h⟩
theorem sm_look {n u : Nat} {rg f f2 : Nat → Int32} {us ob us2 ob2 col mov th mus mcol mmov sty : Int32} {so va rs rv ns nv st go : Nat → Int32} {ip iq : Int32} (h : Cpl n u rg f us ob col mov mus mcol mmov so va rs rv) :
    SimR (fun _ => 1) n (rg, us, ob, f, us2, ob2, f2, col, mov) (fX1_look n us f so ip iq) (fX2_look th mus mcol mmov so va ns nv rs rv sty st go ip iq) := by
  have hl := h.lt
  unfold fX1_look fX2_look
  by_cases hh : fX0_holds us ip = 0
  · rw [if_pos hh]
    have h1 : ip < 0 ∨ mus ≤ ip := by
      unfold fX0_holds at hh
      by_cases h0 : ip < 0
      · exact Or.inl h0
      · rw [if_neg h0] at hh
        by_cases h2 : us ≤ ip
        · right; rw [h.2.2.1, ← h.2.1]; exact h2
        · rw [if_neg h2] at hh; exact absurd hh (by decide)
    by_cases h0 : ip < 0
    · rw [if_pos h0]; exact ⟨rfl, fun q => absurd (show (3 : Nat) = 0 from q) (by decide), u, h⟩
    · rw [if_neg h0, if_pos (h1.resolve_left h0)]; exact ⟨rfl, fun q => absurd (show (3 : Nat) = 0 from q) (by decide), u, h⟩
  · obtain ⟨e1, e2⟩ := holdsI (u := u) (x := ip) (by omega) (by rw [← h.2.1]; exact hh)
    rw [if_neg hh]
    rw [if_neg (show ¬ ip < 0 by rw [e1]; exact nI_pos (by omega)), if_neg (show ¬ mus ≤ ip by rw [h.2.2.1, e1]; exact nI_ge e2 (by omega))]
    rcases rng4 1 iq (by decide) with ⟨j, hj, e⟩ | ⟨h1, h2⟩
    · rw [if_neg (show ¬ iq < 0 by rw [e]; exact nI_pos (by omega)), if_pos (show iq ≤ 1 by rw [e]; exact nI_le (b := 1) hj (by decide))]
      have ew : fX0_wordAt n f ip = f ip.toNatClampNeg := by
        have := waI (n := n) (k := ip.toNatClampNeg) (f := f) (by omega) (by omega)
        rw [← e1] at this; exact this
      rcases (show j = 0 ∨ j = 1 by omega) with q | q
      · subst q; subst e; exact ⟨rfl, fun _ => rfl, u, h⟩
      · subst q
        rw [e, if_neg (show ¬ nI 1 = 0 by decide), if_pos (show nI 1 = 1 from rfl), if_neg (show ¬ nI 1 = 0 by decide), ew]
        have hw := h.2.2.2.2.2.2.1 ip.toNatClampNeg e2
        have es : fX0_sortAt so ip.toNatClampNeg = so ip.toNatClampNeg := rfl
        rw [es]
        by_cases s1 : so ip.toNatClampNeg = 1
        · rw [if_pos s1]
          obtain ⟨w1, w2⟩ := hw.2.1 s1
          exact ⟨rfl, fun _ => by rw [w1, cN, w2], u, h⟩
        · rw [if_neg s1]
          by_cases s2 : so ip.toNatClampNeg = 2
          · rw [if_pos s2]
            obtain ⟨q, q1, q2, q3⟩ := h.1.2.2.2.2.1 _ e2 s2
            have hv := hw.2.2.1 s2
            rw [q3, plcO (by omega)] at hv
            exact ⟨rfl, fun _ => by rw [q3, contO (by omega), hv], u, h⟩
          · rw [if_neg s2]
            refine ⟨rfl, fun _ => ?_, u, h⟩
            rcases hw.2.2.2.2 with s | s | s | s
            · exact (hw.1 s).symm
            · exact absurd s s1
            · exact absurd s s2
            · exact (hw.2.2.2.1 s).symm
    · rw [if_neg (show ¬ iq = 0 from h2 0 (by omega)), if_neg (show ¬ iq = 1 from h2 1 (by omega))]
      by_cases h0 : iq < 0
      · rw [if_pos h0]; exact ⟨rfl, fun q => absurd (show (3 : Nat) = 0 from q) (by decide), u, h⟩
      · rw [if_neg h0, if_neg (show ¬ iq ≤ 1 from h1.resolve_left h0)]; exact ⟨rfl, fun q => absurd (show (3 : Nat) = 0 from q) (by decide), u, h⟩
theorem sm_count {n u : Nat} {rg f f2 : Nat → Int32} {us ob us2 ob2 col mov th mus mcol mmov sty : Int32} {so va rs rv ns nv st go : Nat → Int32} {ip : Int32} (h : Cpl n u rg f us ob col mov mus mcol mmov so va rs rv) :
    SimR (fun _ => 1) n (rg, us, ob, f, us2, ob2, f2, col, mov) (fX1_count n us ob col mov ip) (fX2_count th mus mcol mmov so va ns nv rs rv sty st go (nI n) ip u) := by
  unfold fX1_count fX2_count
  rcases rng4 4 ip (by decide) with ⟨j, hj, e⟩ | ⟨h1, h2⟩
  · rw [if_neg (show ¬ ip < 0 by rw [e]; exact nI_pos (by omega)), if_pos (show ip ≤ 4 by rw [e]; exact nI_le (b := 4) hj (by decide))]
    have ho : fX2_objects so u = ob := h.2.2.2.1.symm
    rw [ho]
    rcases (show j = 0 ∨ j = 1 ∨ j = 2 ∨ j = 3 ∨ j = 4 by omega) with q | q | q | q | q <;> subst q <;> subst e
    · exact ⟨rfl, fun _ => rfl, u, h⟩
    · exact ⟨rfl, fun _ => h.2.1.trans h.2.2.1.symm, u, h⟩
    · exact ⟨rfl, fun _ => h.2.2.2.2.1.symm, u, h⟩
    · exact ⟨rfl, fun _ => h.2.2.2.2.2.1.symm, u, h⟩
    · exact ⟨rfl, fun _ => rfl, u, h⟩
  · rw [if_neg (show ¬ ip = 0 from h2 0 (by omega)), if_neg (show ¬ ip = 1 from h2 1 (by omega)), if_neg (show ¬ ip = 2 from h2 2 (by omega)), if_neg (show ¬ ip = 3 from h2 3 (by omega)), if_neg (show ¬ ip = 4 from h2 4 (by omega))]
    by_cases h0 : ip < 0
    · rw [if_pos h0]; exact ⟨rfl, fun q => absurd (show (3 : Nat) = 0 from q) (by decide), u, h⟩
    · rw [if_neg h0, if_neg (show ¬ ip ≤ 4 from h1.resolve_left h0)]; exact ⟨rfl, fun q => absurd (show (3 : Nat) = 0 from q) (by decide), u, h⟩
