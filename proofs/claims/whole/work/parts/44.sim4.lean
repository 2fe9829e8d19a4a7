/-! a collection and a making keep the coupling -/
theorem cntP_add (P : Nat → Bool) (a : Nat) : ∀ b, cntP P (a + b) = cntP P a + cntP (fun k => P (a + k)) b := by
  intro b
  induction b with
  | zero => rfl
  | succ b ih => rw [← Nat.add_assoc]; simp only [cntP]; rw [ih]; omega
theorem cnt_first : ∀ m, cntP (fun k => decide (k = 0)) (m + 1) = 1 := by
  intro m
  induction m with
  | zero => rfl
  | succ m ih => rw [cntP, ih]; simp
theorem cnt_heads (f : Nat → Int32) : ∀ L : List Nat, cntP (fun k => decide ((lcp f L k).2 = 0)) (tot f L) = L.length := by
  intro L
  induction L with
  | nil => rfl
  | cons a L ih =>
    have e : tot f (a :: L) = (oF f a + 1) + tot f L := rfl
    rw [e, cntP_add]
    have h1 : cntP (fun k => decide ((lcp f (a :: L) k).2 = 0)) (oF f a + 1) = 1 := by
      refine (cntP_congr (Q := fun k => decide (k = 0)) _ (fun k hk => ?_)).trans (cnt_first (oF f a))
      have : lcp f (a :: L) k = (a, k) := by simp only [lcp]; rw [if_pos (by omega)]
      rw [this]
    have h2 : cntP (fun k => decide ((lcp f (a :: L) (oF f a + 1 + k)).2 = 0)) (tot f L) = L.length := by
      rw [← ih]
      refine cntP_congr _ (fun k hk => ?_)
      have : lcp f (a :: L) (oF f a + 1 + k) = lcp f L k := by
        simp only [lcp]; rw [if_neg (by omega)]; congr 1; omega
      rw [this]
    rw [h1, h2, List.length_cons]; omega
/-- what lies at a place of the new half -/
theorem CL.at {u n : Nat} {f so : Nat → Int32} {L : List Nat} (h : CL u n f so L) {k : Nat} (hk : k < tot f L) : ∃ p j, lcp f L k = (p, j) ∧ p ∈ L ∧ j ≤ oF f p ∧ tgt f L p + j = k ∧ p < u ∧ so p = 0 ∧ (so (p + j) = 0 ↔ j = 0) ∧ srcA f L k = p + j := by
  obtain ⟨h1, h2, h3⟩ := lcp_spec h.2.1 hk
  obtain ⟨pu, ps⟩ := h.2.2 _ h1
  refine ⟨_, _, rfl, h1, h2, h3, pu, ps, ⟨fun e => ?_, fun e => by rw [e, Nat.add_zero]; exact ps⟩, rfl⟩
  by_cases e0 : (lcp f L k).2 = 0
  · exact e0
  · rcases (h.1.2.2.2.1 _ pu ps).2.2.2.1 _ (by omega) h2 with ⟨-, q⟩ | ⟨-, q | q⟩ <;> rw [q] at e <;> exact absurd e (by decide)
theorem Cpl.coll {n u : Nat} {rg f : Nat → Int32} {us ob col mov mus mcol mmov : Int32} {so va rs rv : Nat → Int32} (h : Cpl n u rg f us ob col mov mus mcol mmov so va rs rv) {rg2 fb2 so2 va2 rv2 : Nat → Int32}
    (g1 : rgI f rs rg rg2 8 (allL u f so rs rg)) (g4 : scI u n f so (allL u f so rs rg) (tot f (allL u f so rs rg)) fb2)
    (g5 : ∀ k, k < tot f (allL u f so rs rg) → so2 k = so (srcA f (allL u f so rs rg) k) ∧ va2 k = mvV f so va (allL u f so rs rg) k)
    (g7 : ∀ k, k < 8 → rv2 k = if rs k = 2 then nI (tgt f (allL u f so rs rg) (plc (rg k))) else rv k) :
    Cpl n (tot f (allL u f so rs rg)) rg2 fb2 (nI (tot f (allL u f so rs rg))) (nI (allL u f so rs rg).length) (col + 1) (mov + nI (tot f (allL u f so rs rg))) (nI (tot f (allL u f so rs rg))) (mcol + 1) (mmov + nI (tot f (allL u f so rs rg))) so2 va2 rs rv2 := by
  have hl := h.lt
  have hok := rC.ok (n := n) (f := f) h.2.2.2.2.2.2.2
  obtain ⟨hC, hc⟩ := allCL h.1 hok
  generalize allL u f so rs rg = L at *
  have hb := hC.bd
  have hg : ∀ k, k < tot f L → fb2 k = fwV f so L k := fun k hk => by rw [g4.2.2.1 k hk, if_pos hk]
  have hat : ∀ q, q ∈ L → tgt f L q < tot f L ∧ so2 (tgt f L q) = 0 ∧ fb2 (tgt f L q) = f q := by
    intro q hq
    have h1 := tgt_lt (f := f) hq
    have h2 := lcp_tgt (f := f) (L := L) (p := q) (j := 0) hq (Nat.zero_le _)
    rw [Nat.add_zero] at h2
    refine ⟨by omega, ?_, ?_⟩
    · rw [(g5 _ (by omega)).1]; unfold srcA; rw [h2]; exact (hC.2.2 q hq).2
    · rw [hg _ (by omega)]; unfold fwV rawV; rw [h2, if_neg (fun q => q.1 rfl)]; rfl
  have hsr : ∀ k, k < tot f L → ¬ so (srcA f L k) = 2 → fb2 k = f (srcA f L k) := by
    intro k hk e
    rw [hg k hk]; unfold fwV rawV; rw [if_neg (fun q => e q.2)]; rfl
  refine ⟨⟨by omega, by omega, ?_, ?_, ?_, ?_⟩, rfl, rfl, ?_, by rw [h.2.2.2.2.1], by rw [h.2.2.2.2.2.1], ?_, ?_⟩
  · intro h0
    obtain ⟨p, j, a1, a2, a3, a4, a5, a6, a7, a8⟩ := hC.at h0
    rw [(g5 0 h0).1, a8]; exact a7.mpr (by omega)
  · intro k hk sk
    obtain ⟨p, j, a1, a2, a3, a4, a5, a6, a7, a8⟩ := hC.at hk
    rw [(g5 k hk).1, a8] at sk
    have j0 := a7.mp sk
    subst j0
    rw [Nat.add_zero] at a4
    obtain ⟨b1, b2, b3⟩ := hat p a2
    rw [a4] at b1 b2 b3
    have eF : oF fb2 k = oF f p := by unfold oF; rw [b3]
    have eK : oK fb2 k = oK f p := by unfold oK; rw [b3]
    have hh := hC.1.2.2.2.1 p a5 a6
    have ht := tgt_lt (f := f) a2
    rw [eF, eK, b3]
    refine ⟨hh.1, hh.2.1, by omega, ?_, ?_⟩
    · intro i i1 i2
      have hi : k + i < tot f L := by omega
      have hs : srcA f L (k + i) = p + i := by unfold srcA; rw [← a4, lcp_tgt a2 i2]
      rw [(g5 _ hi).1, hs]; exact hh.2.2.2.1 i i1 i2
    · intro hn
      obtain ⟨p', j', c1, c2, c3, c4, c5, c6, c7, c8⟩ := hC.at hn
      rw [(g5 _ hn).1, c8]
      refine c7.mpr ?_
      have := bd0 hC.2.1 hn (Or.inr ⟨p, a2, by omega⟩)
      rw [c1] at this; exact this
  · intro k hk sk
    rw [(g5 k hk).1] at sk
    obtain ⟨e0, q, q1, q2, q3, q4⟩ := (hC.src hk).2 sk
    have hq := hc k hk sk
    rw [q4] at hq
    obtain ⟨b1, b2, b3⟩ := hat q hq
    refine ⟨tgt f L q, b1, b2, ?_⟩
    rw [hg k hk]; unfold fwV
    rw [if_pos ⟨e0, sk⟩]
    show nI (2 * tgt f L (plc (f (srcA f L k))) + 1) = _
    rw [q4]
  · intro k hk sk
    rw [(g5 k hk).1] at sk
    rw [hsr k hk (by rw [sk]; decide)]
    exact hC.1.2.2.2.2.2 _ (hC.src hk).1 sk
  · congr 1
    rw [← cnt_heads f L]
    refine cntP_congr _ (fun k hk => ?_)
    obtain ⟨p, j, a1, a2, a3, a4, a5, a6, a7, a8⟩ := hC.at hk
    rw [(g5 k hk).1, a8, a1]
    simp only [a7]
  · intro k hk
    have hw := h.2.2.2.2.2.2.1 (srcA f L k) (hC.src hk).1
    obtain ⟨e1, e2⟩ := g5 k hk
    rw [e1, e2]
    unfold mvV
    by_cases e : so (srcA f L k) = 2
    · rw [if_pos e]
      obtain ⟨e0, q, q1, q2, q3, q4⟩ := (hC.src hk).2 e
      have hq := hc k hk e
      rw [q4] at hq
      have ht := tgt_lt (f := f) hq
      have ef : fb2 k = nI (2 * tgt f L q + 1) := by
        rw [hg k hk]; unfold fwV
        rw [if_pos ⟨e0, e⟩]
        show nI (2 * tgt f L (plc (f (srcA f L k))) + 1) = _
        rw [q4]
      rw [q4, ef, e]
      exact ⟨fun q => absurd q (by decide), fun q => absurd q (by decide), fun _ => by rw [plcO (by omega)], fun q => absurd q (by decide), by decide⟩
    · rw [if_neg e, hsr k hk e]; exact hw
  · intro r hr
    rw [g7 r hr, g1.1 r hr]
    rcases h.2.2.2.2.2.2.2 r hr with ⟨q1, q2, q3⟩ | ⟨q1, q, q2, q3, q4, q5⟩
    · rw [if_neg (by rw [q1]; decide), if_neg (by rw [q1]; decide)]; exact Or.inl ⟨q1, q2, q3⟩
    · have hpl : plc (rg r) = q := by rw [q4]; exact plcO (by omega)
      have hq := g1.2.2 r hr q1
      rw [hpl] at hq
      obtain ⟨b1, b2, b3⟩ := hat q hq
      rw [if_pos q1, if_pos q1, hpl]
      exact Or.inr ⟨q1, _, b1, b2, rfl, rfl⟩
theorem or2 {k : Nat} {x : Int32} (h : k < 2 ^ 30) (hx : x = 0 ∨ x = 1) : ∃ K, K < 2 ∧ x = nI K ∧ nI (2 * k) ||| x = nI (2 * k + K) ∧ 2 * nI k + x = nI (2 * k + K) := by
  have e2 : (2 : Int32) * nI k = nI (2 * k) := by rw [show (2 : Int32) = nI 2 from rfl, pk_mul]
  rcases hx with rfl | rfl
  · exact ⟨0, by decide, rfl, by rw [Int32.or_zero]; rfl, by rw [e2, Int32.add_zero]; rfl⟩
  · exact ⟨1, by decide, rfl, or1 h, by rw [e2, nI_1]⟩
theorem Cpl.made {n u : Nat} {rg f : Nat → Int32} {us ob col mov mus mcol mmov : Int32} {so va rs rv : Nat → Int32} (h : Cpl n u rg f us ob col mov mus mcol mmov so va rs rv) {F r : Nat} {x : Int32} (hx : x = 0 ∨ x = 1) (hF : F ≤ 200) (hfit : u + 1 + F ≤ n) :
    Cpl n (u + F + 1) (upd rg r (nI (2 * u + 1))) (va_cpy (fun _ => 0) (upd f u (nI (2 * F) ||| x)) 0 (u + 1) F) (nI (u + F + 1)) (ob + 1) col mov (nI (u + 1 + F)) mcol mmov (va_cpy (fun _ => if x = 1 then 3 else 1) (upd so u 0) 0 (u + 1) F) (va_cpy (fun _ => 0) (upd va u (2 * nI F + x)) 0 (u + 1) F) (upd rs r 2) (upd rv r (nI u)) := by
  have hl := h.lt
  obtain ⟨K, hK, eK, e1, e2⟩ := or2 (k := F) (x := x) (by omega) hx
  rw [e1, e2]
  have lo : ∀ {g c : Nat → Int32} {y : Int32} {k : Nat}, k < u → va_cpy c (upd g u y) 0 (u + 1) F k = g k := fun {g c y k} hk => by rw [pk_cpy_out (by omega), pk_un (by omega)]
  have mid : ∀ {g c : Nat → Int32} {y : Int32}, va_cpy c (upd g u y) 0 (u + 1) F u = y := fun {g c y} => by rw [pk_cpy_out (by omega), pk_us]
  have hi : ∀ {g : Nat → Int32} {z y : Int32} {i : Nat}, 1 ≤ i → i ≤ F → va_cpy (fun _ => z) (upd g u y) 0 (u + 1) F (u + i) = z := fun {g z y i} h1 h2 => by rw [pk_cpy_in (by omega) (by omega)]
  have hsk : ∀ k, k < u + F + 1 → (k < u ∨ k = u ∨ ∃ i, 1 ≤ i ∧ i ≤ F ∧ k = u + i) := by
    intro k hk
    rcases Nat.lt_trichotomy k u with q | q | q
    · exact Or.inl q
    · exact Or.inr (Or.inl q)
    · exact Or.inr (Or.inr ⟨k - u, by omega, by omega, by omega⟩)
  have hs3 : ¬ (if x = 1 then (3 : Int32) else 1) = 0 ∧ ¬ (if x = 1 then (3 : Int32) else 1) = 2 := by
    rcases hx with e | e <;> subst e <;> decide
  have hoF : ∀ a, a < u → oF (va_cpy (fun _ => 0) (upd f u (nI (2 * F + K))) 0 (u + 1) F) a = oF f a ∧ oK (va_cpy (fun _ => 0) (upd f u (nI (2 * F + K))) 0 (u + 1) F) a = oK f a := fun a ha => by unfold oF oK; rw [lo ha]; exact ⟨rfl, rfl⟩
  have hoU : oF (va_cpy (fun _ => 0) (upd f u (nI (2 * F + K))) 0 (u + 1) F) u = F ∧ oK (va_cpy (fun _ => 0) (upd f u (nI (2 * F + K))) 0 (u + 1) F) u = K := by
    unfold oF oK; rw [mid, nI_clamp (by omega)]; exact ⟨by omega, by omega⟩
  refine ⟨⟨by omega, hl.2, ?_, ?_, ?_, ?_⟩, rfl, by rw [show u + 1 + F = u + F + 1 by omega], ?_, h.2.2.2.2.1, h.2.2.2.2.2.1, ?_, ?_⟩
  · intro _
    by_cases e : u = 0
    · subst e; rw [mid]
    · rw [lo (by omega)]; exact h.1.2.2.1 (by omega)
  · intro k hk sk
    rcases hsk k hk with q | q | ⟨i, i1, i2, q⟩
    · rw [lo q] at sk
      have hh := h.1.2.2.2.1 k q sk
      rw [(hoF k q).1, (hoF k q).2, lo q]
      refine ⟨hh.1, hh.2.1, by omega, fun j j1 j2 => ?_, fun hn => ?_⟩
      · rw [lo (by omega)]; exact hh.2.2.2.1 j j1 j2
      · by_cases e : k + oF f k + 1 < u
        · rw [lo e]; exact hh.2.2.2.2 e
        · rw [show k + oF f k + 1 = u by omega, mid]
    · subst q
      rw [hoU.1, hoU.2, mid]
      refine ⟨nI_pos (by omega), hF, by omega, fun j j1 j2 => ?_, fun hn => by omega⟩
      rw [hi j1 j2]
      rcases (show K = 0 ∨ K = 1 by omega) with q | q
      · right; refine ⟨q, Or.inl ?_⟩
        rw [eK, q]; decide
      · left; refine ⟨q, ?_⟩
        rw [eK, q]; decide
    · rw [q, hi i1 i2] at sk; exact absurd sk hs3.1
  · intro k hk sk
    rcases hsk k hk with q | q | ⟨i, i1, i2, q⟩
    · rw [lo q] at sk
      obtain ⟨p, p1, p2, p3⟩ := h.1.2.2.2.2.1 k q sk
      exact ⟨p, by omega, by rw [lo p1]; exact p2, by rw [lo q]; exact p3⟩
    · rw [q, mid] at sk; exact absurd sk (by decide)
    · rw [q, hi i1 i2] at sk; exact absurd sk hs3.2
  · intro k hk sk
    rcases hsk k hk with q | q | ⟨i, i1, i2, q⟩
    · rw [lo q] at sk; rw [lo q]; exact h.1.2.2.2.2.2 k q sk
    · rw [q, mid] at sk; exact absurd sk (by decide)
    · rw [q, hi i1 i2]; decide
  · rw [h.2.2.2.1, nI_1]; congr 1
    rw [show u + F + 1 = u + (F + 1) by omega, cntP_add]
    have a1 : cntP (fun k => decide (va_cpy (fun _ => if x = 1 then (3 : Int32) else 1) (upd so u 0) 0 (u + 1) F k = 0)) u = cntP (fun k => decide (so k = 0)) u := cntP_congr u (fun k hk => by rw [lo hk])
    have a2 : cntP (fun k => decide (va_cpy (fun _ => if x = 1 then (3 : Int32) else 1) (upd so u 0) 0 (u + 1) F (u + k) = 0)) (F + 1) = 1 := by
      refine (cntP_congr (Q := fun k => decide (k = 0)) _ (fun k hk => ?_)).trans (cnt_first F)
      by_cases e : k = 0
      · subst e
        show decide (va_cpy (fun _ => if x = 1 then (3 : Int32) else 1) (upd so u 0) 0 (u + 1) F u = 0) = decide ((0 : Nat) = 0)
        rw [mid]; rfl
      · rw [hi (by omega) (by omega)]; simp only [e, hs3.1]
    rw [a1, a2]
  · intro k hk
    rcases hsk k hk with q | q | ⟨i, i1, i2, q⟩
    · rw [lo q, lo q, lo q]; exact h.2.2.2.2.2.2.1 k q
    · subst q; rw [mid, mid, mid]
      exact ⟨fun _ => rfl, fun q => absurd q (by decide), fun q => absurd q (by decide), fun q => absurd q (by decide), Or.inl rfl⟩
    · rw [q, hi i1 i2, hi i1 i2, hi i1 i2]
      rcases hx with e | e <;> subst e
      · exact ⟨fun q => absurd q (by decide), fun _ => ⟨by decide, by decide⟩, fun q => absurd q (by decide), fun q => absurd q (by decide), by decide⟩
      · exact ⟨fun q => absurd q (by decide), fun q => absurd q (by decide), fun q => absurd q (by decide), fun _ => rfl, by decide⟩
  · intro r' hr'
    by_cases e : r' = r
    · rw [e, pk_us, pk_us, pk_us]
      exact Or.inr ⟨rfl, u, by omega, mid, rfl, rfl⟩
    · rw [pk_un e, pk_un e, pk_un e]
      rcases h.2.2.2.2.2.2.2 r' hr' with q | ⟨q1, q, q2, q3, q4, q5⟩
      · exact Or.inl q
      · exact Or.inr ⟨q1, q, by omega, by rw [lo q2]; exact q3, q4, q5⟩
