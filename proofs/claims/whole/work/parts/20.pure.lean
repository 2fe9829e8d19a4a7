/-! THE COLLECTION AS A PURE MATTER: objects, the list of those that are kept, where they go -/
def oF (f : Nat → Int32) (k : Nat) : Nat := (f k).toNatClampNeg / 2
def oK (f : Nat → Int32) (k : Nat) : Nat := (f k).toNatClampNeg % 2
def plc (x : Int32) : Nat := x.toNatClampNeg / 2
def tot (f : Nat → Int32) : List Nat → Nat
  | [] => 0
  | p :: L => oF f p + 1 + tot f L
def tgt (f : Nat → Int32) : List Nat → Nat → Nat
  | [], _ => 0
  | q :: L, p => if q = p then 0 else oF f q + 1 + tgt f L p
def lcp (f : Nat → Int32) : List Nat → Nat → Nat × Nat
  | [], _ => (0, 0)
  | q :: L, i => if i ≤ oF f q then (q, i) else lcp f L (i - (oF f q + 1))
def kpL (L : List Nat) (p : Nat) : List Nat := if p ∈ L then L else L ++ [p]
theorem tot_app (f : Nat → Int32) (L M : List Nat) : tot f (L ++ M) = tot f L + tot f M := by
  induction L with
  | nil => simp [tot]
  | cons a L ih => simp only [List.cons_append, tot, ih]; omega
theorem tot_snoc (f : Nat → Int32) (L : List Nat) (p : Nat) : tot f (L ++ [p]) = tot f L + oF f p + 1 := by
  rw [tot_app]; simp only [tot]; omega
theorem tgt_lt {f : Nat → Int32} {L : List Nat} {p : Nat} (h : p ∈ L) : tgt f L p + oF f p < tot f L := by
  induction L with
  | nil => cases h
  | cons a L ih =>
    simp only [tgt, tot]
    by_cases e : a = p
    · rw [if_pos e, e]; omega
    · rw [if_neg e]
      have h2 : p ∈ L := by
        rcases List.mem_cons.mp h with h | h
        · exact absurd h.symm e
        · exact h
      have := ih h2
      omega
theorem tgt_app {f : Nat → Int32} {L M : List Nat} {p : Nat} (h : p ∈ L) : tgt f (L ++ M) p = tgt f L p := by
  induction L with
  | nil => cases h
  | cons a L ih =>
    simp only [List.cons_append, tgt]
    by_cases e : a = p
    · rw [if_pos e, if_pos e]
    · rw [if_neg e, if_neg e]
      rcases List.mem_cons.mp h with h | h
      · exact absurd h.symm e
      · rw [ih h]
theorem tgt_snoc {f : Nat → Int32} {L : List Nat} {p : Nat} (h : p ∉ L) : tgt f (L ++ [p]) p = tot f L := by
  induction L with
  | nil => simp [tgt, tot]
  | cons a L ih =>
    simp only [List.cons_append, tgt, tot]
    have e : ¬ a = p := fun e => h (by rw [e]; exact List.mem_cons_self)
    rw [if_neg e, ih (fun q => h (List.mem_cons_of_mem _ q))]
/-- two places of L go to places apart -/
theorem tgt_apart {f : Nat → Int32} {L : List Nat} {p q : Nat} (hp : p ∈ L) (hq : q ∈ L) (hne : p ≠ q) : tgt f L p + oF f p < tgt f L q ∨ tgt f L q + oF f q < tgt f L p := by
  induction L with
  | nil => cases hp
  | cons a L ih =>
    simp only [tgt]
    by_cases e1 : a = p
    · by_cases e2 : a = q
      · exact absurd (e1.symm.trans e2) hne
      · rw [if_pos e1, if_neg e2, e1]; left; omega
    · by_cases e2 : a = q
      · rw [if_neg e1, if_pos e2, e2]; right; omega
      · rw [if_neg e1, if_neg e2]
        have h1 : p ∈ L := (List.mem_cons.mp hp).elim (fun h => absurd h.symm e1) id
        have h2 : q ∈ L := (List.mem_cons.mp hq).elim (fun h => absurd h.symm e2) id
        rcases ih h1 h2 with h | h
        · left; omega
        · right; omega
theorem lcp_spec {f : Nat → Int32} {L : List Nat} {i : Nat} (hN : L.Nodup) (h : i < tot f L) : (lcp f L i).1 ∈ L ∧ (lcp f L i).2 ≤ oF f (lcp f L i).1 ∧ tgt f L (lcp f L i).1 + (lcp f L i).2 = i := by
  induction L generalizing i with
  | nil => simp [tot] at h
  | cons a L ih =>
    simp only [tot] at h
    simp only [lcp]
    obtain ⟨ha, hN⟩ := List.nodup_cons.mp hN
    by_cases e : i ≤ oF f a
    · rw [if_pos e]
      refine ⟨List.mem_cons_self, e, ?_⟩
      simp only [tgt, if_true]; omega
    · rw [if_neg e]
      obtain ⟨h1, h2, h3⟩ := ih (i := i - (oF f a + 1)) hN (by omega)
      refine ⟨List.mem_cons_of_mem _ h1, h2, ?_⟩
      have e2 : ¬ a = (lcp f L (i - (oF f a + 1))).1 := fun e2 => ha (by rw [e2]; exact h1)
      simp only [tgt]
      rw [if_neg e2]
      omega
theorem lcp_tgt {f : Nat → Int32} {L : List Nat} {p j : Nat} (hp : p ∈ L) (hj : j ≤ oF f p) : lcp f L (tgt f L p + j) = (p, j) := by
  induction L with
  | nil => cases hp
  | cons a L ih =>
    by_cases e : a = p
    · subst e
      have t0 : tgt f (a :: L) a = 0 := by simp [tgt]
      rw [t0, Nat.zero_add]
      show (if j ≤ oF f a then (a, j) else lcp f L (j - (oF f a + 1))) = (a, j)
      rw [if_pos hj]
    · have t0 : tgt f (a :: L) p = oF f a + 1 + tgt f L p := by
        simp only [tgt]; rw [if_neg e]
      have h1 : p ∈ L := (List.mem_cons.mp hp).elim (fun h => absurd h.symm e) id
      rw [t0]
      show (if oF f a + 1 + tgt f L p + j ≤ oF f a then (a, oF f a + 1 + tgt f L p + j) else lcp f L (oF f a + 1 + tgt f L p + j - (oF f a + 1))) = (p, j)
      rw [if_neg (by omega), show oF f a + 1 + tgt f L p + j - (oF f a + 1) = tgt f L p + j by omega]
      exact ih h1
theorem lcp_app {f : Nat → Int32} {L M : List Nat} {i : Nat} (hN : L.Nodup) (h : i < tot f L) : lcp f (L ++ M) i = lcp f L i := by
  obtain ⟨h1, h2, h3⟩ := lcp_spec hN h
  have := lcp_tgt (f := f) (L := L ++ M) (p := (lcp f L i).1) (j := (lcp f L i).2) (List.mem_append_left _ h1) h2
  rw [tgt_app h1, h3] at this
  exact this
theorem mem_kpL (L : List Nat) (p : Nat) : p ∈ kpL L p := by
  unfold kpL
  by_cases h : p ∈ L
  · rw [if_pos h]; exact h
  · rw [if_neg h]; exact List.mem_append_right _ List.mem_cons_self
theorem kpL_ext (L : List Nat) (p : Nat) : ∃ M, kpL L p = L ++ M := by
  unfold kpL
  by_cases h : p ∈ L
  · exact ⟨[], by rw [if_pos h, List.append_nil]⟩
  · exact ⟨[p], by rw [if_neg h]⟩
theorem kpL_nodup {L : List Nat} {p : Nat} (h : L.Nodup) : (kpL L p).Nodup := by
  unfold kpL
  by_cases e : p ∈ L
  · rw [if_pos e]; exact h
  · rw [if_neg e]
    refine List.nodup_append.mpr ⟨h, by simp, ?_⟩
    intro a ha b hb
    rcases List.mem_cons.mp hb with hb | hb
    · rw [hb]; exact fun e2 => e (by rw [← e2]; exact ha)
    · cases hb
theorem mem_of_kpL {L : List Nat} {p q : Nat} (h : q ∈ kpL L p) : q ∈ L ∨ q = p := by
  unfold kpL at h
  by_cases e : p ∈ L
  · rw [if_pos e] at h; exact Or.inl h
  · rw [if_neg e] at h
    rcases List.mem_append.mp h with h | h
    · exact Or.inl h
    · right
      rcases List.mem_cons.mp h with h | h
      · exact h
      · cases h
/-- counting -/
def cntP (P : Nat → Bool) : Nat → Nat
  | 0 => 0
  | m + 1 => cntP P m + if P m = true then 1 else 0
theorem cntP_le (P : Nat → Bool) (m : Nat) : cntP P m ≤ m := by
  induction m with
  | zero => exact Nat.le_refl _
  | succ m ih => simp only [cntP]; split <;> omega
theorem cntP_or {P Q : Nat → Bool} {m : Nat} (h : ∀ k, k < m → ¬ (P k = true ∧ Q k = true)) : cntP (fun k => P k || Q k) m = cntP P m + cntP Q m := by
  induction m with
  | zero => rfl
  | succ m ih =>
    simp only [cntP]
    rw [ih (fun k hk => h k (by omega))]
    have h1 := h m (by omega)
    by_cases hp : P m = true
    · by_cases hq : Q m = true
      · exact absurd ⟨hp, hq⟩ h1
      · simp [hp, hq]; omega
    · by_cases hq : Q m = true
      · simp [hp, hq]; omega
      · simp [hp, hq]
theorem cntP_int (a b : Nat) : ∀ m, b ≤ m → a ≤ b → cntP (fun k => decide (a ≤ k) && decide (k < b)) m = b - a := by
  intro m
  induction m with
  | zero => intro h1 h2; simp only [cntP]; omega
  | succ m ih =>
    intro h1 h2
    simp only [cntP]
    by_cases e : b ≤ m
    · rw [ih e h2]
      have : ¬ (m < b) := by omega
      simp [this]
    · have e2 : b = m + 1 := by omega
      subst e2
      by_cases e3 : a ≤ m
      · have key : ∀ k, k ≤ m → cntP (fun k => decide (a ≤ k) && decide (k < m + 1)) k = k - a := by
          intro k
          induction k with
          | zero => intro _; simp [cntP]
          | succ k ihk =>
            intro hk
            simp only [cntP]
            rw [ihk (by omega)]
            by_cases e4 : a ≤ k
            · have : k < m + 1 := by omega
              simp [e4, this]; omega
            · have : ¬ a ≤ k := e4
              simp [this]; omega
        rw [key m (Nat.le_refl _)]
        simp [e3]; omega
      · have e4 : a = m + 1 := by omega
        have key : ∀ k, k ≤ m → cntP (fun k => decide (a ≤ k) && decide (k < m + 1)) k = 0 := by
          intro k
          induction k with
          | zero => intro _; rfl
          | succ k ihk =>
            intro hk
            simp only [cntP]
            rw [ihk (by omega)]
            have : ¬ a ≤ k := by omega
            simp [this]
        rw [key m (Nat.le_refl _)]
        simp [e3]; omega
/-- what a half in use is: u words, where each begins an object, a number, a reference or raw (so) -/
def hWf (u n : Nat) (f so : Nat → Int32) : Prop :=
  u ≤ n ∧ n ≤ 2063 ∧ (0 < u → so 0 = 0) ∧
  (∀ k, k < u → so k = 0 → ¬ f k < 0 ∧ oF f k ≤ 200 ∧ k + oF f k < u ∧ (∀ j, 1 ≤ j → j ≤ oF f k → (oK f k = 1 ∧ so (k + j) = 3) ∨ (oK f k = 0 ∧ (so (k + j) = 1 ∨ so (k + j) = 2))) ∧ (k + oF f k + 1 < u → so (k + oF f k + 1) = 0)) ∧
  (∀ k, k < u → so k = 2 → ∃ p, p < u ∧ so p = 0 ∧ f k = nI (2 * p + 1)) ∧
  (∀ k, k < u → so k = 1 → f k &&& 1 = 0)
theorem hWf.owner {u n : Nat} {f so : Nat → Int32} (h : hWf u n f so) : ∀ k, k < u → ∃ a, a ≤ k ∧ a < u ∧ so a = 0 ∧ k ≤ a + oF f a := by
  intro k
  induction k with
  | zero => intro hk; exact ⟨0, Nat.le_refl _, hk, h.2.2.1 hk, Nat.zero_le _⟩
  | succ k ih =>
    intro hk
    obtain ⟨a, h1, h2, h3, h4⟩ := ih (by omega)
    by_cases e : k + 1 ≤ a + oF f a
    · exact ⟨a, by omega, h2, h3, e⟩
    · have e2 : k + 1 = a + oF f a + 1 := by omega
      refine ⟨k + 1, Nat.le_refl _, hk, ?_, by omega⟩
      have := (h.2.2.2.1 a h2 h3).2.2.2.2 (by omega)
      rw [e2]; exact this
theorem hWf.apart {u n : Nat} {f so : Nat → Int32} (h : hWf u n f so) {a b : Nat} (ha : a < u) (sa : so a = 0) (sb : so b = 0) (hab : a < b) : a + oF f a < b := by
  by_cases e : b ≤ a + oF f a
  · have h1 := (h.2.2.2.1 a ha sa).2.2.2.1 (b - a) (by omega) (by omega)
    have e2 : a + (b - a) = b := by omega
    rw [e2, sb] at h1
    rcases h1 with ⟨-, h1⟩ | ⟨-, h1 | h1⟩ <;> exact absurd h1 (by decide)
  · omega
theorem hWf.tot_le {u n : Nat} {f so : Nat → Int32} (h : hWf u n f so) {L : List Nat} (hN : L.Nodup) (hL : ∀ p, p ∈ L → p < u ∧ so p = 0) : tot f L ≤ u := by
  have key : ∀ M : List Nat, M.Nodup → (∀ p, p ∈ M → p < u ∧ so p = 0) → tot f M = cntP (fun k => M.any (fun p => decide (p ≤ k) && decide (k < p + oF f p + 1))) u := by
    intro M
    induction M with
    | nil =>
      intro _ _
      have : ∀ m, cntP (fun k => ([] : List Nat).any (fun p => decide (p ≤ k) && decide (k < p + oF f p + 1))) m = 0 := by
        intro m
        induction m with
        | zero => rfl
        | succ m ih => simp only [cntP, ih]; simp
      rw [this u]; rfl
    | cons a M ih =>
      intro hN hM
      obtain ⟨ha, hN⟩ := List.nodup_cons.mp hN
      have hau := hM a List.mem_cons_self
      have h1 := ih hN (fun p hp => hM p (List.mem_cons_of_mem _ hp))
      have e : (fun k => (a :: M).any (fun p => decide (p ≤ k) && decide (k < p + oF f p + 1))) = (fun k => (decide (a ≤ k) && decide (k < a + oF f a + 1)) || M.any (fun p => decide (p ≤ k) && decide (k < p + oF f p + 1))) := by
        funext k; simp [List.any_cons]
      rw [e, cntP_or, ← h1, cntP_int a (a + oF f a + 1) u (by have := (h.2.2.2.1 a hau.1 hau.2).2.2.1; omega) (by omega)]
      · simp only [tot]; omega
      · rintro k hk ⟨q1, q2⟩
        simp only [Bool.and_eq_true, decide_eq_true_eq] at q1
        obtain ⟨b, hb, q3⟩ := List.any_eq_true.mp q2
        simp only [Bool.and_eq_true, decide_eq_true_eq] at q3
        have hbu := hM b (List.mem_cons_of_mem _ hb)
        rcases Nat.lt_trichotomy a b with c | c | c
        · have := h.apart hau.1 hau.2 hbu.2 c; omega
        · exact ha (by rw [c]; exact hb)
        · have := h.apart hbu.1 hbu.2 hau.2 c; omega
  rw [key L hN hL]
  exact cntP_le _ _
