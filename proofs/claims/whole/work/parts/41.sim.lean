/-! class and model: what ties them, and that each call keeps it -/
abbrev St9 : Type := (Nat → Int32) × Int32 × Int32 × (Nat → Int32) × Int32 × Int32 × (Nat → Int32) × Int32 × Int32
abbrev St13 : Type := Int32 × Int32 × Int32 × Int32 × (Nat → Int32) × (Nat → Int32) × (Nat → Int32) × (Nat → Int32) × (Nat → Int32) × (Nat → Int32) × Int32 × (Nat → Int32) × (Nat → Int32)
theorem evN (v : Int32) : fX1_asNumber v &&& 1 = 0 := by
  unfold fX1_asNumber
  have h := pk_and (v <<< ((1 : Int32) &&& 31)) (m := 1) 1 (by decide)
  rw [h, pk_shl v ((1 : Int32) &&& 31) 1 (by decide), show v.toBitVec.toNat * 2 ^ 1 % 2 ^ 32 % 2 ^ 1 = 0 by omega]; rfl
theorem shB {y : Int32} (h : y &&& 1 = 0) : (y >>> ((1 : Int32) &&& 31)) <<< ((1 : Int32) &&& 31) = y := by
  have h1 := pk_and y (m := 1) 1 (by decide)
  rw [h] at h1
  have h2 : y.toBitVec.toNat % 2 = 0 := by
    have : (0 : Int32).toBitVec.toNat = (nI (y.toBitVec.toNat % 2 ^ 1)).toBitVec.toNat := by rw [← h1]
    rw [pk_tn (by omega)] at this
    have e0 : (0 : Int32).toBitVec.toNat = 0 := rfl
    rw [e0] at this
    omega
  have h3 := pk_shr y ((1 : Int32) &&& 31) 1 (by decide)
  have h4 := pk_shl (y >>> ((1 : Int32) &&& 31)) ((1 : Int32) &&& 31) 1 (by decide)
  have hy : y.toInt = if 2 * y.toBitVec.toNat < 2 ^ 32 then (y.toBitVec.toNat : Int) else (y.toBitVec.toNat : Int) - (2 ^ 32 : Nat) := BitVec.toInt_eq_toNat_cond _
  have hz : (y >>> ((1 : Int32) &&& 31)).toInt = if 2 * (y >>> ((1 : Int32) &&& 31)).toBitVec.toNat < 2 ^ 32 then ((y >>> ((1 : Int32) &&& 31)).toBitVec.toNat : Int) else ((y >>> ((1 : Int32) &&& 31)).toBitVec.toNat : Int) - (2 ^ 32 : Nat) := BitVec.toInt_eq_toNat_cond _
  have hb : y.toBitVec.toNat < 2 ^ 32 := y.toBitVec.isLt
  have hb2 : (y >>> ((1 : Int32) &&& 31)).toBitVec.toNat < 2 ^ 32 := (y >>> ((1 : Int32) &&& 31)).toBitVec.isLt
  rw [Int.shiftRight_eq_div_pow] at h3
  apply Int32.toBitVec_inj.mp
  apply BitVec.eq_of_toNat_eq
  rw [h4]
  generalize (y >>> ((1 : Int32) &&& 31)).toBitVec.toNat = z at *
  generalize y.toBitVec.toNat = w at *
  rw [hy, hz] at h3
  split at h3 <;> split at h3 <;> omega
theorem asK (v : Int32) : fX1_asNumber (fX2_kept v) = fX1_asNumber v := shB (evN v)
theorem kK (v : Int32) : fX2_kept (fX2_kept v) = fX2_kept v := by
  show fX1_content (fX1_asNumber (fX2_kept v)) = fX2_kept v
  rw [asK]; rfl
theorem cN (v : Int32) : fX1_content (fX1_asNumber v) = fX2_kept v := rfl
def wC (s x v : Int32) : Prop := (s = 0 → v = x) ∧ (s = 1 → x = fX1_asNumber v ∧ fX2_kept v = v) ∧ (s = 2 → v = nI (plc x)) ∧ (s = 3 → v = x) ∧ (s = 0 ∨ s = 1 ∨ s = 2 ∨ s = 3)
def rC (u : Nat) (so : Nat → Int32) (s x v : Int32) : Prop := (s = 1 ∧ x = fX1_asNumber v ∧ fX2_kept v = v) ∨ (s = 2 ∧ ∃ p, p < u ∧ so p = 0 ∧ x = nI (2 * p + 1) ∧ v = nI p)
def Cpl (n u : Nat) (rg f : Nat → Int32) (us ob col mov mus mcol mmov : Int32) (so va rs rv : Nat → Int32) : Prop :=
  hWf u n f so ∧ us = nI u ∧ mus = nI u ∧ ob = nI (cntP (fun k => decide (so k = 0)) u) ∧ mcol = col ∧ mmov = mov ∧ (∀ k, k < u → wC (so k) (f k) (va k)) ∧ (∀ r, r < 8 → rC u so (rs r) (rg r) (rv r))
def CplT (n : Nat) (x : St9) (m : St13) : Prop := ∃ u, Cpl n u x.1 x.2.2.2.1 x.2.1 x.2.2.1 x.2.2.2.2.2.2.2.1 x.2.2.2.2.2.2.2.2 m.2.1 m.2.2.1 m.2.2.2.1 m.2.2.2.2.1 m.2.2.2.2.2.1 m.2.2.2.2.2.2.2.2.1 m.2.2.2.2.2.2.2.2.2.1
theorem in8 {i : Int32} (h : ¬ fX2_isRegister i = 0) : i.toNatClampNeg < 8 := by
  obtain ⟨j, hj, e⟩ := vp_in_of (isReg h) (by decide)
  rw [e, nI_clamp (by omega)]; exact hj
theorem Cpl.regs {n u : Nat} {rg f : Nat → Int32} {us ob col mov mus mcol mmov : Int32} {so va rs rv : Nat → Int32} (h : Cpl n u rg f us ob col mov mus mcol mmov so va rs rv) {rg2 rs2 rv2 : Nat → Int32} (h2 : ∀ r, r < 8 → rC u so (rs2 r) (rg2 r) (rv2 r)) : Cpl n u rg2 f us ob col mov mus mcol mmov so va rs2 rv2 :=
  ⟨h.1, h.2.1, h.2.2.1, h.2.2.2.1, h.2.2.2.2.1, h.2.2.2.2.2.1, h.2.2.2.2.2.2.1, h2⟩
theorem Cpl.updR {n u : Nat} {rg f : Nat → Int32} {us ob col mov mus mcol mmov : Int32} {so va rs rv : Nat → Int32} (h : Cpl n u rg f us ob col mov mus mcol mmov so va rs rv) {k : Nat} {s x v : Int32} (h2 : rC u so s x v) : Cpl n u (upd rg k x) f us ob col mov mus mcol mmov so va (upd rs k s) (upd rv k v) :=
  h.regs (fun r hr => by
    by_cases e : r = k
    · rw [e, pk_us, pk_us, pk_us]; exact h2
    · rw [pk_un e, pk_un e, pk_un e]; exact h.2.2.2.2.2.2.2 r hr)
theorem rC.ok {u n : Nat} {f so rs rg rv : Nat → Int32} (h : ∀ r, r < 8 → rC u so (rs r) (rg r) (rv r)) : rgOK u so rs rg := by
  intro r hr
  rcases h r hr with ⟨h1, h2, h3⟩ | ⟨h1, p, h2, h3, h4, h5⟩
  · right; exact ⟨by rw [h1]; decide, by rw [h2]; exact evN _⟩
  · left; exact ⟨h1, p, h2, h3, h4⟩
def SimI (cd : Nat → Int32) (n : Nat) (z : Nat × Int32 × St9) (m : Int32 × St13) : Prop := m.2.1 = (if z.1 = 0 then 0 else cd z.1) ∧ (z.1 = 0 → z.2.1 = m.1) ∧ CplT n z.2.2 m.2
theorem sm_number {n u : Nat} {rg f f2 : Nat → Int32} {us ob us2 ob2 col mov th mus mcol mmov sty : Int32} {so va rs rv ns nv st go : Nat → Int32} {ip iq : Int32} (h : Cpl n u rg f us ob col mov mus mcol mmov so va rs rv) :
    SimI (fun _ => 1) n (fX1_number rg us ob f us2 ob2 f2 col mov ip iq) (fX2_number th mus mcol mmov so va ns nv rs rv sty st go ip iq) := by
  unfold fX1_number fX2_number
  by_cases hr : fX2_isRegister ip = 0
  · have h1 : ¬ (fX1_requireRegister ip).1 = 0 := fun q => rr_is.mp q hr
    rw [if_neg h1, if_pos hr, rr1 h1]
    exact ⟨rfl, fun q => absurd (show (1 : Nat) = 0 from q) (by decide), u, h⟩
  · rw [if_pos (rr_is.mpr hr), if_neg hr]
    refine ⟨rfl, fun _ => ?_, u, ?_⟩
    · show fX1_content (upd rg ip.toNatClampNeg (fX1_asNumber iq) ip.toNatClampNeg) = fX2_kept iq
      rw [pk_us]; rfl
    · exact h.updR (Or.inl ⟨rfl, (asK iq).symm, kK iq⟩)
theorem isRef2 {u : Nat} {so : Nat → Int32} {s x v : Int32} (hu : u < 2 ^ 30) (h : rC u so s x v) : (fX1_isReference x = 0 ↔ ¬ s = 2) ∧ (s = 1 ∨ s = 2) := by
  rcases h with ⟨h1, h2, h3⟩ | ⟨h1, p, h2, h3, h4, h5⟩
  · rw [h1, h2, isRefE (evN v)]; exact ⟨⟨fun _ => by decide, fun _ => rfl⟩, Or.inl rfl⟩
  · rw [h1, h4, isRefO (by omega)]; exact ⟨⟨fun q => absurd q (by decide), fun q => absurd rfl q⟩, Or.inr rfl⟩
theorem Cpl.lt {n u : Nat} {rg f : Nat → Int32} {us ob col mov mus mcol mmov : Int32} {so va rs rv : Nat → Int32} (h : Cpl n u rg f us ob col mov mus mcol mmov so va rs rv) : u ≤ n ∧ n ≤ 2063 := ⟨h.1.1, h.1.2.1⟩
theorem sm_copy {n u : Nat} {rg f f2 : Nat → Int32} {us ob us2 ob2 col mov th mus mcol mmov sty : Int32} {so va rs rv ns nv st go : Nat → Int32} {ip iq : Int32} (h : Cpl n u rg f us ob col mov mus mcol mmov so va rs rv) :
    SimI (fun _ => 1) n (fX1_copy rg us ob f us2 ob2 f2 col mov ip iq) (fX2_copy th mus mcol mmov so va ns nv rs rv sty st go ip iq) := by
  have hl := h.lt
  unfold fX1_copy fX2_copy
  by_cases hr : fX2_isRegister ip = 0
  · have h1 : ¬ (fX1_requireRegister ip).1 = 0 := fun q => rr_is.mp q hr
    rw [if_neg h1, if_pos hr, rr1 h1]
    exact ⟨rfl, fun q => absurd (show (1 : Nat) = 0 from q) (by decide), u, h⟩
  · rw [if_pos (rr_is.mpr hr), if_neg hr]
    by_cases hq : fX2_isRegister iq = 0
    · have h1 : ¬ (fX1_requireRegister iq).1 = 0 := fun q => rr_is.mp q hq
      rw [if_neg h1, if_pos hq, rr1 h1]
      exact ⟨rfl, fun q => absurd (show (1 : Nat) = 0 from q) (by decide), u, h⟩
    · rw [if_pos (rr_is.mpr hq), if_neg hq, pk_us, pk_us]
      have h8 := h.2.2.2.2.2.2.2 iq.toNatClampNeg (in8 hq)
      have h9 := isRef2 (by omega) h8
      have h10 := h.updR (k := ip.toNatClampNeg) h8
      by_cases e : rs iq.toNatClampNeg = 2
      · rw [if_pos e]
        refine ⟨rfl, fun _ => ?_, u, h10⟩
        rcases isRef01 (rg iq.toNatClampNeg) with q | q
        · exact absurd e (h9.1.mp q)
        · exact q
      · rw [if_neg e]
        exact ⟨rfl, fun _ => h9.1.mpr e, u, h10⟩
