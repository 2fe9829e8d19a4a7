/-! bits; what movedValue does, in terms of the list of kept objects -/
theorem xm1 (x : Int32) : (x ^^^ (-1)) ^^^ (-1) = x := by
  rw [Int32.xor_assoc, show ((-1 : Int32) ^^^ (-1)) = 0 by decide, Int32.xor_zero]
theorem xneg {k : Nat} (h : k < 2 ^ 31) : nI k ^^^ (-1) < 0 := by
  rw [Int32.lt_iff_toInt_lt]
  have e : (nI k ^^^ (-1)).toBitVec = ~~~ (nI k).toBitVec := by
    rw [Int32.toBitVec_xor]; exact BitVec.xor_allOnes
  have e2 : (nI k ^^^ (-1)).toInt = (~~~ (nI k).toBitVec).toInt := by rw [← e]; rfl
  have hk : (nI k).toBitVec.toNat = k := pk_tn (by omega)
  rw [e2, BitVec.toInt_eq_toNat_cond, BitVec.toNat_not, hk]
  have : ¬ 2 * (2 ^ 32 - 1 - k) < 2 ^ 32 := by omega
  rw [if_neg this]
  show ((2 ^ 32 - 1 - k : Nat) : Int) - ((2 ^ 32 : Nat) : Int) < 0
  omega
theorem and1 {k : Nat} (h : k < 2 ^ 32) : nI k &&& 1 = nI (k % 2) := pk_andN h 1 (by decide)
theorem or1 {k : Nat} (h : k < 2 ^ 30) : nI (2 * k) ||| 1 = nI (2 * k + 1) := by
  have h0 : nI (2 * k) &&& 1 = 0 := by
    rw [and1 (by omega), show 2 * k % 2 = 0 by omega]; rfl
  have h1 : (nI (2 * k)).toBitVec &&& (1 : Int32).toBitVec = 0#32 := by
    have := congrArg Int32.toBitVec h0
    rw [Int32.toBitVec_and] at this
    exact this
  have h2 := BitVec.add_eq_or_of_and_eq_zero _ _ h1
  have h3 : nI (2 * k) + 1 = nI (2 * k) ||| 1 := Int32.toBitVec_inj.mp (by rw [Int32.toBitVec_add, Int32.toBitVec_or]; exact h2)
  rw [← h3, nI_1]
theorem isRefO {p : Nat} (h : p < 2 ^ 30) : fX1_isReference (nI (2 * p + 1)) = 1 := by
  unfold fX1_isReference
  rw [and1 (by omega), show (2 * p + 1) % 2 = 1 by omega, if_neg (by decide)]
theorem isRefE {x : Int32} (h : x &&& 1 = 0) : fX1_isReference x = 0 := by
  unfold fX1_isReference
  rw [if_pos h]
theorem contO {p : Nat} (h : p < 2 ^ 30) : fX1_content (nI (2 * p + 1)) = nI p := by
  unfold fX1_content
  rw [shr1 (by omega)]; congr 1; omega
theorem asRefN {t : Nat} (h : t < 2 ^ 30) : fX1_asReference (nI t) = nI (2 * t + 1) := by
  unfold fX1_asReference
  rw [shl1 h, or1 h]
theorem plcO {p : Nat} (h : p < 2 ^ 30) : plc (nI (2 * p + 1)) = p := by
  unfold plc; rw [nI_clamp (by omega)]; omega
def fwdW (f : Nat → Int32) (L : List Nat) : Nat → Int32 := fun k => if k ∈ L then nI (tgt f L k) ^^^ (-1) else f k
theorem fwdW_snoc {f : Nat → Int32} {L : List Nat} {p : Nat} (h : p ∉ L) : upd (fwdW f L) p (nI (tot f L) ^^^ (-1)) = fwdW f (L ++ [p]) := by
  funext k
  unfold fwdW
  by_cases e : k = p
  · rw [e, pk_us, if_pos (List.mem_append_right _ List.mem_cons_self), tgt_snoc h]
  · rw [pk_un e]
    by_cases e2 : k ∈ L
    · rw [if_pos e2, if_pos (List.mem_append_left _ e2), tgt_app e2]
    · have e3 : k ∉ L ++ [p] := fun hh => (List.mem_append.mp hh).elim e2 (fun hh => (List.mem_cons.mp hh).elim e (fun hh => by cases hh))
      rw [if_neg e2, if_neg e3]
def CL (u n : Nat) (f so : Nat → Int32) (L : List Nat) : Prop := hWf u n f so ∧ L.Nodup ∧ ∀ p, p ∈ L → p < u ∧ so p = 0
theorem CL.kp {u n : Nat} {f so : Nat → Int32} {L : List Nat} (h : CL u n f so L) {p : Nat} (hp : p < u) (sp : so p = 0) : CL u n f so (kpL L p) :=
  ⟨h.1, kpL_nodup h.2.1, fun q hq => (mem_of_kpL hq).elim (h.2.2 q) (fun e => by rw [e]; exact ⟨hp, sp⟩)⟩
theorem CL.bd {u n : Nat} {f so : Nat → Int32} {L : List Nat} (h : CL u n f so L) : tot f L ≤ u ∧ u ≤ n ∧ n ≤ 2063 := ⟨h.1.tot_le h.2.1 h.2.2, h.1.1, h.1.2.1⟩
theorem lenTot (f : Nat → Int32) (M : List Nat) : M.length ≤ tot f M := by
  induction M with
  | nil => exact Nat.le_refl _
  | cons a M ih => simp only [List.length_cons, tot]; omega
theorem headW {f : Nat → Int32} {k : Nat} (h : ¬ f k < 0) : f k = nI (2 * oF f k + oK f k) ∧ 2 * oF f k + oK f k < 2 ^ 31 ∧ oK f k < 2 := by
  obtain ⟨j, hj, e⟩ := nI_of h
  have e1 : oF f k = j / 2 := by unfold oF; rw [e, nI_clamp hj]
  have e2 : oK f k = j % 2 := by unfold oK; rw [e, nI_clamp hj]
  rw [e1, e2, e]
  have : 2 * (j / 2) + j % 2 = j := by omega
  rw [this]
  exact ⟨rfl, hj, by omega⟩
theorem fldI {n k : Nat} {f g : Nat → Int32} (hn : n < 2 ^ 31) (hk : k < n) (h : ¬ f k < 0) (e : g k = f k) : fX0_fieldsAt n g (nI k) = nI (oF f k) := by
  unfold fX0_fieldsAt
  obtain ⟨h1, h2, h3⟩ := headW h
  rw [waI hk hn, e, h1, shr1 (by omega)]; congr 1; omega
theorem kndI {n k : Nat} {f g : Nat → Int32} (hn : n < 2 ^ 31) (hk : k < n) (h : ¬ f k < 0) (e : g k = f k) : fX0_kindAt n g (nI k) = nI (oK f k) := by
  unfold fX0_kindAt
  obtain ⟨h1, h2, h3⟩ := headW h
  rw [waI hk hn, e, h1, and1 (by omega)]; congr 1; omega
theorem mvNum {n us ob f us2 ob2 f2 P U Fd} {iv : Int32} (h : iv &&& 1 = 0) : fX0_movedValue n us ob f us2 ob2 f2 iv P U Fd = (iv, us, ob, f, us2, ob2, f2) := by
  unfold fX0_movedValue
  rw [if_pos (isRefE h)]
theorem mvHypN {n : Nat} {f : Nat → Int32} {us2 iv : Int32} {P U Fd : Nat} {Q : Prop} (h : iv &&& 1 = 0) : ¬ fX1_isReference iv = 0 → Q := fun q => absurd (isRefE h) q
theorem mvHyp {u n : Nat} {f so : Nat → Int32} {L : List Nat} (h : CL u n f so L) {p : Nat} (hp : p < u) (sp : so p = 0) :
    ¬ fX1_isReference (nI (2 * p + 1)) = 0 → ¬ fX0_wordAt n (fwdW f L) (fX1_content (nI (2 * p + 1))) < 0 → (fX1_content (nI (2 * p + 1)) = nI p ∧ nI (tot f L) = nI (tot f L) ∧ fX0_fieldsAt n (fwdW f L) (nI p) = nI (oF f p) ∧ p + oF f p < n ∧ tot f L + oF f p + 1 ≤ n) := by
  intro _ h2
  have ht := h.bd
  have hh := h.1.2.2.2.1 p hp sp
  rw [contO (by omega)] at h2 ⊢
  rw [waI (by omega) (by omega)] at h2
  have e : p ∉ L := fun hl => h2 (by unfold fwdW; rw [if_pos hl]; exact xneg (by have := tgt_lt (f := f) hl; omega))
  have e1 : fwdW f L p = f p := by unfold fwdW; rw [if_neg e]
  have h3 := (h.kp hp sp).bd
  have h4 : tot f (kpL L p) = tot f L + oF f p + 1 := by unfold kpL; rw [if_neg e, tot_snoc]
  exact ⟨rfl, rfl, fldI (by omega) (by omega) hh.1 e1, by omega, by omega⟩
theorem mvRef {u n : Nat} {f so : Nat → Int32} {L : List Nat} (h : CL u n f so L) {p : Nat} (hp : p < u) (sp : so p = 0) {us ob : Int32} {f2 : Nat → Int32} :
    fX0_movedValue n us ob (fwdW f L) (nI (tot f L)) (nI L.length) f2 (nI (2 * p + 1)) p (tot f L) (oF f p) = (nI (2 * tgt f (kpL L p) p + 1), us, ob, fwdW f (kpL L p), nI (tot f (kpL L p)), nI (kpL L p).length, if p ∈ L then f2 else va_cpy (fwdW f L) f2 p (tot f L) (oF f p + 1)) := by
  have ht := h.bd
  have hh := h.1.2.2.2.1 p hp sp
  unfold fX0_movedValue
  rw [if_neg (by rw [isRefO (by omega)]; decide), contO (by omega), waI (by omega) (by omega)]
  by_cases e : p ∈ L
  · have h1 := tgt_lt (f := f) e
    have e1 : fwdW f L p = nI (tgt f L p) ^^^ (-1) := by unfold fwdW; rw [if_pos e]
    have e2 : kpL L p = L := by unfold kpL; rw [if_pos e]
    rw [e1, if_pos (xneg (by omega)), xm1, asRefN (by omega), e2, if_pos e]
  · have e1 : fwdW f L p = f p := by unfold fwdW; rw [if_neg e]
    have e2 : kpL L p = L ++ [p] := by unfold kpL; rw [if_neg e]
    have h3 := (h.kp hp sp).bd
    rw [e2, tot_snoc] at h3
    rw [e1, if_neg hh.1, swI (by omega) (by omega), waI (by omega) (by omega), e2, if_neg e]
    have e3 : (fX0_moveObject (nI L.length) (fwdW f L) f2 p (tot f L) (oF f p)).1 = nI (tot f L) := rfl
    rw [e3]
    show (fX1_asReference ((upd (fwdW f L) p (nI (tot f L) ^^^ (-1))) p ^^^ (-1)), us, ob, upd (fwdW f L) p (nI (tot f L) ^^^ (-1)), nI (tot f L + oF f p + 1), nI L.length + 1, va_cpy (fwdW f L) f2 p (tot f L) (oF f p + 1)) = _
    rw [pk_us, xm1, asRefN (by omega), fwdW_snoc e, tgt_snoc e, tot_snoc, nI_1, List.length_append]
    rfl
/-- one place of the new half gone through -/
def stpL (f so : Nat → Int32) (L : List Nat) (i : Nat) : List Nat := if (lcp f L i).2 ≠ 0 ∧ so ((lcp f L i).1 + (lcp f L i).2) = 2 then kpL L (plc (f ((lcp f L i).1 + (lcp f L i).2))) else L
def scnL (f so : Nat → Int32) : Nat → List Nat → Nat → List Nat
  | 0, L, _ => L
  | d + 1, L, i => if i < tot f L then scnL f so d (stpL f so L i) (i + 1) else L
def regL (rs : Nat → Int32) (rg : Nat → Int32) : Nat → List Nat
  | 0 => []
  | r + 1 => if rs r = 2 then kpL (regL rs rg r) (plc (rg r)) else regL rs rg r
