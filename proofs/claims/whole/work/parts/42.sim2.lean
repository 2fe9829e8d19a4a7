/-! put, raw, get, about, look, count -/
theorem cntP_congr {P Q : Nat → Bool} : ∀ m, (∀ k, k < m → P k = Q k) → cntP P m = cntP Q m := by
  intro m
  induction m with
  | zero => intro _; rfl
  | succ m ih =>
    intro h
    simp only [cntP]
    rw [ih (fun k hk => h k (by omega)), h m (by omega)]
theorem oF_upd {f : Nat → Int32} {k a : Nat} {x : Int32} (h : a ≠ k) : oF (upd f k x) a = oF f a ∧ oK (upd f k x) a = oK f a ∧ upd f k x a = f a := by
  unfold oF oK; rw [pk_un h]; exact ⟨rfl, rfl, rfl⟩
theorem hWf.put {u n : Nat} {f so : Nat → Int32} (h : hWf u n f so) {p j : Nat} (hp : p < u) (sp : so p = 0) (h1 : 1 ≤ j) (hj : j ≤ oF f p) {x s : Int32}
    (hx : (oK f p = 1 ∧ s = 3) ∨ (oK f p = 0 ∧ ((s = 1 ∧ x &&& 1 = 0) ∨ (s = 2 ∧ ∃ q, q < u ∧ so q = 0 ∧ x = nI (2 * q + 1))))) :
    hWf u n (upd f (p + j) x) (upd so (p + j) s) ∧ (∀ a, a < u → (upd so (p + j) s a = 0 ↔ so a = 0)) := by
  have hs0 : ¬ s = 0 := by
    rcases hx with ⟨-, q⟩ | ⟨-, ⟨q, -⟩ | ⟨q, -⟩⟩ <;> rw [q] <;> decide
  have hk0 : ¬ so (p + j) = 0 := by
    rcases (h.2.2.2.1 p hp sp).2.2.2.1 j h1 hj with ⟨-, q⟩ | ⟨-, q | q⟩ <;> rw [q] <;> decide
  have hd : ∀ a, (upd so (p + j) s a = 0 ↔ so a = 0) := by
    intro a
    by_cases e : a = p + j
    · rw [e, pk_us]; exact ⟨fun q => absurd q hs0, fun q => absurd q hk0⟩
    · rw [pk_un e]
  refine ⟨⟨h.1, h.2.1, fun q => (hd 0).mpr (h.2.2.1 q), ?_, ?_, ?_⟩, fun a _ => hd a⟩
  · intro a ha sa
    have sa0 := (hd a).mp sa
    have hne : a ≠ p + j := fun e => hk0 (by rw [← e]; exact sa0)
    obtain ⟨e1, e2, e3⟩ := oF_upd (f := f) (x := x) hne
    have hh := h.2.2.2.1 a ha sa0
    rw [e1, e2, e3]
    refine ⟨hh.1, hh.2.1, hh.2.2.1, ?_, fun q => (hd _).mpr (hh.2.2.2.2 q)⟩
    intro i hi1 hi2
    by_cases e : a + i = p + j
    · have hap : a = p := by
        rcases Nat.lt_trichotomy a p with c | c | c
        · have := h.apart ha sa0 sp c; omega
        · exact c
        · have := h.apart hp sp sa0 c; omega
      rw [e, pk_us, hap]
      rcases hx with ⟨q1, q2⟩ | ⟨q1, ⟨q2, -⟩ | ⟨q2, -⟩⟩
      · exact Or.inl ⟨q1, q2⟩
      · exact Or.inr ⟨q1, Or.inl q2⟩
      · exact Or.inr ⟨q1, Or.inr q2⟩
    · rw [pk_un e]; exact hh.2.2.2.1 i hi1 hi2
  · intro k hk e
    by_cases ek : k = p + j
    · rw [ek, pk_us] at e
      rcases hx with ⟨-, q2⟩ | ⟨-, ⟨q2, -⟩ | ⟨-, q, q3, q4, q5⟩⟩
      · rw [q2] at e; exact absurd e (by decide)
      · rw [q2] at e; exact absurd e (by decide)
      · exact ⟨q, q3, (hd q).mpr q4, by rw [ek, pk_us]; exact q5⟩
    · rw [pk_un ek] at e
      obtain ⟨q, q1, q2, q3⟩ := h.2.2.2.2.1 k hk e
      exact ⟨q, q1, (hd q).mpr q2, by rw [pk_un ek]; exact q3⟩
  · intro k hk e
    by_cases ek : k = p + j
    · rw [ek, pk_us] at e
      rcases hx with ⟨-, q2⟩ | ⟨-, ⟨-, q3⟩ | ⟨q2, -⟩⟩
      · rw [q2] at e; exact absurd e (by decide)
      · rw [ek, pk_us]; exact q3
      · rw [q2] at e; exact absurd e (by decide)
    · rw [pk_un ek] at e
      rw [pk_un ek]; exact h.2.2.2.2.2 k hk e
theorem Cpl.put {n u : Nat} {rg f : Nat → Int32} {us ob col mov mus mcol mmov : Int32} {so va rs rv : Nat → Int32} (h : Cpl n u rg f us ob col mov mus mcol mmov so va rs rv) {p j : Nat} (hp : p < u) (sp : so p = 0) (h1 : 1 ≤ j) (hj : j ≤ oF f p) {x s v : Int32}
    (hx : (oK f p = 1 ∧ s = 3) ∨ (oK f p = 0 ∧ ((s = 1 ∧ x &&& 1 = 0) ∨ (s = 2 ∧ ∃ q, q < u ∧ so q = 0 ∧ x = nI (2 * q + 1))))) (hw : wC s x v) :
    Cpl n u rg (upd f (p + j) x) us ob col mov mus mcol mmov (upd so (p + j) s) (upd va (p + j) v) rs rv := by
  obtain ⟨h2, hd⟩ := h.1.put hp sp h1 hj hx
  refine ⟨h2, h.2.1, h.2.2.1, ?_, h.2.2.2.2.1, h.2.2.2.2.2.1, ?_, ?_⟩
  · rw [h.2.2.2.1]; congr 1
    exact cntP_congr u (fun k hk => by simp only [hd k hk])
  · intro k hk
    by_cases e : k = p + j
    · rw [e, pk_us, pk_us, pk_us]; exact hw
    · rw [pk_un e, pk_un e, pk_un e]; exact h.2.2.2.2.2.2.1 k hk
  · intro r hr
    rcases h.2.2.2.2.2.2.2 r hr with q | ⟨q1, q, q2, q3, q4, q5⟩
    · exact Or.inl q
    · exact Or.inr ⟨q1, q, q2, (hd q q2).mpr q3, q4, q5⟩
/-- what a register that refers is -/
theorem Cpl.obj {n u : Nat} {rg f : Nat → Int32} {us ob col mov mus mcol mmov : Int32} {so va rs rv : Nat → Int32} (h : Cpl n u rg f us ob col mov mus mcol mmov so va rs rv) {r : Nat} (hr : r < 8) (e : rs r = 2) :
    ∃ p, p < u ∧ so p = 0 ∧ rg r = nI (2 * p + 1) ∧ rv r = nI p ∧ fX1_isReference (rg r) = 1 ∧ fX1_content (rg r) = nI p ∧ fX0_kindAt n f (nI p) = nI (oK f p) ∧ fX0_fieldsAt n f (nI p) = nI (oF f p) ∧ fX2_fieldsAt va (nI p) = nI (oF f p) ∧ va p &&& 1 = nI (oK f p) ∧ oK f p < 2 ∧ oF f p ≤ 200 ∧ p + oF f p < u := by
  have hl := h.lt
  rcases h.2.2.2.2.2.2.2 r hr with ⟨q, -, -⟩ | ⟨-, p, q2, q3, q4, q5⟩
  · rw [q] at e; exact absurd e (by decide)
  · have hh := h.1.2.2.2.1 p q2 q3
    have hv := (h.2.2.2.2.2.2.1 p q2).1 q3
    obtain ⟨w1, w2, w3⟩ := headW hh.1
    refine ⟨p, q2, q3, q4, q5, by rw [q4]; exact isRefO (by omega), by rw [q4]; exact contO (by omega), kndI (by omega) (by omega) hh.1 rfl, fldI (by omega) (by omega) hh.1 rfl, mfI (by omega) hh.1 hv, ?_, w3, hh.2.1, hh.2.2.1⟩
    rw [hv, w1, and1 (by omega)]; congr 1; omega
theorem Cpl.num {n u : Nat} {rg f : Nat → Int32} {us ob col mov mus mcol mmov : Int32} {so va rs rv : Nat → Int32} (h : Cpl n u rg f us ob col mov mus mcol mmov so va rs rv) {r : Nat} (hr : r < 8) (e : ¬ rs r = 2) :
    rs r = 1 ∧ rg r = fX1_asNumber (rv r) ∧ fX2_kept (rv r) = rv r ∧ fX1_isReference (rg r) = 0 ∧ fX1_content (rg r) = rv r := by
  rcases h.2.2.2.2.2.2.2 r hr with ⟨q1, q2, q3⟩ | ⟨q, -⟩
  · exact ⟨q1, q2, q3, by rw [q2]; exact isRefE (evN _), by rw [q2, cN, q3]⟩
  · exact absurd q e
theorem ooR {rg : Nat → Int32} {i : Int32} {p : Nat} (h1 : fX1_isReference (rg i.toNatClampNeg) = 1) (h2 : fX1_content (rg i.toNatClampNeg) = nI p) : fX1_objectOf rg i = (0, nI p, ()) := by
  unfold fX1_objectOf; rw [h1, h2]; rfl
theorem ooN {rg : Nat → Int32} {i : Int32} (h1 : fX1_isReference (rg i.toNatClampNeg) = 0) : fX1_objectOf rg i = (2, 0, ()) := by
  unfold fX1_objectOf; rw [if_pos h1]
theorem rfF {n : Nat} {f va rv : Nat → Int32} {i k : Int32} {p F : Nat} (h1 : fX0_fieldsAt n f (nI p) = nI F) (h2 : fX2_fieldsAt va (nI p) = nI F) (h3 : rv i.toNatClampNeg = nI p) (hF : F < 2 ^ 31) :
    (fX1_requireField n f (nI p) k = (3, 0, ()) ∧ fX2_hasField va rv i k = 0) ∨ (fX1_requireField n f (nI p) k = (0, 0, ()) ∧ fX2_hasField va rv i k = 1 ∧ ∃ j, j < F ∧ k = nI j) := by
  unfold fX1_requireField fX2_hasField
  rw [h1, h3, h2]
  by_cases h0 : k < 0
  · rw [if_pos h0, if_pos h0]; exact Or.inl ⟨rfl, rfl⟩
  · rw [if_neg h0, if_neg h0]
    by_cases h4 : nI F ≤ k
    · rw [if_pos h4, if_neg (by rw [Int32.not_lt]; exact h4)]; exact Or.inl ⟨rfl, rfl⟩
    · rw [if_neg h4, if_pos (by rw [← Int32.not_le]; exact h4)]
      obtain ⟨j, hj, e, -⟩ := pk_mu h0 h4 hF
      exact Or.inr ⟨rfl, rfl, j, hj, e⟩
theorem plA {p j : Nat} : nI p + 1 + nI j = nI (p + (j + 1)) := by rw [nI_1, nI_add]; congr 1; omega
theorem isRawK {va rs rv : Nat → Int32} {i : Int32} {p K : Nat} (h1 : rs i.toNatClampNeg = 2) (h2 : rv i.toNatClampNeg = nI p) (hp : p < 2 ^ 31) (h3 : va p &&& 1 = nI K) (hK : K < 2) : fX2_isRaw va rs rv i = if K = 1 then 1 else 0 := by
  unfold fX2_isRaw
  rw [if_pos h1, h2, nI_clamp hp, h3]
  rcases (show K = 0 ∨ K = 1 by omega) with e | e <;> subst e <;> decide
theorem isRawN {va rs rv : Nat → Int32} {i : Int32} (h1 : ¬ rs i.toNatClampNeg = 2) : fX2_isRaw va rs rv i = 0 := by
  unfold fX2_isRaw; rw [if_neg h1]
def SimV (n : Nat) (z : Nat × Int32 × St9) (m : St13) : Prop := m.1 = (if z.1 = 0 then 0 else nI z.1) ∧ CplT n z.2.2 m
theorem sm_put {n u : Nat} {rg f f2 : Nat → Int32} {us ob us2 ob2 col mov th mus mcol mmov sty : Int32} {so va rs rv ns nv st go : Nat → Int32} {ip iq ir : Int32} (h : Cpl n u rg f us ob col mov mus mcol mmov so va rs rv) :
    SimV n (fX1_put n rg us ob f us2 ob2 f2 col mov ip iq ir) (fX2_put th mus mcol mmov so va ns nv rs rv sty st go ip iq ir) := by
  have hl := h.lt
  unfold fX1_put fX2_put
  by_cases hr : fX2_isRegister ip = 0
  · have h1 : ¬ (fX1_requireRegister ip).1 = 0 := fun q => rr_is.mp q hr
    rw [if_neg h1, if_pos hr, rr1 h1]
    exact ⟨rfl, u, h⟩
  rw [if_pos (rr_is.mpr hr), if_neg hr]
  by_cases hq : fX2_isRegister ir = 0
  · have h1 : ¬ (fX1_requireRegister ir).1 = 0 := fun q => rr_is.mp q hq
    rw [if_neg h1, if_pos hq, rr1 h1]
    exact ⟨rfl, u, h⟩
  rw [if_pos (rr_is.mpr hq), if_neg hq]
  by_cases he : rs ip.toNatClampNeg = 2
  · obtain ⟨p, p1, p2, p3, p4, p5, p6, p7, p8, p9, p10, p11, p12, p13⟩ := h.obj (in8 hr) he
    have ho := ooR (i := ip) p5 p6
    have hR := isRawK (i := ip) he p4 (by omega) p10 p11
    have hF := rfF (n := n) (f := f) (k := iq) p8 p9 p4 (by omega)
    rw [if_pos he, ho, if_pos rfl]
    simp only [p7, hR]
    have h8 := h.2.2.2.2.2.2.2 ir.toNatClampNeg (in8 hq)
    have h9 := isRef2 (show u < 2 ^ 30 by omega) h8
    by_cases hk : oK f p = 1
    · rw [if_pos (show nI (oK f p) = 1 by rw [hk]; rfl)]
      simp only [if_pos hk]
      rw [if_neg (show ¬ (1 : Int32) = 0 by decide)]
      by_cases e2 : rs ir.toNatClampNeg = 2
      · rw [if_neg (fun q => h9.1.mp q e2), if_pos e2]
        exact ⟨rfl, u, h⟩
      · rw [if_pos (h9.1.mpr e2), if_neg e2]
        obtain ⟨n1, n2, n3, n4, n5⟩ := h.num (in8 hq) e2
        rcases hF with ⟨q1, q2⟩ | ⟨q1, q2, j, q3, q4⟩
        · rw [q1, q2, if_neg (show ¬ (3 : Nat) = 0 by decide), if_pos rfl]
          exact ⟨rfl, u, h⟩
        · rw [q1, q2, if_pos rfl, if_neg (show ¬ (1 : Int32) = 0 by decide), q4, p4, plA, swI (by omega) (by omega), nI_clamp (by omega), n5]
          exact ⟨rfl, u, h.put p1 p2 (by omega) (by omega) (Or.inl ⟨hk, rfl⟩) ⟨fun q => absurd q (by decide), fun q => absurd q (by decide), fun q => absurd q (by decide), fun _ => rfl, by decide⟩⟩
    · have hk0 : oK f p = 0 := by omega
      rw [if_neg (show ¬ nI (oK f p) = 1 by rw [hk0]; decide)]
      simp only [if_neg hk, if_true]
      rcases hF with ⟨q1, q2⟩ | ⟨q1, q2, j, q3, q4⟩
      · rw [q1, q2, if_neg (show ¬ (3 : Nat) = 0 by decide), if_pos rfl]
        exact ⟨rfl, u, h⟩
      · rw [q1, q2, if_pos rfl, if_neg (show ¬ (1 : Int32) = 0 by decide), q4, p4, plA, swI (by omega) (by omega), nI_clamp (by omega)]
        refine ⟨rfl, u, h.put p1 p2 (by omega) (by omega) (Or.inr ⟨hk0, ?_⟩) ?_⟩
        · rcases h8 with ⟨a, b, c⟩ | ⟨a, p', b, c, d, e⟩
          · exact Or.inl ⟨a, by rw [b]; exact evN _⟩
          · exact Or.inr ⟨a, p', b, c, d⟩
        · rcases h8 with ⟨a, b, c⟩ | ⟨a, p', b, c, d, e⟩
          · rw [a]; exact ⟨fun q => absurd q (by decide), fun _ => ⟨b, c⟩, fun q => absurd q (by decide), fun q => absurd q (by decide), by decide⟩
          · rw [a]; exact ⟨fun q => absurd q (by decide), fun q => absurd q (by decide), fun _ => by rw [d, e, plcO (by omega)], fun q => absurd q (by decide), by decide⟩
  · obtain ⟨n1, n2, n3, n4, n5⟩ := h.num (in8 hr) he
    rw [ooN (i := ip) n4, if_neg he, if_neg (show ¬ (2 : Nat) = 0 by decide)]
    exact ⟨rfl, u, h⟩
theorem sm_raw {n u : Nat} {rg f f2 : Nat → Int32} {us ob us2 ob2 col mov th mus mcol mmov sty : Int32} {so va rs rv ns nv st go : Nat → Int32} {ip iq ir : Int32} (h : Cpl n u rg f us ob col mov mus mcol mmov so va rs rv) :
    SimI nI n (fX1_raw n rg us ob f us2 ob2 f2 col mov ip iq ir) (fX2_raw th mus mcol mmov so va ns nv rs rv sty st go ip iq ir) := by
  have hl := h.lt
  unfold fX1_raw fX2_raw
  by_cases hr : fX2_isRegister ip = 0
  · have h1 : ¬ (fX1_requireRegister ip).1 = 0 := fun q => rr_is.mp q hr
    rw [if_neg h1, if_pos hr, rr1 h1]
    exact ⟨rfl, fun q => absurd (show (1 : Nat) = 0 from q) (by decide), u, h⟩
  rw [if_pos (rr_is.mpr hr), if_neg hr]
  by_cases he : rs ip.toNatClampNeg = 2
  · obtain ⟨p, p1, p2, p3, p4, p5, p6, p7, p8, p9, p10, p11, p12, p13⟩ := h.obj (in8 hr) he
    have ho := ooR (i := ip) p5 p6
    have hR := isRawK (i := ip) he p4 (by omega) p10 p11
    have hF := rfF (n := n) (f := f) (k := iq) p8 p9 p4 (by omega)
    rw [ho, if_pos rfl]
    simp only [p7, hR]
    by_cases hk : oK f p = 1
    · rw [if_pos (show nI (oK f p) = 1 by rw [hk]; rfl)]
      simp only [if_pos hk]
      rw [if_neg (show ¬ (1 : Int32) = 0 by decide)]
      rcases hF with ⟨q1, q2⟩ | ⟨q1, q2, j, q3, q4⟩
      · rw [q1, q2, if_neg (show ¬ (3 : Nat) = 0 by decide), if_pos rfl]
        exact ⟨rfl, fun q => absurd (show (3 : Nat) = 0 from q) (by decide), u, h⟩
      · rw [q1, q2, if_pos rfl, if_neg (show ¬ (1 : Int32) = 0 by decide), q4, p4, plA, swI (by omega) (by omega), waI (by omega) (by omega), nI_clamp (by omega)]
        have hs3 : so (p + (j + 1)) = 3 := by
          rcases (h.1.2.2.2.1 p p1 p2).2.2.2.1 (j + 1) (by omega) (by omega) with ⟨-, q⟩ | ⟨q, -⟩
          · exact q
          · omega
        have hv := (h.2.2.2.2.2.2.1 (p + (j + 1)) (by omega)).2.2.2.1 hs3
        have hput := h.put (x := ir) (s := 3) (v := ir) p1 p2 (show 1 ≤ j + 1 by omega) (by omega) (Or.inl ⟨hk, rfl⟩) ⟨fun q => absurd q (by decide), fun q => absurd q (by decide), fun q => absurd q (by decide), fun _ => rfl, by decide⟩
        rw [← hs3, upd_self] at hput
        exact ⟨rfl, fun _ => hv.symm, u, hput⟩
    · have hk0 : oK f p = 0 := by omega
      rw [if_neg (show ¬ nI (oK f p) = 1 by rw [hk0]; decide)]
      simp only [if_neg hk, if_true]
      exact ⟨rfl, fun q => absurd (show (2 : Nat) = 0 from q) (by decide), u, h⟩
  · obtain ⟨n1, n2, n3, n4, n5⟩ := h.num (in8 hr) he
    rw [ooN (i := ip) n4, isRawN he, if_neg (show ¬ (2 : Nat) = 0 by decide), if_pos rfl]
    exact ⟨rfl, fun q => absurd (show (2 : Nat) = 0 from q) (by decide), u, h⟩
theorem sm_get {n u : Nat} {rg f f2 : Nat → Int32} {us ob us2 ob2 col mov th mus mcol mmov sty : Int32} {so va rs rv ns nv st go : Nat → Int32} {ip iq ir : Int32} (h : Cpl n u rg f us ob col mov mus mcol mmov so va rs rv) :
    SimI nI n (fX1_get n rg us ob f us2 ob2 f2 col mov ip iq ir) (fX2_get th mus mcol mmov so va ns nv rs rv sty st go ip iq ir) := by
  have hl := h.lt
  unfold fX1_get fX2_get
  by_cases hr : fX2_isRegister ip = 0
  · have h1 : ¬ (fX1_requireRegister ip).1 = 0 := fun q => rr_is.mp q hr
    rw [if_neg h1, if_pos hr, rr1 h1]
    exact ⟨rfl, fun q => absurd (show (1 : Nat) = 0 from q) (by decide), u, h⟩
  rw [if_pos (rr_is.mpr hr), if_neg hr]
  by_cases hq : fX2_isRegister iq = 0
  · have h1 : ¬ (fX1_requireRegister iq).1 = 0 := fun q => rr_is.mp q hq
    rw [if_neg h1, if_pos hq, rr1 h1]
    exact ⟨rfl, fun q => absurd (show (1 : Nat) = 0 from q) (by decide), u, h⟩
  rw [if_pos (rr_is.mpr hq), if_neg hq]
  by_cases he : rs iq.toNatClampNeg = 2
  · obtain ⟨p, p1, p2, p3, p4, p5, p6, p7, p8, p9, p10, p11, p12, p13⟩ := h.obj (in8 hq) he
    have ho := ooR (i := iq) p5 p6
    have hF := rfF (n := n) (f := f) (k := ir) p8 p9 p4 (by omega)
    rw [ho, if_pos rfl, if_pos he]
    simp only [p7]
    rcases hF with ⟨q1, q2⟩ | ⟨q1, q2, j, q3, q4⟩
    · rw [q1, q2, if_neg (show ¬ (3 : Nat) = 0 by decide), if_pos rfl]
      exact ⟨rfl, fun q => absurd (show (3 : Nat) = 0 from q) (by decide), u, h⟩
    · rw [q1, q2, if_pos rfl, if_neg (show ¬ (1 : Int32) = 0 by decide), q4, p4, plA, waI (by omega) (by omega), nI_clamp (by omega)]
      have hw := h.2.2.2.2.2.2.1 (p + (j + 1)) (by omega)
      simp only [pk_us]
      rcases (h.1.2.2.2.1 p p1 p2).2.2.2.1 (j + 1) (by omega) (by omega) with ⟨a, b⟩ | ⟨a, b | b⟩
      · rw [if_pos (show nI (oK f p) = 1 by rw [a]; rfl), if_pos b, if_neg (show ¬ (1 : Int32) = 2 by decide)]
        have hv := hw.2.2.2.1 b
        refine ⟨rfl, fun _ => isRefE (evN _), u, ?_⟩
        exact h.updR (k := ip.toNatClampNeg) (Or.inl ⟨rfl, by rw [hv, asK], kK _⟩)
      · rw [if_neg (show ¬ nI (oK f p) = 1 by rw [a]; decide), b, if_neg (show ¬ (1 : Int32) = 3 by decide), if_neg (show ¬ (1 : Int32) = 2 by decide)]
        obtain ⟨w1, w2⟩ := hw.2.1 b
        refine ⟨rfl, fun _ => by rw [w1]; exact isRefE (evN _), u, ?_⟩
        exact h.updR (k := ip.toNatClampNeg) (Or.inl ⟨rfl, w1, w2⟩)
      · rw [if_neg (show ¬ nI (oK f p) = 1 by rw [a]; decide), b, if_neg (show ¬ (2 : Int32) = 3 by decide), if_pos rfl]
        obtain ⟨q, r1, r2, r3⟩ := h.1.2.2.2.2.1 (p + (j + 1)) (by omega) b
        have hv := hw.2.2.1 b
        rw [r3, plcO (by omega)] at hv
        refine ⟨rfl, fun _ => by rw [r3]; exact isRefO (by omega), u, ?_⟩
        exact h.updR (k := ip.toNatClampNeg) (Or.inr ⟨rfl, q, r1, r2, r3, hv⟩)
  · obtain ⟨n1, n2, n3, n4, n5⟩ := h.num (in8 hq) he
    rw [ooN (i := iq) n4, if_neg he, if_neg (show ¬ (2 : Nat) = 0 by decide)]
    exact ⟨rfl, fun q => absurd (show (2 : Nat) = 0 from q) (by decide), u, h⟩
