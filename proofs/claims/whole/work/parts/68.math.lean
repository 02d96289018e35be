/-! what a helper of the law came to -/
section
variable {q0 o : Nat} {B : va_W → Prop} {hs : List String} {F : Value → va_E → va_E → Prop} {k K : Int32} {w1 : va_W} {E E1 E2 E3 : String} {v : Value}
theorem sm_e1 {ov : Option Value} (hK : K = 0 ∨ K = 1) (h : sm_rs E1 E2 E3 K ov = .inl E) : E = E1 := by
  obtain ⟨a, ⟨b, c⟩ | ⟨b, c⟩ | ⟨b, c, d⟩⟩ := sm_rsE h
  · exact c
  · rcases hK with z | z
    · exact absurd z a
    · rw [z] at b; exact absurd b (by decide)
  · rcases hK with z | z
    · exact absurd z a
    · exact absurd z b
theorem sm_e2 {ov : Option Value} (hK : K = 0 ∨ K = 1 ∨ K = 2) (h : sm_rs E1 E2 E3 K ov = .inl E) : E = E1 ∨ E = E2 := by
  obtain ⟨a, ⟨b, c⟩ | ⟨b, c⟩ | ⟨b, c, d⟩⟩ := sm_rsE h
  · exact Or.inl c
  · exact Or.inr c
  · rcases hK with z | z | z
    · exact absurd z a
    · exact absurd z b
    · exact absurd z c
theorem sm_e3 {ov : Option Value} (h : sm_rs E1 E2 E3 K ov = .inl E) : E = E1 ∨ E = E2 ∨ E = E3 := by
  obtain ⟨a, ⟨b, c⟩ | ⟨b, c⟩ | ⟨b, c, d⟩⟩ := sm_rsE h
  · exact Or.inl c
  · exact Or.inr (Or.inl c)
  · exact Or.inr (Or.inr d)
/-- the answer is kept, or the code is that of the exception -/
def sm_Bk (q0 o : Nat) (B : va_W → Prop) (K : Int32) (v : Value) (F : Value → va_E → va_E → Prop) (k : Int32) (w1 : va_W) : Prop := k = K ∧ ((K = 0 ∧ ∃ (e0 e1 : va_E) (w0 : va_W), B w0 ∧ w0[q0]? = some (o, e0) ∧ F v e0 e1 ∧ w1 = w0.set q0 (o, e1)) ∨ (¬ K = 0 ∧ B w1))
theorem sm_hk (h : sm_Bh q0 o B (sm_rs E1 E2 E3 K (some v)) hs F k w1) (hh : ∀ (i : Nat) (E : String), hs[i]? = some E → sm_rs E1 E2 E3 K (some v) = .inl E → nI (i + 1) = K) : sm_Bk q0 o B K v F k w1 := by
  rcases h with ⟨x, e0, e1, w0, h1, h2, h3, h4, h5, h6⟩ | ⟨i, E, h1, h2, h3, h4⟩
  · obtain ⟨a, b⟩ := sm_rsv h1
    cases b
    exact ⟨h2.trans a.symm, Or.inl ⟨a, e0, e1, w0, h3, h4, h5, h6⟩⟩
  · exact ⟨h3.trans (hh i E h2 h1), Or.inr ⟨(sm_rsE h1).1, h4⟩⟩
theorem sm_h1 (hK : K = 0 ∨ K = 1) (h : sm_Bh q0 o B (sm_rs E1 E2 E3 K (some v)) [E1] F k w1) : sm_Bk q0 o B K v F k w1 := sm_hk h (fun i E a b => by
  have hn := (sm_rsE b).1
  cases i with
  | zero =>
    rcases hK with z | z
    · exact absurd z hn
    · rw [z]; decide
  | succ i => cases a)
theorem sm_h2 (hE : ¬ E1 = E2) (hK : K = 0 ∨ K = 1 ∨ K = 2) (h : sm_Bh q0 o B (sm_rs E1 E2 E3 K (some v)) [E1, E2] F k w1) : sm_Bk q0 o B K v F k w1 := sm_hk h (fun i E a b => by
  obtain ⟨hn, hc⟩ := sm_rsE b
  match i, a with
  | 0, a =>
    have a : E1 = E := Option.some.inj a
    rcases hc with ⟨c, d⟩ | ⟨c, d⟩ | ⟨c, c2, d⟩
    · rw [c]; decide
    · exact absurd (a.trans d) hE
    · rcases hK with z | z | z
      · exact absurd z hn
      · exact absurd z c
      · exact absurd z c2
  | 1, a =>
    have a : E2 = E := Option.some.inj a
    rcases hc with ⟨c, d⟩ | ⟨c, d⟩ | ⟨c, c2, d⟩
    · exact absurd (a.trans d).symm hE
    · rw [c]; decide
    · rcases hK with z | z | z
      · exact absurd z hn
      · exact absurd z c
      · exact absurd z c2
  | i + 2, a => cases a)
theorem sm_h3 (h12 : ¬ E1 = E2) (h13 : ¬ E1 = E3) (h23 : ¬ E2 = E3) (hK : K = 0 ∨ K = 1 ∨ K = 2 ∨ K = 3) (h : sm_Bh q0 o B (sm_rs E1 E2 E3 K (some v)) [E1, E2, E3] F k w1) : sm_Bk q0 o B K v F k w1 := sm_hk h (fun i E a b => by
  obtain ⟨hn, hc⟩ := sm_rsE b
  match i, a with
  | 0, a =>
    have a : E1 = E := Option.some.inj a
    rcases hc with ⟨c, d⟩ | ⟨c, d⟩ | ⟨c, c2, d⟩
    · rw [c]; decide
    · exact absurd (a.trans d) h12
    · exact absurd (a.trans d) h13
  | 1, a =>
    have a : E2 = E := Option.some.inj a
    rcases hc with ⟨c, d⟩ | ⟨c, d⟩ | ⟨c, c2, d⟩
    · exact absurd (a.trans d).symm h12
    · rw [c]; decide
    · exact absurd (a.trans d) h23
  | 2, a =>
    have a : E3 = E := Option.some.inj a
    rcases hc with ⟨c, d⟩ | ⟨c, d⟩ | ⟨c, c2, d⟩
    · exact absurd (a.trans d).symm h13
    · exact absurd (a.trans d).symm h23
    · rcases hK with z | z | z | z
      · exact absurd z hn
      · exact absurd z c
      · exact absurd z c2
      · rw [z]; decide
  | i + 3, a => cases a)
/-- always the first exception -/
theorem sm_hx (hn : ∀ i, hs[i]? = some E → i = 0) (h : sm_Bh q0 o B (.inl E) hs F k w1) : k = 1 ∧ B w1 := by
  rcases h with ⟨x, e0, e1, w0, h1, -⟩ | ⟨i, E9, h1, h2, h3, h4⟩
  · cases h1
  · cases h1
    rw [hn i h2] at h3
    exact ⟨h3, h4⟩
/-- always an answer -/
theorem sm_ha (h : sm_Bh q0 o B (.inr (some v)) hs F k w1) : k = 0 ∧ ∃ (e0 e1 : va_E) (w0 : va_W), B w0 ∧ w0[q0]? = some (o, e0) ∧ F v e0 e1 ∧ w1 = w0.set q0 (o, e1) := by
  rcases h with ⟨x, e0, e1, w0, h1, h2, h3, h4, h5, h6⟩ | ⟨i, E9, h1, -⟩
  · cases h1
    exact ⟨h2, e0, e1, w0, h3, h4, h5, h6⟩
  · cases h1
end
