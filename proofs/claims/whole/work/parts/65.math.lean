/-! putting a part down -/
theorem sm_pm0 {P : sm_Sp} {Z : sm_Qt} {p : Nat} : ∀ (a b i : Nat) (t : sm_Tg) (q : Nat), (∀ j, i ≤ j → j < i + a → Z.2.2.2.2 (40 * p + j) = false) → sm_pmG P Z p (a + b) i t q = sm_pmG P Z p b (i + a) t q
  | 0, b, i, t, q, _ => by rw [Nat.zero_add]; rfl
  | a + 1, b, i, t, q, h => by
    rw [show a + 1 + b = (a + b) + 1 by omega]
    show (if Z.2.2.2.2 (40 * p + i) = true then _ else sm_pmG P Z p (a + b) (i + 1) t q) = _
    rw [if_neg (by rw [h i (Nat.le_refl _) (by omega)]; decide), sm_pm0 a b (i + 1) t q (fun j x y => h j (by omega) (by omega)), show i + 1 + a = i + (a + 1) by omega]
theorem sm_pm1 {P : sm_Sp} {C : sm_Pt} {Z : sm_Qt} {p : Nat} {x : Int32} (hx : Z.2.1 p = x) : ∀ (n b i : Nat) (T U : sm_Tg) (q : Nat), sm_tT T U → (∀ j, i ≤ j → j < i + n → Z.2.2.2.2 (40 * p + j) = C.1.1 j ∧ (C.1.1 j = true → Z.2.2.1 (40 * p + j) = C.1.2.1 j ∧ Z.2.2.2.1 (40 * p + j) = C.1.2.2 j)) → ∃ U2, sm_pmG P Z p (n + b) i U q = sm_pmG P Z p b (i + n) U2 (sm_pdG P C x n i T q).2 ∧ sm_tT (sm_pdG P C x n i T q).1 U2
  | 0, b, i, T, U, q, h, _ => ⟨U, by rw [Nat.zero_add]; rfl, h⟩
  | n + 1, b, i, T, U, q, h, g => by
    obtain ⟨g1, g2⟩ := g i (Nat.le_refl _) (by omega)
    rw [show n + 1 + b = (n + b) + 1 by omega]
    have s1 : sm_pmG P Z p (n + b + 1) i U q = (if Z.2.2.2.2 (40 * p + i) = true then sm_pmG P Z p (n + b) (i + 1) (sm_prM P U i (Z.2.2.1 (40 * p + i)) (Z.2.2.2.1 (40 * p + i)) (Z.2.1 p)) (if sm_later U i (Z.2.1 p) = true then q + 1 else q) else sm_pmG P Z p (n + b) (i + 1) U q) := rfl
    have s2 : sm_pdG P C x (n + 1) i T q = (if C.1.1 i = true then sm_pdG P C x n (i + 1) (sm_prd P T i (C.1.2.1 i) (C.1.2.2 i) x) (if sm_later T i x = true then q + 1 else q) else sm_pdG P C x n (i + 1) T q) := rfl
    rw [s1, s2, g1, hx]
    by_cases c : C.1.1 i = true
    · obtain ⟨e1, e2⟩ := g2 c
      rw [if_pos c, if_pos c, e1, e2, sm_laE h]
      obtain ⟨U2, u1, u2⟩ := sm_pm1 hx n b (i + 1) _ _ (if sm_later T i x = true then q + 1 else q) (sm_prE (P := P) h i (C.1.2.1 i) (C.1.2.2 i) x) (fun j a b => g j (by omega) (by omega))
      exact ⟨U2, by rw [u1, show i + 1 + n = i + (n + 1) by omega], u2⟩
    · rw [if_neg c, if_neg c]
      obtain ⟨U2, u1, u2⟩ := sm_pm1 hx n b (i + 1) T U q h (fun j a b => g j (by omega) (by omega))
      exact ⟨U2, by rw [u1, show i + 1 + n = i + (n + 1) by omega], u2⟩
theorem sm_pdB {P : sm_Sp} {C : sm_Pt} {m : Nat} (hm : m ≤ 120) : ∀ (n i : Nat) (T : sm_Tg) (q : Nat), sm_tB T → sm_tB (sm_pdG P C (nI m) n i T q).1
  | 0, _, _, _, h => h
  | n + 1, i, T, q, h => by
    unfold sm_pdG
    split
    · exact sm_pdB hm n (i + 1) _ _ (sm_prB h _ _ _ _ hm)
    · exact sm_pdB hm n (i + 1) _ _ h
/-- where a waiting part stands, and where none does -/
theorem sm_pRp {r : sm_Rw} {lo en : Nat → Nat} {st : Nat → Int32} {w : Nat → Bool} {cnt wt nx : Nat} {Z : sm_Qt} (h : sm_pR r lo en st w cnt wt nx Z) {k : Nat} (hk : w k = true) : sm_plG Z.1 (nI k) 8 0 < 8 ∧ sm_pI r lo en st w Z (sm_plG Z.1 (nI k) 8 0) k ∧ 1 ≤ wt := by
  obtain ⟨h1, h2, h3, h4, h5, h6, h7, h8, h9⟩ := h
  obtain ⟨pl, a, b⟩ := h6 k hk
  have hk3 := h3 k hk
  obtain ⟨p8, pz⟩ := sm_plT (f := Z.1) (x := nI k) 8 0 rfl ⟨pl, Nat.zero_le _, a, b⟩
  have hn : ¬ nI k < 0 := sm_nIp (by omega)
  refine ⟨p8, ?_, ?_⟩
  · rcases h5 _ p8 with c | ⟨i, c⟩
    · rw [pz] at c
      rw [c] at hn
      exact absurd (by decide) hn
    · have c2 := c.2.1
      rw [pz] at c2
      have hi := h3 i c.1
      have e : k = i := (nI_eq (by omega) (by omega)).mp c2
      rw [← e] at c
      exact c
  · rw [h8]
    exact sm_cnP (f := fun pl => decide (¬ Z.1 pl < 0)) (j := pl) (by rw [b]; exact decide_eq_true hn) (Nat.zero_le _) (by omega)
theorem sm_pRn {r : sm_Rw} {lo en : Nat → Nat} {st : Nat → Int32} {w : Nat → Bool} {cnt wt nx : Nat} {Z : sm_Qt} (h : sm_pR r lo en st w cnt wt nx Z) {x : Int32} (hx : ∀ k, x = nI k → k < 40 → w k = false) : x < 0 ∨ sm_plG Z.1 x 8 0 = 8 := by
  obtain ⟨h1, h2, h3, h4, h5, h6, h7, h8, h9⟩ := h
  by_cases g : x < 0
  · exact Or.inl g
  · refine Or.inr (sm_plN 8 0 (fun k _ b z => ?_))
    rcases h5 k (by omega) with c | ⟨i, c1, c2, -⟩
    · rw [c] at z
      rw [← z] at g
      exact g (by decide)
    · have hi := h3 i c1
      rw [hx i (z.symm.trans c2) (by omega)] at c1
      cases c1
theorem sm_pRd {r : sm_Rw} {lo en : Nat → Nat} {st : Nat → Int32} {w : Nat → Bool} {cnt wt nx k : Nat} {Z : sm_Qt} (h : sm_pR r lo en st w cnt wt nx Z) (hk : w k = true) : sm_pR r lo en st (va_up w k false) cnt (wt - 1) nx (va_up Z.1 (sm_plG Z.1 (nI k) 8 0) (-1), Z.2) := by
  obtain ⟨p8, ⟨p1, p2, p3, p4⟩, w1⟩ := sm_pRp h hk
  obtain ⟨h1, h2, h3, h4, h5, h6, h7, h8, h9⟩ := h
  have hk3 := h3 k hk
  have hn : ¬ nI k < 0 := sm_nIp (by omega)
  generalize sm_plG Z.1 (nI k) 8 0 = p at p8 p1 p2 p3 p4 ⊢
  have m1 : (-1 : Int32) < 0 := by decide
  refine ⟨h1, h2, fun j hj => ?_, h4, fun pl hpl => ?_, fun i hi => ?_, fun a b ha hb hab ha0 => ?_, ?_, h9⟩
  · by_cases g : j = k
    · subst g; exact hk3
    · rw [sm_upF _ _ g] at hj; exact h3 j hj
  · by_cases g : pl = p
    · subst g; exact Or.inl (sm_upT _ _ _)
    · rcases h5 pl hpl with c | ⟨i, c1, c2, c3, c4⟩
      · exact Or.inl ((sm_upF _ _ g).trans c)
      · have gi : ¬ i = k := fun z => by
          subst z
          exact g (h7 pl p hpl p8 (c2.trans p2.symm) (by rw [c2]; exact hn))
        exact Or.inr ⟨i, (sm_upF _ _ gi).trans c1, (sm_upF _ _ g).trans c2, c3, c4⟩
  · by_cases g : i = k
    · subst g; rw [sm_upT] at hi; cases hi
    · rw [sm_upF _ _ g] at hi
      obtain ⟨pl, a, b⟩ := h6 i hi
      have hi3 := h3 i hi
      refine ⟨pl, a, ?_⟩
      have gp : ¬ pl = p := fun z => by
        subst z
        exact g ((nI_eq (by omega) (by omega)).mp (b.symm.trans p2))
      exact (sm_upF _ _ gp).trans b
  · have hab : va_up Z.1 p (-1) a = va_up Z.1 p (-1) b := hab
    have ha0 : ¬ va_up Z.1 p (-1) a < 0 := ha0
    by_cases ga : a = p
    · rw [ga, sm_upT] at ha0; exact absurd m1 ha0
    · by_cases gb : b = p
      · rw [gb, sm_upT] at hab; rw [hab] at ha0; exact absurd m1 ha0
      · rw [sm_upF _ _ ga] at hab ha0
        rw [sm_upF _ _ gb] at hab
        exact h7 a b ha hb hab ha0
  · have e9 : (fun pl => decide (¬ Z.1 pl < 0)) = va_up (fun pl => decide (¬ va_up Z.1 p (-1) pl < 0)) p true := by
      funext q
      by_cases g : q = p
      · subst g; rw [sm_upT, p2]; exact decide_eq_true hn
      · rw [sm_upF _ _ g, sm_upF _ _ g]
    rw [e9, sm_cnU (by rw [sm_upT]; decide) 8 0 0 (by omega) (by omega)] at h8
    show wt - 1 = sm_cnG (fun pl => decide (¬ va_up Z.1 p (-1) pl < 0)) 8 0 0
    omega
/-- both put a waiting part down alike -/
theorem sm_pd2 {P : sm_Sp} {C : sm_Pt} {Z : sm_Qt} {T U : sm_Tg} {cnt wt nx k : Nat} (h : sm_pR C.1 C.2.1 C.2.2.1 C.2.2.2.1 C.2.2.2.2.1 cnt wt nx Z) (hk : C.2.2.2.2.1 k = true) (hT : sm_tT T U) (q : Nat) : sm_tT (sm_pdG P C (C.2.2.2.1 k) (C.2.2.1 k - C.2.1 k) (C.2.1 k) T q).1 (sm_pmG P Z (sm_plG Z.1 (nI k) 8 0) 40 0 U q).1 ∧ (sm_pmG P Z (sm_plG Z.1 (nI k) 8 0) 40 0 U q).2 = (sm_pdG P C (C.2.2.2.1 k) (C.2.2.1 k - C.2.1 k) (C.2.1 k) T q).2 := by
  obtain ⟨-, ⟨p1, p2, p3, p4⟩, -⟩ := sm_pRp h hk
  have h1 := h.1
  have h2 := h.2.1 k
  generalize sm_plG Z.1 (nI k) 8 0 = p at p2 p3 p4 ⊢
  have a1 := sm_pm0 (P := P) (Z := Z) (p := p) (C.2.1 k) (40 - C.2.1 k) 0 U q (fun j _ b => by rw [(p4 j (by omega)).1, if_neg (by omega)])
  rw [show C.2.1 k + (40 - C.2.1 k) = 40 by omega, Nat.zero_add] at a1
  obtain ⟨U2, b1, b2⟩ := sm_pm1 (P := P) (C := C) (Z := Z) (p := p) p3 (C.2.2.1 k - C.2.1 k) (40 - C.2.2.1 k) (C.2.1 k) T U q hT (fun j x y => by
    obtain ⟨c1, c2⟩ := p4 j (by omega)
    rw [if_pos (by omega)] at c1
    exact ⟨c1, c2 x (by omega)⟩)
  rw [show C.2.2.1 k - C.2.1 k + (40 - C.2.2.1 k) = 40 - C.2.1 k by omega, show C.2.1 k + (C.2.2.1 k - C.2.1 k) = C.2.2.1 k by omega] at b1
  have d1 := sm_pm0 (P := P) (Z := Z) (p := p) (40 - C.2.2.1 k) 0 (C.2.2.1 k) U2 (sm_pdG P C (C.2.2.2.1 k) (C.2.2.1 k - C.2.1 k) (C.2.1 k) T q).2 (fun j x y => by rw [(p4 j (by omega)).1, if_neg (by omega)])
  rw [Nat.add_zero] at d1
  rw [a1, b1, d1]
  exact ⟨b2, rfl⟩
