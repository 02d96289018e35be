/-! the invariant of the law's loop -/
def sm_Rel (P : sm_Sp) (S : sm_Rw) (T : sm_Tg) (L M : sm_Lg) (C : sm_Pt) (ph : Int32) (fo ne no : Nat) (U : sm_Tg) (nm : Nat → Bool) (Z : sm_Qt) (n2 rd np pw ev od : Nat) : Prop :=
  (P.1 ≤ 6 ∧ ∀ i, i < P.1 → sm_kOK (P.2.1 i) (P.2.2 i)) ∧ sm_phOK ph ∧ (L.1 ≤ 120 ∧ (∀ i, L.2.1 i < 40) ∧ fo ≤ L.1) ∧ (M.1 ≤ 120 ∧ (∀ i, M.2.1 i < 40) ∧ n2 = M.1 ∧ sm_nR M nm) ∧ (sm_tT T U ∧ sm_tB T) ∧ (ne = 2 * ev ∧ no = 2 * od + 1) ∧ (rd = C.2.2.2.2.2.2.2 ∧ np = C.2.2.2.2.2.1 ∧ pw = C.2.2.2.2.2.2.1 ∧ sm_pR C.1 C.2.1 C.2.2.1 C.2.2.2.1 C.2.2.2.2.1 C.2.2.2.2.2.1 C.2.2.2.2.2.2.1 C.2.2.2.2.2.2.2 Z)
section
variable {P : sm_Sp} {S : sm_Rw} {T : sm_Tg} {L M : sm_Lg} {C : sm_Pt} {ph : Int32} {fo ne no : Nat} {U : sm_Tg} {nm : Nat → Bool} {Z : sm_Qt} {n2 rd np pw ev od : Nat}
theorem sm_RlAdd {k x : Int32} (h : sm_Rel P S T L M C ph fo ne no U nm Z n2 rd np pw ev od) : sm_Rel (if sm_kAdd P ph k x = 0 then sm_addP P k x else P) S T L M C ph fo ne no U nm Z n2 rd np pw ev od := by
  obtain ⟨⟨h1, h2⟩, hr⟩ := h
  refine ⟨?_, hr⟩
  by_cases e : sm_kAdd P ph k x = 0
  · rw [if_pos e]
    unfold sm_kAdd at e
    by_cases a : sm_isStep k x = true
    · rw [if_pos a] at e
      by_cases b : ph = 105
      · rw [if_pos b] at e
        cases c : sm_full6 P with
        | true => rw [c] at e; exact absurd e (by decide)
        | false =>
          have h6 := sm_full6f c
          refine ⟨h6, fun i hi => ?_⟩
          show sm_kOK (va_up P.2.1 P.1 k i) (va_up P.2.2 P.1 x i)
          by_cases g : i = P.1
          · rw [g, sm_upT, sm_upT]
            unfold sm_isStep at a
            unfold sm_kOK
            by_cases a1 : k = 112
            · exact Or.inl a1
            · rw [if_neg a1] at a
              by_cases a2 : k = 109
              · rw [if_pos a2] at a
                refine Or.inr (Or.inl ⟨a2, fun z => ?_⟩)
                by_cases s1 : sm_in 9 x = true
                · rw [if_pos s1, if_pos z] at a; cases a
                · rw [if_neg s1] at a; cases a
              · rw [if_neg a2] at a
                by_cases a3 : k = 110
                · exact Or.inr (Or.inr (Or.inl a3))
                · rw [if_neg a3] at a
                  by_cases a4 : k = 120
                  · exact Or.inr (Or.inr (Or.inr (Or.inl a4)))
                  · rw [if_neg a4] at a
                    by_cases a5 : k = 115
                    · exact Or.inr (Or.inr (Or.inr (Or.inr a5)))
                    · rw [if_neg a5] at a; cases a
          · rw [sm_upF _ _ g, sm_upF _ _ g]
            have hi : i < P.1 + 1 := hi
            exact h2 i (by omega)
      · rw [if_neg b] at e; exact absurd e (by decide)
    · rw [if_neg a] at e; exact absurd e (by decide)
  · rw [if_neg e]; exact ⟨h1, h2⟩
theorem sm_RlPh {c : Prop} [Decidable c] {x : Int32} (hx : sm_phOK x) (h : sm_Rel P S T L M C ph fo ne no U nm Z n2 rd np pw ev od) : sm_Rel P S T L M C (if c then x else ph) fo ne no U nm Z n2 rd np pw ev od := by
  obtain ⟨h1, h2, hr⟩ := h
  refine ⟨h1, ?_, hr⟩
  split
  · exact hx
  · exact h2
theorem sm_RlNx (h : sm_Rel P S T L M C ph fo ne no U nm Z n2 rd np pw ev od) : sm_Rel P S T L M C ph fo (if sm_kNx ph = 0 then (if ph = 116 then ne else ne + 2) else ne) (if sm_kNx ph = 0 then (if ph = 116 then no + 2 else no) else no) U nm Z n2 rd np pw (if sm_kNx ph = 0 then (if ph = 116 then ev else ev + 1) else ev) (if sm_kNx ph = 0 then (if ph = 116 then od + 1 else od) else od) := by
  obtain ⟨h1, h2, h3, h4, h5, ⟨h6, h7⟩, h8⟩ := h
  refine ⟨h1, h2, h3, h4, h5, ?_, h8⟩
  split
  · split <;> omega
  · exact ⟨h6, h7⟩
end
