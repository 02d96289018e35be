/-! the two worlds side by side: one list, turned about for the reference's calls -/
theorem sm_swE {α : Type} {a b : List α} {k : Nat} {q : α} (h : (b ++ a)[k]? = some q) : ∃ j, (a ++ b)[j]? = some q ∧ ((k < b.length ∧ j = a.length + k) ∨ (b.length ≤ k ∧ j = k - b.length ∧ j < a.length)) := by
  by_cases g : k < b.length
  · rw [List.getElem?_append_left g] at h
    refine ⟨a.length + k, ?_, Or.inl ⟨g, rfl⟩⟩
    rw [List.getElem?_append_right (by omega), show a.length + k - a.length = k by omega]
    exact h
  · rw [List.getElem?_append_right (by omega)] at h
    have hl := (List.getElem?_eq_some_iff.mp h).1
    refine ⟨k - b.length, ?_, Or.inr ⟨by omega, rfl, hl⟩⟩
    rw [List.getElem?_append_left hl]
    exact h
theorem sm_swP {Dg : va_G} {cl : List vw_C} {a b : va_W} {H : Heap} (h : va_P Dg cl (a ++ b) H) : va_P Dg cl (b ++ a) H := fun k q hq => by
  obtain ⟨j, hj, -⟩ := sm_swE hq
  exact h j q hj
theorem sm_swD {A : Nat → Prop} {a b : va_W} (h : va_D A (a ++ b)) : va_D A (b ++ a) := by
  refine ⟨fun i j p q hi hj hpq => ?_, fun k q hq => ?_⟩
  · obtain ⟨i2, g1, c1⟩ := sm_swE hi
    obtain ⟨j2, g2, c2⟩ := sm_swE hj
    have := h.1 i2 j2 p q g1 g2 hpq
    omega
  · obtain ⟨j, hj, -⟩ := sm_swE hq
    exact h.2 j q hj
section
variable (D : sm_G) (ad am : Nat → Nat) (P P2 : sm_Sp) (S S2 : sm_Rw) (T U : sm_Tg) (L M L2 : sm_Lg) (C : sm_Pt) (cp cq : sm_Cp) (ph ph2 : Int32) (fo ne no rc : Nat) (nm : Nat → Bool) (Z : sm_Qt) (th : Int32) (n2 fo2 rd np pw ev od rc2 : Nat) (wr : va_W)
theorem sm_w6a : sm_w6 D ad P S T L M C cp ph fo ne no rc wr = sm_w6 D ad P S T L M C cp ph fo ne no rc [] ++ wr := rfl
theorem sm_w7a : sm_w7 D am P2 S2 U L2 nm Z cq ph2 th n2 fo2 rd np pw ev od rc2 wr = sm_w7 D am P2 S2 U L2 nm Z cq ph2 th n2 fo2 rd np pw ev od rc2 [] ++ wr := rfl
end
-- what comes of a code
theorem sm_rs0 {E1 E2 E3 : String} {k : Int32} {ov : Option Value} (h : k = 0) : sm_rs E1 E2 E3 k ov = .inr ov := if_pos h
theorem sm_rsv {E1 E2 E3 : String} {k : Int32} {ov ow : Option Value} (h : sm_rs E1 E2 E3 k ov = .inr ow) : k = 0 ∧ ow = ov := by
  unfold sm_rs at h
  by_cases a : k = 0
  · rw [if_pos a] at h
    exact ⟨a, (Sum.inr.inj h).symm⟩
  · rw [if_neg a] at h
    split at h
    · cases h
    · split at h <;> cases h
theorem sm_rsE {E1 E2 E3 E : String} {k : Int32} {ov : Option Value} (h : sm_rs E1 E2 E3 k ov = .inl E) : ¬ k = 0 ∧ ((k = 1 ∧ E = E1) ∨ (k = 2 ∧ E = E2) ∨ (¬ k = 1 ∧ ¬ k = 2 ∧ E = E3)) := by
  unfold sm_rs at h
  by_cases a : k = 0
  · rw [if_pos a] at h; cases h
  · rw [if_neg a] at h
    refine ⟨a, ?_⟩
    by_cases b : k = 1
    · rw [if_pos b] at h
      exact Or.inl ⟨b, (Sum.inl.inj h).symm⟩
    · rw [if_neg b] at h
      by_cases c : k = 2
      · rw [if_pos c] at h
        exact Or.inr (Or.inl ⟨c, (Sum.inl.inj h).symm⟩)
      · rw [if_neg c] at h
        exact Or.inr (Or.inr ⟨b, c, (Sum.inl.inj h).symm⟩)
