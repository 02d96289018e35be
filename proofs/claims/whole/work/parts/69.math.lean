/-! the codes, by their range -/
theorem sm_rAdd (P : sm_Sp) (ph k x : Int32) : sm_kAdd P ph k x = 0 ∨ sm_kAdd P ph k x = 1 ∨ sm_kAdd P ph k x = 2 := by
  unfold sm_kAdd
  repeat' split
  all_goals (first | exact Or.inl rfl | exact Or.inr (Or.inl rfl) | exact Or.inr (Or.inr rfl))
theorem sm_rPh (x ph : Int32) : sm_kPh x ph = 0 ∨ sm_kPh x ph = 1 := by
  unfold sm_kPh
  repeat' split
  all_goals (first | exact Or.inl rfl | exact Or.inr rfl)
theorem sm_rGB (ph : Int32) (C : sm_Pt) : sm_kGB ph C = 0 ∨ sm_kGB ph C = 1 ∨ sm_kGB ph C = 2 := by
  unfold sm_kGB
  repeat' split
  all_goals (first | exact Or.inl rfl | exact Or.inr (Or.inl rfl) | exact Or.inr (Or.inr rfl))
theorem sm_rSO (P : sm_Sp) (S : sm_Rw) (T : sm_Tg) (ph : Int32) : sm_kSO P S T ph = 0 ∨ sm_kSO P S T ph = 1 ∨ sm_kSO P S T ph = 2 := by
  unfold sm_kSO
  repeat' split
  all_goals (first | exact Or.inl rfl | exact Or.inr (Or.inl rfl) | exact Or.inr (Or.inr rfl))
theorem sm_rBk (P : sm_Sp) (T : sm_Tg) (M : sm_Lg) (ph : Int32) : sm_kBk P T M ph = 0 ∨ sm_kBk P T M ph = 1 ∨ sm_kBk P T M ph = 2 := by
  unfold sm_kBk
  repeat' split
  all_goals (first | exact Or.inl rfl | exact Or.inr (Or.inl rfl) | exact Or.inr (Or.inr rfl))
theorem sm_rWr (ph : Int32) (L M : sm_Lg) (a b : Int32) : sm_kWr ph L M a b = 0 ∨ sm_kWr ph L M a b = 1 ∨ sm_kWr ph L M a b = 2 := by
  unfold sm_kWr
  repeat' split
  all_goals (first | exact Or.inl rfl | exact Or.inr (Or.inl rfl) | exact Or.inr (Or.inr rfl))
theorem sm_rDl (ph : Int32) (T : sm_Tg) (S : sm_Rw) (L M : sm_Lg) (k : Nat) : sm_kDl ph T S L M k = 0 ∨ sm_kDl ph T S L M k = 1 ∨ sm_kDl ph T S L M k = 2 := by
  unfold sm_kDl
  repeat' split
  all_goals (first | exact Or.inl rfl | exact Or.inr (Or.inl rfl) | exact Or.inr (Or.inr rfl))
theorem sm_rNx (ph : Int32) : sm_kNx ph = 0 ∨ sm_kNx ph = 1 := by
  unfold sm_kNx
  repeat' split
  all_goals (first | exact Or.inl rfl | exact Or.inr rfl)
theorem sm_rRP (ph : Int32) (C : sm_Pt) : sm_kRP ph C = 0 ∨ sm_kRP ph C = 1 ∨ sm_kRP ph C = 2 := by
  unfold sm_kRP
  repeat' split
  all_goals (first | exact Or.inl rfl | exact Or.inr (Or.inl rfl) | exact Or.inr (Or.inr rfl))
theorem sm_rFl (ph : Int32) : sm_kFl ph = 0 ∨ sm_kFl ph = 1 ∨ sm_kFl ph = 2 := by
  unfold sm_kFl
  repeat' split
  all_goals (first | exact Or.inl rfl | exact Or.inr (Or.inl rfl) | exact Or.inr (Or.inr rfl))
theorem sm_rGl (ph : Int32) : sm_kGl ph = 0 ∨ sm_kGl ph = 1 ∨ sm_kGl ph = 2 := by
  unfold sm_kGl
  repeat' split
  all_goals (first | exact Or.inl rfl | exact Or.inr (Or.inl rfl) | exact Or.inr (Or.inr rfl))
theorem sm_r1 (z : Bool) : sm_k1 z = 0 ∨ sm_k1 z = 1 := by
  unfold sm_k1
  repeat' split
  all_goals (first | exact Or.inl rfl | exact Or.inr rfl)
theorem sm_r2 (z : Bool) : sm_k2 z = 0 ∨ sm_k2 z = 1 ∨ sm_k2 z = 2 := by
  unfold sm_k2
  repeat' split
  all_goals (first | exact Or.inl rfl | exact Or.inr (Or.inl rfl) | exact Or.inr (Or.inr rfl))
theorem sm_r2n (z : Bool) : sm_k2n z = 0 ∨ sm_k2n z = 1 ∨ sm_k2n z = 2 := by
  unfold sm_k2n
  repeat' split
  all_goals (first | exact Or.inl rfl | exact Or.inr (Or.inl rfl) | exact Or.inr (Or.inr rfl))
theorem sm_r23 (y z : Bool) : sm_k23 y z = 0 ∨ sm_k23 y z = 1 ∨ sm_k23 y z = 2 ∨ sm_k23 y z = 3 := by
  unfold sm_k23
  repeat' split
  all_goals (first | exact Or.inl rfl | exact Or.inr (Or.inl rfl) | exact Or.inr (Or.inr (Or.inl rfl)) | exact Or.inr (Or.inr (Or.inr rfl)))
-- the script's numbers as arguments
theorem sm_keyD (x : Int32) : sm_isKey x = false ∨ ∃ k : Nat, k < 40 ∧ x = nI k := by
  unfold sm_isKey
  by_cases a : x < 0
  · exact Or.inl (if_pos a)
  · rw [if_neg a]
    by_cases b : x < 40
    · refine Or.inr ?_
      obtain ⟨j, h1, h2⟩ := nI_of a
      refine ⟨j, ?_, h2⟩
      rw [h2] at b
      exact sm_Nlt (a := j) (b := 40) b h1 (by decide)
    · exact Or.inl (if_neg b)
theorem sm_btD {hi : Nat} {lo9 hi9 : Int32} (hlo : lo9 = 1) (hhi : hi9 = nI hi) (h31 : hi < 2 ^ 31) (x : Int32) : sm_bt lo9 hi9 x = false ∨ ∃ k : Nat, ¬ k < 1 ∧ ¬ hi < k ∧ x = nI k := by
  subst hlo; subst hhi
  unfold sm_bt
  by_cases a : x < 1
  · exact Or.inl (if_pos a)
  · rw [if_neg a]
    by_cases b : nI hi < x
    · exact Or.inl (if_pos b)
    · refine Or.inr ?_
      have a0 : ¬ x < 0 := fun z => a (Int32.lt_trans z (by decide))
      obtain ⟨j, h1, h2⟩ := nI_of a0
      rw [h2] at a b
      exact ⟨j, sm_Nnl (a := j) (b := 1) a h1 (by decide), sm_Nnl (a := hi) (b := j) b h31 h1, h2⟩
theorem sm_rgD (x y : Int32) : sm_isRg x y = false ∨ ∃ lo hi : Nat, ¬ hi < lo ∧ hi < 40 ∧ x = nI lo ∧ y = nI hi := by
  unfold sm_isRg
  rcases sm_keyD x with a | ⟨lo, a, rfl⟩
  · refine Or.inl ?_
    rw [a]; rfl
  · rcases sm_keyD y with b | ⟨hi, b, rfl⟩
    · refine Or.inl ?_
      rw [b]
      split <;> rfl
    · by_cases c : nI hi < nI lo
      · refine Or.inl ?_
        rw [if_pos c]
        split
        · split <;> rfl
        · rfl
      · exact Or.inr ⟨lo, hi, sm_Nnl (a := hi) (b := lo) c (by omega) (by omega), b, rfl, rfl⟩
