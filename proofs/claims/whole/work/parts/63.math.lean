/-! the parts of the first copy: places of the reference against the numbers of the class -/
theorem sm_fpT {f : Nat → Int32} : ∀ (n i : Nat), i + n = 8 → (∃ k, i ≤ k ∧ k < 8 ∧ f k < 0) → sm_fpG f n i < 8 ∧ f (sm_fpG f n i) < 0
  | 0, i, h, ⟨k, a, b, _⟩ => by omega
  | n + 1, i, h, ⟨k, a, b, z⟩ => by
    show (if f i < 0 then i else sm_fpG f n (i + 1)) < 8 ∧ f (if f i < 0 then i else sm_fpG f n (i + 1)) < 0
    by_cases e : f i < 0
    · rw [if_pos e]; exact ⟨by omega, e⟩
    · rw [if_neg e]
      refine sm_fpT n (i + 1) (by omega) ⟨k, ?_, b, z⟩
      by_cases g : k = i
      · subst g; exact absurd z e
      · omega
theorem sm_plT {f : Nat → Int32} {x : Int32} : ∀ (n i : Nat), i + n = 8 → (∃ k, i ≤ k ∧ k < 8 ∧ f k = x) → sm_plG f x n i < 8 ∧ f (sm_plG f x n i) = x
  | 0, i, h, ⟨k, a, b, _⟩ => by omega
  | n + 1, i, h, ⟨k, a, b, z⟩ => by
    show (if f i = x then i else sm_plG f x n (i + 1)) < 8 ∧ f (if f i = x then i else sm_plG f x n (i + 1)) = x
    by_cases e : f i = x
    · rw [if_pos e]; exact ⟨by omega, e⟩
    · rw [if_neg e]
      refine sm_plT n (i + 1) (by omega) ⟨k, ?_, b, z⟩
      by_cases g : k = i
      · subst g; exact absurd z e
      · omega
theorem sm_plN {f : Nat → Int32} {x : Int32} : ∀ (n i : Nat), (∀ k, i ≤ k → k < i + n → ¬ f k = x) → sm_plG f x n i = 8
  | 0, _, _ => rfl
  | n + 1, i, h => by
    show (if f i = x then i else sm_plG f x n (i + 1)) = 8
    rw [if_neg (h i (Nat.le_refl _) (by omega))]
    exact sm_plN n (i + 1) (fun k a b => h k (by omega) (by omega))
theorem sm_tk1 {S : sm_Rw} {j : Nat} : ∀ (n i : Nat) (q : sm_Rw), (sm_tkG S n i q).1 j = (if i ≤ j ∧ j < i + n ∧ S.1 j = true then true else q.1 j) ∧ (sm_tkG S n i q).2.1 j = (if i ≤ j ∧ j < i + n ∧ S.1 j = true then S.2.1 j else q.2.1 j) ∧ (sm_tkG S n i q).2.2 j = (if i ≤ j ∧ j < i + n ∧ S.1 j = true then S.2.2 j else q.2.2 j)
  | 0, i, q => by
    rw [if_neg (by omega), if_neg (by omega), if_neg (by omega)]
    exact ⟨rfl, rfl, rfl⟩
  | n + 1, i, q => by
    show (sm_tkG S n (i + 1) (if S.1 i = true then sm_putS q i (S.2.1 i) (S.2.2 i) else q)).1 j = _ ∧ (sm_tkG S n (i + 1) (if S.1 i = true then sm_putS q i (S.2.1 i) (S.2.2 i) else q)).2.1 j = _ ∧ (sm_tkG S n (i + 1) (if S.1 i = true then sm_putS q i (S.2.1 i) (S.2.2 i) else q)).2.2 j = _
    obtain ⟨e1, e2, e3⟩ := sm_tk1 (S := S) (j := j) n (i + 1) (if S.1 i = true then sm_putS q i (S.2.1 i) (S.2.2 i) else q)
    rw [e1, e2, e3]
    by_cases g : i + 1 ≤ j ∧ j < i + 1 + n ∧ S.1 j = true
    · have g2 : i ≤ j ∧ j < i + (n + 1) ∧ S.1 j = true := ⟨by omega, by omega, g.2.2⟩
      rw [if_pos g, if_pos g, if_pos g, if_pos g2, if_pos g2, if_pos g2]
      exact ⟨rfl, rfl, rfl⟩
    · rw [if_neg g, if_neg g, if_neg g]
      by_cases e : j = i
      · subst e
        by_cases s : S.1 j = true
        · rw [if_pos s, if_pos ⟨Nat.le_refl _, by omega, s⟩, if_pos ⟨Nat.le_refl _, by omega, s⟩, if_pos ⟨Nat.le_refl _, by omega, s⟩]
          exact ⟨sm_upT _ _ _, sm_upT _ _ _, sm_upT _ _ _⟩
        · rw [if_neg s, if_neg (fun z => s z.2.2), if_neg (fun z => s z.2.2), if_neg (fun z => s z.2.2)]
          exact ⟨rfl, rfl, rfl⟩
      · have g2 : ¬ (i ≤ j ∧ j < i + (n + 1) ∧ S.1 j = true) := fun z => g ⟨by omega, by omega, z.2.2⟩
        rw [if_neg g2, if_neg g2, if_neg g2]
        split
        · exact ⟨sm_upF _ _ e, sm_upF _ _ e, sm_upF _ _ e⟩
        · exact ⟨rfl, rfl, rfl⟩
theorem sm_rp1 {S : sm_Rw} {rd en pl : Nat} : ∀ (n i : Nat) (z : sm_Qt), (sm_rpG S rd en pl n i z).1 = z.1 ∧ (sm_rpG S rd en pl n i z).2.1 = z.2.1
  | 0, _, _ => ⟨rfl, rfl⟩
  | n + 1, i, z => sm_rp1 n (i + 1) (sm_rpS S rd en pl z i)
theorem sm_rp2 {S : sm_Rw} {rd en pl m : Nat} : ∀ (n i : Nat) (z : sm_Qt), (sm_rpG S rd en pl n i z).2.2.2.2 m = (if 40 * pl + i ≤ m ∧ m < 40 * pl + i + n then (if sm_btN rd (en - 1) (m - 40 * pl) = true then S.1 (m - 40 * pl) else false) else z.2.2.2.2 m) ∧ (sm_rpG S rd en pl n i z).2.2.1 m = (if 40 * pl + i ≤ m ∧ m < 40 * pl + i + n then S.2.1 (m - 40 * pl) else z.2.2.1 m) ∧ (sm_rpG S rd en pl n i z).2.2.2.1 m = (if 40 * pl + i ≤ m ∧ m < 40 * pl + i + n then S.2.2 (m - 40 * pl) else z.2.2.2.1 m)
  | 0, i, z => by
    rw [if_neg (by omega), if_neg (by omega), if_neg (by omega)]
    exact ⟨rfl, rfl, rfl⟩
  | n + 1, i, z => by
    obtain ⟨e1, e2, e3⟩ := sm_rp2 (S := S) (rd := rd) (en := en) (pl := pl) (m := m) n (i + 1) (sm_rpS S rd en pl z i)
    show (sm_rpG S rd en pl n (i + 1) (sm_rpS S rd en pl z i)).2.2.2.2 m = _ ∧ (sm_rpG S rd en pl n (i + 1) (sm_rpS S rd en pl z i)).2.2.1 m = _ ∧ (sm_rpG S rd en pl n (i + 1) (sm_rpS S rd en pl z i)).2.2.2.1 m = _
    rw [e1, e2, e3]
    by_cases g : 40 * pl + (i + 1) ≤ m ∧ m < 40 * pl + (i + 1) + n
    · have g2 : 40 * pl + i ≤ m ∧ m < 40 * pl + i + (n + 1) := by omega
      rw [if_pos g, if_pos g, if_pos g, if_pos g2, if_pos g2, if_pos g2]
      exact ⟨rfl, rfl, rfl⟩
    · rw [if_neg g, if_neg g, if_neg g]
      by_cases e : m = 40 * pl + i
      · have g2 : 40 * pl + i ≤ m ∧ m < 40 * pl + i + (n + 1) := by omega
        rw [if_pos g2, if_pos g2, if_pos g2, show m - 40 * pl = i by omega]
        subst e
        exact ⟨sm_upT _ _ _, sm_upT _ _ _, sm_upT _ _ _⟩
      · have g2 : ¬ (40 * pl + i ≤ m ∧ m < 40 * pl + i + (n + 1)) := by omega
        rw [if_neg g2, if_neg g2, if_neg g2]
        exact ⟨sm_upF _ _ e, sm_upF _ _ e, sm_upF _ _ e⟩
