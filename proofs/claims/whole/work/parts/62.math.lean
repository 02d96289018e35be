/-! the way back, as the reference goes it -/
theorem sm_nmT {M : sm_Lg} {k : Nat} : ∀ (n i : Nat) (u : Nat → Bool), sm_nmG M n i u k = true ↔ u k = true ∨ ∃ j, i ≤ j ∧ j < i + n ∧ M.2.1 j = k
  | 0, i, u => by
    show u k = true ↔ _
    constructor
    · exact Or.inl
    · rintro (h | ⟨j, a, b, -⟩)
      · exact h
      · omega
  | n + 1, i, u => by
    show sm_nmG M n (i + 1) (va_up u (M.2.1 i) true) k = true ↔ _
    rw [sm_nmT n (i + 1)]
    constructor
    · rintro (h | ⟨j, a, b, z⟩)
      · by_cases e : k = M.2.1 i
        · exact Or.inr ⟨i, Nat.le_refl _, by omega, e.symm⟩
        · rw [sm_upF _ _ e] at h
          exact Or.inl h
      · exact Or.inr ⟨j, by omega, by omega, z⟩
    · rintro (h | ⟨j, a, b, z⟩)
      · refine Or.inl ?_
        by_cases e : k = M.2.1 i
        · rw [e, sm_upT]
        · rw [sm_upF _ _ e]; exact h
      · by_cases e : j = i
        · subst e; subst z
          exact Or.inl (sm_upT _ _ _)
        · exact Or.inr ⟨j, by omega, by omega, z⟩
def sm_vU (v u : Nat → Bool) (i n : Nat) : Nat → Bool := fun k => if i ≤ k ∧ k < i + n then (v k || u k) else v k
def sm_uU (u : Nat → Bool) (i n : Nat) : Nat → Bool := fun k => if i ≤ k ∧ k < i + n then false else u k
theorem sm_vU1 {v u : Nat → Bool} {i n : Nat} (h : u i = true) : sm_vU (va_up v i true) (va_up u i false) (i + 1) n = sm_vU v u i (n + 1) := by
  funext k
  unfold sm_vU
  by_cases e : k = i
  · subst e
    rw [if_neg (by omega), if_pos (by omega), sm_upT, h, Bool.or_true]
  · rw [sm_upF _ _ e, sm_upF _ _ e]
    by_cases g : i + 1 ≤ k ∧ k < i + 1 + n
    · rw [if_pos g, if_pos (by omega)]
    · rw [if_neg g, if_neg (by omega)]
theorem sm_vU0 {v u : Nat → Bool} {i n : Nat} (h : u i = false) : sm_vU v (va_up u i false) (i + 1) n = sm_vU v u i (n + 1) := by
  funext k
  unfold sm_vU
  by_cases e : k = i
  · subst e
    rw [if_neg (by omega), if_pos (by omega), h, Bool.or_false]
  · rw [sm_upF _ _ e]
    by_cases g : i + 1 ≤ k ∧ k < i + 1 + n
    · rw [if_pos g, if_pos (by omega)]
    · rw [if_neg g, if_neg (by omega)]
theorem sm_uU1 {u : Nat → Bool} {i n : Nat} : sm_uU (va_up u i false) (i + 1) n = sm_uU u i (n + 1) := by
  funext k
  unfold sm_uU
  by_cases e : k = i
  · subst e
    rw [if_neg (by omega), if_pos (by omega), sm_upT]
  · rw [sm_upF _ _ e]
    by_cases g : i + 1 ≤ k ∧ k < i + 1 + n
    · rw [if_pos g, if_pos (by omega)]
    · rw [if_neg g, if_neg (by omega)]
theorem sm_gmE {P : sm_Sp} {T : sm_Tg} {S : sm_Rw} : ∀ (n i : Nat) (v u : Nat → Bool), i + n ≤ 40 → sm_gMG P T n i (sm_gbF P T v S) u (sm_gcF P T v S) = (sm_gbF P T (sm_vU v u i n) S, sm_uU u i n, sm_gcF P T (sm_vU v u i n) S)
  | 0, i, v, u, _ => by
    have e1 : sm_vU v u i 0 = v := funext (fun k => if_neg (by omega))
    have e2 : sm_uU u i 0 = u := funext (fun k => if_neg (by omega))
    rw [e1, e2]
    rfl
  | n + 1, i, v, u, h => by
    show (if u i = true then sm_gMG P T n (i + 1) (sm_cbS P T (sm_gbF P T v S) i) (va_up u i false) (if sm_cbR P T (sm_gbF P T v S) i = true then sm_gcF P T v S + 1 else sm_gcF P T v S) else sm_gMG P T n (i + 1) (sm_gbF P T v S) (va_up u i false) (sm_gcF P T v S)) = _
    cases hu : u i with
    | true => rw [if_pos rfl, sm_gFs, ← sm_gcU (show i < 40 by omega), sm_gmE n (i + 1) (va_up v i true) (va_up u i false) (by omega), sm_vU1 hu, sm_uU1]
    | false => rw [if_neg Bool.false_ne_true, sm_gmE n (i + 1) v (va_up u i false) (by omega), sm_vU0 hu, sm_uU1]
/-- what the second log names -/
def sm_nR (M : sm_Lg) (u : Nat → Bool) : Prop := ∀ k, k < 40 → (u k = true ↔ ∃ i, i < M.1 ∧ M.2.1 i = k)
theorem sm_nV {M : sm_Lg} {u : Nat → Bool} (hM : ∀ i, M.2.1 i < 40) (h : sm_nR M u) : sm_vU (fun _ => false) u 0 40 = sm_nmG M M.1 0 (fun _ => false) := by
  funext k
  have e : sm_vU (fun _ => false) u 0 40 k = true ↔ sm_nmG M M.1 0 (fun _ => false) k = true := by
    rw [sm_nmT]
    unfold sm_vU
    by_cases hk : k < 40
    · rw [if_pos (by omega), Bool.false_or, h k hk]
      constructor
      · rintro ⟨i, a, b⟩; exact Or.inr ⟨i, Nat.zero_le _, by omega, b⟩
      · rintro (a | ⟨i, -, a, b⟩)
        · cases a
        · exact ⟨i, by omega, b⟩
    · rw [if_neg (by omega)]
      constructor
      · intro a; cases a
      · rintro (a | ⟨i, -, a, b⟩)
        · cases a
        · have := hM i
          omega
  cases h1 : sm_vU (fun _ => false) u 0 40 k with
  | true => exact (e.mp h1).symm
  | false =>
    cases h2 : sm_nmG M M.1 0 (fun _ => false) k with
    | true => rw [e.mpr h2] at h1; cases h1
    | false => rfl
theorem sm_gMGE {P : sm_Sp} {T U : sm_Tg} (h : sm_tT T U) : ∀ (n i : Nat) (r : sm_Rw) (u : Nat → Bool) (q : Nat), sm_gMG P U n i r u q = sm_gMG P T n i r u q
  | 0, _, _, _, _ => rfl
  | n + 1, i, r, u, q => by
    unfold sm_gMG
    rw [sm_cbSE h, sm_cbRE h, sm_gMGE h, sm_gMGE h]
/-- both go back alike -/
theorem sm_gb2 {P : sm_Sp} {T U : sm_Tg} {S : sm_Rw} {M : sm_Lg} {u : Nat → Bool} (hT : sm_tT T U) (hM : ∀ i, M.2.1 i < 40) (h : sm_nR M u) : (sm_gMG P U 40 0 S u 0).1 = (sm_gbG P T M M.1 0 S 0).1 ∧ (sm_gMG P U 40 0 S u 0).2.2 = (sm_gbG P T M M.1 0 S 0).2 ∧ ∀ k, k < 40 → (sm_gMG P U 40 0 S u 0).2.1 k = false := by
  obtain ⟨z1, z2⟩ := sm_gbZ (P := P) (T := T) (S := S) (u := fun _ => false) (fun _ => rfl)
  have e1 := sm_gmE (P := P) (T := T) (S := S) 40 0 (fun _ => false) u (by omega)
  have e2 := sm_gbE (P := P) (T := T) (S := S) hM M.1 0 (fun _ => false)
  rw [z1, z2] at e1 e2
  rw [sm_gMGE hT, e1, e2, sm_nV hM h]
  exact ⟨rfl, rfl, fun k hk => if_pos (by omega)⟩
theorem sm_ccT {P : sm_Sp} {T : sm_Tg} {M : sm_Lg} : ∀ (n i : Nat), sm_ccG P T M n i = true ↔ ∀ j, i ≤ j → j < i + n → sm_kd T (M.2.1 j) 1 = true → sm_tb P T (M.2.1 j) = true
  | 0, i => ⟨fun _ j a b => by omega, fun _ => rfl⟩
  | n + 1, i => by
    show (if sm_kd T (M.2.1 i) 1 = true then (if sm_tb P T (M.2.1 i) = true then sm_ccG P T M n (i + 1) else false) else sm_ccG P T M n (i + 1)) = true ↔ _
    have ih := sm_ccT (P := P) (T := T) (M := M) n (i + 1)
    constructor
    · intro h j a b hk
      by_cases e : j = i
      · subst e
        rw [if_pos hk] at h
        by_cases ht : sm_tb P T (M.2.1 j) = true
        · exact ht
        · rw [if_neg ht] at h; cases h
      · have h2 : sm_ccG P T M n (i + 1) = true := by
          split at h
          · split at h
            · exact h
            · cases h
          · exact h
        exact ih.mp h2 j (by omega) (by omega) hk
    · intro h
      have h2 := ih.mpr (fun j a b => h j (by omega) (by omega))
      by_cases hk : sm_kd T (M.2.1 i) 1 = true
      · rw [if_pos hk, if_pos (h i (Nat.le_refl _) (by omega) hk)]; exact h2
      · rw [if_neg hk]; exact h2
theorem sm_cMT {P : sm_Sp} {T : sm_Tg} {u : Nat → Bool} : ∀ (n i : Nat), sm_cMG P T u n i = true ↔ ∀ k, i ≤ k → k < i + n → u k = true → sm_kd T k 1 = true → sm_tb P T k = true
  | 0, i => ⟨fun _ j a b => by omega, fun _ => rfl⟩
  | n + 1, i => by
    show (if u i = true then (if sm_kd T i 1 = true then (if sm_tb P T i = true then sm_cMG P T u n (i + 1) else false) else sm_cMG P T u n (i + 1)) else sm_cMG P T u n (i + 1)) = true ↔ _
    have ih := sm_cMT (P := P) (T := T) (u := u) n (i + 1)
    constructor
    · intro h j a b hu hk
      by_cases e : j = i
      · subst e
        rw [if_pos hu, if_pos hk] at h
        by_cases ht : sm_tb P T j = true
        · exact ht
        · rw [if_neg ht] at h; cases h
      · have h2 : sm_cMG P T u n (i + 1) = true := by
          split at h
          · split at h
            · split at h
              · exact h
              · cases h
            · exact h
          · exact h
        exact ih.mp h2 j (by omega) (by omega) hu hk
    · intro h
      have h2 := ih.mpr (fun j a b => h j (by omega) (by omega))
      by_cases hu : u i = true
      · rw [if_pos hu]
        by_cases hk : sm_kd T i 1 = true
        · rw [if_pos hk, if_pos (h i (Nat.le_refl _) (by omega) hu hk)]; exact h2
        · rw [if_neg hk]; exact h2
      · rw [if_neg hu]; exact h2
theorem sm_bx {a b : Bool} (h : a = true ↔ b = true) : a = b := by
  cases a with
  | true => exact (h.mp rfl).symm
  | false =>
    cases b with
    | true => exact h.mpr rfl
    | false => rfl
theorem sm_bkE {P : sm_Sp} {T U : sm_Tg} {M : sm_Lg} {u : Nat → Bool} (hT : sm_tT T U) (hM : ∀ i, M.2.1 i < 40) (h : sm_nR M u) (ph : Int32) : sm_mBk P U u ph = sm_kBk P T M ph := by
  unfold sm_mBk sm_kBk
  have e : sm_cMG P U u 40 0 = sm_ccG P T M M.1 0 := by
    refine sm_bx ?_
    rw [sm_cMT, sm_ccT]
    constructor
    · intro g j _ hj hk
      rw [← sm_tbE hT]
      exact g _ (Nat.zero_le _) (by have := hM j; omega) ((h _ (hM j)).mpr ⟨j, by omega, rfl⟩) (by rw [sm_kdE hT]; exact hk)
    · intro g k _ hk hu hkd
      obtain ⟨j, a, rfl⟩ := (h k (by omega)).mp hu
      rw [sm_tbE hT]
      rw [sm_kdE hT] at hkd
      exact g j (Nat.zero_le _) (by omega) hkd
  rw [e]
