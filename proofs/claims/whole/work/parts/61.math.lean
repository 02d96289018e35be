/-! counting, the second log and the way back -/
theorem sm_cnC (f : Nat → Bool) : ∀ (n i c d : Nat), sm_cnG f n i (c + d) = sm_cnG f n i c + d
  | 0, _, _, _ => rfl
  | n + 1, i, c, d => by
    show sm_cnG f n (i + 1) (if f i = true then c + d + 1 else c + d) = sm_cnG f n (i + 1) (if f i = true then c + 1 else c) + d
    split
    · rw [show c + d + 1 = (c + 1) + d by omega]; exact sm_cnC f n (i + 1) (c + 1) d
    · exact sm_cnC f n (i + 1) c d
theorem sm_cnX {f g : Nat → Bool} : ∀ (n i c : Nat), (∀ k, i ≤ k → k < i + n → f k = g k) → sm_cnG f n i c = sm_cnG g n i c
  | 0, _, _, _ => rfl
  | n + 1, i, c, h => by
    show sm_cnG f n (i + 1) (if f i = true then c + 1 else c) = sm_cnG g n (i + 1) (if g i = true then c + 1 else c)
    rw [h i (Nat.le_refl _) (by omega)]
    exact sm_cnX n (i + 1) _ (fun k h1 h2 => h k (by omega) (by omega))
/-- one more -/
theorem sm_cnU {f : Nat → Bool} {j : Nat} (hj : f j = false) : ∀ (n i c : Nat), i ≤ j → j < i + n → sm_cnG (va_up f j true) n i c = sm_cnG f n i c + 1
  | 0, _, _, _, _ => by omega
  | n + 1, i, c, h1, h2 => by
    show sm_cnG (va_up f j true) n (i + 1) (if va_up f j true i = true then c + 1 else c) = sm_cnG f n (i + 1) (if f i = true then c + 1 else c) + 1
    by_cases e : i = j
    · subst e
      rw [sm_upT, if_pos rfl, if_neg (by rw [hj]; decide), sm_cnC f n (i + 1) c 1 |>.symm]
      exact sm_cnX n (i + 1) _ (fun k a b => sm_upF _ _ (by omega))
    · rw [sm_upF _ _ e]
      exact sm_cnU hj n (i + 1) _ (by omega) (by omega)
theorem sm_cnN {f : Nat → Bool} : ∀ (n i : Nat), (∀ k, i ≤ k → k < i + n → f k = false) → sm_cnG f n i 0 = 0
  | 0, _, _ => rfl
  | n + 1, i, h => by
    show sm_cnG f n (i + 1) (if f i = true then 0 + 1 else 0) = 0
    rw [if_neg (by rw [h i (Nat.le_refl _) (by omega)]; decide)]
    exact sm_cnN n (i + 1) (fun k a b => h k (by omega) (by omega))
theorem sm_cnP {f : Nat → Bool} {j : Nat} (hj : f j = true) {n i : Nat} (h1 : i ≤ j) (h2 : j < i + n) : 1 ≤ sm_cnG f n i 0 := by
  have h := sm_cnU (f := va_up f j false) (j := j) (sm_upT _ _ _) n i 0 h1 h2
  have e : va_up (va_up f j false) j true = f := by
    funext k
    by_cases e : k = j
    · subst e; rw [sm_upT, hj]
    · rw [sm_upF _ _ e, sm_upF _ _ e]
  rw [e] at h
  omega
theorem sm_cnF {f : Nat → Bool} : ∀ (n i c : Nat), sm_cnG f n i c < n + c → ∃ k, i ≤ k ∧ k < i + n ∧ f k = false
  | 0, _, c, h => by
    have h : c < 0 + c := h
    omega
  | n + 1, i, c, h => by
    by_cases e : f i = true
    · have h : sm_cnG f n (i + 1) (if f i = true then c + 1 else c) < n + 1 + c := h
      rw [if_pos e] at h
      obtain ⟨k, a, b, z⟩ := sm_cnF (f := f) n (i + 1) (c + 1) (by omega)
      exact ⟨k, by omega, by omega, z⟩
    · exact ⟨i, Nat.le_refl _, by omega, by cases h9 : f i with | true => exact absurd h9 e | false => rfl⟩
-- what one key comes back as
def sm_eqK (R S : sm_Rw) (k : Nat) : Prop := R.1 k = S.1 k ∧ R.2.1 k = S.2.1 k ∧ R.2.2 k = S.2.2 k
theorem sm_rwx {R S : sm_Rw} (h : ∀ k, sm_eqK R S k) : R = S := by
  obtain ⟨a, b, c⟩ := R
  obtain ⟨a2, b2, c2⟩ := S
  have h1 : a = a2 := funext (fun k => (h k).1)
  have h2 : b = b2 := funext (fun k => (h k).2.1)
  have h3 : c = c2 := funext (fun k => (h k).2.2)
  rw [h1, h2, h3]
theorem sm_cbO {P : sm_Sp} {T : sm_Tg} {R : sm_Rw} {k j : Nat} (h : ¬ j = k) : sm_eqK (sm_cbS P T R k) R j := by
  unfold sm_cbS
  split
  · split
    · exact ⟨sm_upF _ _ h, sm_upF _ _ h, sm_upF _ _ h⟩
    · exact ⟨rfl, rfl, rfl⟩
  · exact ⟨sm_upF _ _ h, rfl, rfl⟩
theorem sm_cbK {P : sm_Sp} {T : sm_Tg} {R S : sm_Rw} {k : Nat} (h : sm_eqK R S k) : sm_eqK (sm_cbS P T R k) (sm_cbS P T S k) k := by
  unfold sm_cbS
  split
  · split
    · unfold sm_eqK sm_putS
      simp only [sm_upT, and_self]
    · exact h
  · unfold sm_eqK sm_rmS
    simp only [sm_upT, true_and]
    exact h.2
theorem sm_cbI {P : sm_Sp} {T : sm_Tg} {S : sm_Rw} {k : Nat} : sm_eqK (sm_cbS P T (sm_cbS P T S k) k) (sm_cbS P T S k) k := by
  unfold sm_cbS
  split
  · split
    · unfold sm_eqK sm_putS
      simp only [sm_upT, and_self]
    · exact ⟨rfl, rfl, rfl⟩
  · unfold sm_eqK sm_rmS
    simp only [sm_upT, and_self]
theorem sm_crK {P : sm_Sp} {T : sm_Tg} {R S : sm_Rw} {k : Nat} (h : sm_eqK R S k) : sm_cbR P T R k = sm_cbR P T S k := by
  unfold sm_cbR sm_hold
  rw [h.1, h.2.1, h.2.2]
theorem sm_crI {P : sm_Sp} {T : sm_Tg} {S : sm_Rw} {k : Nat} : sm_cbR P T (sm_cbS P T S k) k = false := by
  unfold sm_cbR sm_cbS sm_hold
  by_cases h1 : sm_kd T k 1 = true
  · rw [if_pos h1, if_pos h1]
    by_cases h2 : sm_tb P T k = true
    · rw [if_pos h2, if_pos h2]
      unfold sm_putS
      simp only [sm_upT, if_true]
    · rw [if_neg h2]
  · rw [if_neg h1, if_neg h1]
    unfold sm_rmS
    exact sm_upT _ _ _
/-- the source once the keys of u have come back -/
def sm_gbF (P : sm_Sp) (T : sm_Tg) (u : Nat → Bool) (S : sm_Rw) : sm_Rw := (fun k => if u k = true then (sm_cbS P T S k).1 k else S.1 k, fun k => if u k = true then (sm_cbS P T S k).2.1 k else S.2.1 k, fun k => if u k = true then (sm_cbS P T S k).2.2 k else S.2.2 k)
theorem sm_gF1 {P : sm_Sp} {T : sm_Tg} {u : Nat → Bool} {S : sm_Rw} {k : Nat} (h : u k = true) : sm_eqK (sm_gbF P T u S) (sm_cbS P T S k) k := ⟨if_pos h, if_pos h, if_pos h⟩
theorem sm_gF0 {P : sm_Sp} {T : sm_Tg} {u : Nat → Bool} {S : sm_Rw} {k : Nat} (h : u k = false) : sm_eqK (sm_gbF P T u S) S k := by
  have h : ¬ u k = true := by rw [h]; decide
  exact ⟨if_neg h, if_neg h, if_neg h⟩
theorem sm_eqT {A B C : sm_Rw} {k : Nat} (h : sm_eqK A B k) (g : sm_eqK B C k) : sm_eqK A C k := ⟨h.1.trans g.1, h.2.1.trans g.2.1, h.2.2.trans g.2.2⟩
theorem sm_eqS {A B : sm_Rw} {k : Nat} (h : sm_eqK A B k) : sm_eqK B A k := ⟨h.1.symm, h.2.1.symm, h.2.2.symm⟩
theorem sm_gFs {P : sm_Sp} {T : sm_Tg} {u : Nat → Bool} {S : sm_Rw} {k : Nat} : sm_cbS P T (sm_gbF P T u S) k = sm_gbF P T (va_up u k true) S := by
  refine sm_rwx (fun j => ?_)
  by_cases e : j = k
  · subst e
    have h2 : sm_eqK (sm_gbF P T (va_up u j true) S) (sm_cbS P T S j) j := sm_gF1 (sm_upT _ _ _)
    cases hu : u j with
    | true => exact sm_eqT (sm_eqT (sm_cbK (sm_gF1 hu)) sm_cbI) (sm_eqS h2)
    | false => exact sm_eqT (sm_cbK (sm_gF0 hu)) (sm_eqS h2)
  · refine sm_eqT (sm_cbO e) ?_
    cases hu : u j with
    | true => exact sm_eqT (sm_gF1 hu) (sm_eqS (sm_gF1 (by rw [sm_upF _ _ e]; exact hu)))
    | false => exact sm_eqT (sm_gF0 hu) (sm_eqS (sm_gF0 (by rw [sm_upF _ _ e]; exact hu)))
theorem sm_gFr {P : sm_Sp} {T : sm_Tg} {u : Nat → Bool} {S : sm_Rw} {k : Nat} : sm_cbR P T (sm_gbF P T u S) k = if u k = true then false else sm_cbR P T S k := by
  cases hu : u k with
  | true => rw [if_pos rfl]; exact (sm_crK (sm_gF1 hu)).trans sm_crI
  | false => rw [if_neg (by decide)]; exact sm_crK (sm_gF0 hu)
def sm_gcF (P : sm_Sp) (T : sm_Tg) (u : Nat → Bool) (S : sm_Rw) : Nat := sm_cnG (fun k => u k && sm_cbR P T S k) 40 0 0
theorem sm_gcU {P : sm_Sp} {T : sm_Tg} {u : Nat → Bool} {S : sm_Rw} {k : Nat} (hk : k < 40) : sm_gcF P T (va_up u k true) S = if sm_cbR P T (sm_gbF P T u S) k = true then sm_gcF P T u S + 1 else sm_gcF P T u S := by
  unfold sm_gcF
  rw [sm_gFr]
  cases hu : u k with
  | true =>
    rw [if_pos rfl, if_neg (by decide)]
    refine sm_cnX 40 0 0 (fun j _ _ => ?_)
    by_cases e : j = k
    · subst e; rw [sm_upT, hu]
    · rw [sm_upF _ _ e]
  | false =>
    rw [show (if false = true then false else sm_cbR P T S k) = sm_cbR P T S k from if_neg Bool.false_ne_true]
    cases hr : sm_cbR P T S k with
    | true =>
      rw [if_pos rfl, ← sm_cnU (f := fun j => u j && sm_cbR P T S j) (j := k) (by simp [hu]) 40 0 0 (by omega) (by omega)]
      refine sm_cnX 40 0 0 (fun j _ _ => ?_)
      by_cases e : j = k
      · subst e; rw [sm_upT, sm_upT, hr]; rfl
      · rw [sm_upF _ _ e, sm_upF _ _ e]
    | false =>
      rw [if_neg (by decide)]
      refine sm_cnX 40 0 0 (fun j _ _ => ?_)
      by_cases e : j = k
      · subst e; rw [sm_upT, hu, hr]; rfl
      · rw [sm_upF _ _ e]
/-- the keys that the entries i .. i + n - 1 of the log name, and those of u -/
def sm_nmG (M : sm_Lg) : Nat → Nat → (Nat → Bool) → Nat → Bool
  | 0, _, u => u
  | n + 1, i, u => sm_nmG M n (i + 1) (va_up u (M.2.1 i) true)
theorem sm_gbE {P : sm_Sp} {T : sm_Tg} {M : sm_Lg} {S : sm_Rw} (hM : ∀ i, M.2.1 i < 40) : ∀ (n i : Nat) (u : Nat → Bool), sm_gbG P T M n i (sm_gbF P T u S) (sm_gcF P T u S) = (sm_gbF P T (sm_nmG M n i u) S, sm_gcF P T (sm_nmG M n i u) S)
  | 0, _, _ => rfl
  | n + 1, i, u => by
    show sm_gbG P T M n (i + 1) (sm_cbS P T (sm_gbF P T u S) (M.2.1 i)) (if sm_cbR P T (sm_gbF P T u S) (M.2.1 i) = true then sm_gcF P T u S + 1 else sm_gcF P T u S) = _
    rw [sm_gFs, ← sm_gcU (hM i), sm_gbE hM n (i + 1) (va_up u (M.2.1 i) true)]
    rfl
theorem sm_gbZ {P : sm_Sp} {T : sm_Tg} {S : sm_Rw} {u : Nat → Bool} (h : ∀ k, u k = false) : sm_gbF P T u S = S ∧ sm_gcF P T u S = 0 := ⟨sm_rwx (fun k => sm_gF0 (h k)), sm_cnN 40 0 (fun k _ _ => by simp [h])⟩
