/-! the class's state against the reference's: what agrees, and that each step keeps it -/
def sm_tT (T U : sm_Tg) : Prop := T.1 = U.1 ∧ T.2.1 = U.2.1 ∧ ∀ k, T.1 k = 1 → T.2.2.1 k = U.2.2.1 k ∧ T.2.2.2 k = U.2.2.2 k
theorem sm_kdE {T U : sm_Tg} (h : sm_tT T U) (k : Nat) (x : Int32) : sm_kd U k x = sm_kd T k x := by unfold sm_kd; rw [h.1]
theorem sm_stE {T U : sm_Tg} (h : sm_tT T U) (k : Nat) : sm_stmp U k = sm_stmp T k := by unfold sm_stmp; rw [h.1]
theorem sm_laE {T U : sm_Tg} (h : sm_tT T U) (k : Nat) (x : Int32) : sm_later U k x = sm_later T k x := by unfold sm_later; rw [sm_stE h, h.2.1]
theorem sm_kd1 {T : sm_Tg} {k : Nat} {x : Int32} (h : sm_kd T k x = true) : T.1 k = x := by
  unfold sm_kd at h
  split at h
  · assumption
  · cases h
theorem sm_seE {T U : sm_Tg} (h : sm_tT T U) (k : Nat) : sm_seF U k = sm_seF T k := by
  unfold sm_seF
  rw [sm_kdE h]
  split
  · rename_i h1
    obtain ⟨e1, e2⟩ := h.2.2 k (sm_kd1 h1)
    rw [e1, e2]
  · rfl
theorem sm_tbE {P : sm_Sp} {T U : sm_Tg} (h : sm_tT T U) (k : Nat) : sm_tb P U k = sm_tb P T k := by
  unfold sm_tb
  rw [sm_kdE h]
  split
  · rename_i h1
    obtain ⟨e1, e2⟩ := h.2.2 k (sm_kd1 h1)
    rw [e1, e2]
  · rfl
theorem sm_cbSE {P : sm_Sp} {T U : sm_Tg} (h : sm_tT T U) (S : sm_Rw) (k : Nat) : sm_cbS P U S k = sm_cbS P T S k := by
  unfold sm_cbS
  rw [sm_kdE h, sm_tbE h]
  split
  · rename_i h1
    obtain ⟨e1, e2⟩ := h.2.2 k (sm_kd1 h1)
    rw [e1, e2]
  · rfl
theorem sm_cbRE {P : sm_Sp} {T U : sm_Tg} (h : sm_tT T U) (S : sm_Rw) (k : Nat) : sm_cbR P U S k = sm_cbR P T S k := by
  unfold sm_cbR
  rw [sm_kdE h, sm_tbE h]
  split
  · rename_i h1
    obtain ⟨e1, e2⟩ := h.2.2 k (sm_kd1 h1)
    rw [e1, e2]
  · rfl
theorem sm_stFE {P : sm_Sp} {S : sm_Rw} {T U : sm_Tg} (h : sm_tT T U) (k : Nat) : sm_stF P S U k = sm_stF P S T k := by
  unfold sm_stF
  rw [sm_kdE h, sm_kdE h]
  by_cases h1 : sm_kd T k 1 = true
  · obtain ⟨e1, e2⟩ := h.2.2 k (sm_kd1 h1)
    unfold sm_eac
    rw [e1, e2]
  · simp only [h1]
    rfl
theorem sm_smE {P : sm_Sp} {S : sm_Rw} {T U : sm_Tg} (h : sm_tT T U) (z : Bool) (lo hi : Nat) : sm_sm z P S U lo hi = sm_sm z P S T lo hi := by
  unfold sm_sm
  have e : sm_sf z P S U = sm_sf z P S T := by
    funext i
    unfold sm_sf
    rw [sm_seE h]
  rw [e]
theorem sm_ssE {P : sm_Sp} {S : sm_Rw} {T U : sm_Tg} (h : sm_tT T U) (lo hi : Nat) : sm_ss P S U lo hi = sm_ss P S T lo hi := by
  unfold sm_ss
  rw [sm_smE h, sm_smE h]
theorem sm_fuE {P : sm_Sp} {S : sm_Rw} {T U : sm_Tg} (h : sm_tT T U) : ∀ (n a b q : Nat), sm_fuG P S U n a b q = sm_fuG P S T n a b q
  | 0, _, _, _ => rfl
  | n + 1, a, b, q => by
    unfold sm_fuG
    rw [sm_ssE h, sm_fuE h, sm_fuE h]
theorem sm_cnE {T U : sm_Tg} (h : sm_tT T U) (x : Int32) : (fun i => sm_kd U i x) = fun i => sm_kd T i x := funext (fun i => sm_kdE h i x)
theorem sm_mvE {P : sm_Sp} {S : sm_Rw} {T U : sm_Tg} (h : sm_tT T U) : (fun i => decide (sm_stF P S U i = 101)) = fun i => decide (sm_stF P S T i = 101) := funext (fun i => by rw [sm_stFE h])
theorem sm_iamE {P : sm_Sp} {S : sm_Rw} {T U : sm_Tg} (h : sm_tT T U) : sm_iam P S U = sm_iam P S T := by unfold sm_iam; rw [sm_mvE h]
theorem sm_anyE {T U : sm_Tg} (h : sm_tT T U) : sm_any U = sm_any T := by unfold sm_any; rw [sm_cnE h]
theorem sm_kSOE {P : sm_Sp} {S : sm_Rw} {T U : sm_Tg} (h : sm_tT T U) (ph : Int32) : sm_kSO P S U ph = sm_kSO P S T ph := by unfold sm_kSO; rw [sm_anyE h, sm_ssE h]
theorem sm_liE {ph : Int32} {S : sm_Rw} {T U : sm_Tg} (h : sm_tT T U) (k : Nat) : sm_live ph U S k = sm_live ph T S k := by unfold sm_live; rw [sm_kdE h]
theorem sm_rdE {ph : Int32} {S : sm_Rw} {T U : sm_Tg} (h : sm_tT T U) (k : Nat) (z : Bool) (hl : sm_live ph T S k = true) : sm_rdF ph U S k z = sm_rdF ph T S k z := by
  unfold sm_rdF
  unfold sm_live at hl
  split
  · rename_i h1
    rw [if_pos h1] at hl
    obtain ⟨e1, e2⟩ := h.2.2 k (sm_kd1 hl)
    rw [e1, e2]
  · rfl
-- each step keeps it
theorem sm_upT {α : Type} (f : Nat → α) (k : Nat) (x : α) : va_up f k x k = x := by unfold va_up; rw [if_pos rfl]
theorem sm_upF {α : Type} (f : Nat → α) {k j : Nat} (x : α) (h : ¬ j = k) : va_up f k x j = f j := by unfold va_up; rw [if_neg h]
theorem sm_entE {T U : sm_Tg} (h : sm_tT T U) (k : Nat) (a b x : Int32) : sm_tT (sm_entT T k a b x) (sm_entT U k a b x) := by
  refine ⟨?_, ?_, fun j hj => ?_⟩
  · show va_up T.1 k 1 = va_up U.1 k 1
    rw [h.1]
  · show va_up T.2.1 k x = va_up U.2.1 k x
    rw [h.2.1]
  · show va_up T.2.2.1 k a j = va_up U.2.2.1 k a j ∧ va_up T.2.2.2 k b j = va_up U.2.2.2 k b j
    by_cases e : j = k
    · subst e; rw [sm_upT, sm_upT, sm_upT, sm_upT]; exact ⟨rfl, rfl⟩
    · rw [sm_upF _ _ e, sm_upF _ _ e, sm_upF _ _ e, sm_upF _ _ e]
      have hj : va_up T.1 k 1 j = 1 := hj
      rw [sm_upF _ _ e] at hj
      exact h.2.2 j hj
theorem sm_hldE {T U : sm_Tg} (h : sm_tT T U) (k : Nat) (y x : Int32) (hy : ¬ y = 1) : sm_tT (sm_hldT T k y x) (sm_hldT U k y x) := by
  refine ⟨?_, ?_, fun j hj => ?_⟩
  · show va_up T.1 k y = va_up U.1 k y
    rw [h.1]
  · show va_up T.2.1 k x = va_up U.2.1 k x
    rw [h.2.1]
  · have hj : va_up T.1 k y j = 1 := hj
    by_cases e : j = k
    · subst e; rw [sm_upT] at hj; exact absurd hj hy
    · rw [sm_upF _ _ e] at hj
      exact h.2.2 j hj
theorem sm_prE {P : sm_Sp} {T U : sm_Tg} (h : sm_tT T U) (k : Nat) (a b x : Int32) : sm_tT (sm_prd P T k a b x) (sm_prM P U k a b x) := by
  unfold sm_prd sm_prM
  rw [sm_laE h]
  split
  · by_cases ht : (sm_tr P (a, b)).1 = true
    · rw [if_pos ht, if_pos ht]
      exact sm_entE h k _ _ x
    · rw [if_neg ht, if_neg ht]
      refine ⟨?_, ?_, fun j hj => ?_⟩
      · show va_up T.1 k 2 = va_up U.1 k 2
        rw [h.1]
      · show va_up T.2.1 k x = va_up U.2.1 k x
        rw [h.2.1]
      · have hj : va_up T.1 k 2 j = 1 := hj
        by_cases e : j = k
        · subst e; rw [sm_upT] at hj; exact absurd hj (by decide)
        · rw [sm_upF _ _ e] at hj
          show T.2.2.1 j = va_up U.2.2.1 k _ j ∧ T.2.2.2 j = va_up U.2.2.2 k _ j
          rw [sm_upF _ _ e, sm_upF _ _ e]
          exact h.2.2 j hj
  · exact h
theorem sm_f1E {P : sm_Sp} {L : sm_Lg} {T U : sm_Tg} (h : sm_tT T U) (i : Nat) : sm_tT (sm_fo1 P L T i) (sm_fM1 P L U i) := by
  unfold sm_fo1 sm_fM1
  split
  · unfold sm_taM
    rw [sm_laE h]
    split
    · exact sm_hldE h _ 3 _ (by decide)
    · exact h
  · exact sm_prE h _ _ _ _
theorem sm_fGE {P : sm_Sp} {L : sm_Lg} : ∀ (n : Nat) {T U : sm_Tg} (_ : sm_tT T U) (i : Nat), sm_tT (sm_foG P L n T i) (sm_fMG P L n U i)
  | 0, _, _, h, _ => h
  | n + 1, _, _, h, i => sm_fGE n (sm_f1E h i) (i + 1)
-- stamps are small numbers, kinds are known
def sm_tB (T : sm_Tg) : Prop := (∀ k, sm_kv (T.1 k)) ∧ ∀ k, ∃ n : Nat, n ≤ 120 ∧ T.2.1 k = nI n
theorem sm_tBu {T : sm_Tg} (h : sm_tB T) {f : Nat → Int32} {g : (Nat → Int32) × (Nat → Int32)} (k : Nat) (y : Int32) (n : Nat) (hy : sm_kv y) (hn : n ≤ 120) (hf : f = va_up T.1 k y) : sm_tB (f, va_up T.2.1 k (nI n), g) := by
  subst hf
  refine ⟨fun j => ?_, fun j => ?_⟩
  · show sm_kv (va_up T.1 k y j)
    by_cases e : j = k
    · subst e; rw [sm_upT]; exact hy
    · rw [sm_upF _ _ e]; exact h.1 j
  · show ∃ n9 : Nat, n9 ≤ 120 ∧ va_up T.2.1 k (nI n) j = nI n9
    by_cases e : j = k
    · subst e; rw [sm_upT]; exact ⟨n, hn, rfl⟩
    · rw [sm_upF _ _ e]; exact h.2 j
theorem sm_entB {T : sm_Tg} (h : sm_tB T) (k : Nat) (a b : Int32) (n : Nat) (hn : n ≤ 120) : sm_tB (sm_entT T k a b (nI n)) := sm_tBu h k 1 n (Or.inr (Or.inl rfl)) hn rfl
theorem sm_hldB {T : sm_Tg} (h : sm_tB T) (k : Nat) (y : Int32) (n : Nat) (hy : sm_kv y) (hn : n ≤ 120) : sm_tB (sm_hldT T k y (nI n)) := sm_tBu h k y n hy hn rfl
theorem sm_prB {P : sm_Sp} {T : sm_Tg} (h : sm_tB T) (k : Nat) (a b : Int32) (n : Nat) (hn : n ≤ 120) : sm_tB (sm_prd P T k a b (nI n)) := by
  unfold sm_prd
  split
  · split
    · exact sm_entB h k _ _ n hn
    · exact sm_hldB h k 2 n (Or.inr (Or.inr (Or.inl rfl))) hn
  · exact h
theorem sm_f1B {P : sm_Sp} {L : sm_Lg} {T : sm_Tg} (h : sm_tB T) (i : Nat) (hi : i + 1 ≤ 120) : sm_tB (sm_fo1 P L T i) := by
  unfold sm_fo1
  split
  · split
    · exact sm_hldB h _ 3 _ (Or.inr (Or.inr (Or.inr rfl))) hi
    · exact h
  · exact sm_prB h _ _ _ _ hi
theorem sm_fGB {P : sm_Sp} {L : sm_Lg} : ∀ (n : Nat) {T : sm_Tg} (_ : sm_tB T) (i : Nat), i + n ≤ 120 → sm_tB (sm_foG P L n T i)
  | 0, _, h, _, _ => h
  | n + 1, _, h, i, hi => sm_fGB n (sm_f1B h i (by omega)) (i + 1) (by omega)
