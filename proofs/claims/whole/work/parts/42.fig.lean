/-! figures -/
def sm_nz (n : Nat) : Bool := if n = 0 then false else true
def sm_okF (r : UInt32) : Bool := decide (r &&& 0x7fffffff ≤ 0x7f800000) && decide (FP.f2d r &&& 0x7fffffffffffffff ≤ 0x7ff0000000000000)
def sm_okD (r : UInt64) : Bool := decide (r &&& 0x7fffffffffffffff ≤ 0x7ff0000000000000)
def sm_ckF (b : Nat) : Nat → Bool
  | 0 => true
  | k + 1 => sm_okF (FP.fdiv (FP.i2f (nI k)) (FP.i2f (nI b))) && sm_ckF b k
def sm_ckD (b : Nat) : Nat → Bool
  | 0 => true
  | k + 1 => sm_okD (FP.ddiv (FP.i2d (nI k)) (FP.i2d (nI b))) && sm_ckD b k
theorem sm_ckFa {b : Nat} : ∀ {n k : Nat}, sm_ckF b n = true → k < n → sm_okF (FP.fdiv (FP.i2f (nI k)) (FP.i2f (nI b))) = true
  | n + 1, k, h, hk => by
    have h : (sm_okF (FP.fdiv (FP.i2f (nI n)) (FP.i2f (nI b))) && sm_ckF b n) = true := h
    rw [Bool.and_eq_true] at h
    by_cases e : k = n
    · rw [e]; exact h.1
    · exact sm_ckFa h.2 (by omega)
theorem sm_ckDa {b : Nat} : ∀ {n k : Nat}, sm_ckD b n = true → k < n → sm_okD (FP.ddiv (FP.i2d (nI k)) (FP.i2d (nI b))) = true
  | n + 1, k, h, hk => by
    have h : (sm_okD (FP.ddiv (FP.i2d (nI n)) (FP.i2d (nI b))) && sm_ckD b n) = true := h
    rw [Bool.and_eq_true] at h
    by_cases e : k = n
    · rw [e]; exact h.1
    · exact sm_ckDa h.2 (by omega)
theorem sm_fqT : ∀ b, b < 40 → sm_ckF (b + 1) 41 = true := by decide +kernel
theorem sm_dqT : ∀ b, b < 2 → sm_ckD (b + 1) (120 * (b + 1) + 1) = true := by decide +kernel
