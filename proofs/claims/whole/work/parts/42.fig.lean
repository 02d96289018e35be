/-! figures -/
def sm_nz (n : Nat) : Bool := if n = 0 then false else true
def sm_okF (r : UInt32) : Bool := decide (r &&& 0x7fffffff ≤ 0x7f800000) && decide (FP.f2d r &&& 0x7fffffffffffffff ≤ 0x7ff0000000000000)
def sm_ckF (b : Nat) : Nat → Bool
  | 0 => true
  | k + 1 => sm_okF (FP.fdiv (FP.i2f (nI k)) (FP.i2f (nI b))) && sm_ckF b k
def sm_isFin (d : FP.Core.Datum) (z : Bool) : Bool := match d with
  | .fin false c _ => if c = 0 then z else true
  | _ => false
def sm_ckI : Nat → Bool
  | 0 => true
  | k + 1 => sm_isFin (FP.Core.decode FP.Core.b64 (FP.i2d (nI k)).toNat) true && sm_ckI k
theorem sm_ckFa {b : Nat} : ∀ {n k : Nat}, sm_ckF b n = true → k < n → sm_okF (FP.fdiv (FP.i2f (nI k)) (FP.i2f (nI b))) = true
  | n + 1, k, h, hk => by
    have h : (sm_okF (FP.fdiv (FP.i2f (nI n)) (FP.i2f (nI b))) && sm_ckF b n) = true := h
    rw [Bool.and_eq_true] at h
    by_cases e : k = n
    · rw [e]; exact h.1
    · exact sm_ckFa h.2 (by omega)
theorem sm_ckIa : ∀ {n k : Nat}, sm_ckI n = true → k < n → sm_isFin (FP.Core.decode FP.Core.b64 (FP.i2d (nI k)).toNat) true = true
  | n + 1, k, h, hk => by
    have h : (sm_isFin (FP.Core.decode FP.Core.b64 (FP.i2d (nI n)).toNat) true && sm_ckI n) = true := h
    rw [Bool.and_eq_true] at h
    by_cases e : k = n
    · rw [e]; exact h.1
    · exact sm_ckIa h.2 (by omega)
theorem sm_ckIT : sm_ckI 4801 = true := by decide +kernel
theorem sm_ckIN : ∀ b, b < 40 → sm_isFin (FP.Core.decode FP.Core.b64 (FP.i2d (nI (b + 1))).toNat) false = true := by decide +kernel
theorem sm_fqT : ∀ b, b < 40 → sm_ckF (b + 1) 41 = true := by decide +kernel
theorem sm_fq1 {a b : Nat} (ha : a ≤ 40) (hb : b ≤ 40) (h0 : ¬ b = 0) : vf_n32 (FP.fdiv (FP.i2f (nI a)) (FP.i2f (nI b))) := by
  obtain ⟨k, rfl⟩ : ∃ k, b = k + 1 := ⟨b - 1, by omega⟩
  have h := sm_ckFa (sm_fqT k (by omega)) (show a < 41 by omega)
  unfold sm_okF at h
  rw [Bool.and_eq_true, decide_eq_true_iff] at h
  exact h.1
theorem sm_fq2 {a b : Nat} (ha : a ≤ 40) (hb : b ≤ 40) (h0 : ¬ b = 0) : vf_n64 (FP.f2d (FP.fdiv (FP.i2f (nI a)) (FP.i2f (nI b)))) := by
  obtain ⟨k, rfl⟩ : ∃ k, b = k + 1 := ⟨b - 1, by omega⟩
  have h := sm_ckFa (sm_fqT k (by omega)) (show a < 41 by omega)
  unfold sm_okF at h
  rw [Bool.and_eq_true, decide_eq_true_iff, decide_eq_true_iff] at h
  exact h.2
theorem sm_encB (c : Nat) (q : Int) (hc : c < 2 ^ 53) : FP.Core.encode FP.Core.b64 (FP.Core.bound FP.Core.b64 false c q) ≤ 9218868437227405312 := by
  unfold FP.Core.bound
  have e1 : FP.Core.b64.qmax = 971 := by decide
  have e2 : FP.Core.b64.qmin = -1074 := by decide
  have e3 : FP.Core.b64.tails = 4503599627370496 := by decide
  have e4 : FP.Core.b64.exps = 2048 := by decide
  split
  · unfold FP.Core.encode FP.Core.assemble
    simp only [e1, e2, e3, e4] at *
    split
    · simp only [Bool.toNat_false]; omega
    · simp only [Bool.toNat_false]; omega
  · unfold FP.Core.encode FP.Core.assemble
    simp only [e3, e4, Bool.toNat_false]
    omega
theorem sm_encR (a b : Nat) (e : Int) : FP.Core.encode FP.Core.b64 (FP.Core.roundRatio FP.Core.b64 false a b e) ≤ 9218868437227405312 := by
  unfold FP.Core.roundRatio
  split
  · decide
  · unfold FP.Core.roundAt FP.Core.settle
    split
    · exact sm_encB _ _ (by assumption)
    · exact sm_encB _ _ (by decide)
theorem sm_n64 {n : Nat} (h : n ≤ 9218868437227405312) : vf_n64 (UInt64.ofNat n) := by
  show (UInt64.ofNat n &&& 0x7fffffffffffffff) ≤ 0x7ff0000000000000
  rw [UInt64.le_iff_toNat_le, UInt64.toNat_and, UInt64.toNat_ofNat_of_lt' (show n < 2 ^ 64 by omega)]
  show n &&& 0x7fffffffffffffff ≤ 0x7ff0000000000000
  rw [show (0x7fffffffffffffff : Nat) = 2 ^ 63 - 1 by decide, Nat.and_two_pow_sub_one_eq_mod, Nat.mod_eq_of_lt (show n < 2 ^ 63 by omega)]
  exact h
theorem sm_dqF {x y : UInt64} (hx : sm_isFin (FP.Core.decode FP.Core.b64 x.toNat) true = true) (hy : sm_isFin (FP.Core.decode FP.Core.b64 y.toNat) false = true) : vf_n64 (FP.ddiv x y) := by
  show vf_n64 (UInt64.ofNat (FP.Core.encode FP.Core.b64 (FP.Core.quotient FP.Core.b64 (FP.Core.decode FP.Core.b64 x.toNat) (FP.Core.decode FP.Core.b64 y.toNat))))
  refine sm_n64 ?_
  revert hx hy
  generalize FP.Core.decode FP.Core.b64 x.toNat = d1
  generalize FP.Core.decode FP.Core.b64 y.toNat = d2
  intro hx hy
  cases d1 with
  | nan => cases hx
  | inf z => cases hx
  | fin z c q =>
    cases z with
    | true => cases hx
    | false =>
      cases d2 with
      | nan => cases hy
      | inf z => cases hy
      | fin z d r =>
        cases z with
        | true => cases hy
        | false =>
          have hd : ¬ d = 0 := by
            intro hd
            subst hd
            cases hy
          show FP.Core.encode FP.Core.b64 (if d = 0 then _ else FP.Core.roundRatio FP.Core.b64 false c d (q - r)) ≤ _
          rw [if_neg hd]
          exact sm_encR _ _ _
theorem sm_dq1 {a b : Nat} (ha : a ≤ 120 * b) (hb : b ≤ 40) (h0 : ¬ b = 0) : vf_n64 (FP.ddiv (FP.i2d (nI a)) (FP.i2d (nI b))) := by
  obtain ⟨k, rfl⟩ : ∃ k, b = k + 1 := ⟨b - 1, by omega⟩
  exact sm_dqF (sm_ckIa sm_ckIT (by omega)) (sm_ckIN k (by omega))
theorem sm_reL {x y : Int64} (h : x = y) {p : Program} {l : Launch} {e : Env} {R : Room} {s : State} {m : MethodId} {args : Array Value} {below : List Frame} {meth : Method} {c : Code} {H : Heap} {locs : List Loc} {cells slots : Nat} {Q : State → Prop} {pc : Nat} {ls : Array Slot} {rest : List Value} (kk : W p l e R s m args below meth c H locs cells slots Q (F0 m pc ls (.long y :: rest))) : W p l e R s m args below meth c H locs cells slots Q (F0 m pc ls (.long x :: rest)) := by rw [h]; exact kk
theorem sm_reD {x y : UInt64} (h : x = y) {p : Program} {l : Launch} {e : Env} {R : Room} {s : State} {m : MethodId} {args : Array Value} {below : List Frame} {meth : Method} {c : Code} {H : Heap} {locs : List Loc} {cells slots : Nat} {Q : State → Prop} {pc : Nat} {ls : Array Slot} {rest : List Value} (kk : W p l e R s m args below meth c H locs cells slots Q (F0 m pc ls (.double y :: rest))) : W p l e R s m args below meth c H locs cells slots Q (F0 m pc ls (.double x :: rest)) := by rw [h]; exact kk
theorem sm_l2d {q : Int64} {n : Int32} (h : q = n.toInt64) : FP.l2d q = FP.i2d n := by
  rw [h]
  show UInt64.ofNat (FP.Core.fromInt _ _) = UInt64.ofNat (FP.Core.fromInt _ _)
  rw [Int32.toInt_toInt64]
def sm_alG (T : sm_Tg) : Nat → Nat → Int64 → Int64
  | 0, _, c => c
  | n + 1, i, c => sm_alG T n (i + 1) (if sm_kd T i 1 = true then c + (T.2.1 i).toInt64 else c)
theorem sm_alS {T : sm_Tg} {n i : Nat} {c : Int64} (h : i < n) : sm_alG T (n - i) i c = sm_alG T (n - (i + 1)) (i + 1) (if sm_kd T i 1 = true then c + (T.2.1 i).toInt64 else c) := by
  obtain ⟨k, hk⟩ : ∃ k, n - i = k + 1 := ⟨n - i - 1, by omega⟩
  rw [hk, show n - (i + 1) = k by omega]
  rfl
