/-! what a state of the class and of the reference is: groups of numbers, and the cells that hold them -/
abbrev sm_Rw : Type := (Nat → Bool) × (Nat → Int32) × (Nat → Int32)
abbrev sm_Sp : Type := Nat × (Nat → Int32) × (Nat → Int32)
abbrev sm_Tg : Type := (Nat → Int32) × (Nat → Int32) × (Nat → Int32) × (Nat → Int32)
abbrev sm_Lg : Type := Nat × (Nat → Nat) × (Nat → Bool) × (Nat → Int32) × (Nat → Int32)
abbrev sm_Pt : Type := sm_Rw × (Nat → Nat) × (Nat → Nat) × (Nat → Int32) × (Nat → Bool) × Nat × Nat × Nat
abbrev sm_Cp : Type := Int32 × Int32
abbrev sm_Qt : Type := (Nat → Int32) × (Nat → Int32) × (Nat → Int32) × (Nat → Int32) × (Nat → Bool)
/-- the reference's sign of a kind: 0 nothing '-', 1 an entry 'e', 2 aside 'a', 3 a trace 't' -/
def sm_hc (k : Int32) : Int32 := if k = 1 then 101 else if k = 2 then 97 else if k = 3 then 116 else 45
def sm_w6 (D : sm_G) (ad : Nat → Nat) (P : sm_Sp) (S : sm_Rw) (T : sm_Tg) (L M : sm_Lg) (C : sm_Pt) (cp : sm_Cp) (ph : Int32) (fo ne no rc : Nat) (wr : va_W) : va_W :=
  (ad 0, .inr (6, [.ref (ad 1), .ref (ad 4), .ref (ad 8), .ref (ad 13), .ref (ad 18), .ref (ad 23), .ref (ad 32), .int ph, .int (nI fo), .int (nI ne), .int (nI no), .int (nI rc)])) ::
  (ad 1, .inr (4, [.ref (ad 2), .ref (ad 3), .int (nI P.1)])) ::
  (ad 2, .inl (D.2 2, 6, .inl P.2.1)) ::
  (ad 3, .inl (D.2 0, 6, .inl P.2.2)) ::
  (ad 4, .inr (3, [.ref (ad 5), .ref (ad 6), .ref (ad 7)])) ::
  (ad 5, .inl (D.2 1, 40, .inl (fun k => sm_b (S.1 k)))) ::
  (ad 6, .inl (D.2 0, 40, .inl S.2.1)) ::
  (ad 7, .inl (D.2 0, 40, .inl S.2.2)) ::
  (ad 8, .inr (5, [.ref (ad 9), .ref (ad 10), .ref (ad 11), .ref (ad 12)])) ::
  (ad 9, .inl (D.2 0, 40, .inl T.1)) ::
  (ad 10, .inl (D.2 0, 40, .inl T.2.1)) ::
  (ad 11, .inl (D.2 0, 40, .inl T.2.2.1)) ::
  (ad 12, .inl (D.2 0, 40, .inl T.2.2.2)) ::
  (ad 13, .inr (1, [.ref (ad 14), .ref (ad 15), .ref (ad 16), .ref (ad 17), .int (nI L.1)])) ::
  (ad 14, .inl (D.2 0, 120, .inl (fun k => nI (L.2.1 k)))) ::
  (ad 15, .inl (D.2 1, 120, .inl (fun k => sm_b (L.2.2.1 k)))) ::
  (ad 16, .inl (D.2 0, 120, .inl L.2.2.2.1)) ::
  (ad 17, .inl (D.2 0, 120, .inl L.2.2.2.2)) ::
  (ad 18, .inr (1, [.ref (ad 19), .ref (ad 20), .ref (ad 21), .ref (ad 22), .int (nI M.1)])) ::
  (ad 19, .inl (D.2 0, 120, .inl (fun k => nI (M.2.1 k)))) ::
  (ad 20, .inl (D.2 1, 120, .inl (fun k => sm_b (M.2.2.1 k)))) ::
  (ad 21, .inl (D.2 0, 120, .inl M.2.2.2.1)) ::
  (ad 22, .inl (D.2 0, 120, .inl M.2.2.2.2)) ::
  (ad 23, .inr (2, [.ref (ad 28), .ref (ad 24), .ref (ad 25), .ref (ad 26), .ref (ad 27), .int (nI C.2.2.2.2.2.1), .int (nI C.2.2.2.2.2.2.1), .int (nI C.2.2.2.2.2.2.2)])) ::
  (ad 24, .inl (D.2 0, 40, .inl (fun k => nI (C.2.1 k)))) ::
  (ad 25, .inl (D.2 0, 40, .inl (fun k => nI (C.2.2.1 k)))) ::
  (ad 26, .inl (D.2 0, 40, .inl C.2.2.2.1)) ::
  (ad 27, .inl (D.2 1, 40, .inl (fun k => sm_b (C.2.2.2.2.1 k)))) ::
  (ad 28, .inr (3, [.ref (ad 29), .ref (ad 30), .ref (ad 31)])) ::
  (ad 29, .inl (D.2 1, 40, .inl (fun k => sm_b (C.1.1 k)))) ::
  (ad 30, .inl (D.2 0, 40, .inl C.1.2.1)) ::
  (ad 31, .inl (D.2 0, 40, .inl C.1.2.2)) ::
  (ad 32, .inr (0, [.int cp.1, .int cp.2])) :: wr
def sm_w7 (D : sm_G) (am : Nat → Nat) (P : sm_Sp) (S : sm_Rw) (T : sm_Tg) (L : sm_Lg) (nm : Nat → Bool) (Z : sm_Qt) (cp : sm_Cp) (ph : Int32) (th : Int32) (n2 fo rd np pw ev od rc : Nat) (wr : va_W) : va_W :=
  (am 0, .inr (7, [.ref (am 1), .ref (am 2), .ref (am 3), .ref (am 4), .ref (am 5), .ref (am 6), .ref (am 7), .ref (am 8), .ref (am 9), .ref (am 10), .ref (am 11), .ref (am 12), .ref (am 13), .ref (am 14), .ref (am 15), .ref (am 16), .ref (am 17), .ref (am 18), .ref (am 19), .int th, .int (nI P.1), .int (nI L.1), .int (nI fo), .int (nI n2), .int (nI rd), .int (nI np), .int (nI pw), .int (nI ev), .int (nI od), .int (nI rc), .int cp.1, .int cp.2, .int ph])) ::
  (am 1, .inl (D.2 2, 6, .inl P.2.1)) ::
  (am 2, .inl (D.2 2, 40, .inl (fun k => sm_hc (T.1 k)))) ::
  (am 3, .inl (D.2 0, 6, .inl P.2.2)) ::
  (am 4, .inl (D.2 0, 40, .inl S.2.1)) ::
  (am 5, .inl (D.2 0, 40, .inl S.2.2)) ::
  (am 6, .inl (D.2 0, 40, .inl T.2.2.1)) ::
  (am 7, .inl (D.2 0, 40, .inl T.2.2.2)) ::
  (am 8, .inl (D.2 0, 40, .inl T.2.1)) ::
  (am 9, .inl (D.2 1, 40, .inl (fun k => sm_b (S.1 k)))) ::
  (am 10, .inl (D.2 1, 40, .inl (fun k => sm_b (nm k)))) ::
  (am 11, .inl (D.2 0, 120, .inl (fun k => nI (L.2.1 k)))) ::
  (am 12, .inl (D.2 0, 120, .inl L.2.2.2.1)) ::
  (am 13, .inl (D.2 0, 120, .inl L.2.2.2.2)) ::
  (am 14, .inl (D.2 0, 8, .inl Z.1)) ::
  (am 15, .inl (D.2 0, 8, .inl Z.2.1)) ::
  (am 16, .inl (D.2 0, 320, .inl Z.2.2.1)) ::
  (am 17, .inl (D.2 0, 320, .inl Z.2.2.2.1)) ::
  (am 18, .inl (D.2 1, 120, .inl (fun k => sm_b (L.2.2.1 k)))) ::
  (am 19, .inl (D.2 1, 320, .inl (fun k => sm_b (Z.2.2.2.2 k)))) :: wr
-- what both compute
def sm_wi (m : Int32) (c : sm_Cp) : Bool := if c.1 < -m then false else if m < c.1 then false else if c.2 < -m then false else if m < c.2 then false else true
def sm_stepF (k n : Int32) (c : sm_Cp) : sm_Cp := if k = 112 then (c.1 + n, c.2) else if k = 109 then (c.1 * n, c.2) else if k = 110 then (-c.1, c.2) else if k = 120 then (c.2, c.1) else (c.1, c.2 + c.1)
def sm_backF (k n : Int32) (c : sm_Cp) : Bool × sm_Cp := if k = 109 then (if n = 0 then (false, c) else if c.1 - c.1 / n * n = 0 then (true, (c.1 / n, c.2)) else (false, c)) else if k = 112 then (true, (c.1 - n, c.2)) else if k = 110 then (true, (-c.1, c.2)) else if k = 120 then (true, (c.2, c.1)) else (true, (c.1, c.2 - c.1))
def sm_trG (P : sm_Sp) : Nat → Nat → sm_Cp → Bool × sm_Cp
  | 0, _, c => (sm_wi 999 c, c)
  | n + 1, i, c => if sm_wi 99999 (sm_stepF (P.2.1 i) (P.2.2 i) c) = true then sm_trG P n (i + 1) (sm_stepF (P.2.1 i) (P.2.2 i) c) else (false, sm_stepF (P.2.1 i) (P.2.2 i) c)
def sm_tr (P : sm_Sp) (c : sm_Cp) : Bool × sm_Cp := sm_trG P P.1 0 c
def sm_bkG (P : sm_Sp) : Nat → sm_Cp → Bool × sm_Cp
  | 0, c => (sm_wi 99 c, c)
  | n + 1, c => if (sm_backF (P.2.1 n) (P.2.2 n) c).1 = true then sm_bkG P n (sm_backF (P.2.1 n) (P.2.2 n) c).2 else (false, (sm_backF (P.2.1 n) (P.2.2 n) c).2)
def sm_bk (P : sm_Sp) (c : sm_Cp) : Bool × sm_Cp := sm_bkG P P.1 c
def sm_in (m n : Int32) : Bool := if n < -m then false else if m < n then false else true
def sm_isStep (k n : Int32) : Bool := if k = 112 then sm_in 999 n else if k = 109 then (if sm_in 9 n = true then (if n = 0 then false else true) else false) else if k = 110 then true else if k = 120 then true else if k = 115 then true else false
def sm_kOK (k n : Int32) : Prop := (k = 112 ∨ (k = 109 ∧ ¬ n = 0) ∨ k = 110 ∨ k = 120 ∨ k = 115)
def sm_putS (S : sm_Rw) (k : Nat) (a b : Int32) : sm_Rw := (va_up S.1 k true, va_up S.2.1 k a, va_up S.2.2 k b)
def sm_rmS (S : sm_Rw) (k : Nat) : sm_Rw := (va_up S.1 k false, S.2)
/-- how many of the keys from i on, n of them, added to c -/
def sm_cnG (f : Nat → Bool) : Nat → Nat → Nat → Nat
  | 0, _, c => c
  | n + 1, i, c => sm_cnG f n (i + 1) (if f i = true then c + 1 else c)
def sm_appL (L : sm_Lg) (k : Nat) (d : Bool) (a b : Int32) : sm_Lg := (L.1 + 1, va_up L.2.1 L.1 k, va_up L.2.2.1 L.1 d, va_up L.2.2.2.1 L.1 a, va_up L.2.2.2.2 L.1 b)
def sm_stmp (T : sm_Tg) (k : Nat) : Bool := if T.1 k = 0 then false else true
def sm_kd (T : sm_Tg) (k : Nat) (x : Int32) : Bool := if T.1 k = x then true else false
def sm_later (T : sm_Tg) (k : Nat) (s : Int32) : Bool := if sm_stmp T k = true then (if T.2.1 k < s then true else false) else true
def sm_entT (T : sm_Tg) (k : Nat) (a b s : Int32) : sm_Tg := (va_up T.1 k 1, va_up T.2.1 k s, va_up T.2.2.1 k a, va_up T.2.2.2 k b)
def sm_hldT (T : sm_Tg) (k : Nat) (x s : Int32) : sm_Tg := (va_up T.1 k x, va_up T.2.1 k s, T.2.2)
theorem sm_nl {x y : Int32} (h : y ≤ x) : ¬ x < y := Int32.not_lt.mpr h
theorem sm_nle {x y : Int32} (h : ¬ y ≤ x) : x < y := Int32.not_le.mp h
theorem sm_Nlt {a b : Nat} (h : nI a < nI b) (ha : a < 2 ^ 31) (hb : b < 2 ^ 31) : a < b := (nI_ltI ha hb).mp h
theorem sm_Nnl {a b : Nat} (h : ¬ nI a < nI b) (ha : a < 2 ^ 31) (hb : b < 2 ^ 31) : ¬ a < b := fun z => h ((nI_ltI ha hb).mpr z)
theorem sm_Neq {a b : Nat} (h : nI a = nI b) (ha : a < 2 ^ 31) (hb : b < 2 ^ 31) : a = b := (nI_eq ha hb).mp h
theorem sm_Nne {a b : Nat} (h : ¬ nI a = nI b) (ha : a < 2 ^ 31) (hb : b < 2 ^ 31) : ¬ a = b := fun z => h ((nI_eq ha hb).mpr z)
theorem sm_pNlt {a b : Nat} (h : a < b) (hb : b < 2 ^ 31) : nI a < nI b := nI_lt h hb
theorem sm_pNnl {a b : Nat} (h : ¬ a < b) (ha : a < 2 ^ 31) (hb : b < 2 ^ 31) : ¬ nI a < nI b := fun z => h ((nI_ltI ha hb).mp z)
theorem sm_pNne {a b : Nat} (h : ¬ a = b) (ha : a < 2 ^ 31) (hb : b < 2 ^ 31) : ¬ nI a = nI b := fun z => h ((nI_eq ha hb).mp z)
theorem sm_cnle (f : Nat → Bool) : ∀ (n i c : Nat), sm_cnG f n i c ≤ n + c
  | 0, _, c => by show c ≤ 0 + c; omega
  | n + 1, i, c => by
    show sm_cnG f n (i + 1) (if f i = true then c + 1 else c) ≤ n + 1 + c
    have h := sm_cnle f n (i + 1) (if f i = true then c + 1 else c)
    split at h <;> split <;> first | omega | simp_all <;> omega
