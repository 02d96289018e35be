/-! the reference: its steps, putting down, following -/
section
theorem sm_us {α : Type} (f : Nat → α) (j : Nat) (x : α) : va_up f j x j = x := if_pos rfl
def sm_btN (lo hi x : Nat) : Bool := if x < lo then false else if hi < x then false else true
theorem sm_btk {k : Nat} (hk : k < 40) : sm_btN 0 39 k = true := by rw [sm_btN, if_neg (by omega), if_neg (by omega)]
theorem sm_isKb (x : Int32) : sm_bt 0 39 x = sm_isKey x := by
  unfold sm_bt sm_isKey
  by_cases h : x < 0
  · rw [if_pos h, if_pos h]
  · rw [if_neg h, if_neg h]
    have e : (39 : Int32) < x ↔ ¬ x < 40 := by
      rw [Int32.lt_iff_toInt_lt, Int32.lt_iff_toInt_lt, show (39 : Int32).toInt = 39 by decide, show (40 : Int32).toInt = 40 by decide]
      omega
    by_cases h2 : x < 40
    · rw [if_neg (fun z => e.mp z h2), if_pos h2]
    · rw [if_pos (e.mpr h2), if_neg h2]
theorem sm_wi7 (m : Int32) (c : sm_Cp) : sm_wi m c = if sm_bt (-m) m c.1 = true then (if sm_bt (-m) m c.2 = true then true else false) else false := by
  unfold sm_wi sm_bt
  split
  · rfl
  · split
    · rfl
    · rw [if_pos rfl]
      split
      · rfl
      · split <;> rfl
theorem sm_bk7 {P : sm_Sp} {j : Nat} {q : sm_Cp} (h : j < P.1) : sm_bkG P (j + 1) q = if (sm_backF (P.2.1 j) (P.2.2 j) q).1 = true then sm_bkG P j (sm_backF (P.2.1 j) (P.2.2 j) q).2 else (false, (sm_backF (P.2.1 j) (P.2.2 j) q).2) := rfl
theorem sm_kOKm {k n : Int32} (h : sm_kOK k n) (hk : k = 109) : ¬ n = 0 := by
  subst hk
  rcases h with h | ⟨-, h⟩ | h | h | h
  · exact absurd h (by decide)
  · exact h
  · exact absurd h (by decide)
  · exact absurd h (by decide)
  · exact absurd h (by decide)
def sm_isKd (k : Int32) : Bool := if k = 112 then true else if k = 109 then true else if k = 110 then true else if k = 120 then true else if k = 115 then true else false
def sm_isNb (k x : Int32) : Bool := if k = 112 then sm_bt (-999) 999 x else if k = 109 then (if sm_bt (-9) 9 x = true then (if x = 0 then false else true) else false) else true
theorem sm_stpE (k x : Int32) : sm_isStep k x = if sm_isKd k = true then sm_isNb k x else false := by
  unfold sm_isStep sm_isKd sm_isNb
  by_cases h1 : k = 112
  · rw [if_pos h1, if_pos h1, if_pos h1, if_pos rfl]; rfl
  · rw [if_neg h1, if_neg h1, if_neg h1]
    by_cases h2 : k = 109
    · rw [if_pos h2, if_pos h2, if_pos h2, if_pos rfl]; rfl
    · rw [if_neg h2, if_neg h2, if_neg h2]
      split
      · rfl
      · split
        · rfl
        · split <;> rfl
def sm_kv (k : Int32) : Prop := k = 0 ∨ k = 1 ∨ k = 2 ∨ k = 3
theorem sm_hcT1 {T : sm_Tg} {k : Nat} (h : sm_hc (T.1 k) = 101) : sm_kd T k 1 = true := by
  unfold sm_hc at h
  unfold sm_kd
  split at h
  · rw [if_pos (by assumption)]
  · split at h
    · exact absurd h (by decide)
    · split at h <;> exact absurd h (by decide)
theorem sm_hcF1 {T : sm_Tg} {k : Nat} (h : ¬ sm_hc (T.1 k) = 101) : sm_kd T k 1 = false := by
  unfold sm_kd
  rw [if_neg (fun z => h (by rw [z]; decide))]
theorem sm_hcT2 {T : sm_Tg} {k : Nat} (h : sm_hc (T.1 k) = 97) : sm_kd T k 2 = true := by
  unfold sm_hc at h
  unfold sm_kd
  split at h
  · exact absurd h (by decide)
  · split at h
    · rw [if_pos (by assumption)]
    · split at h <;> exact absurd h (by decide)
theorem sm_hcF2 {T : sm_Tg} {k : Nat} (h : ¬ sm_hc (T.1 k) = 97) : sm_kd T k 2 = false := by
  unfold sm_kd
  rw [if_neg (fun z => h (by rw [z]; decide))]
theorem sm_hcT0 {T : sm_Tg} {k : Nat} (hv : sm_kv (T.1 k)) (h : sm_hc (T.1 k) = 45) : sm_stmp T k = false := by
  unfold sm_stmp
  rcases hv with e | e | e | e
  · rw [if_pos e]
  · rw [e] at h; exact absurd h (by decide)
  · rw [e] at h; exact absurd h (by decide)
  · rw [e] at h; exact absurd h (by decide)
theorem sm_hcF0 {T : sm_Tg} {k : Nat} (h : ¬ sm_hc (T.1 k) = 45) : sm_stmp T k = true := by
  unfold sm_stmp
  rw [if_neg (fun z => h (by rw [z]; decide))]
theorem sm_hcTx {T : sm_Tg} {k : Nat} {x : Int32} (hx : x = 1 ∨ x = 2) (h : sm_hc (T.1 k) = sm_hc x) : sm_kd T k x = true := by
  rcases hx with e | e <;> subst e
  · exact sm_hcT1 (h.trans (by decide))
  · exact sm_hcT2 (h.trans (by decide))
theorem sm_hcFx {T : sm_Tg} {k : Nat} {x : Int32} (hx : x = 1 ∨ x = 2) (h : ¬ sm_hc (T.1 k) = sm_hc x) : sm_kd T k x = false := by
  unfold sm_kd
  rw [if_neg (fun z => h (by rw [z]))]
def sm_prM (P : sm_Sp) (T : sm_Tg) (k : Nat) (a b x : Int32) : sm_Tg := if sm_later T k x = true then (va_up T.1 k (if (sm_tr P (a, b)).1 = true then 1 else 2), va_up T.2.1 k x, va_up T.2.2.1 k (sm_tr P (a, b)).2.1, va_up T.2.2.2 k (sm_tr P (a, b)).2.2) else T
def sm_taM (T : sm_Tg) (k : Nat) (x : Int32) : sm_Tg := if sm_later T k x = true then sm_hldT T k 3 x else T
def sm_fM1 (P : sm_Sp) (L : sm_Lg) (T : sm_Tg) (i : Nat) : sm_Tg := if L.2.2.1 i = true then sm_taM T (L.2.1 i) (nI (i + 1)) else sm_prM P T (L.2.1 i) (L.2.2.2.1 i) (L.2.2.2.2 i) (nI (i + 1))
variable {l : Launch} (D : sm_G) (am : Nat → Nat) (P : sm_Sp) (S : sm_Rw) (T : sm_Tg) (L : sm_Lg) (nm : Nat → Bool) (Z : sm_Qt) (cp : sm_Cp) (ph : Int32) (th : Int32) (n2 fo rd np pw ev od rc : Nat) (wr : va_W)
set_option maxHeartbeats 1000000 in
set_option maxRecDepth 100000 in
theorem c_X7_in_n (x lo hi : Nat) (hx1 : x < 2 ^ 31) (hx2 : lo < 2 ^ 31) (hx3 : hi < 2 ^ 31) : sm_MP l yX7_in cX7_in 3 (some .boolean) 0 0 [.int (nI x), .int (nI lo), .int (nI hi)] D (sm_w7 D am P S T L nm Z cp ph th n2 fo rd np pw ev od rc wr) (some (.int (sm_b (sm_btN lo hi x)))) := by
  refine sm_met (own := RX7) (by decide) rfl (Nat.le_of_ble_eq_true rfl) ?_
  intro p e s m below meth c ls hC hv hl
  obtain ⟨hx, hb, hml, hr, hown, hlk, hts⟩ := id hC
  obtain ⟨hP, hK⟩ := hv
  have hl : lv_has ls 3 [(0, .int (nI x)), (1, .int (nI lo)), (2, .int (nI hi))] := hl
  refine lv_iload_n hx hb dX7_in_0 rfl (lv_at hl 0 rfl) ?_
  refine lv_iload_n hx hb dX7_in_1 rfl (lv_at hl 1 rfl) ?_
  refine lv_icmp_lt (tgt := 14) hx hb dX7_in_2 (by decide) (fun c_1 => ?_) (fun c_1 => ?_)
  · have c_1 := sm_Nlt (a := x) (b := lo) (c_1) (by omega) (by omega)
    refine lv_iconst (v := 0) hx hb dX7_in_14 (by decide) ?_
    exact sm_retP hC (by first | rfl | (simp [sm_btN, sm_b, c_1]; done) | (simp [sm_btN, sm_b] at c_1; simp [sm_btN, sm_b, c_1]; done) | (simp_all [sm_btN, sm_b]; done)) (by decide) dX7_in_15
  · have c_1 := sm_Nnl (a := x) (b := lo) (c_1) (by omega) (by omega)
    refine lv_iload_n hx hb dX7_in_5 rfl (lv_at hl 0 rfl) ?_
    refine lv_iload_n hx hb dX7_in_6 rfl (lv_at hl 2 rfl) ?_
    refine lv_icmp_gt (tgt := 14) hx hb dX7_in_7 (by decide) (fun c_2 => ?_) (fun c_2 => ?_)
    · have c_2 := sm_Nlt (a := hi) (b := x) (c_2) (by omega) (by omega)
      refine lv_iconst (v := 0) hx hb dX7_in_14 (by decide) ?_
      exact sm_retP hC (by first | rfl | (simp [sm_btN, sm_b, c_1, c_2]; done) | (simp [sm_btN, sm_b] at c_1 c_2; simp [sm_btN, sm_b, c_1, c_2]; done) | (simp_all [sm_btN, sm_b]; done)) (by decide) dX7_in_15
    · have c_2 := sm_Nnl (a := hi) (b := x) (c_2) (by omega) (by omega)
      refine lv_iconst (v := 1) hx hb dX7_in_10 (by decide) ?_
      refine lv_goto (tgt := 15) hx hb dX7_in_11 (by decide) ?_
      exact sm_retP hC (by first | rfl | (simp [sm_btN, sm_b, c_1, c_2]; done) | (simp [sm_btN, sm_b] at c_1 c_2; simp [sm_btN, sm_b, c_1, c_2]; done) | (simp_all [sm_btN, sm_b]; done)) (by decide) dX7_in_15

set_option maxHeartbeats 1000000 in
set_option maxRecDepth 100000 in
theorem c_X7_in (x lo hi : Int32) : sm_MP l yX7_in cX7_in 3 (some .boolean) 0 0 [.int x, .int lo, .int hi] D (sm_w7 D am P S T L nm Z cp ph th n2 fo rd np pw ev od rc wr) (some (.int (sm_b (sm_bt lo hi x)))) := by
  refine sm_met (own := RX7) (by decide) rfl (Nat.le_of_ble_eq_true rfl) ?_
  intro p e s m below meth c ls hC hv hl
  obtain ⟨hx, hb, hml, hr, hown, hlk, hts⟩ := id hC
  obtain ⟨hP, hK⟩ := hv
  have hl : lv_has ls 3 [(0, .int x), (1, .int lo), (2, .int hi)] := hl
  refine lv_iload_n hx hb dX7_in_0 rfl (lv_at hl 0 rfl) ?_
  refine lv_iload_n hx hb dX7_in_1 rfl (lv_at hl 1 rfl) ?_
  refine lv_icmp_lt (tgt := 14) hx hb dX7_in_2 (by decide) (fun c_1 => ?_) (fun c_1 => ?_)
  · have c_1_ := c_1
    refine lv_iconst (v := 0) hx hb dX7_in_14 (by decide) ?_
    exact sm_retP hC (by first | rfl | (simp [sm_bt, sm_b, c_1]; done) | (simp [sm_bt, sm_b] at c_1; simp [sm_bt, sm_b, c_1]; done) | (simp_all [sm_bt, sm_b]; done)) (by decide) dX7_in_15
  · have c_1_ := c_1
    refine lv_iload_n hx hb dX7_in_5 rfl (lv_at hl 0 rfl) ?_
    refine lv_iload_n hx hb dX7_in_6 rfl (lv_at hl 2 rfl) ?_
    refine lv_icmp_gt (tgt := 14) hx hb dX7_in_7 (by decide) (fun c_2 => ?_) (fun c_2 => ?_)
    · have c_2_ := c_2
      refine lv_iconst (v := 0) hx hb dX7_in_14 (by decide) ?_
      exact sm_retP hC (by first | rfl | (simp [sm_bt, sm_b, c_1, c_2]; done) | (simp [sm_bt, sm_b] at c_1 c_2; simp [sm_bt, sm_b, c_1, c_2]; done) | (simp_all [sm_bt, sm_b]; done)) (by decide) dX7_in_15
    · have c_2_ := c_2
      refine lv_iconst (v := 1) hx hb dX7_in_10 (by decide) ?_
      refine lv_goto (tgt := 15) hx hb dX7_in_11 (by decide) ?_
      exact sm_retP hC (by first | rfl | (simp [sm_bt, sm_b, c_1, c_2]; done) | (simp [sm_bt, sm_b] at c_1 c_2; simp [sm_bt, sm_b, c_1, c_2]; done) | (simp_all [sm_bt, sm_b]; done)) (by decide) dX7_in_15

set_option maxHeartbeats 1000000 in
set_option maxRecDepth 100000 in
theorem c_X7_thrown  : sm_MP l yX7_thrown cX7_thrown 1 (some .int) 0 0 [.ref (am 0)] D (sm_w7 D am P S T L nm Z cp ph th n2 fo rd np pw ev od rc wr) (some (.int th)) := by
  refine sm_met (own := RX7) (by decide) rfl (Nat.le_of_ble_eq_true rfl) ?_
  intro p e s m below meth c ls hC hv hl
  obtain ⟨hx, hb, hml, hr, hown, hlk, hts⟩ := id hC
  obtain ⟨hP, hK⟩ := hv
  have hl : lv_has ls 1 [(0, .ref (am 0))] := hl
  refine lv_aload_n hx hb dX7_thrown_0 rfl (lv_at hl 0 rfl) ?_
  refine sm_gt (ci := 7) (C := RX7) (T := TX7) (N := 33) hx hb hts inlX7 hown hK hP 0 rfl rfl 19 (by decide) wf_RX7_69 rfl dX7_thrown_1 ?_
  exact sm_retP hC rfl rfl dX7_thrown_4

set_option maxHeartbeats 1000000 in
set_option maxRecDepth 100000 in
theorem c_X7_plain (x : Int32) : sm_MC l yX7_plain cX7_plain 2 (some .int) 0 0 [.ref (am 0), .int x] D (sm_w7 D am P S T L nm Z cp ph th n2 fo rd np pw ev od rc wr) (fun w => w = sm_w7 D am P S T L nm Z cp ph 0 n2 fo rd np pw ev od rc wr) (some (.int x)) := by
  refine sm_met (own := RX7) (by decide) rfl (Nat.le_of_ble_eq_true rfl) ?_
  intro p e s m below meth c ls hC hv hl
  obtain ⟨hx, hb, hml, hr, hown, hlk, hts⟩ := id hC
  obtain ⟨⟨hP, hK⟩, hD, hZ⟩ := hv
  have hS : va_S (sm_ad (sm_w7 D am P S T L nm Z cp ph th n2 fo rd np pw ev od rc wr)) s.heap s.heap [] := va_S.rf
  have hl : lv_has ls 2 [(0, .ref (am 0)), (1, .int x)] := hl
  refine lv_aload_n hx hb dX7_plain_0 rfl (lv_at hl 0 rfl) ?_
  refine lv_iconst (v := 0) hx hb dX7_plain_1 (by decide) ?_
  refine sm_pt (ci := 7) (C := RX7) (T := TX7) (N := 33) hx hb hts inlX7 tyX7 tyX7_ok nmX7 hown hK hP hD hS 0 rfl rfl 19 (by decide) wf_RX7_69 rfl rfl rfl (Nat.le_of_ble_eq_true rfl) dX7_plain_2 (fun H locs hP hD hS => ?_)
  have hP : va_P D.1 sm_cl (sm_w7 D am P S T L nm Z cp ph 0 n2 fo rd np pw ev od rc wr) H := hP
  have hD : va_D (sm_ad (sm_w7 D am P S T L nm Z cp ph th n2 fo rd np pw ev od rc wr)) (sm_w7 D am P S T L nm Z cp ph 0 n2 fo rd np pw ev od rc wr) := hD
  refine lv_iload_n hx hb dX7_plain_5 rfl (lv_at hl 1 rfl) ?_
  exact sm_retC hC hP hD hS rfl rfl (by exact rfl) dX7_plain_6

set_option maxHeartbeats 1000000 in
set_option maxRecDepth 100000 in
theorem c_X7_checked (z : Bool) : sm_MC l yX7_checked cX7_checked 2 (some .int) 0 0 [.ref (am 0), .int (sm_b z)] D (sm_w7 D am P S T L nm Z cp ph th n2 fo rd np pw ev od rc wr) (fun w => w = sm_w7 D am P S T L nm Z cp ph (sm_k1 z) n2 fo rd np pw ev od rc wr) (some (.int (sm_k1 z))) := by
  refine sm_met (own := RX7) (by decide) rfl (Nat.le_of_ble_eq_true rfl) ?_
  intro p e s m below meth c ls hC hv hl
  obtain ⟨hx, hb, hml, hr, hown, hlk, hts⟩ := id hC
  obtain ⟨⟨hP, hK⟩, hD, hZ⟩ := hv
  have hS : va_S (sm_ad (sm_w7 D am P S T L nm Z cp ph th n2 fo rd np pw ev od rc wr)) s.heap s.heap [] := va_S.rf
  have hl : lv_has ls 2 [(0, .ref (am 0)), (1, .int (sm_b z))] := hl
  refine lv_aload_n hx hb dX7_checked_0 rfl (lv_at hl 0 rfl) ?_
  refine lv_iload_n hx hb dX7_checked_1 rfl (lv_at hl 1 rfl) ?_
  refine lv_if_eq (tgt := 9) hx hb dX7_checked_2 (by decide) (fun c_1 => ?_) (fun c_1 => ?_)
  · have c_1 := sm_b0 c_1
    refine lv_iconst (v := 1) hx hb dX7_checked_9 (by decide) ?_
    refine sm_pt (ci := 7) (C := RX7) (T := TX7) (N := 33) hx hb hts inlX7 tyX7 tyX7_ok nmX7 hown hK hP hD hS 0 rfl rfl 19 (by decide) wf_RX7_69 rfl rfl rfl (Nat.le_of_ble_eq_true rfl) dX7_checked_10 (fun H locs hP hD hS => ?_)
    have hP : va_P D.1 sm_cl (sm_w7 D am P S T L nm Z cp ph 1 n2 fo rd np pw ev od rc wr) H := hP
    have hD : va_D (sm_ad (sm_w7 D am P S T L nm Z cp ph th n2 fo rd np pw ev od rc wr)) (sm_w7 D am P S T L nm Z cp ph 1 n2 fo rd np pw ev od rc wr) := hD
    refine lv_aload_n hx hb dX7_checked_13 rfl (lv_at hl 0 rfl) ?_
    refine sm_gt (ci := 7) (C := RX7) (T := TX7) (N := 33) hx hb hts inlX7 hown hK hP 0 rfl rfl 19 (by decide) wf_RX7_69 rfl dX7_checked_14 ?_
    exact sm_retC hC hP hD hS (by first | rfl | (simp [sm_k1, c_1]; done) | (simp [sm_k1] at c_1; simp [sm_k1, c_1]; done) | (simp_all [sm_k1]; done)) rfl (by first | rfl | (simp [sm_k1, c_1]; done) | (simp [sm_k1] at c_1; simp [sm_k1, c_1]; done) | (simp_all [sm_k1]; done)) dX7_checked_17
  · have c_1 := sm_b1 c_1
    refine lv_iconst (v := 0) hx hb dX7_checked_5 (by decide) ?_
    refine lv_goto (tgt := 10) hx hb dX7_checked_6 (by decide) ?_
    refine sm_pt (ci := 7) (C := RX7) (T := TX7) (N := 33) hx hb hts inlX7 tyX7 tyX7_ok nmX7 hown hK hP hD hS 0 rfl rfl 19 (by decide) wf_RX7_69 rfl rfl rfl (Nat.le_of_ble_eq_true rfl) dX7_checked_10 (fun H locs hP hD hS => ?_)
    have hP : va_P D.1 sm_cl (sm_w7 D am P S T L nm Z cp ph 0 n2 fo rd np pw ev od rc wr) H := hP
    have hD : va_D (sm_ad (sm_w7 D am P S T L nm Z cp ph th n2 fo rd np pw ev od rc wr)) (sm_w7 D am P S T L nm Z cp ph 0 n2 fo rd np pw ev od rc wr) := hD
    refine lv_aload_n hx hb dX7_checked_13 rfl (lv_at hl 0 rfl) ?_
    refine sm_gt (ci := 7) (C := RX7) (T := TX7) (N := 33) hx hb hts inlX7 hown hK hP 0 rfl rfl 19 (by decide) wf_RX7_69 rfl dX7_checked_14 ?_
    exact sm_retC hC hP hD hS (by first | rfl | (simp [sm_k1, c_1]; done) | (simp [sm_k1] at c_1; simp [sm_k1, c_1]; done) | (simp_all [sm_k1]; done)) rfl (by first | rfl | (simp [sm_k1, c_1]; done) | (simp [sm_k1] at c_1; simp [sm_k1, c_1]; done) | (simp_all [sm_k1]; done)) dX7_checked_17

set_option maxHeartbeats 1000000 in
set_option maxRecDepth 100000 in
theorem c_X7_isKey (k : Nat) (hk : k < 40) : sm_MP l yX7_isKey cX7_isKey 1 (some .boolean) 1 22 [.int (nI k)] D (sm_w7 D am P S T L nm Z cp ph th n2 fo rd np pw ev od rc wr) (some (.int (sm_b true))) := by
  refine sm_met (own := RX7) (by decide) rfl (Nat.le_of_ble_eq_true rfl) ?_
  intro p e s m below meth c ls hC hv hl
  obtain ⟨hx, hb, hml, hr, hown, hlk, hts⟩ := id hC
  obtain ⟨hP, hK⟩ := hv
  have hl : lv_has ls 1 [(0, .int (nI k))] := hl
  refine lv_iload_n hx hb dX7_isKey_0 rfl (lv_at hl 0 rfl) ?_
  refine lv_iconst (v := 0) hx hb dX7_isKey_1 (by decide) ?_
  refine lv_bipush (v := 39) hx hb dX7_isKey_2 (by decide) ?_
  refine sm_cSPr (rest := []) hC hK hP (c_X7_in_n D am P S T L nm Z cp ph th n2 fo rd np pw ev od rc wr k 0 39 (by omega) (by omega) (by omega)) qyX7_in wl_RX7_113 ⟨Nat.le_of_ble_eq_true rfl, Nat.le_of_ble_eq_true rfl⟩ rfl hl.1 rfl (Nat.le_of_ble_eq_true rfl) dX7_isKey_4 ⟨Nat.le_of_ble_eq_true rfl, Nat.le_of_ble_eq_true rfl⟩ ?_
  exact sm_retP hC (by rw [sm_btk hk]) (sm_nb _) dX7_isKey_7

set_option maxHeartbeats 1000000 in
set_option maxRecDepth 100000 in
theorem c_X7_isKey_i (x : Int32) : sm_MP l yX7_isKey cX7_isKey 1 (some .boolean) 1 22 [.int x] D (sm_w7 D am P S T L nm Z cp ph th n2 fo rd np pw ev od rc wr) (some (.int (sm_b (sm_isKey x)))) := by
  refine sm_met (own := RX7) (by decide) rfl (Nat.le_of_ble_eq_true rfl) ?_
  intro p e s m below meth c ls hC hv hl
  obtain ⟨hx, hb, hml, hr, hown, hlk, hts⟩ := id hC
  obtain ⟨hP, hK⟩ := hv
  have hl : lv_has ls 1 [(0, .int x)] := hl
  refine lv_iload_n hx hb dX7_isKey_0 rfl (lv_at hl 0 rfl) ?_
  refine lv_iconst (v := 0) hx hb dX7_isKey_1 (by decide) ?_
  refine lv_bipush (v := 39) hx hb dX7_isKey_2 (by decide) ?_
  refine sm_cSPr (rest := []) hC hK hP (c_X7_in D am P S T L nm Z cp ph th n2 fo rd np pw ev od rc wr x 0 39) qyX7_in wl_RX7_113 ⟨Nat.le_of_ble_eq_true rfl, Nat.le_of_ble_eq_true rfl⟩ rfl hl.1 rfl (Nat.le_of_ble_eq_true rfl) dX7_isKey_4 ⟨Nat.le_of_ble_eq_true rfl, Nat.le_of_ble_eq_true rfl⟩ ?_
  exact sm_retP hC (by rw [sm_isKb]) (sm_nb _) dX7_isKey_7

set_option maxHeartbeats 1000000 in
set_option maxRecDepth 100000 in
theorem c_X7_isByTarget  : sm_MP l yX7_isByTarget cX7_isByTarget 1 (some .boolean) 0 0 [.ref (am 0)] D (sm_w7 D am P S T L nm Z cp ph th n2 fo rd np pw ev od rc wr) (some (.int (sm_b (sm_lv ph)))) := by
  refine sm_met (own := RX7) (by decide) rfl (Nat.le_of_ble_eq_true rfl) ?_
  intro p e s m below meth c ls hC hv hl
  obtain ⟨hx, hb, hml, hr, hown, hlk, hts⟩ := id hC
  obtain ⟨hP, hK⟩ := hv
  have hl : lv_has ls 1 [(0, .ref (am 0))] := hl
  refine lv_aload_n hx hb dX7_isByTarget_0 rfl (lv_at hl 0 rfl) ?_
  refine sm_gt (ci := 7) (C := RX7) (T := TX7) (N := 33) hx hb hts inlX7 hown hK hP 0 rfl rfl 32 (by decide) wf_RX7_109 rfl dX7_isByTarget_1 ?_
  refine lv_bipush (v := 116) hx hb dX7_isByTarget_4 (by decide) ?_
  refine lv_icmp_eq (tgt := 18) hx hb dX7_isByTarget_6 (by decide) (fun c_1 => ?_) (fun c_1 => ?_)
  · have c_1_ := c_1
    refine lv_iconst (v := 1) hx hb dX7_isByTarget_18 (by decide) ?_
    refine lv_goto (tgt := 23) hx hb dX7_isByTarget_19 (by decide) ?_
    exact sm_retP hC (by first | rfl | (simp [sm_lv, sm_b, c_1]; done) | (simp [sm_lv, sm_b] at c_1; simp [sm_lv, sm_b, c_1]; done) | (simp_all [sm_lv, sm_b]; done)) (by decide) dX7_isByTarget_23
  · have c_1_ := c_1
    refine lv_aload_n hx hb dX7_isByTarget_9 rfl (lv_at hl 0 rfl) ?_
    refine sm_gt (ci := 7) (C := RX7) (T := TX7) (N := 33) hx hb hts inlX7 hown hK hP 0 rfl rfl 32 (by decide) wf_RX7_109 rfl dX7_isByTarget_10 ?_
    refine lv_bipush (v := 100) hx hb dX7_isByTarget_13 (by decide) ?_
    refine lv_icmp_ne (tgt := 22) hx hb dX7_isByTarget_15 (by decide) (fun c_2 => ?_) (fun c_2 => ?_)
    · have c_2_ := c_2
      refine lv_iconst (v := 0) hx hb dX7_isByTarget_22 (by decide) ?_
      exact sm_retP hC (by first | rfl | (simp [sm_lv, sm_b, c_1, c_2]; done) | (simp [sm_lv, sm_b] at c_1 c_2; simp [sm_lv, sm_b, c_1, c_2]; done) | (simp_all [sm_lv, sm_b]; done)) (by decide) dX7_isByTarget_23
    · have c_2_ := c_2
      refine lv_iconst (v := 1) hx hb dX7_isByTarget_18 (by decide) ?_
      refine lv_goto (tgt := 23) hx hb dX7_isByTarget_19 (by decide) ?_
      exact sm_retP hC (by first | rfl | (simp [sm_lv, sm_b, c_1, c_2]; done) | (simp [sm_lv, sm_b] at c_1 c_2; simp [sm_lv, sm_b, c_1, c_2]; done) | (simp_all [sm_lv, sm_b]; done)) (by decide) dX7_isByTarget_23

set_option maxHeartbeats 1000000 in
set_option maxRecDepth 100000 in
theorem c_X7_areWithin (x : Int32) : sm_MP l yX7_areWithin cX7_areWithin 2 (some .boolean) 1 22 [.ref (am 0), .int x] D (sm_w7 D am P S T L nm Z cp ph th n2 fo rd np pw ev od rc wr) (some (.int (sm_b (sm_wi x cp)))) := by
  refine sm_met (own := RX7) (by decide) rfl (Nat.le_of_ble_eq_true rfl) ?_
  intro p e s m below meth c ls hC hv hl
  obtain ⟨hx, hb, hml, hr, hown, hlk, hts⟩ := id hC
  obtain ⟨hP, hK⟩ := hv
  have hl : lv_has ls 2 [(0, .ref (am 0)), (1, .int x)] := hl
  refine lv_aload_n hx hb dX7_areWithin_0 rfl (lv_at hl 0 rfl) ?_
  refine sm_gt (ci := 7) (C := RX7) (T := TX7) (N := 33) hx hb hts inlX7 hown hK hP 0 rfl rfl 30 (by decide) wf_RX7_103 rfl dX7_areWithin_1 ?_
  refine lv_iload_n hx hb dX7_areWithin_4 rfl (lv_at hl 1 rfl) ?_
  refine lv_ineg hx hb dX7_areWithin_5 ?_
  refine lv_iload_n hx hb dX7_areWithin_6 rfl (lv_at hl 1 rfl) ?_
  refine sm_cSPr (rest := []) hC hK hP (c_X7_in D am P S T L nm Z cp ph th n2 fo rd np pw ev od rc wr cp.1 (-x) x) qyX7_in wl_RX7_113 ⟨Nat.le_of_ble_eq_true rfl, Nat.le_of_ble_eq_true rfl⟩ rfl hl.1 rfl (Nat.le_of_ble_eq_true rfl) dX7_areWithin_7 ⟨Nat.le_of_ble_eq_true rfl, Nat.le_of_ble_eq_true rfl⟩ ?_
  refine lv_if_eq (tgt := 30) hx hb dX7_areWithin_10 (by decide) (fun c_1 => ?_) (fun c_1 => ?_)
  · have c_1 := sm_b0 c_1
    refine lv_iconst (v := 0) hx hb dX7_areWithin_30 (by decide) ?_
    exact sm_retP hC (by rw [sm_wi7]; simp [sm_b, c_1]) (by decide) dX7_areWithin_31
  · have c_1 := sm_b1 c_1
    refine lv_aload_n hx hb dX7_areWithin_13 rfl (lv_at hl 0 rfl) ?_
    refine sm_gt (ci := 7) (C := RX7) (T := TX7) (N := 33) hx hb hts inlX7 hown hK hP 0 rfl rfl 31 (by decide) wf_RX7_106 rfl dX7_areWithin_14 ?_
    refine lv_iload_n hx hb dX7_areWithin_17 rfl (lv_at hl 1 rfl) ?_
    refine lv_ineg hx hb dX7_areWithin_18 ?_
    refine lv_iload_n hx hb dX7_areWithin_19 rfl (lv_at hl 1 rfl) ?_
    refine sm_cSPr (rest := []) hC hK hP (c_X7_in D am P S T L nm Z cp ph th n2 fo rd np pw ev od rc wr cp.2 (-x) x) qyX7_in wl_RX7_113 ⟨Nat.le_of_ble_eq_true rfl, Nat.le_of_ble_eq_true rfl⟩ rfl hl.1 rfl (Nat.le_of_ble_eq_true rfl) dX7_areWithin_20 ⟨Nat.le_of_ble_eq_true rfl, Nat.le_of_ble_eq_true rfl⟩ ?_
    refine lv_if_eq (tgt := 30) hx hb dX7_areWithin_23 (by decide) (fun c_2 => ?_) (fun c_2 => ?_)
    · have c_2 := sm_b0 c_2
      refine lv_iconst (v := 0) hx hb dX7_areWithin_30 (by decide) ?_
      exact sm_retP hC (by rw [sm_wi7]; simp [sm_b, c_1, c_2]) (by decide) dX7_areWithin_31
    · have c_2 := sm_b1 c_2
      refine lv_iconst (v := 1) hx hb dX7_areWithin_26 (by decide) ?_
      refine lv_goto (tgt := 31) hx hb dX7_areWithin_27 (by decide) ?_
      exact sm_retP hC (by rw [sm_wi7]; simp [sm_b, c_1, c_2]) (by decide) dX7_areWithin_31

set_option maxHeartbeats 1000000 in
set_option maxRecDepth 100000 in
theorem c_X7_exchanges  : sm_MC l yX7_exchanges cX7_exchanges 2 none 0 0 [.ref (am 0)] D (sm_w7 D am P S T L nm Z cp ph th n2 fo rd np pw ev od rc wr) (fun w => w = sm_w7 D am P S T L nm Z (cp.2, cp.1) ph th n2 fo rd np pw ev od rc wr) none := by
  refine sm_met (own := RX7) (by decide) rfl (Nat.le_of_ble_eq_true rfl) ?_
  intro p e s m below meth c ls hC hv hl
  obtain ⟨hx, hb, hml, hr, hown, hlk, hts⟩ := id hC
  obtain ⟨⟨hP, hK⟩, hD, hZ⟩ := hv
  have hS : va_S (sm_ad (sm_w7 D am P S T L nm Z cp ph th n2 fo rd np pw ev od rc wr)) s.heap s.heap [] := va_S.rf
  have hl : lv_has ls 2 [(0, .ref (am 0))] := hl
  refine lv_aload_n hx hb dX7_exchanges_0 rfl (lv_at hl 0 rfl) ?_
  refine sm_gt (ci := 7) (C := RX7) (T := TX7) (N := 33) hx hb hts inlX7 hown hK hP 0 rfl rfl 30 (by decide) wf_RX7_103 rfl dX7_exchanges_1 ?_
  refine lv_istore_n (lv' := [(1, .int cp.1), (0, .ref (am 0))]) hx hb dX7_exchanges_4 rfl hl (by decide) rfl (fun ls hl => ?_)
  refine lv_aload_n hx hb dX7_exchanges_5 rfl (lv_at hl 1 rfl) ?_
  refine lv_aload_n hx hb dX7_exchanges_6 rfl (lv_at hl 1 rfl) ?_
  refine sm_gt (ci := 7) (C := RX7) (T := TX7) (N := 33) hx hb hts inlX7 hown hK hP 0 rfl rfl 31 (by decide) wf_RX7_106 rfl dX7_exchanges_7 ?_
  refine sm_pt (ci := 7) (C := RX7) (T := TX7) (N := 33) hx hb hts inlX7 tyX7 tyX7_ok nmX7 hown hK hP hD hS 0 rfl rfl 30 (by decide) wf_RX7_103 rfl rfl rfl (Nat.le_of_ble_eq_true rfl) dX7_exchanges_10 (fun H locs hP hD hS => ?_)
  have hP : va_P D.1 sm_cl (sm_w7 D am P S T L nm Z (cp.2, cp.2) ph th n2 fo rd np pw ev od rc wr) H := hP
  have hD : va_D (sm_ad (sm_w7 D am P S T L nm Z cp ph th n2 fo rd np pw ev od rc wr)) (sm_w7 D am P S T L nm Z (cp.2, cp.2) ph th n2 fo rd np pw ev od rc wr) := hD
  refine lv_aload_n hx hb dX7_exchanges_13 rfl (lv_at hl 1 rfl) ?_
  refine lv_iload_n hx hb dX7_exchanges_14 rfl (lv_at hl 0 rfl) ?_
  refine sm_pt (ci := 7) (C := RX7) (T := TX7) (N := 33) hx hb hts inlX7 tyX7 tyX7_ok nmX7 hown hK hP hD hS 0 rfl rfl 31 (by decide) wf_RX7_106 rfl rfl rfl (Nat.le_of_ble_eq_true rfl) dX7_exchanges_15 (fun H locs hP hD hS => ?_)
  have hP : va_P D.1 sm_cl (sm_w7 D am P S T L nm Z (cp.2, cp.1) ph th n2 fo rd np pw ev od rc wr) H := hP
  have hD : va_D (sm_ad (sm_w7 D am P S T L nm Z cp ph th n2 fo rd np pw ev od rc wr)) (sm_w7 D am P S T L nm Z (cp.2, cp.1) ph th n2 fo rd np pw ev od rc wr) := hD
  exact sm_vretC hC hP hD hS rfl  (by exact rfl) dX7_exchanges_18

set_option maxHeartbeats 1000000 in
set_option maxRecDepth 100000 in
theorem c_X7_steps (k : Nat) (hk : k < 6) (hko : sm_kOK (P.2.1 k) (P.2.2 k)) : sm_MC l yX7_steps cX7_steps 2 none 1 21 [.ref (am 0), .int (nI k)] D (sm_w7 D am P S T L nm Z cp ph th n2 fo rd np pw ev od rc wr) (fun w => w = sm_w7 D am P S T L nm Z (sm_stepF (P.2.1 k) (P.2.2 k) cp) ph th n2 fo rd np pw ev od rc wr) none := by
  refine sm_met (own := RX7) (by decide) rfl (Nat.le_of_ble_eq_true rfl) ?_
  intro p e s m below meth c ls hC hv hl
  obtain ⟨hx, hb, hml, hr, hown, hlk, hts⟩ := id hC
  obtain ⟨⟨hP, hK⟩, hD, hZ⟩ := hv
  have hS : va_S (sm_ad (sm_w7 D am P S T L nm Z cp ph th n2 fo rd np pw ev od rc wr)) s.heap s.heap [] := va_S.rf
  have hl : lv_has ls 2 [(0, .ref (am 0)), (1, .int (nI k))] := hl
  refine lv_aload_n hx hb dX7_steps_0 rfl (lv_at hl 0 rfl) ?_
  refine sm_gt (ci := 7) (C := RX7) (T := TX7) (N := 33) hx hb hts inlX7 hown hK hP 0 rfl rfl 0 (by decide) wf_RX7_7 rfl dX7_steps_1 ?_
  refine lv_iload_n hx hb dX7_steps_4 rfl (lv_at hl 1 rfl) ?_
  refine sm_cld hx hb hK hP 1 rfl k rfl (by omega) (by decide) dX7_steps_5 ?_
  refine lv_bipush (v := 112) hx hb dX7_steps_6 (by decide) ?_
  refine lv_icmp_ne (tgt := 26) hx hb dX7_steps_8 (by decide) (fun c_1 => ?_) (fun c_1 => ?_)
  · have c_1_ := c_1
    refine lv_aload_n hx hb dX7_steps_26 rfl (lv_at hl 0 rfl) ?_
    refine sm_gt (ci := 7) (C := RX7) (T := TX7) (N := 33) hx hb hts inlX7 hown hK hP 0 rfl rfl 0 (by decide) wf_RX7_7 rfl dX7_steps_27 ?_
    refine lv_iload_n hx hb dX7_steps_30 rfl (lv_at hl 1 rfl) ?_
    refine sm_cld hx hb hK hP 1 rfl k rfl (by omega) (by decide) dX7_steps_31 ?_
    refine lv_bipush (v := 109) hx hb dX7_steps_32 (by decide) ?_
    refine lv_icmp_ne (tgt := 52) hx hb dX7_steps_34 (by decide) (fun c_2 => ?_) (fun c_2 => ?_)
    · have c_2_ := c_2
      refine lv_aload_n hx hb dX7_steps_52 rfl (lv_at hl 0 rfl) ?_
      refine sm_gt (ci := 7) (C := RX7) (T := TX7) (N := 33) hx hb hts inlX7 hown hK hP 0 rfl rfl 0 (by decide) wf_RX7_7 rfl dX7_steps_53 ?_
      refine lv_iload_n hx hb dX7_steps_56 rfl (lv_at hl 1 rfl) ?_
      refine sm_cld hx hb hK hP 1 rfl k rfl (by omega) (by decide) dX7_steps_57 ?_
      refine lv_bipush (v := 110) hx hb dX7_steps_58 (by decide) ?_
      refine lv_icmp_ne (tgt := 72) hx hb dX7_steps_60 (by decide) (fun c_3 => ?_) (fun c_3 => ?_)
      · have c_3_ := c_3
        refine lv_aload_n hx hb dX7_steps_72 rfl (lv_at hl 0 rfl) ?_
        refine sm_gt (ci := 7) (C := RX7) (T := TX7) (N := 33) hx hb hts inlX7 hown hK hP 0 rfl rfl 0 (by decide) wf_RX7_7 rfl dX7_steps_73 ?_
        refine lv_iload_n hx hb dX7_steps_76 rfl (lv_at hl 1 rfl) ?_
        refine sm_cld hx hb hK hP 1 rfl k rfl (by omega) (by decide) dX7_steps_77 ?_
        refine lv_bipush (v := 115) hx hb dX7_steps_78 (by decide) ?_
        refine lv_icmp_ne (tgt := 96) hx hb dX7_steps_80 (by decide) (fun c_4 => ?_) (fun c_4 => ?_)
        · have c_4_ := c_4
          refine lv_aload_n hx hb dX7_steps_96 rfl (lv_at hl 0 rfl) ?_
          refine sm_gt (ci := 7) (C := RX7) (T := TX7) (N := 33) hx hb hts inlX7 hown hK hP 0 rfl rfl 0 (by decide) wf_RX7_7 rfl dX7_steps_97 ?_
          refine lv_iload_n hx hb dX7_steps_100 rfl (lv_at hl 1 rfl) ?_
          refine sm_cld hx hb hK hP 1 rfl k rfl (by omega) (by decide) dX7_steps_101 ?_
          refine lv_bipush (v := 120) hx hb dX7_steps_102 (by decide) ?_
          refine lv_icmp_ne (tgt := 111) hx hb dX7_steps_104 (by decide) (fun c_5 => ?_) (fun c_5 => ?_)
          · have c_5_ := c_5
            exact sm_vretC hC hP hD hS rfl  (by exfalso; rcases hko with h | ⟨h, -⟩ | h | h | h <;> simp_all) dX7_steps_111
          · have c_5_ := c_5
            refine lv_aload_n hx hb dX7_steps_107 rfl (lv_at hl 0 rfl) ?_
            refine sm_cVC (rest := []) hC hK hP hD hS hZ (c_X7_exchanges D am P S T L nm Z cp ph th n2 fo rd np pw ev od rc wr ) qyX7_exchanges wl_RX7_117 ⟨Nat.le_of_ble_eq_true rfl, Nat.le_of_ble_eq_true rfl⟩ 0 rfl rfl rfl hl.1 rfl (Nat.le_of_ble_eq_true rfl) dX7_steps_108 ⟨Nat.le_of_ble_eq_true rfl, Nat.le_of_ble_eq_true rfl⟩ (fun w1 H locs hB hP hD hS => ?_)
            subst hB
            exact sm_vretC hC hP hD hS rfl  (by simp [sm_stepF, c_1, c_2, c_3, c_4, c_5]) dX7_steps_111
        · have c_4_ := c_4
          refine lv_aload_n hx hb dX7_steps_83 rfl (lv_at hl 0 rfl) ?_
          refine lv_dup hx hb dX7_steps_84 rfl ?_
          refine sm_gt (ci := 7) (C := RX7) (T := TX7) (N := 33) hx hb hts inlX7 hown hK hP 0 rfl rfl 31 (by decide) wf_RX7_106 rfl dX7_steps_85 ?_
          refine lv_aload_n hx hb dX7_steps_88 rfl (lv_at hl 0 rfl) ?_
          refine sm_gt (ci := 7) (C := RX7) (T := TX7) (N := 33) hx hb hts inlX7 hown hK hP 0 rfl rfl 30 (by decide) wf_RX7_103 rfl dX7_steps_89 ?_
          refine lv_iadd hx hb dX7_steps_92 ?_
          refine sm_pt (ci := 7) (C := RX7) (T := TX7) (N := 33) hx hb hts inlX7 tyX7 tyX7_ok nmX7 hown hK hP hD hS 0 rfl rfl 31 (by decide) wf_RX7_106 rfl rfl rfl (Nat.le_of_ble_eq_true rfl) dX7_steps_93 (fun H locs hP hD hS => ?_)
          have hP : va_P D.1 sm_cl (sm_w7 D am P S T L nm Z (cp.1, cp.2 + cp.1) ph th n2 fo rd np pw ev od rc wr) H := hP
          have hD : va_D (sm_ad (sm_w7 D am P S T L nm Z cp ph th n2 fo rd np pw ev od rc wr)) (sm_w7 D am P S T L nm Z (cp.1, cp.2 + cp.1) ph th n2 fo rd np pw ev od rc wr) := hD
          refine lv_aload_n hx hb dX7_steps_96 rfl (lv_at hl 0 rfl) ?_
          refine sm_gt (ci := 7) (C := RX7) (T := TX7) (N := 33) hx hb hts inlX7 hown hK hP 0 rfl rfl 0 (by decide) wf_RX7_7 rfl dX7_steps_97 ?_
          refine lv_iload_n hx hb dX7_steps_100 rfl (lv_at hl 1 rfl) ?_
          refine sm_cld hx hb hK hP 1 rfl k rfl (by omega) (by decide) dX7_steps_101 ?_
          refine lv_bipush (v := 120) hx hb dX7_steps_102 (by decide) ?_
          refine lv_icmp_ne (tgt := 111) hx hb dX7_steps_104 (by decide) (fun _ => ?_) (fun h => absurd h (by rw [c_4]; decide))
          exact sm_vretC hC hP hD hS rfl  (by simp [sm_stepF, c_1, c_2, c_3, c_4]) dX7_steps_111
      · have c_3_ := c_3
        refine lv_aload_n hx hb dX7_steps_63 rfl (lv_at hl 0 rfl) ?_
        refine lv_aload_n hx hb dX7_steps_64 rfl (lv_at hl 0 rfl) ?_
        refine sm_gt (ci := 7) (C := RX7) (T := TX7) (N := 33) hx hb hts inlX7 hown hK hP 0 rfl rfl 30 (by decide) wf_RX7_103 rfl dX7_steps_65 ?_
        refine lv_ineg hx hb dX7_steps_68 ?_
        refine sm_pt (ci := 7) (C := RX7) (T := TX7) (N := 33) hx hb hts inlX7 tyX7 tyX7_ok nmX7 hown hK hP hD hS 0 rfl rfl 30 (by decide) wf_RX7_103 rfl rfl rfl (Nat.le_of_ble_eq_true rfl) dX7_steps_69 (fun H locs hP hD hS => ?_)
        have hP : va_P D.1 sm_cl (sm_w7 D am P S T L nm Z (-cp.1, cp.2) ph th n2 fo rd np pw ev od rc wr) H := hP
        have hD : va_D (sm_ad (sm_w7 D am P S T L nm Z cp ph th n2 fo rd np pw ev od rc wr)) (sm_w7 D am P S T L nm Z (-cp.1, cp.2) ph th n2 fo rd np pw ev od rc wr) := hD
        refine lv_aload_n hx hb dX7_steps_72 rfl (lv_at hl 0 rfl) ?_
        refine sm_gt (ci := 7) (C := RX7) (T := TX7) (N := 33) hx hb hts inlX7 hown hK hP 0 rfl rfl 0 (by decide) wf_RX7_7 rfl dX7_steps_73 ?_
        refine lv_iload_n hx hb dX7_steps_76 rfl (lv_at hl 1 rfl) ?_
        refine sm_cld hx hb hK hP 1 rfl k rfl (by omega) (by decide) dX7_steps_77 ?_
        refine lv_bipush (v := 115) hx hb dX7_steps_78 (by decide) ?_
        refine lv_icmp_ne (tgt := 96) hx hb dX7_steps_80 (by decide) (fun _ => ?_) (fun h => absurd h (by rw [c_3]; decide))
        refine lv_aload_n hx hb dX7_steps_96 rfl (lv_at hl 0 rfl) ?_
        refine sm_gt (ci := 7) (C := RX7) (T := TX7) (N := 33) hx hb hts inlX7 hown hK hP 0 rfl rfl 0 (by decide) wf_RX7_7 rfl dX7_steps_97 ?_
        refine lv_iload_n hx hb dX7_steps_100 rfl (lv_at hl 1 rfl) ?_
        refine sm_cld hx hb hK hP 1 rfl k rfl (by omega) (by decide) dX7_steps_101 ?_
        refine lv_bipush (v := 120) hx hb dX7_steps_102 (by decide) ?_
        refine lv_icmp_ne (tgt := 111) hx hb dX7_steps_104 (by decide) (fun _ => ?_) (fun h => absurd h (by rw [c_3]; decide))
        exact sm_vretC hC hP hD hS rfl  (by simp [sm_stepF, c_1, c_2, c_3]) dX7_steps_111
    · have c_2_ := c_2
      refine lv_aload_n hx hb dX7_steps_37 rfl (lv_at hl 0 rfl) ?_
      refine lv_dup hx hb dX7_steps_38 rfl ?_
      refine sm_gt (ci := 7) (C := RX7) (T := TX7) (N := 33) hx hb hts inlX7 hown hK hP 0 rfl rfl 30 (by decide) wf_RX7_103 rfl dX7_steps_39 ?_
      refine lv_aload_n hx hb dX7_steps_42 rfl (lv_at hl 0 rfl) ?_
      refine sm_gt (ci := 7) (C := RX7) (T := TX7) (N := 33) hx hb hts inlX7 hown hK hP 0 rfl rfl 2 (by decide) wf_RX7_16 rfl dX7_steps_43 ?_
      refine lv_iload_n hx hb dX7_steps_46 rfl (lv_at hl 1 rfl) ?_
      refine sm_ild hx hb hK hP 3 rfl k rfl (by omega) (by decide) dX7_steps_47 ?_
      refine lv_imul hx hb dX7_steps_48 ?_
      refine sm_pt (ci := 7) (C := RX7) (T := TX7) (N := 33) hx hb hts inlX7 tyX7 tyX7_ok nmX7 hown hK hP hD hS 0 rfl rfl 30 (by decide) wf_RX7_103 rfl rfl rfl (Nat.le_of_ble_eq_true rfl) dX7_steps_49 (fun H locs hP hD hS => ?_)
      have hP : va_P D.1 sm_cl (sm_w7 D am P S T L nm Z (cp.1 * (P.2.2 k), cp.2) ph th n2 fo rd np pw ev od rc wr) H := hP
      have hD : va_D (sm_ad (sm_w7 D am P S T L nm Z cp ph th n2 fo rd np pw ev od rc wr)) (sm_w7 D am P S T L nm Z (cp.1 * (P.2.2 k), cp.2) ph th n2 fo rd np pw ev od rc wr) := hD
      refine lv_aload_n hx hb dX7_steps_52 rfl (lv_at hl 0 rfl) ?_
      refine sm_gt (ci := 7) (C := RX7) (T := TX7) (N := 33) hx hb hts inlX7 hown hK hP 0 rfl rfl 0 (by decide) wf_RX7_7 rfl dX7_steps_53 ?_
      refine lv_iload_n hx hb dX7_steps_56 rfl (lv_at hl 1 rfl) ?_
      refine sm_cld hx hb hK hP 1 rfl k rfl (by omega) (by decide) dX7_steps_57 ?_
      refine lv_bipush (v := 110) hx hb dX7_steps_58 (by decide) ?_
      refine lv_icmp_ne (tgt := 72) hx hb dX7_steps_60 (by decide) (fun _ => ?_) (fun h => absurd h (by rw [c_2]; decide))
      refine lv_aload_n hx hb dX7_steps_72 rfl (lv_at hl 0 rfl) ?_
      refine sm_gt (ci := 7) (C := RX7) (T := TX7) (N := 33) hx hb hts inlX7 hown hK hP 0 rfl rfl 0 (by decide) wf_RX7_7 rfl dX7_steps_73 ?_
      refine lv_iload_n hx hb dX7_steps_76 rfl (lv_at hl 1 rfl) ?_
      refine sm_cld hx hb hK hP 1 rfl k rfl (by omega) (by decide) dX7_steps_77 ?_
      refine lv_bipush (v := 115) hx hb dX7_steps_78 (by decide) ?_
      refine lv_icmp_ne (tgt := 96) hx hb dX7_steps_80 (by decide) (fun _ => ?_) (fun h => absurd h (by rw [c_2]; decide))
      refine lv_aload_n hx hb dX7_steps_96 rfl (lv_at hl 0 rfl) ?_
      refine sm_gt (ci := 7) (C := RX7) (T := TX7) (N := 33) hx hb hts inlX7 hown hK hP 0 rfl rfl 0 (by decide) wf_RX7_7 rfl dX7_steps_97 ?_
      refine lv_iload_n hx hb dX7_steps_100 rfl (lv_at hl 1 rfl) ?_
      refine sm_cld hx hb hK hP 1 rfl k rfl (by omega) (by decide) dX7_steps_101 ?_
      refine lv_bipush (v := 120) hx hb dX7_steps_102 (by decide) ?_
      refine lv_icmp_ne (tgt := 111) hx hb dX7_steps_104 (by decide) (fun _ => ?_) (fun h => absurd h (by rw [c_2]; decide))
      exact sm_vretC hC hP hD hS rfl  (by simp [sm_stepF, c_1, c_2]) dX7_steps_111
  · have c_1_ := c_1
    refine lv_aload_n hx hb dX7_steps_11 rfl (lv_at hl 0 rfl) ?_
    refine lv_dup hx hb dX7_steps_12 rfl ?_
    refine sm_gt (ci := 7) (C := RX7) (T := TX7) (N := 33) hx hb hts inlX7 hown hK hP 0 rfl rfl 30 (by decide) wf_RX7_103 rfl dX7_steps_13 ?_
    refine lv_aload_n hx hb dX7_steps_16 rfl (lv_at hl 0 rfl) ?_
    refine sm_gt (ci := 7) (C := RX7) (T := TX7) (N := 33) hx hb hts inlX7 hown hK hP 0 rfl rfl 2 (by decide) wf_RX7_16 rfl dX7_steps_17 ?_
    refine lv_iload_n hx hb dX7_steps_20 rfl (lv_at hl 1 rfl) ?_
    refine sm_ild hx hb hK hP 3 rfl k rfl (by omega) (by decide) dX7_steps_21 ?_
    refine lv_iadd hx hb dX7_steps_22 ?_
    refine sm_pt (ci := 7) (C := RX7) (T := TX7) (N := 33) hx hb hts inlX7 tyX7 tyX7_ok nmX7 hown hK hP hD hS 0 rfl rfl 30 (by decide) wf_RX7_103 rfl rfl rfl (Nat.le_of_ble_eq_true rfl) dX7_steps_23 (fun H locs hP hD hS => ?_)
    have hP : va_P D.1 sm_cl (sm_w7 D am P S T L nm Z (cp.1 + (P.2.2 k), cp.2) ph th n2 fo rd np pw ev od rc wr) H := hP
    have hD : va_D (sm_ad (sm_w7 D am P S T L nm Z cp ph th n2 fo rd np pw ev od rc wr)) (sm_w7 D am P S T L nm Z (cp.1 + (P.2.2 k), cp.2) ph th n2 fo rd np pw ev od rc wr) := hD
    refine lv_aload_n hx hb dX7_steps_26 rfl (lv_at hl 0 rfl) ?_
    refine sm_gt (ci := 7) (C := RX7) (T := TX7) (N := 33) hx hb hts inlX7 hown hK hP 0 rfl rfl 0 (by decide) wf_RX7_7 rfl dX7_steps_27 ?_
    refine lv_iload_n hx hb dX7_steps_30 rfl (lv_at hl 1 rfl) ?_
    refine sm_cld hx hb hK hP 1 rfl k rfl (by omega) (by decide) dX7_steps_31 ?_
    refine lv_bipush (v := 109) hx hb dX7_steps_32 (by decide) ?_
    refine lv_icmp_ne (tgt := 52) hx hb dX7_steps_34 (by decide) (fun _ => ?_) (fun h => absurd h (by rw [c_1]; decide))
    refine lv_aload_n hx hb dX7_steps_52 rfl (lv_at hl 0 rfl) ?_
    refine sm_gt (ci := 7) (C := RX7) (T := TX7) (N := 33) hx hb hts inlX7 hown hK hP 0 rfl rfl 0 (by decide) wf_RX7_7 rfl dX7_steps_53 ?_
    refine lv_iload_n hx hb dX7_steps_56 rfl (lv_at hl 1 rfl) ?_
    refine sm_cld hx hb hK hP 1 rfl k rfl (by omega) (by decide) dX7_steps_57 ?_
    refine lv_bipush (v := 110) hx hb dX7_steps_58 (by decide) ?_
    refine lv_icmp_ne (tgt := 72) hx hb dX7_steps_60 (by decide) (fun _ => ?_) (fun h => absurd h (by rw [c_1]; decide))
    refine lv_aload_n hx hb dX7_steps_72 rfl (lv_at hl 0 rfl) ?_
    refine sm_gt (ci := 7) (C := RX7) (T := TX7) (N := 33) hx hb hts inlX7 hown hK hP 0 rfl rfl 0 (by decide) wf_RX7_7 rfl dX7_steps_73 ?_
    refine lv_iload_n hx hb dX7_steps_76 rfl (lv_at hl 1 rfl) ?_
    refine sm_cld hx hb hK hP 1 rfl k rfl (by omega) (by decide) dX7_steps_77 ?_
    refine lv_bipush (v := 115) hx hb dX7_steps_78 (by decide) ?_
    refine lv_icmp_ne (tgt := 96) hx hb dX7_steps_80 (by decide) (fun _ => ?_) (fun h => absurd h (by rw [c_1]; decide))
    refine lv_aload_n hx hb dX7_steps_96 rfl (lv_at hl 0 rfl) ?_
    refine sm_gt (ci := 7) (C := RX7) (T := TX7) (N := 33) hx hb hts inlX7 hown hK hP 0 rfl rfl 0 (by decide) wf_RX7_7 rfl dX7_steps_97 ?_
    refine lv_iload_n hx hb dX7_steps_100 rfl (lv_at hl 1 rfl) ?_
    refine sm_cld hx hb hK hP 1 rfl k rfl (by omega) (by decide) dX7_steps_101 ?_
    refine lv_bipush (v := 120) hx hb dX7_steps_102 (by decide) ?_
    refine lv_icmp_ne (tgt := 111) hx hb dX7_steps_104 (by decide) (fun _ => ?_) (fun h => absurd h (by rw [c_1]; decide))
    exact sm_vretC hC hP hD hS rfl  (by simp [sm_stepF, c_1]) dX7_steps_111

set_option maxHeartbeats 1000000 in
set_option maxRecDepth 100000 in
theorem c_X7_turns (a b : Int32) (hP6 : P.1 ≤ 6) (hOK : ∀ i, i < P.1 → sm_kOK (P.2.1 i) (P.2.2 i)) : sm_MC l yX7_turns cX7_turns 4 (some .boolean) 2 43 [.ref (am 0), .int a, .int b] D (sm_w7 D am P S T L nm Z cp ph th n2 fo rd np pw ev od rc wr) (fun w => w = sm_w7 D am P S T L nm Z ((sm_tr P (a, b)).2) ph th n2 fo rd np pw ev od rc wr) (some (.int (sm_b ((sm_tr P (a, b)).1)))) := by
  refine sm_met (own := RX7) (by decide) rfl (Nat.le_of_ble_eq_true rfl) ?_
  intro p e s m below meth c ls hC hv hl
  obtain ⟨hx, hb, hml, hr, hown, hlk, hts⟩ := id hC
  obtain ⟨⟨hP, hK⟩, hD, hZ⟩ := hv
  have hS : va_S (sm_ad (sm_w7 D am P S T L nm Z cp ph th n2 fo rd np pw ev od rc wr)) s.heap s.heap [] := va_S.rf
  have hl : lv_has ls 4 [(0, .ref (am 0)), (1, .int a), (2, .int b)] := hl
  refine lv_aload_n hx hb dX7_turns_0 rfl (lv_at hl 0 rfl) ?_
  refine lv_iload_n hx hb dX7_turns_1 rfl (lv_at hl 1 rfl) ?_
  refine sm_pt (ci := 7) (C := RX7) (T := TX7) (N := 33) hx hb hts inlX7 tyX7 tyX7_ok nmX7 hown hK hP hD hS 0 rfl rfl 30 (by decide) wf_RX7_103 rfl rfl rfl (Nat.le_of_ble_eq_true rfl) dX7_turns_2 (fun H locs hP hD hS => ?_)
  have hP : va_P D.1 sm_cl (sm_w7 D am P S T L nm Z (a, cp.2) ph th n2 fo rd np pw ev od rc wr) H := hP
  have hD : va_D (sm_ad (sm_w7 D am P S T L nm Z cp ph th n2 fo rd np pw ev od rc wr)) (sm_w7 D am P S T L nm Z (a, cp.2) ph th n2 fo rd np pw ev od rc wr) := hD
  refine lv_aload_n hx hb dX7_turns_5 rfl (lv_at hl 0 rfl) ?_
  refine lv_iload_n hx hb dX7_turns_6 rfl (lv_at hl 2 rfl) ?_
  refine sm_pt (ci := 7) (C := RX7) (T := TX7) (N := 33) hx hb hts inlX7 tyX7 tyX7_ok nmX7 hown hK hP hD hS 0 rfl rfl 31 (by decide) wf_RX7_106 rfl rfl rfl (Nat.le_of_ble_eq_true rfl) dX7_turns_7 (fun H locs hP hD hS => ?_)
  have hP : va_P D.1 sm_cl (sm_w7 D am P S T L nm Z (a, b) ph th n2 fo rd np pw ev od rc wr) H := hP
  have hD : va_D (sm_ad (sm_w7 D am P S T L nm Z cp ph th n2 fo rd np pw ev od rc wr)) (sm_w7 D am P S T L nm Z (a, b) ph th n2 fo rd np pw ev od rc wr) := hD
  refine lv_iconst (v := 0) hx hb dX7_turns_10 (by decide) ?_
  refine lv_istore_n (lv' := [(3, .int 0), (0, .ref (am 0)), (1, .int a), (2, .int b)]) hx hb dX7_turns_11 rfl hl (by decide) rfl (fun ls hl => ?_)
  suffices K : ∀ (n : Nat) (i : Nat) (q : sm_Cp) (H : Heap) (locs : List Loc) (ls : Array Slot), P.1 - i = n → (i ≤ P.1) → (sm_trG P (P.1 - i) i q = sm_tr P (a, b)) → va_P D.1 sm_cl (sm_w7 D am P S T L nm Z q ph th n2 fo rd np pw ev od rc wr) H → va_D (sm_ad (sm_w7 D am P S T L nm Z cp ph th n2 fo rd np pw ev od rc wr)) (sm_w7 D am P S T L nm Z q ph th n2 fo rd np pw ev od rc wr) → va_S (sm_ad (sm_w7 D am P S T L nm Z cp ph th n2 fo rd np pw ev od rc wr)) s.heap H locs → lv_has ls 4 [(0, .ref (am 0)), (1, .int a), (2, .int b), (3, .int (nI i))] → W p l e ({ frames := 2, cells := 0, slots := 0, locals := 43 } : Room) s m ([.ref (am 0), .int a, .int b] : List Value).toArray below meth c H locs 0 0 (MQ below (sm_Qc D (sm_w7 D am P S T L nm Z cp ph th n2 fo rd np pw ev od rc wr) (fun w => w = sm_w7 D am P S T L nm Z ((sm_tr P (a, b)).2) ph th n2 fo rd np pw ev od rc wr) (some (.int (sm_b ((sm_tr P (a, b)).1))))) ([.ref (am 0), .int a, .int b] : List Value).toArray s 0 0 (sm_ad (sm_w7 D am P S T L nm Z cp ph th n2 fo rd np pw ev od rc wr))) (F0 m 12 ls []) from K _ 0 (a, b) _ _ ls rfl (by omega) (rfl) hP hD hS (lv_sub hl [1, 2, 3, 0] rfl)
  intro n
  induction n using Nat.strongRecOn with
  | ind n ih =>
    intro i q H locs ls hn hi hR hP hD hS hl
    refine lv_iload_n hx hb dX7_turns_12 rfl (lv_at hl 3 rfl) ?_
    refine lv_aload_n hx hb dX7_turns_13 rfl (lv_at hl 0 rfl) ?_
    refine sm_gt (ci := 7) (C := RX7) (T := TX7) (N := 33) hx hb hts inlX7 hown hK hP 0 rfl rfl 20 (by decide) wf_RX7_73 rfl dX7_turns_14 ?_
    refine lv_icmp_ge (tgt := 42) hx hb dX7_turns_17 (by decide) (fun c_1 => ?_) (fun c_1 => ?_)
    · have c_1 := sm_Nnl (a := i) (b := P.1) (sm_nl c_1) (by omega) (by omega)
      refine lv_aload_n hx hb dX7_turns_42 rfl (lv_at hl 0 rfl) ?_
      refine lv_sipush (v := 999) hx hb dX7_turns_43 (by decide) ?_
      refine sm_cVPr (rest := []) hC hK hP (c_X7_areWithin D am P S T L nm Z q ph th n2 fo rd np pw ev od rc wr 999) qyX7_areWithin wl_RX7_124 ⟨Nat.le_of_ble_eq_true rfl, Nat.le_of_ble_eq_true rfl⟩ 0 rfl rfl rfl hl.1 rfl (Nat.le_of_ble_eq_true rfl) dX7_turns_46 ⟨Nat.le_of_ble_eq_true rfl, Nat.le_of_ble_eq_true rfl⟩ ?_
      exact sm_retC hC hP hD hS (by rw [show P.1 - i = 0 by omega] at hR; rw [← hR]; try rfl) (sm_nb _) (by rw [show P.1 - i = 0 by omega] at hR; rw [← hR]; try rfl) dX7_turns_49
    · have c_1 := sm_Nlt (a := i) (b := P.1) (sm_nle c_1) (by omega) (by omega)
      refine lv_aload_n hx hb dX7_turns_20 rfl (lv_at hl 0 rfl) ?_
      refine lv_iload_n hx hb dX7_turns_21 rfl (lv_at hl 3 rfl) ?_
      refine sm_cVC (rest := []) hC hK hP hD hS hZ (c_X7_steps D am P S T L nm Z q ph th n2 fo rd np pw ev od rc wr i (by omega) (hOK _ (by omega))) qyX7_steps wl_RX7_120 ⟨Nat.le_of_ble_eq_true rfl, Nat.le_of_ble_eq_true rfl⟩ 0 rfl rfl rfl hl.1 rfl (Nat.le_of_ble_eq_true rfl) dX7_turns_22 ⟨Nat.le_of_ble_eq_true rfl, Nat.le_of_ble_eq_true rfl⟩ (fun w1 H locs hB hP hD hS => ?_)
      subst hB
      refine lv_aload_n hx hb dX7_turns_25 rfl (lv_at hl 0 rfl) ?_
      refine lv_ldc hx hb hown (hts _ wk_RX7_123) dX7_turns_26 ?_
      refine sm_cVPr (rest := []) hC hK hP (c_X7_areWithin D am P S T L nm Z (sm_stepF (P.2.1 i) (P.2.2 i) q) ph th n2 fo rd np pw ev od rc wr 99999) qyX7_areWithin wl_RX7_124 ⟨Nat.le_of_ble_eq_true rfl, Nat.le_of_ble_eq_true rfl⟩ 0 rfl rfl rfl hl.1 rfl (Nat.le_of_ble_eq_true rfl) dX7_turns_28 ⟨Nat.le_of_ble_eq_true rfl, Nat.le_of_ble_eq_true rfl⟩ ?_
      refine lv_if_ne (tgt := 36) hx hb dX7_turns_31 (by decide) (fun c_2 => ?_) (fun c_2 => ?_)
      · have c_2 := sm_b1 c_2
        refine lv_iinc (v := nI (i + 1)) (lv' := [(3, .int (nI (i + 1))), (0, .ref (am 0)), (1, .int a), (2, .int b)]) hx hb dX7_turns_36 hl (k := 3) rfl (nI_1 i) (by decide) rfl (fun ls hl => ?_)
        refine lv_goto (tgt := 12) hx hb dX7_turns_39 (by decide) ?_
        exact ih _ (by omega) (i + 1) (sm_stepF (P.2.1 i) (P.2.2 i) q) _ _ ls rfl (by omega) (by rw [sm_trS (by omega), if_pos c_2] at hR; exact hR) hP hD hS (lv_sub hl [1, 2, 3, 0] rfl)
      · have c_2 := sm_b0 c_2
        refine lv_iconst (v := 0) hx hb dX7_turns_34 (by decide) ?_
        exact sm_retC hC hP hD hS (by rw [sm_trS (by omega), if_neg (by rw [c_2]; decide)] at hR; rw [← hR]; try rfl) (by decide) (by rw [sm_trS (by omega), if_neg (by rw [c_2]; decide)] at hR; rw [← hR]; try rfl) dX7_turns_35

set_option maxHeartbeats 1000000 in
set_option maxRecDepth 100000 in
theorem c_X7_turnsBack (a b : Int32) (hP6 : P.1 ≤ 6) (hOK : ∀ i, i < P.1 → sm_kOK (P.2.1 i) (P.2.2 i)) : sm_MC l yX7_turnsBack cX7_turnsBack 4 (some .boolean) 2 43 [.ref (am 0), .int a, .int b] D (sm_w7 D am P S T L nm Z cp ph th n2 fo rd np pw ev od rc wr) (fun w => w = sm_w7 D am P S T L nm Z ((sm_bk P (a, b)).2) ph th n2 fo rd np pw ev od rc wr) (some (.int (sm_b ((sm_bk P (a, b)).1)))) := by
  refine sm_met (own := RX7) (by decide) rfl (Nat.le_of_ble_eq_true rfl) ?_
  intro p e s m below meth c ls hC hv hl
  obtain ⟨hx, hb, hml, hr, hown, hlk, hts⟩ := id hC
  obtain ⟨⟨hP, hK⟩, hD, hZ⟩ := hv
  have hS : va_S (sm_ad (sm_w7 D am P S T L nm Z cp ph th n2 fo rd np pw ev od rc wr)) s.heap s.heap [] := va_S.rf
  have hl : lv_has ls 4 [(0, .ref (am 0)), (1, .int a), (2, .int b)] := hl
  refine lv_aload_n hx hb dX7_turnsBack_0 rfl (lv_at hl 0 rfl) ?_
  refine lv_iload_n hx hb dX7_turnsBack_1 rfl (lv_at hl 1 rfl) ?_
  refine sm_pt (ci := 7) (C := RX7) (T := TX7) (N := 33) hx hb hts inlX7 tyX7 tyX7_ok nmX7 hown hK hP hD hS 0 rfl rfl 30 (by decide) wf_RX7_103 rfl rfl rfl (Nat.le_of_ble_eq_true rfl) dX7_turnsBack_2 (fun H locs hP hD hS => ?_)
  have hP : va_P D.1 sm_cl (sm_w7 D am P S T L nm Z (a, cp.2) ph th n2 fo rd np pw ev od rc wr) H := hP
  have hD : va_D (sm_ad (sm_w7 D am P S T L nm Z cp ph th n2 fo rd np pw ev od rc wr)) (sm_w7 D am P S T L nm Z (a, cp.2) ph th n2 fo rd np pw ev od rc wr) := hD
  refine lv_aload_n hx hb dX7_turnsBack_5 rfl (lv_at hl 0 rfl) ?_
  refine lv_iload_n hx hb dX7_turnsBack_6 rfl (lv_at hl 2 rfl) ?_
  refine sm_pt (ci := 7) (C := RX7) (T := TX7) (N := 33) hx hb hts inlX7 tyX7 tyX7_ok nmX7 hown hK hP hD hS 0 rfl rfl 31 (by decide) wf_RX7_106 rfl rfl rfl (Nat.le_of_ble_eq_true rfl) dX7_turnsBack_7 (fun H locs hP hD hS => ?_)
  have hP : va_P D.1 sm_cl (sm_w7 D am P S T L nm Z (a, b) ph th n2 fo rd np pw ev od rc wr) H := hP
  have hD : va_D (sm_ad (sm_w7 D am P S T L nm Z cp ph th n2 fo rd np pw ev od rc wr)) (sm_w7 D am P S T L nm Z (a, b) ph th n2 fo rd np pw ev od rc wr) := hD
  refine lv_aload_n hx hb dX7_turnsBack_10 rfl (lv_at hl 0 rfl) ?_
  refine sm_gt (ci := 7) (C := RX7) (T := TX7) (N := 33) hx hb hts inlX7 hown hK hP 0 rfl rfl 20 (by decide) wf_RX7_73 rfl dX7_turnsBack_11 ?_
  refine lv_iconst (v := 1) hx hb dX7_turnsBack_14 (by decide) ?_
  refine lv_isub hx hb dX7_turnsBack_15 ?_
  refine sm_re (y := nI P.1 + (-1)) (Int32.sub_eq_add_neg _ _) ?_
  refine lv_istore_n (lv' := [(3, .int (nI P.1 + (-1))), (0, .ref (am 0)), (1, .int a), (2, .int b)]) hx hb dX7_turnsBack_16 rfl hl (by decide) rfl (fun ls hl => ?_)
  suffices K : ∀ (n : Nat) (j : Nat) (q : sm_Cp) (H : Heap) (locs : List Loc) (ls : Array Slot), j = n → (j ≤ P.1) → (sm_bkG P j q = sm_bk P (a, b)) → va_P D.1 sm_cl (sm_w7 D am P S T L nm Z q ph th n2 fo rd np pw ev od rc wr) H → va_D (sm_ad (sm_w7 D am P S T L nm Z cp ph th n2 fo rd np pw ev od rc wr)) (sm_w7 D am P S T L nm Z q ph th n2 fo rd np pw ev od rc wr) → va_S (sm_ad (sm_w7 D am P S T L nm Z cp ph th n2 fo rd np pw ev od rc wr)) s.heap H locs → lv_has ls 4 [(0, .ref (am 0)), (1, .int a), (2, .int b), (3, .int (nI j + (-1)))] → W p l e ({ frames := 2, cells := 0, slots := 0, locals := 43 } : Room) s m ([.ref (am 0), .int a, .int b] : List Value).toArray below meth c H locs 0 0 (MQ below (sm_Qc D (sm_w7 D am P S T L nm Z cp ph th n2 fo rd np pw ev od rc wr) (fun w => w = sm_w7 D am P S T L nm Z ((sm_bk P (a, b)).2) ph th n2 fo rd np pw ev od rc wr) (some (.int (sm_b ((sm_bk P (a, b)).1))))) ([.ref (am 0), .int a, .int b] : List Value).toArray s 0 0 (sm_ad (sm_w7 D am P S T L nm Z cp ph th n2 fo rd np pw ev od rc wr))) (F0 m 17 ls []) from K _ P.1 (a, b) _ _ ls rfl (by omega) (rfl) hP hD hS (lv_sub hl [1, 2, 3, 0] rfl)
  intro n
  induction n using Nat.strongRecOn with
  | ind n ih =>
    intro j q H locs ls hn hj hR hP hD hS hl
    rcases j with _ | j
    · rw [show nI 0 + (-1) = (-1 : Int32) by decide] at hl
      refine lv_iload_n hx hb dX7_turnsBack_17 rfl (lv_at hl 3 rfl) ?_
      refine lv_if_lt (tgt := 165) hx hb dX7_turnsBack_18 (by decide) (fun _ => ?_) (fun h => absurd h (by decide))
      refine lv_aload_n hx hb dX7_turnsBack_165 rfl (lv_at hl 0 rfl) ?_
      refine lv_bipush (v := 99) hx hb dX7_turnsBack_166 (by decide) ?_
      refine sm_cVPr (rest := []) hC hK hP (c_X7_areWithin D am P S T L nm Z q ph th n2 fo rd np pw ev od rc wr 99) qyX7_areWithin wl_RX7_124 ⟨Nat.le_of_ble_eq_true rfl, Nat.le_of_ble_eq_true rfl⟩ 0 rfl rfl rfl hl.1 rfl (Nat.le_of_ble_eq_true rfl) dX7_turnsBack_168 ⟨Nat.le_of_ble_eq_true rfl, Nat.le_of_ble_eq_true rfl⟩ ?_
      exact sm_retC hC hP hD hS (by rw [← hR]; try rfl) (sm_nb _) (by rw [← hR]; try rfl) dX7_turnsBack_171
    · rw [pk_m1 j] at hl
      refine lv_iload_n hx hb dX7_turnsBack_17 rfl (lv_at hl 3 rfl) ?_
      refine lv_if_lt (tgt := 165) hx hb dX7_turnsBack_18 (by decide) (fun h => absurd h (fun z => absurd (sm_Nlt (a := j) (b := 0) z (by omega) (by omega)) (Nat.not_lt_zero _))) (fun _ => ?_)
      refine lv_aload_n hx hb dX7_turnsBack_21 rfl (lv_at hl 0 rfl) ?_
      refine sm_gt (ci := 7) (C := RX7) (T := TX7) (N := 33) hx hb hts inlX7 hown hK hP 0 rfl rfl 0 (by decide) wf_RX7_7 rfl dX7_turnsBack_22 ?_
      refine lv_iload_n hx hb dX7_turnsBack_25 rfl (lv_at hl 3 rfl) ?_
      refine sm_cld hx hb hK hP 1 rfl j rfl (by omega) (by decide) dX7_turnsBack_26 ?_
      refine lv_bipush (v := 109) hx hb dX7_turnsBack_27 (by decide) ?_
      refine lv_icmp_ne (tgt := 48) hx hb dX7_turnsBack_29 (by decide) (fun c_1 => ?_) (fun c_1 => ?_)
      · have c_1_ := c_1
        refine lv_aload_n hx hb dX7_turnsBack_48 rfl (lv_at hl 0 rfl) ?_
        refine sm_gt (ci := 7) (C := RX7) (T := TX7) (N := 33) hx hb hts inlX7 hown hK hP 0 rfl rfl 0 (by decide) wf_RX7_7 rfl dX7_turnsBack_49 ?_
        refine lv_iload_n hx hb dX7_turnsBack_52 rfl (lv_at hl 3 rfl) ?_
        refine sm_cld hx hb hK hP 1 rfl j rfl (by omega) (by decide) dX7_turnsBack_53 ?_
        refine lv_bipush (v := 112) hx hb dX7_turnsBack_54 (by decide) ?_
        refine lv_icmp_ne (tgt := 74) hx hb dX7_turnsBack_56 (by decide) (fun c_2 => ?_) (fun c_2 => ?_)
        · have c_2_ := c_2
          refine lv_aload_n hx hb dX7_turnsBack_74 rfl (lv_at hl 0 rfl) ?_
          refine sm_gt (ci := 7) (C := RX7) (T := TX7) (N := 33) hx hb hts inlX7 hown hK hP 0 rfl rfl 0 (by decide) wf_RX7_7 rfl dX7_turnsBack_75 ?_
          refine lv_iload_n hx hb dX7_turnsBack_78 rfl (lv_at hl 3 rfl) ?_
          refine sm_cld hx hb hK hP 1 rfl j rfl (by omega) (by decide) dX7_turnsBack_79 ?_
          refine lv_bipush (v := 109) hx hb dX7_turnsBack_80 (by decide) ?_
          refine lv_icmp_ne (tgt := 100) hx hb dX7_turnsBack_82 (by decide) (fun _ => ?_) (fun h => absurd h c_1)
          refine lv_aload_n hx hb dX7_turnsBack_100 rfl (lv_at hl 0 rfl) ?_
          refine sm_gt (ci := 7) (C := RX7) (T := TX7) (N := 33) hx hb hts inlX7 hown hK hP 0 rfl rfl 0 (by decide) wf_RX7_7 rfl dX7_turnsBack_101 ?_
          refine lv_iload_n hx hb dX7_turnsBack_104 rfl (lv_at hl 3 rfl) ?_
          refine sm_cld hx hb hK hP 1 rfl j rfl (by omega) (by decide) dX7_turnsBack_105 ?_
          refine lv_bipush (v := 110) hx hb dX7_turnsBack_106 (by decide) ?_
          refine lv_icmp_ne (tgt := 120) hx hb dX7_turnsBack_108 (by decide) (fun c_3 => ?_) (fun c_3 => ?_)
          · have c_3_ := c_3
            refine lv_aload_n hx hb dX7_turnsBack_120 rfl (lv_at hl 0 rfl) ?_
            refine sm_gt (ci := 7) (C := RX7) (T := TX7) (N := 33) hx hb hts inlX7 hown hK hP 0 rfl rfl 0 (by decide) wf_RX7_7 rfl dX7_turnsBack_121 ?_
            refine lv_iload_n hx hb dX7_turnsBack_124 rfl (lv_at hl 3 rfl) ?_
            refine sm_cld hx hb hK hP 1 rfl j rfl (by omega) (by decide) dX7_turnsBack_125 ?_
            refine lv_bipush (v := 115) hx hb dX7_turnsBack_126 (by decide) ?_
            refine lv_icmp_ne (tgt := 144) hx hb dX7_turnsBack_128 (by decide) (fun c_4 => ?_) (fun c_4 => ?_)
            · have c_4_ := c_4
              refine lv_aload_n hx hb dX7_turnsBack_144 rfl (lv_at hl 0 rfl) ?_
              refine sm_gt (ci := 7) (C := RX7) (T := TX7) (N := 33) hx hb hts inlX7 hown hK hP 0 rfl rfl 0 (by decide) wf_RX7_7 rfl dX7_turnsBack_145 ?_
              refine lv_iload_n hx hb dX7_turnsBack_148 rfl (lv_at hl 3 rfl) ?_
              refine sm_cld hx hb hK hP 1 rfl j rfl (by omega) (by decide) dX7_turnsBack_149 ?_
              refine lv_bipush (v := 120) hx hb dX7_turnsBack_150 (by decide) ?_
              refine lv_icmp_ne (tgt := 159) hx hb dX7_turnsBack_152 (by decide) (fun c_5 => ?_) (fun c_5 => ?_)
              · have c_5_ := c_5
                refine lv_iinc (v := nI j + (-1)) (lv' := [(3, .int (nI j + (-1))), (0, .ref (am 0)), (1, .int a), (2, .int b)]) hx hb dX7_turnsBack_159 hl (k := 3) rfl (rfl) (by decide) rfl (fun ls hl => ?_)
                refine lv_goto (tgt := 17) hx hb dX7_turnsBack_162 (by decide) ?_
                exact ih _ (by omega) j q _ _ ls rfl (by omega) (by exfalso; rcases hOK j (by omega) with h | ⟨h, -⟩ | h | h | h <;> simp_all) hP hD hS (lv_sub hl [1, 2, 3, 0] rfl)
              · have c_5_ := c_5
                refine lv_aload_n hx hb dX7_turnsBack_155 rfl (lv_at hl 0 rfl) ?_
                refine sm_cVC (rest := []) hC hK hP hD hS hZ (c_X7_exchanges D am P S T L nm Z q ph th n2 fo rd np pw ev od rc wr ) qyX7_exchanges wl_RX7_117 ⟨Nat.le_of_ble_eq_true rfl, Nat.le_of_ble_eq_true rfl⟩ 0 rfl rfl rfl hl.1 rfl (Nat.le_of_ble_eq_true rfl) dX7_turnsBack_156 ⟨Nat.le_of_ble_eq_true rfl, Nat.le_of_ble_eq_true rfl⟩ (fun w1 H locs hB hP hD hS => ?_)
                subst hB
                refine lv_iinc (v := nI j + (-1)) (lv' := [(3, .int (nI j + (-1))), (0, .ref (am 0)), (1, .int a), (2, .int b)]) hx hb dX7_turnsBack_159 hl (k := 3) rfl (rfl) (by decide) rfl (fun ls hl => ?_)
                refine lv_goto (tgt := 17) hx hb dX7_turnsBack_162 (by decide) ?_
                exact ih _ (by omega) j (q.2, q.1) _ _ ls rfl (by omega) (by rw [sm_bk7 (by omega), if_pos (by simp [sm_backF, c_1, c_2, c_3, c_4, c_5])] at hR; simp [sm_backF, c_1, c_2, c_3, c_4, c_5] at hR; exact hR) hP hD hS (lv_sub hl [1, 2, 3, 0] rfl)
            · have c_4_ := c_4
              refine lv_aload_n hx hb dX7_turnsBack_131 rfl (lv_at hl 0 rfl) ?_
              refine lv_dup hx hb dX7_turnsBack_132 rfl ?_
              refine sm_gt (ci := 7) (C := RX7) (T := TX7) (N := 33) hx hb hts inlX7 hown hK hP 0 rfl rfl 31 (by decide) wf_RX7_106 rfl dX7_turnsBack_133 ?_
              refine lv_aload_n hx hb dX7_turnsBack_136 rfl (lv_at hl 0 rfl) ?_
              refine sm_gt (ci := 7) (C := RX7) (T := TX7) (N := 33) hx hb hts inlX7 hown hK hP 0 rfl rfl 30 (by decide) wf_RX7_103 rfl dX7_turnsBack_137 ?_
              refine lv_isub hx hb dX7_turnsBack_140 ?_
              refine sm_pt (ci := 7) (C := RX7) (T := TX7) (N := 33) hx hb hts inlX7 tyX7 tyX7_ok nmX7 hown hK hP hD hS 0 rfl rfl 31 (by decide) wf_RX7_106 rfl rfl rfl (Nat.le_of_ble_eq_true rfl) dX7_turnsBack_141 (fun H locs hP hD hS => ?_)
              have hP : va_P D.1 sm_cl (sm_w7 D am P S T L nm Z (q.1, q.2 - q.1) ph th n2 fo rd np pw ev od rc wr) H := hP
              have hD : va_D (sm_ad (sm_w7 D am P S T L nm Z cp ph th n2 fo rd np pw ev od rc wr)) (sm_w7 D am P S T L nm Z (q.1, q.2 - q.1) ph th n2 fo rd np pw ev od rc wr) := hD
              refine lv_aload_n hx hb dX7_turnsBack_144 rfl (lv_at hl 0 rfl) ?_
              refine sm_gt (ci := 7) (C := RX7) (T := TX7) (N := 33) hx hb hts inlX7 hown hK hP 0 rfl rfl 0 (by decide) wf_RX7_7 rfl dX7_turnsBack_145 ?_
              refine lv_iload_n hx hb dX7_turnsBack_148 rfl (lv_at hl 3 rfl) ?_
              refine sm_cld hx hb hK hP 1 rfl j rfl (by omega) (by decide) dX7_turnsBack_149 ?_
              refine lv_bipush (v := 120) hx hb dX7_turnsBack_150 (by decide) ?_
              refine lv_icmp_ne (tgt := 159) hx hb dX7_turnsBack_152 (by decide) (fun _ => ?_) (fun h => absurd h (by rw [c_4]; decide))
              refine lv_iinc (v := nI j + (-1)) (lv' := [(3, .int (nI j + (-1))), (0, .ref (am 0)), (1, .int a), (2, .int b)]) hx hb dX7_turnsBack_159 hl (k := 3) rfl (rfl) (by decide) rfl (fun ls hl => ?_)
              refine lv_goto (tgt := 17) hx hb dX7_turnsBack_162 (by decide) ?_
              exact ih _ (by omega) j (q.1, q.2 - q.1) _ _ ls rfl (by omega) (by rw [sm_bk7 (by omega), if_pos (by simp [sm_backF, c_1, c_2, c_3, c_4])] at hR; simp [sm_backF, c_1, c_2, c_3, c_4] at hR; exact hR) hP hD hS (lv_sub hl [1, 2, 3, 0] rfl)
          · have c_3_ := c_3
            refine lv_aload_n hx hb dX7_turnsBack_111 rfl (lv_at hl 0 rfl) ?_
            refine lv_aload_n hx hb dX7_turnsBack_112 rfl (lv_at hl 0 rfl) ?_
            refine sm_gt (ci := 7) (C := RX7) (T := TX7) (N := 33) hx hb hts inlX7 hown hK hP 0 rfl rfl 30 (by decide) wf_RX7_103 rfl dX7_turnsBack_113 ?_
            refine lv_ineg hx hb dX7_turnsBack_116 ?_
            refine sm_pt (ci := 7) (C := RX7) (T := TX7) (N := 33) hx hb hts inlX7 tyX7 tyX7_ok nmX7 hown hK hP hD hS 0 rfl rfl 30 (by decide) wf_RX7_103 rfl rfl rfl (Nat.le_of_ble_eq_true rfl) dX7_turnsBack_117 (fun H locs hP hD hS => ?_)
            have hP : va_P D.1 sm_cl (sm_w7 D am P S T L nm Z (-q.1, q.2) ph th n2 fo rd np pw ev od rc wr) H := hP
            have hD : va_D (sm_ad (sm_w7 D am P S T L nm Z cp ph th n2 fo rd np pw ev od rc wr)) (sm_w7 D am P S T L nm Z (-q.1, q.2) ph th n2 fo rd np pw ev od rc wr) := hD
            refine lv_aload_n hx hb dX7_turnsBack_120 rfl (lv_at hl 0 rfl) ?_
            refine sm_gt (ci := 7) (C := RX7) (T := TX7) (N := 33) hx hb hts inlX7 hown hK hP 0 rfl rfl 0 (by decide) wf_RX7_7 rfl dX7_turnsBack_121 ?_
            refine lv_iload_n hx hb dX7_turnsBack_124 rfl (lv_at hl 3 rfl) ?_
            refine sm_cld hx hb hK hP 1 rfl j rfl (by omega) (by decide) dX7_turnsBack_125 ?_
            refine lv_bipush (v := 115) hx hb dX7_turnsBack_126 (by decide) ?_
            refine lv_icmp_ne (tgt := 144) hx hb dX7_turnsBack_128 (by decide) (fun _ => ?_) (fun h => absurd h (by rw [c_3]; decide))
            refine lv_aload_n hx hb dX7_turnsBack_144 rfl (lv_at hl 0 rfl) ?_
            refine sm_gt (ci := 7) (C := RX7) (T := TX7) (N := 33) hx hb hts inlX7 hown hK hP 0 rfl rfl 0 (by decide) wf_RX7_7 rfl dX7_turnsBack_145 ?_
            refine lv_iload_n hx hb dX7_turnsBack_148 rfl (lv_at hl 3 rfl) ?_
            refine sm_cld hx hb hK hP 1 rfl j rfl (by omega) (by decide) dX7_turnsBack_149 ?_
            refine lv_bipush (v := 120) hx hb dX7_turnsBack_150 (by decide) ?_
            refine lv_icmp_ne (tgt := 159) hx hb dX7_turnsBack_152 (by decide) (fun _ => ?_) (fun h => absurd h (by rw [c_3]; decide))
            refine lv_iinc (v := nI j + (-1)) (lv' := [(3, .int (nI j + (-1))), (0, .ref (am 0)), (1, .int a), (2, .int b)]) hx hb dX7_turnsBack_159 hl (k := 3) rfl (rfl) (by decide) rfl (fun ls hl => ?_)
            refine lv_goto (tgt := 17) hx hb dX7_turnsBack_162 (by decide) ?_
            exact ih _ (by omega) j (-q.1, q.2) _ _ ls rfl (by omega) (by rw [sm_bk7 (by omega), if_pos (by simp [sm_backF, c_1, c_2, c_3])] at hR; simp [sm_backF, c_1, c_2, c_3] at hR; exact hR) hP hD hS (lv_sub hl [1, 2, 3, 0] rfl)
        · have c_2_ := c_2
          refine lv_aload_n hx hb dX7_turnsBack_59 rfl (lv_at hl 0 rfl) ?_
          refine lv_dup hx hb dX7_turnsBack_60 rfl ?_
          refine sm_gt (ci := 7) (C := RX7) (T := TX7) (N := 33) hx hb hts inlX7 hown hK hP 0 rfl rfl 30 (by decide) wf_RX7_103 rfl dX7_turnsBack_61 ?_
          refine lv_aload_n hx hb dX7_turnsBack_64 rfl (lv_at hl 0 rfl) ?_
          refine sm_gt (ci := 7) (C := RX7) (T := TX7) (N := 33) hx hb hts inlX7 hown hK hP 0 rfl rfl 2 (by decide) wf_RX7_16 rfl dX7_turnsBack_65 ?_
          refine lv_iload_n hx hb dX7_turnsBack_68 rfl (lv_at hl 3 rfl) ?_
          refine sm_ild hx hb hK hP 3 rfl j rfl (by omega) (by decide) dX7_turnsBack_69 ?_
          refine lv_isub hx hb dX7_turnsBack_70 ?_
          refine sm_pt (ci := 7) (C := RX7) (T := TX7) (N := 33) hx hb hts inlX7 tyX7 tyX7_ok nmX7 hown hK hP hD hS 0 rfl rfl 30 (by decide) wf_RX7_103 rfl rfl rfl (Nat.le_of_ble_eq_true rfl) dX7_turnsBack_71 (fun H locs hP hD hS => ?_)
          have hP : va_P D.1 sm_cl (sm_w7 D am P S T L nm Z (q.1 - (P.2.2 j), q.2) ph th n2 fo rd np pw ev od rc wr) H := hP
          have hD : va_D (sm_ad (sm_w7 D am P S T L nm Z cp ph th n2 fo rd np pw ev od rc wr)) (sm_w7 D am P S T L nm Z (q.1 - (P.2.2 j), q.2) ph th n2 fo rd np pw ev od rc wr) := hD
          refine lv_aload_n hx hb dX7_turnsBack_74 rfl (lv_at hl 0 rfl) ?_
          refine sm_gt (ci := 7) (C := RX7) (T := TX7) (N := 33) hx hb hts inlX7 hown hK hP 0 rfl rfl 0 (by decide) wf_RX7_7 rfl dX7_turnsBack_75 ?_
          refine lv_iload_n hx hb dX7_turnsBack_78 rfl (lv_at hl 3 rfl) ?_
          refine sm_cld hx hb hK hP 1 rfl j rfl (by omega) (by decide) dX7_turnsBack_79 ?_
          refine lv_bipush (v := 109) hx hb dX7_turnsBack_80 (by decide) ?_
          refine lv_icmp_ne (tgt := 100) hx hb dX7_turnsBack_82 (by decide) (fun _ => ?_) (fun h => absurd h c_1)
          refine lv_aload_n hx hb dX7_turnsBack_100 rfl (lv_at hl 0 rfl) ?_
          refine sm_gt (ci := 7) (C := RX7) (T := TX7) (N := 33) hx hb hts inlX7 hown hK hP 0 rfl rfl 0 (by decide) wf_RX7_7 rfl dX7_turnsBack_101 ?_
          refine lv_iload_n hx hb dX7_turnsBack_104 rfl (lv_at hl 3 rfl) ?_
          refine sm_cld hx hb hK hP 1 rfl j rfl (by omega) (by decide) dX7_turnsBack_105 ?_
          refine lv_bipush (v := 110) hx hb dX7_turnsBack_106 (by decide) ?_
          refine lv_icmp_ne (tgt := 120) hx hb dX7_turnsBack_108 (by decide) (fun _ => ?_) (fun h => absurd h (by rw [c_2]; decide))
          refine lv_aload_n hx hb dX7_turnsBack_120 rfl (lv_at hl 0 rfl) ?_
          refine sm_gt (ci := 7) (C := RX7) (T := TX7) (N := 33) hx hb hts inlX7 hown hK hP 0 rfl rfl 0 (by decide) wf_RX7_7 rfl dX7_turnsBack_121 ?_
          refine lv_iload_n hx hb dX7_turnsBack_124 rfl (lv_at hl 3 rfl) ?_
          refine sm_cld hx hb hK hP 1 rfl j rfl (by omega) (by decide) dX7_turnsBack_125 ?_
          refine lv_bipush (v := 115) hx hb dX7_turnsBack_126 (by decide) ?_
          refine lv_icmp_ne (tgt := 144) hx hb dX7_turnsBack_128 (by decide) (fun _ => ?_) (fun h => absurd h (by rw [c_2]; decide))
          refine lv_aload_n hx hb dX7_turnsBack_144 rfl (lv_at hl 0 rfl) ?_
          refine sm_gt (ci := 7) (C := RX7) (T := TX7) (N := 33) hx hb hts inlX7 hown hK hP 0 rfl rfl 0 (by decide) wf_RX7_7 rfl dX7_turnsBack_145 ?_
          refine lv_iload_n hx hb dX7_turnsBack_148 rfl (lv_at hl 3 rfl) ?_
          refine sm_cld hx hb hK hP 1 rfl j rfl (by omega) (by decide) dX7_turnsBack_149 ?_
          refine lv_bipush (v := 120) hx hb dX7_turnsBack_150 (by decide) ?_
          refine lv_icmp_ne (tgt := 159) hx hb dX7_turnsBack_152 (by decide) (fun _ => ?_) (fun h => absurd h (by rw [c_2]; decide))
          refine lv_iinc (v := nI j + (-1)) (lv' := [(3, .int (nI j + (-1))), (0, .ref (am 0)), (1, .int a), (2, .int b)]) hx hb dX7_turnsBack_159 hl (k := 3) rfl (rfl) (by decide) rfl (fun ls hl => ?_)
          refine lv_goto (tgt := 17) hx hb dX7_turnsBack_162 (by decide) ?_
          exact ih _ (by omega) j (q.1 - (P.2.2 j), q.2) _ _ ls rfl (by omega) (by rw [sm_bk7 (by omega), if_pos (by simp [sm_backF, c_1, c_2])] at hR; simp [sm_backF, c_1, c_2] at hR; exact hR) hP hD hS (lv_sub hl [1, 2, 3, 0] rfl)
      · have c_1_ := c_1
        refine lv_aload_n hx hb dX7_turnsBack_32 rfl (lv_at hl 0 rfl) ?_
        refine sm_gt (ci := 7) (C := RX7) (T := TX7) (N := 33) hx hb hts inlX7 hown hK hP 0 rfl rfl 30 (by decide) wf_RX7_103 rfl dX7_turnsBack_33 ?_
        refine lv_aload_n hx hb dX7_turnsBack_36 rfl (lv_at hl 0 rfl) ?_
        refine sm_gt (ci := 7) (C := RX7) (T := TX7) (N := 33) hx hb hts inlX7 hown hK hP 0 rfl rfl 2 (by decide) wf_RX7_16 rfl dX7_turnsBack_37 ?_
        refine lv_iload_n hx hb dX7_turnsBack_40 rfl (lv_at hl 3 rfl) ?_
        refine sm_ild hx hb hK hP 3 rfl j rfl (by omega) (by decide) dX7_turnsBack_41 ?_
        refine lv_irem hx hb dX7_turnsBack_42 (sm_kOKm (hOK j (by omega)) c_1) ?_
        refine lv_if_eq (tgt := 48) hx hb dX7_turnsBack_43 (by decide) (fun c_6 => ?_) (fun c_6 => ?_)
        · have c_6_ := c_6
          refine lv_aload_n hx hb dX7_turnsBack_48 rfl (lv_at hl 0 rfl) ?_
          refine sm_gt (ci := 7) (C := RX7) (T := TX7) (N := 33) hx hb hts inlX7 hown hK hP 0 rfl rfl 0 (by decide) wf_RX7_7 rfl dX7_turnsBack_49 ?_
          refine lv_iload_n hx hb dX7_turnsBack_52 rfl (lv_at hl 3 rfl) ?_
          refine sm_cld hx hb hK hP 1 rfl j rfl (by omega) (by decide) dX7_turnsBack_53 ?_
          refine lv_bipush (v := 112) hx hb dX7_turnsBack_54 (by decide) ?_
          refine lv_icmp_ne (tgt := 74) hx hb dX7_turnsBack_56 (by decide) (fun _ => ?_) (fun h => absurd h (by rw [c_1]; decide))
          refine lv_aload_n hx hb dX7_turnsBack_74 rfl (lv_at hl 0 rfl) ?_
          refine sm_gt (ci := 7) (C := RX7) (T := TX7) (N := 33) hx hb hts inlX7 hown hK hP 0 rfl rfl 0 (by decide) wf_RX7_7 rfl dX7_turnsBack_75 ?_
          refine lv_iload_n hx hb dX7_turnsBack_78 rfl (lv_at hl 3 rfl) ?_
          refine sm_cld hx hb hK hP 1 rfl j rfl (by omega) (by decide) dX7_turnsBack_79 ?_
          refine lv_bipush (v := 109) hx hb dX7_turnsBack_80 (by decide) ?_
          refine lv_icmp_ne (tgt := 100) hx hb dX7_turnsBack_82 (by decide) (fun h => absurd c_1 h) (fun _ => ?_)
          refine lv_aload_n hx hb dX7_turnsBack_85 rfl (lv_at hl 0 rfl) ?_
          refine lv_dup hx hb dX7_turnsBack_86 rfl ?_
          refine sm_gt (ci := 7) (C := RX7) (T := TX7) (N := 33) hx hb hts inlX7 hown hK hP 0 rfl rfl 30 (by decide) wf_RX7_103 rfl dX7_turnsBack_87 ?_
          refine lv_aload_n hx hb dX7_turnsBack_90 rfl (lv_at hl 0 rfl) ?_
          refine sm_gt (ci := 7) (C := RX7) (T := TX7) (N := 33) hx hb hts inlX7 hown hK hP 0 rfl rfl 2 (by decide) wf_RX7_16 rfl dX7_turnsBack_91 ?_
          refine lv_iload_n hx hb dX7_turnsBack_94 rfl (lv_at hl 3 rfl) ?_
          refine sm_ild hx hb hK hP 3 rfl j rfl (by omega) (by decide) dX7_turnsBack_95 ?_
          refine lv_idiv hx hb dX7_turnsBack_96 (sm_kOKm (hOK j (by omega)) c_1) ?_
          refine sm_pt (ci := 7) (C := RX7) (T := TX7) (N := 33) hx hb hts inlX7 tyX7 tyX7_ok nmX7 hown hK hP hD hS 0 rfl rfl 30 (by decide) wf_RX7_103 rfl rfl rfl (Nat.le_of_ble_eq_true rfl) dX7_turnsBack_97 (fun H locs hP hD hS => ?_)
          have hP : va_P D.1 sm_cl (sm_w7 D am P S T L nm Z (q.1 / (P.2.2 j), q.2) ph th n2 fo rd np pw ev od rc wr) H := hP
          have hD : va_D (sm_ad (sm_w7 D am P S T L nm Z cp ph th n2 fo rd np pw ev od rc wr)) (sm_w7 D am P S T L nm Z (q.1 / (P.2.2 j), q.2) ph th n2 fo rd np pw ev od rc wr) := hD
          refine lv_aload_n hx hb dX7_turnsBack_100 rfl (lv_at hl 0 rfl) ?_
          refine sm_gt (ci := 7) (C := RX7) (T := TX7) (N := 33) hx hb hts inlX7 hown hK hP 0 rfl rfl 0 (by decide) wf_RX7_7 rfl dX7_turnsBack_101 ?_
          refine lv_iload_n hx hb dX7_turnsBack_104 rfl (lv_at hl 3 rfl) ?_
          refine sm_cld hx hb hK hP 1 rfl j rfl (by omega) (by decide) dX7_turnsBack_105 ?_
          refine lv_bipush (v := 110) hx hb dX7_turnsBack_106 (by decide) ?_
          refine lv_icmp_ne (tgt := 120) hx hb dX7_turnsBack_108 (by decide) (fun _ => ?_) (fun h => absurd h (by rw [c_1]; decide))
          refine lv_aload_n hx hb dX7_turnsBack_120 rfl (lv_at hl 0 rfl) ?_
          refine sm_gt (ci := 7) (C := RX7) (T := TX7) (N := 33) hx hb hts inlX7 hown hK hP 0 rfl rfl 0 (by decide) wf_RX7_7 rfl dX7_turnsBack_121 ?_
          refine lv_iload_n hx hb dX7_turnsBack_124 rfl (lv_at hl 3 rfl) ?_
          refine sm_cld hx hb hK hP 1 rfl j rfl (by omega) (by decide) dX7_turnsBack_125 ?_
          refine lv_bipush (v := 115) hx hb dX7_turnsBack_126 (by decide) ?_
          refine lv_icmp_ne (tgt := 144) hx hb dX7_turnsBack_128 (by decide) (fun _ => ?_) (fun h => absurd h (by rw [c_1]; decide))
          refine lv_aload_n hx hb dX7_turnsBack_144 rfl (lv_at hl 0 rfl) ?_
          refine sm_gt (ci := 7) (C := RX7) (T := TX7) (N := 33) hx hb hts inlX7 hown hK hP 0 rfl rfl 0 (by decide) wf_RX7_7 rfl dX7_turnsBack_145 ?_
          refine lv_iload_n hx hb dX7_turnsBack_148 rfl (lv_at hl 3 rfl) ?_
          refine sm_cld hx hb hK hP 1 rfl j rfl (by omega) (by decide) dX7_turnsBack_149 ?_
          refine lv_bipush (v := 120) hx hb dX7_turnsBack_150 (by decide) ?_
          refine lv_icmp_ne (tgt := 159) hx hb dX7_turnsBack_152 (by decide) (fun _ => ?_) (fun h => absurd h (by rw [c_1]; decide))
          refine lv_iinc (v := nI j + (-1)) (lv' := [(3, .int (nI j + (-1))), (0, .ref (am 0)), (1, .int a), (2, .int b)]) hx hb dX7_turnsBack_159 hl (k := 3) rfl (rfl) (by decide) rfl (fun ls hl => ?_)
          refine lv_goto (tgt := 17) hx hb dX7_turnsBack_162 (by decide) ?_
          exact ih _ (by omega) j (q.1 / (P.2.2 j), q.2) _ _ ls rfl (by omega) (by rw [sm_bk7 (by omega), if_pos (by simp [sm_backF, c_1, c_6, sm_kOKm (hOK j (by omega)) c_1])] at hR; simp [sm_backF, c_1, c_6, sm_kOKm (hOK j (by omega)) c_1] at hR; exact hR) hP hD hS (lv_sub hl [1, 2, 3, 0] rfl)
        · have c_6_ := c_6
          refine lv_iconst (v := 0) hx hb dX7_turnsBack_46 (by decide) ?_
          exact sm_retC hC hP hD hS (by rw [sm_bk7 (by omega), if_neg (by simp [sm_backF, c_1, c_6, sm_kOKm (hOK j (by omega)) c_1])] at hR; rw [← hR]; simp [sm_b, sm_backF, c_1, c_6, sm_kOKm (hOK j (by omega)) c_1]) (by decide) (by rw [sm_bk7 (by omega), if_neg (by simp [sm_backF, c_1, c_6, sm_kOKm (hOK j (by omega)) c_1])] at hR; rw [← hR]; simp [sm_b, sm_backF, c_1, c_6, sm_kOKm (hOK j (by omega)) c_1]) dX7_turnsBack_47

set_option maxHeartbeats 1000000 in
set_option maxRecDepth 100000 in
theorem c_X7_isKind (k : Int32) : sm_MP l yX7_isKind cX7_isKind 1 (some .boolean) 0 0 [.int k] D (sm_w7 D am P S T L nm Z cp ph th n2 fo rd np pw ev od rc wr) (some (.int (sm_b (sm_isKd k)))) := by
  refine sm_met (own := RX7) (by decide) rfl (Nat.le_of_ble_eq_true rfl) ?_
  intro p e s m below meth c ls hC hv hl
  obtain ⟨hx, hb, hml, hr, hown, hlk, hts⟩ := id hC
  obtain ⟨hP, hK⟩ := hv
  have hl : lv_has ls 1 [(0, .int k)] := hl
  refine lv_iload_n hx hb dX7_isKind_0 rfl (lv_at hl 0 rfl) ?_
  refine lv_bipush (v := 112) hx hb dX7_isKind_1 (by decide) ?_
  refine lv_icmp_eq (tgt := 30) hx hb dX7_isKind_3 (by decide) (fun c_1 => ?_) (fun c_1 => ?_)
  · have c_1_ := c_1
    refine lv_iconst (v := 1) hx hb dX7_isKind_30 (by decide) ?_
    refine lv_goto (tgt := 35) hx hb dX7_isKind_31 (by decide) ?_
    exact sm_retP hC (by first | rfl | (simp [sm_isKd, sm_b, c_1]; done) | (simp [sm_isKd, sm_b] at c_1; simp [sm_isKd, sm_b, c_1]; done) | (simp_all [sm_isKd, sm_b]; done)) (by decide) dX7_isKind_35
  · have c_1_ := c_1
    refine lv_iload_n hx hb dX7_isKind_6 rfl (lv_at hl 0 rfl) ?_
    refine lv_bipush (v := 109) hx hb dX7_isKind_7 (by decide) ?_
    refine lv_icmp_eq (tgt := 30) hx hb dX7_isKind_9 (by decide) (fun c_2 => ?_) (fun c_2 => ?_)
    · have c_2_ := c_2
      refine lv_iconst (v := 1) hx hb dX7_isKind_30 (by decide) ?_
      refine lv_goto (tgt := 35) hx hb dX7_isKind_31 (by decide) ?_
      exact sm_retP hC (by first | rfl | (simp [sm_isKd, sm_b, c_1, c_2]; done) | (simp [sm_isKd, sm_b] at c_1 c_2; simp [sm_isKd, sm_b, c_1, c_2]; done) | (simp_all [sm_isKd, sm_b]; done)) (by decide) dX7_isKind_35
    · have c_2_ := c_2
      refine lv_iload_n hx hb dX7_isKind_12 rfl (lv_at hl 0 rfl) ?_
      refine lv_bipush (v := 110) hx hb dX7_isKind_13 (by decide) ?_
      refine lv_icmp_eq (tgt := 30) hx hb dX7_isKind_15 (by decide) (fun c_3 => ?_) (fun c_3 => ?_)
      · have c_3_ := c_3
        refine lv_iconst (v := 1) hx hb dX7_isKind_30 (by decide) ?_
        refine lv_goto (tgt := 35) hx hb dX7_isKind_31 (by decide) ?_
        exact sm_retP hC (by first | rfl | (simp [sm_isKd, sm_b, c_1, c_2, c_3]; done) | (simp [sm_isKd, sm_b] at c_1 c_2 c_3; simp [sm_isKd, sm_b, c_1, c_2, c_3]; done) | (simp_all [sm_isKd, sm_b]; done)) (by decide) dX7_isKind_35
      · have c_3_ := c_3
        refine lv_iload_n hx hb dX7_isKind_18 rfl (lv_at hl 0 rfl) ?_
        refine lv_bipush (v := 120) hx hb dX7_isKind_19 (by decide) ?_
        refine lv_icmp_eq (tgt := 30) hx hb dX7_isKind_21 (by decide) (fun c_4 => ?_) (fun c_4 => ?_)
        · have c_4_ := c_4
          refine lv_iconst (v := 1) hx hb dX7_isKind_30 (by decide) ?_
          refine lv_goto (tgt := 35) hx hb dX7_isKind_31 (by decide) ?_
          exact sm_retP hC (by first | rfl | (simp [sm_isKd, sm_b, c_1, c_2, c_3, c_4]; done) | (simp [sm_isKd, sm_b] at c_1 c_2 c_3 c_4; simp [sm_isKd, sm_b, c_1, c_2, c_3, c_4]; done) | (simp_all [sm_isKd, sm_b]; done)) (by decide) dX7_isKind_35
        · have c_4_ := c_4
          refine lv_iload_n hx hb dX7_isKind_24 rfl (lv_at hl 0 rfl) ?_
          refine lv_bipush (v := 115) hx hb dX7_isKind_25 (by decide) ?_
          refine lv_icmp_ne (tgt := 34) hx hb dX7_isKind_27 (by decide) (fun c_5 => ?_) (fun c_5 => ?_)
          · have c_5_ := c_5
            refine lv_iconst (v := 0) hx hb dX7_isKind_34 (by decide) ?_
            exact sm_retP hC (by first | rfl | (simp [sm_isKd, sm_b, c_1, c_2, c_3, c_4, c_5]; done) | (simp [sm_isKd, sm_b] at c_1 c_2 c_3 c_4 c_5; simp [sm_isKd, sm_b, c_1, c_2, c_3, c_4, c_5]; done) | (simp_all [sm_isKd, sm_b]; done)) (by decide) dX7_isKind_35
          · have c_5_ := c_5
            refine lv_iconst (v := 1) hx hb dX7_isKind_30 (by decide) ?_
            refine lv_goto (tgt := 35) hx hb dX7_isKind_31 (by decide) ?_
            exact sm_retP hC (by first | rfl | (simp [sm_isKd, sm_b, c_1, c_2, c_3, c_4, c_5]; done) | (simp [sm_isKd, sm_b] at c_1 c_2 c_3 c_4 c_5; simp [sm_isKd, sm_b, c_1, c_2, c_3, c_4, c_5]; done) | (simp_all [sm_isKd, sm_b]; done)) (by decide) dX7_isKind_35

set_option maxHeartbeats 1000000 in
set_option maxRecDepth 100000 in
theorem c_X7_isNumber (k x : Int32) : sm_MP l yX7_isNumber cX7_isNumber 2 (some .boolean) 1 22 [.int k, .int x] D (sm_w7 D am P S T L nm Z cp ph th n2 fo rd np pw ev od rc wr) (some (.int (sm_b (sm_isNb k x)))) := by
  refine sm_met (own := RX7) (by decide) rfl (Nat.le_of_ble_eq_true rfl) ?_
  intro p e s m below meth c ls hC hv hl
  obtain ⟨hx, hb, hml, hr, hown, hlk, hts⟩ := id hC
  obtain ⟨hP, hK⟩ := hv
  have hl : lv_has ls 2 [(0, .int k), (1, .int x)] := hl
  refine lv_iload_n hx hb dX7_isNumber_0 rfl (lv_at hl 0 rfl) ?_
  refine lv_bipush (v := 112) hx hb dX7_isNumber_1 (by decide) ?_
  refine lv_icmp_ne (tgt := 19) hx hb dX7_isNumber_3 (by decide) (fun c_1 => ?_) (fun c_1 => ?_)
  · have c_1_ := c_1
    refine lv_iload_n hx hb dX7_isNumber_19 rfl (lv_at hl 0 rfl) ?_
    refine lv_bipush (v := 109) hx hb dX7_isNumber_20 (by decide) ?_
    refine lv_icmp_ne (tgt := 40) hx hb dX7_isNumber_22 (by decide) (fun c_2 => ?_) (fun c_2 => ?_)
    · have c_2_ := c_2
      refine lv_iconst (v := 1) hx hb dX7_isNumber_40 (by decide) ?_
      refine lv_goto (tgt := 45) hx hb dX7_isNumber_41 (by decide) ?_
      exact sm_retP hC (by first | rfl | (simp [sm_isNb, sm_b, c_1, c_2]; done) | (simp [sm_isNb, sm_b] at c_1 c_2; simp [sm_isNb, sm_b, c_1, c_2]; done) | (simp_all [sm_isNb, sm_b]; done)) (by decide) dX7_isNumber_45
    · have c_2_ := c_2
      refine lv_iload_n hx hb dX7_isNumber_25 rfl (lv_at hl 1 rfl) ?_
      refine lv_bipush (v := -9) hx hb dX7_isNumber_26 (by decide) ?_
      refine lv_bipush (v := 9) hx hb dX7_isNumber_28 (by decide) ?_
      refine sm_cSPr (rest := []) hC hK hP (c_X7_in D am P S T L nm Z cp ph th n2 fo rd np pw ev od rc wr x (-9) 9) qyX7_in wl_RX7_113 ⟨Nat.le_of_ble_eq_true rfl, Nat.le_of_ble_eq_true rfl⟩ rfl hl.1 rfl (Nat.le_of_ble_eq_true rfl) dX7_isNumber_30 ⟨Nat.le_of_ble_eq_true rfl, Nat.le_of_ble_eq_true rfl⟩ ?_
      refine lv_if_eq (tgt := 44) hx hb dX7_isNumber_33 (by decide) (fun c_3 => ?_) (fun c_3 => ?_)
      · have c_3 := sm_b0 c_3
        refine lv_iconst (v := 0) hx hb dX7_isNumber_44 (by decide) ?_
        exact sm_retP hC (by first | rfl | (simp [sm_isNb, sm_b, c_1, c_2, c_3]; done) | (simp [sm_isNb, sm_b] at c_1 c_2 c_3; simp [sm_isNb, sm_b, c_1, c_2, c_3]; done) | (simp_all [sm_isNb, sm_b]; done)) (by decide) dX7_isNumber_45
      · have c_3 := sm_b1 c_3
        refine lv_iload_n hx hb dX7_isNumber_36 rfl (lv_at hl 1 rfl) ?_
        refine lv_if_eq (tgt := 44) hx hb dX7_isNumber_37 (by decide) (fun c_4 => ?_) (fun c_4 => ?_)
        · have c_4_ := c_4
          refine lv_iconst (v := 0) hx hb dX7_isNumber_44 (by decide) ?_
          exact sm_retP hC (by first | rfl | (simp [sm_isNb, sm_b, c_1, c_2, c_3, c_4]; done) | (simp [sm_isNb, sm_b] at c_1 c_2 c_3 c_4; simp [sm_isNb, sm_b, c_1, c_2, c_3, c_4]; done) | (simp_all [sm_isNb, sm_b]; done)) (by decide) dX7_isNumber_45
        · have c_4_ := c_4
          refine lv_iconst (v := 1) hx hb dX7_isNumber_40 (by decide) ?_
          refine lv_goto (tgt := 45) hx hb dX7_isNumber_41 (by decide) ?_
          exact sm_retP hC (by first | rfl | (simp [sm_isNb, sm_b, c_1, c_2, c_3, c_4]; done) | (simp [sm_isNb, sm_b] at c_1 c_2 c_3 c_4; simp [sm_isNb, sm_b, c_1, c_2, c_3, c_4]; done) | (simp_all [sm_isNb, sm_b]; done)) (by decide) dX7_isNumber_45
  · have c_1_ := c_1
    refine lv_iload_n hx hb dX7_isNumber_6 rfl (lv_at hl 1 rfl) ?_
    refine lv_sipush (v := -999) hx hb dX7_isNumber_7 (by decide) ?_
    refine lv_sipush (v := 999) hx hb dX7_isNumber_10 (by decide) ?_
    refine sm_cSPr (rest := []) hC hK hP (c_X7_in D am P S T L nm Z cp ph th n2 fo rd np pw ev od rc wr x (-999) 999) qyX7_in wl_RX7_113 ⟨Nat.le_of_ble_eq_true rfl, Nat.le_of_ble_eq_true rfl⟩ rfl hl.1 rfl (Nat.le_of_ble_eq_true rfl) dX7_isNumber_13 ⟨Nat.le_of_ble_eq_true rfl, Nat.le_of_ble_eq_true rfl⟩ ?_
    refine lv_goto (tgt := 45) hx hb dX7_isNumber_16 (by decide) ?_
    exact sm_retP hC (by first | rfl | (simp [sm_isNb, sm_b, c_1]; done) | (simp [sm_isNb, sm_b] at c_1; simp [sm_isNb, sm_b, c_1]; done) | (simp_all [sm_isNb, sm_b]; done)) (sm_nb _) dX7_isNumber_45

set_option maxHeartbeats 1000000 in
set_option maxRecDepth 100000 in
theorem c_X7_addStep (k x : Int32) (hkc : vp_nar .char k = k) (hP6 : P.1 ≤ 6) : sm_MC l yX7_addStep cX7_addStep 3 (some .int) 2 43 [.ref (am 0), .int k, .int x] D (sm_w7 D am P S T L nm Z cp ph th n2 fo rd np pw ev od rc wr) (fun w => w = sm_w7 D am (if sm_kAdd P ph k x = 0 then sm_addP P k x else P) S T L nm Z cp ph (sm_kAdd P ph k x) n2 fo rd np pw ev od rc wr) (some (.int (if sm_kAdd P ph k x = 0 then nI (P.1 + 1) else 0))) := by
  refine sm_met (own := RX7) (by decide) rfl (Nat.le_of_ble_eq_true rfl) ?_
  intro p e s m below meth c ls hC hv hl
  obtain ⟨hx, hb, hml, hr, hown, hlk, hts⟩ := id hC
  obtain ⟨⟨hP, hK⟩, hD, hZ⟩ := hv
  have hS : va_S (sm_ad (sm_w7 D am P S T L nm Z cp ph th n2 fo rd np pw ev od rc wr)) s.heap s.heap [] := va_S.rf
  have hl : lv_has ls 3 [(0, .ref (am 0)), (1, .int k), (2, .int x)] := hl
  refine lv_aload_n hx hb dX7_addStep_0 rfl (lv_at hl 0 rfl) ?_
  refine lv_iload_n hx hb dX7_addStep_1 rfl (lv_at hl 1 rfl) ?_
  refine sm_cSPr (rest := [.ref (am 0)]) hC hK hP (c_X7_isKind D am P S T L nm Z cp ph th n2 fo rd np pw ev od rc wr k) qyX7_isKind wl_RX7_128 ⟨Nat.le_of_ble_eq_true rfl, Nat.le_of_ble_eq_true rfl⟩ rfl hl.1 rfl (Nat.le_of_ble_eq_true rfl) dX7_addStep_2 ⟨Nat.le_of_ble_eq_true rfl, Nat.le_of_ble_eq_true rfl⟩ ?_
  refine lv_if_eq (tgt := 16) hx hb dX7_addStep_5 (by decide) (fun c_1 => ?_) (fun c_1 => ?_)
  · have c_1 := sm_b0 c_1
    refine lv_iconst (v := 1) hx hb dX7_addStep_16 (by decide) ?_
    refine lv_goto (tgt := 43) hx hb dX7_addStep_17 (by decide) ?_
    refine sm_pt (ci := 7) (C := RX7) (T := TX7) (N := 33) hx hb hts inlX7 tyX7 tyX7_ok nmX7 hown hK hP hD hS 0 rfl rfl 19 (by decide) wf_RX7_69 rfl rfl rfl (Nat.le_of_ble_eq_true rfl) dX7_addStep_43 (fun H locs hP hD hS => ?_)
    have hP : va_P D.1 sm_cl (sm_w7 D am P S T L nm Z cp ph 1 n2 fo rd np pw ev od rc wr) H := hP
    have hD : va_D (sm_ad (sm_w7 D am P S T L nm Z cp ph th n2 fo rd np pw ev od rc wr)) (sm_w7 D am P S T L nm Z cp ph 1 n2 fo rd np pw ev od rc wr) := hD
    refine lv_aload_n hx hb dX7_addStep_46 rfl (lv_at hl 0 rfl) ?_
    refine sm_gt (ci := 7) (C := RX7) (T := TX7) (N := 33) hx hb hts inlX7 hown hK hP 0 rfl rfl 19 (by decide) wf_RX7_69 rfl dX7_addStep_47 ?_
    refine lv_if_le (tgt := 55) hx hb dX7_addStep_50 (by decide) (fun h => absurd h (by decide)) (fun _ => ?_)
    refine lv_iconst (v := 0) hx hb dX7_addStep_53 (by decide) ?_
    exact sm_retC hC hP hD hS (by simp [sm_kAdd, sm_stpE, sm_full6, sm_addP, c_1]) rfl (by simp [sm_kAdd, sm_stpE, sm_full6, sm_addP, c_1]) dX7_addStep_54
  · have c_1 := sm_b1 c_1
    refine lv_iload_n hx hb dX7_addStep_8 rfl (lv_at hl 1 rfl) ?_
    refine lv_iload_n hx hb dX7_addStep_9 rfl (lv_at hl 2 rfl) ?_
    refine sm_cSPr (rest := [.ref (am 0)]) hC hK hP (c_X7_isNumber D am P S T L nm Z cp ph th n2 fo rd np pw ev od rc wr k x) qyX7_isNumber wl_RX7_132 ⟨Nat.le_of_ble_eq_true rfl, Nat.le_of_ble_eq_true rfl⟩ rfl hl.1 rfl (Nat.le_of_ble_eq_true rfl) dX7_addStep_10 ⟨Nat.le_of_ble_eq_true rfl, Nat.le_of_ble_eq_true rfl⟩ ?_
    refine lv_if_ne (tgt := 20) hx hb dX7_addStep_13 (by decide) (fun c_2 => ?_) (fun c_2 => ?_)
    · have c_2 := sm_b1 c_2
      refine lv_aload_n hx hb dX7_addStep_20 rfl (lv_at hl 0 rfl) ?_
      refine sm_gt (ci := 7) (C := RX7) (T := TX7) (N := 33) hx hb hts inlX7 hown hK hP 0 rfl rfl 32 (by decide) wf_RX7_109 rfl dX7_addStep_21 ?_
      refine lv_bipush (v := 105) hx hb dX7_addStep_24 (by decide) ?_
      refine lv_icmp_ne (tgt := 38) hx hb dX7_addStep_26 (by decide) (fun c_3 => ?_) (fun c_3 => ?_)
      · have c_3_ := c_3
        refine lv_iconst (v := 2) hx hb dX7_addStep_38 (by decide) ?_
        refine lv_goto (tgt := 43) hx hb dX7_addStep_39 (by decide) ?_
        refine sm_pt (ci := 7) (C := RX7) (T := TX7) (N := 33) hx hb hts inlX7 tyX7 tyX7_ok nmX7 hown hK hP hD hS 0 rfl rfl 19 (by decide) wf_RX7_69 rfl rfl rfl (Nat.le_of_ble_eq_true rfl) dX7_addStep_43 (fun H locs hP hD hS => ?_)
        have hP : va_P D.1 sm_cl (sm_w7 D am P S T L nm Z cp ph 2 n2 fo rd np pw ev od rc wr) H := hP
        have hD : va_D (sm_ad (sm_w7 D am P S T L nm Z cp ph th n2 fo rd np pw ev od rc wr)) (sm_w7 D am P S T L nm Z cp ph 2 n2 fo rd np pw ev od rc wr) := hD
        refine lv_aload_n hx hb dX7_addStep_46 rfl (lv_at hl 0 rfl) ?_
        refine sm_gt (ci := 7) (C := RX7) (T := TX7) (N := 33) hx hb hts inlX7 hown hK hP 0 rfl rfl 19 (by decide) wf_RX7_69 rfl dX7_addStep_47 ?_
        refine lv_if_le (tgt := 55) hx hb dX7_addStep_50 (by decide) (fun h => absurd h (by decide)) (fun _ => ?_)
        refine lv_iconst (v := 0) hx hb dX7_addStep_53 (by decide) ?_
        exact sm_retC hC hP hD hS (by simp [sm_kAdd, sm_stpE, sm_full6, sm_addP, c_1, c_2, c_3]) rfl (by simp [sm_kAdd, sm_stpE, sm_full6, sm_addP, c_1, c_2, c_3]) dX7_addStep_54
      · have c_3_ := c_3
        refine lv_aload_n hx hb dX7_addStep_29 rfl (lv_at hl 0 rfl) ?_
        refine sm_gt (ci := 7) (C := RX7) (T := TX7) (N := 33) hx hb hts inlX7 hown hK hP 0 rfl rfl 20 (by decide) wf_RX7_73 rfl dX7_addStep_30 ?_
        refine lv_bipush (v := 6) hx hb dX7_addStep_33 (by decide) ?_
        refine lv_icmp_ne (tgt := 42) hx hb dX7_addStep_35 (by decide) (fun c_4 => ?_) (fun c_4 => ?_)
        · have c_4 := sm_Nne (a := P.1) (b := 6) c_4 (by omega) (by omega)
          refine lv_iconst (v := 0) hx hb dX7_addStep_42 (by decide) ?_
          refine sm_pt (ci := 7) (C := RX7) (T := TX7) (N := 33) hx hb hts inlX7 tyX7 tyX7_ok nmX7 hown hK hP hD hS 0 rfl rfl 19 (by decide) wf_RX7_69 rfl rfl rfl (Nat.le_of_ble_eq_true rfl) dX7_addStep_43 (fun H locs hP hD hS => ?_)
          have hP : va_P D.1 sm_cl (sm_w7 D am P S T L nm Z cp ph 0 n2 fo rd np pw ev od rc wr) H := hP
          have hD : va_D (sm_ad (sm_w7 D am P S T L nm Z cp ph th n2 fo rd np pw ev od rc wr)) (sm_w7 D am P S T L nm Z cp ph 0 n2 fo rd np pw ev od rc wr) := hD
          refine lv_aload_n hx hb dX7_addStep_46 rfl (lv_at hl 0 rfl) ?_
          refine sm_gt (ci := 7) (C := RX7) (T := TX7) (N := 33) hx hb hts inlX7 hown hK hP 0 rfl rfl 19 (by decide) wf_RX7_69 rfl dX7_addStep_47 ?_
          refine lv_if_le (tgt := 55) hx hb dX7_addStep_50 (by decide) (fun _ => ?_) (fun h => absurd h (by decide))
          have h5 : P.1 < 6 := by omega
          refine lv_aload_n hx hb dX7_addStep_55 rfl (lv_at hl 0 rfl) ?_
          refine sm_gt (ci := 7) (C := RX7) (T := TX7) (N := 33) hx hb hts inlX7 hown hK hP 0 rfl rfl 0 (by decide) wf_RX7_7 rfl dX7_addStep_56 ?_
          refine lv_aload_n hx hb dX7_addStep_59 rfl (lv_at hl 0 rfl) ?_
          refine sm_gt (ci := 7) (C := RX7) (T := TX7) (N := 33) hx hb hts inlX7 hown hK hP 0 rfl rfl 20 (by decide) wf_RX7_73 rfl dX7_addStep_60 ?_
          refine lv_iload_n hx hb dX7_addStep_63 rfl (lv_at hl 1 rfl) ?_
          refine sm_cst hx hb hK hP hD hS 1 rfl P.1 rfl (by omega) (by decide) hkc dX7_addStep_64 (fun H locs hP hD hS => ?_)
          have hP : va_P D.1 sm_cl (sm_w7 D am (P.1, va_up P.2.1 P.1 k, P.2.2) S T L nm Z cp ph 0 n2 fo rd np pw ev od rc wr) H := hP
          have hD : va_D (sm_ad (sm_w7 D am P S T L nm Z cp ph th n2 fo rd np pw ev od rc wr)) (sm_w7 D am (P.1, va_up P.2.1 P.1 k, P.2.2) S T L nm Z cp ph 0 n2 fo rd np pw ev od rc wr) := hD
          refine lv_aload_n hx hb dX7_addStep_65 rfl (lv_at hl 0 rfl) ?_
          refine sm_gt (ci := 7) (C := RX7) (T := TX7) (N := 33) hx hb hts inlX7 hown hK hP 0 rfl rfl 2 (by decide) wf_RX7_16 rfl dX7_addStep_66 ?_
          refine lv_aload_n hx hb dX7_addStep_69 rfl (lv_at hl 0 rfl) ?_
          refine sm_gt (ci := 7) (C := RX7) (T := TX7) (N := 33) hx hb hts inlX7 hown hK hP 0 rfl rfl 20 (by decide) wf_RX7_73 rfl dX7_addStep_70 ?_
          refine lv_iload_n hx hb dX7_addStep_73 rfl (lv_at hl 2 rfl) ?_
          refine sm_ist hx hb hK hP hD hS 3 rfl P.1 rfl (by omega) (by decide) dX7_addStep_74 (fun H locs hP hD hS => ?_)
          have hP : va_P D.1 sm_cl (sm_w7 D am (P.1, va_up P.2.1 P.1 k, va_up P.2.2 P.1 x) S T L nm Z cp ph 0 n2 fo rd np pw ev od rc wr) H := hP
          have hD : va_D (sm_ad (sm_w7 D am P S T L nm Z cp ph th n2 fo rd np pw ev od rc wr)) (sm_w7 D am (P.1, va_up P.2.1 P.1 k, va_up P.2.2 P.1 x) S T L nm Z cp ph 0 n2 fo rd np pw ev od rc wr) := hD
          refine lv_aload_n hx hb dX7_addStep_75 rfl (lv_at hl 0 rfl) ?_
          refine lv_dup hx hb dX7_addStep_76 rfl ?_
          refine sm_gt (ci := 7) (C := RX7) (T := TX7) (N := 33) hx hb hts inlX7 hown hK hP 0 rfl rfl 20 (by decide) wf_RX7_73 rfl dX7_addStep_77 ?_
          refine lv_iconst (v := 1) hx hb dX7_addStep_80 (by decide) ?_
          refine lv_iadd hx hb dX7_addStep_81 ?_
          refine sm_re (y := nI (P.1 + 1)) (nI_1 P.1) ?_
          refine sm_pt (ci := 7) (C := RX7) (T := TX7) (N := 33) hx hb hts inlX7 tyX7 tyX7_ok nmX7 hown hK hP hD hS 0 rfl rfl 20 (by decide) wf_RX7_73 rfl rfl rfl (Nat.le_of_ble_eq_true rfl) dX7_addStep_82 (fun H locs hP hD hS => ?_)
          have hP : va_P D.1 sm_cl (sm_w7 D am (P.1 + 1, va_up P.2.1 P.1 k, va_up P.2.2 P.1 x) S T L nm Z cp ph 0 n2 fo rd np pw ev od rc wr) H := hP
          have hD : va_D (sm_ad (sm_w7 D am P S T L nm Z cp ph th n2 fo rd np pw ev od rc wr)) (sm_w7 D am (P.1 + 1, va_up P.2.1 P.1 k, va_up P.2.2 P.1 x) S T L nm Z cp ph 0 n2 fo rd np pw ev od rc wr) := hD
          refine lv_aload_n hx hb dX7_addStep_85 rfl (lv_at hl 0 rfl) ?_
          refine sm_gt (ci := 7) (C := RX7) (T := TX7) (N := 33) hx hb hts inlX7 hown hK hP 0 rfl rfl 20 (by decide) wf_RX7_73 rfl dX7_addStep_86 ?_
          exact sm_retC hC hP hD hS (by subst c_3; simp [sm_kAdd, sm_stpE, sm_full6, sm_addP, c_1, c_2, c_4, h5]) rfl (by subst c_3; simp [sm_kAdd, sm_stpE, sm_full6, sm_addP, c_1, c_2, c_4, h5]) dX7_addStep_89
        · have c_4 := sm_Neq (a := P.1) (b := 6) c_4 (by omega) (by omega)
          refine lv_iconst (v := 2) hx hb dX7_addStep_38 (by decide) ?_
          refine lv_goto (tgt := 43) hx hb dX7_addStep_39 (by decide) ?_
          refine sm_pt (ci := 7) (C := RX7) (T := TX7) (N := 33) hx hb hts inlX7 tyX7 tyX7_ok nmX7 hown hK hP hD hS 0 rfl rfl 19 (by decide) wf_RX7_69 rfl rfl rfl (Nat.le_of_ble_eq_true rfl) dX7_addStep_43 (fun H locs hP hD hS => ?_)
          have hP : va_P D.1 sm_cl (sm_w7 D am P S T L nm Z cp ph 2 n2 fo rd np pw ev od rc wr) H := hP
          have hD : va_D (sm_ad (sm_w7 D am P S T L nm Z cp ph th n2 fo rd np pw ev od rc wr)) (sm_w7 D am P S T L nm Z cp ph 2 n2 fo rd np pw ev od rc wr) := hD
          refine lv_aload_n hx hb dX7_addStep_46 rfl (lv_at hl 0 rfl) ?_
          refine sm_gt (ci := 7) (C := RX7) (T := TX7) (N := 33) hx hb hts inlX7 hown hK hP 0 rfl rfl 19 (by decide) wf_RX7_69 rfl dX7_addStep_47 ?_
          refine lv_if_le (tgt := 55) hx hb dX7_addStep_50 (by decide) (fun h => absurd h (by decide)) (fun _ => ?_)
          refine lv_iconst (v := 0) hx hb dX7_addStep_53 (by decide) ?_
          exact sm_retC hC hP hD hS (by subst c_3; simp [sm_kAdd, sm_stpE, sm_full6, sm_addP, c_1, c_2, c_4]) rfl (by subst c_3; simp [sm_kAdd, sm_stpE, sm_full6, sm_addP, c_1, c_2, c_4]) dX7_addStep_54
    · have c_2 := sm_b0 c_2
      refine lv_iconst (v := 1) hx hb dX7_addStep_16 (by decide) ?_
      refine lv_goto (tgt := 43) hx hb dX7_addStep_17 (by decide) ?_
      refine sm_pt (ci := 7) (C := RX7) (T := TX7) (N := 33) hx hb hts inlX7 tyX7 tyX7_ok nmX7 hown hK hP hD hS 0 rfl rfl 19 (by decide) wf_RX7_69 rfl rfl rfl (Nat.le_of_ble_eq_true rfl) dX7_addStep_43 (fun H locs hP hD hS => ?_)
      have hP : va_P D.1 sm_cl (sm_w7 D am P S T L nm Z cp ph 1 n2 fo rd np pw ev od rc wr) H := hP
      have hD : va_D (sm_ad (sm_w7 D am P S T L nm Z cp ph th n2 fo rd np pw ev od rc wr)) (sm_w7 D am P S T L nm Z cp ph 1 n2 fo rd np pw ev od rc wr) := hD
      refine lv_aload_n hx hb dX7_addStep_46 rfl (lv_at hl 0 rfl) ?_
      refine sm_gt (ci := 7) (C := RX7) (T := TX7) (N := 33) hx hb hts inlX7 hown hK hP 0 rfl rfl 19 (by decide) wf_RX7_69 rfl dX7_addStep_47 ?_
      refine lv_if_le (tgt := 55) hx hb dX7_addStep_50 (by decide) (fun h => absurd h (by decide)) (fun _ => ?_)
      refine lv_iconst (v := 0) hx hb dX7_addStep_53 (by decide) ?_
      exact sm_retC hC hP hD hS (by simp [sm_kAdd, sm_stpE, sm_full6, sm_addP, c_1, c_2]) rfl (by simp [sm_kAdd, sm_stpE, sm_full6, sm_addP, c_1, c_2]) dX7_addStep_54

set_option maxHeartbeats 1000000 in
set_option maxRecDepth 100000 in
theorem c_X7_isLater (k : Nat) (hk : k < 40) (x : Int32) (hTk : ∀ k, sm_kv (T.1 k)) : sm_MP l yX7_isLater cX7_isLater 3 (some .boolean) 0 0 [.ref (am 0), .int (nI k), .int x] D (sm_w7 D am P S T L nm Z cp ph th n2 fo rd np pw ev od rc wr) (some (.int (sm_b (sm_later T k x)))) := by
  refine sm_met (own := RX7) (by decide) rfl (Nat.le_of_ble_eq_true rfl) ?_
  intro p e s m below meth c ls hC hv hl
  obtain ⟨hx, hb, hml, hr, hown, hlk, hts⟩ := id hC
  obtain ⟨hP, hK⟩ := hv
  have hl : lv_has ls 3 [(0, .ref (am 0)), (1, .int (nI k)), (2, .int x)] := hl
  refine lv_aload_n hx hb dX7_isLater_0 rfl (lv_at hl 0 rfl) ?_
  refine sm_gt (ci := 7) (C := RX7) (T := TX7) (N := 33) hx hb hts inlX7 hown hK hP 0 rfl rfl 1 (by decide) wf_RX7_13 rfl dX7_isLater_1 ?_
  refine lv_iload_n hx hb dX7_isLater_4 rfl (lv_at hl 1 rfl) ?_
  refine sm_cld hx hb hK hP 2 rfl k rfl (by omega) (by decide) dX7_isLater_5 ?_
  refine lv_bipush (v := 45) hx hb dX7_isLater_6 (by decide) ?_
  refine lv_icmp_eq (tgt := 21) hx hb dX7_isLater_8 (by decide) (fun c_1 => ?_) (fun c_1 => ?_)
  · have c_1 := sm_hcT0 (hTk k) c_1
    refine lv_iconst (v := 1) hx hb dX7_isLater_21 (by decide) ?_
    refine lv_goto (tgt := 26) hx hb dX7_isLater_22 (by decide) ?_
    exact sm_retP hC (by first | rfl | (simp [sm_later, sm_b, c_1]; done) | (simp [sm_later, sm_b] at c_1; simp [sm_later, sm_b, c_1]; done) | (simp_all [sm_later, sm_b]; done)) (by decide) dX7_isLater_26
  · have c_1 := sm_hcF0 c_1
    refine lv_aload_n hx hb dX7_isLater_11 rfl (lv_at hl 0 rfl) ?_
    refine sm_gt (ci := 7) (C := RX7) (T := TX7) (N := 33) hx hb hts inlX7 hown hK hP 0 rfl rfl 7 (by decide) wf_RX7_32 rfl dX7_isLater_12 ?_
    refine lv_iload_n hx hb dX7_isLater_15 rfl (lv_at hl 1 rfl) ?_
    refine sm_ild hx hb hK hP 8 rfl k rfl (by omega) (by decide) dX7_isLater_16 ?_
    refine lv_iload_n hx hb dX7_isLater_17 rfl (lv_at hl 2 rfl) ?_
    refine lv_icmp_ge (tgt := 25) hx hb dX7_isLater_18 (by decide) (fun c_2 => ?_) (fun c_2 => ?_)
    · have c_2 := sm_nl c_2
      refine lv_iconst (v := 0) hx hb dX7_isLater_25 (by decide) ?_
      exact sm_retP hC (by first | rfl | (simp [sm_later, sm_b, c_1, c_2]; done) | (simp [sm_later, sm_b] at c_1 c_2; simp [sm_later, sm_b, c_1, c_2]; done) | (simp_all [sm_later, sm_b]; done)) (by decide) dX7_isLater_26
    · have c_2 := sm_nle c_2
      refine lv_iconst (v := 1) hx hb dX7_isLater_21 (by decide) ?_
      refine lv_goto (tgt := 26) hx hb dX7_isLater_22 (by decide) ?_
      exact sm_retP hC (by first | rfl | (simp [sm_later, sm_b, c_1, c_2]; done) | (simp [sm_later, sm_b] at c_1 c_2; simp [sm_later, sm_b, c_1, c_2]; done) | (simp_all [sm_later, sm_b]; done)) (by decide) dX7_isLater_26

set_option maxHeartbeats 1000000 in
set_option maxRecDepth 100000 in
theorem c_X7_holds (k : Nat) (hk : k < 40) (y x : Int32) : sm_MC l yX7_holds cX7_holds 4 none 0 0 [.ref (am 0), .int (nI k), .int (sm_hc y), .int x] D (sm_w7 D am P S T L nm Z cp ph th n2 fo rd np pw ev od rc wr) (fun w => w = sm_w7 D am P S (sm_hldT T k y x) L nm Z cp ph th n2 fo rd np pw ev od rc wr) none := by
  refine sm_met (own := RX7) (by decide) rfl (Nat.le_of_ble_eq_true rfl) ?_
  intro p e s m below meth c ls hC hv hl
  obtain ⟨hx, hb, hml, hr, hown, hlk, hts⟩ := id hC
  obtain ⟨⟨hP, hK⟩, hD, hZ⟩ := hv
  have hS : va_S (sm_ad (sm_w7 D am P S T L nm Z cp ph th n2 fo rd np pw ev od rc wr)) s.heap s.heap [] := va_S.rf
  have hl : lv_has ls 4 [(0, .ref (am 0)), (1, .int (nI k)), (2, .int (sm_hc y)), (3, .int x)] := hl
  refine lv_aload_n hx hb dX7_holds_0 rfl (lv_at hl 0 rfl) ?_
  refine sm_gt (ci := 7) (C := RX7) (T := TX7) (N := 33) hx hb hts inlX7 hown hK hP 0 rfl rfl 1 (by decide) wf_RX7_13 rfl dX7_holds_1 ?_
  refine lv_iload_n hx hb dX7_holds_4 rfl (lv_at hl 1 rfl) ?_
  refine lv_iload_n hx hb dX7_holds_5 rfl (lv_at hl 2 rfl) ?_
  refine sm_cstG (g := sm_hc) hx hb hK hP hD hS 2 rfl y rfl k rfl (by omega) (by decide) (sm_hcc _) dX7_holds_6 (fun H locs hP hD hS => ?_)
  have hP : va_P D.1 sm_cl (sm_w7 D am P S (va_up T.1 k y, T.2) L nm Z cp ph th n2 fo rd np pw ev od rc wr) H := hP
  have hD : va_D (sm_ad (sm_w7 D am P S T L nm Z cp ph th n2 fo rd np pw ev od rc wr)) (sm_w7 D am P S (va_up T.1 k y, T.2) L nm Z cp ph th n2 fo rd np pw ev od rc wr) := hD
  refine lv_aload_n hx hb dX7_holds_7 rfl (lv_at hl 0 rfl) ?_
  refine sm_gt (ci := 7) (C := RX7) (T := TX7) (N := 33) hx hb hts inlX7 hown hK hP 0 rfl rfl 7 (by decide) wf_RX7_32 rfl dX7_holds_8 ?_
  refine lv_iload_n hx hb dX7_holds_11 rfl (lv_at hl 1 rfl) ?_
  refine lv_iload_n hx hb dX7_holds_12 rfl (lv_at hl 3 rfl) ?_
  refine sm_ist hx hb hK hP hD hS 8 rfl k rfl (by omega) (by decide) dX7_holds_13 (fun H locs hP hD hS => ?_)
  have hP : va_P D.1 sm_cl (sm_w7 D am P S (va_up T.1 k y, va_up T.2.1 k x, T.2.2) L nm Z cp ph th n2 fo rd np pw ev od rc wr) H := hP
  have hD : va_D (sm_ad (sm_w7 D am P S T L nm Z cp ph th n2 fo rd np pw ev od rc wr)) (sm_w7 D am P S (va_up T.1 k y, va_up T.2.1 k x, T.2.2) L nm Z cp ph th n2 fo rd np pw ev od rc wr) := hD
  exact sm_vretC hC hP hD hS rfl  (by exact rfl) dX7_holds_14

set_option maxHeartbeats 1000000 in
set_option maxRecDepth 100000 in
theorem c_X7_puts (k : Nat) (hk : k < 40) (a b x : Int32) (hP6 : P.1 ≤ 6) (hOK : ∀ i, i < P.1 → sm_kOK (P.2.1 i) (P.2.2 i)) (hTk : ∀ k, sm_kv (T.1 k)) : sm_MC l yX7_puts cX7_puts 6 (some .boolean) 3 66 [.ref (am 0), .int (nI k), .int a, .int b, .int x] D (sm_w7 D am P S T L nm Z cp ph th n2 fo rd np pw ev od rc wr) (fun w => ∃ (cp' : sm_Cp), w = sm_w7 D am P S (sm_prM P T k a b x) L nm Z (cp') ph th n2 fo rd np pw ev od rc wr) (some (.int (sm_b (sm_later T k x)))) := by
  refine sm_met (own := RX7) (by decide) rfl (Nat.le_of_ble_eq_true rfl) ?_
  intro p e s m below meth c ls hC hv hl
  obtain ⟨hx, hb, hml, hr, hown, hlk, hts⟩ := id hC
  obtain ⟨⟨hP, hK⟩, hD, hZ⟩ := hv
  have hS : va_S (sm_ad (sm_w7 D am P S T L nm Z cp ph th n2 fo rd np pw ev od rc wr)) s.heap s.heap [] := va_S.rf
  have hl : lv_has ls 6 [(0, .ref (am 0)), (1, .int (nI k)), (2, .int a), (3, .int b), (4, .int x)] := hl
  refine lv_aload_n hx hb dX7_puts_0 rfl (lv_at hl 0 rfl) ?_
  refine lv_iload_n hx hb dX7_puts_1 rfl (lv_at hl 1 rfl) ?_
  refine lv_iload hx hb dX7_puts_2 (lv_at hl 4 rfl) ?_
  refine sm_cVPr (rest := []) hC hK hP (c_X7_isLater D am P S T L nm Z cp ph th n2 fo rd np pw ev od rc wr k (by omega) x hTk) qyX7_isLater wl_RX7_136 ⟨Nat.le_of_ble_eq_true rfl, Nat.le_of_ble_eq_true rfl⟩ 0 rfl rfl rfl hl.1 rfl (Nat.le_of_ble_eq_true rfl) dX7_puts_4 ⟨Nat.le_of_ble_eq_true rfl, Nat.le_of_ble_eq_true rfl⟩ ?_
  refine lv_if_ne (tgt := 12) hx hb dX7_puts_7 (by decide) (fun c_1 => ?_) (fun c_1 => ?_)
  · have c_1 := sm_b1 c_1
    refine lv_aload_n hx hb dX7_puts_12 rfl (lv_at hl 0 rfl) ?_
    refine lv_iload_n hx hb dX7_puts_13 rfl (lv_at hl 2 rfl) ?_
    refine lv_iload_n hx hb dX7_puts_14 rfl (lv_at hl 3 rfl) ?_
    refine sm_cVCr (rest := []) hC hK hP hD hS hZ (c_X7_turns D am P S T L nm Z cp ph th n2 fo rd np pw ev od rc wr a b hP6 hOK) qyX7_turns wl_RX7_140 ⟨Nat.le_of_ble_eq_true rfl, Nat.le_of_ble_eq_true rfl⟩ 0 rfl rfl rfl hl.1 rfl (Nat.le_of_ble_eq_true rfl) dX7_puts_15 ⟨Nat.le_of_ble_eq_true rfl, Nat.le_of_ble_eq_true rfl⟩ (fun w1 H locs hB hP hD hS => ?_)
    subst hB
    refine lv_istore (lv' := [(5, .int (sm_b ((sm_tr P (a, b)).1))), (0, .ref (am 0)), (1, .int (nI k)), (2, .int a), (3, .int b), (4, .int x)]) hx hb dX7_puts_18 hl (by decide) rfl (fun ls hl => ?_)
    refine lv_aload_n hx hb dX7_puts_20 rfl (lv_at hl 1 rfl) ?_
    refine lv_iload_n hx hb dX7_puts_21 rfl (lv_at hl 2 rfl) ?_
    refine lv_iload hx hb dX7_puts_22 (lv_at hl 0 rfl) ?_
    refine lv_if_eq (tgt := 32) hx hb dX7_puts_24 (by decide) (fun c_2 => ?_) (fun c_2 => ?_)
    · have c_2 := sm_b0 c_2
      refine lv_bipush (v := 97) hx hb dX7_puts_32 (by decide) ?_
      refine sm_re (y := sm_hc 2) (by decide) ?_
      refine lv_iload hx hb dX7_puts_34 (lv_at hl 5 rfl) ?_
      refine sm_cVC (rest := []) hC hK hP hD hS hZ (c_X7_holds D am P S T L nm Z ((sm_tr P (a, b)).2) ph th n2 fo rd np pw ev od rc wr k (by omega) 2 x) qyX7_holds wl_RX7_143 ⟨Nat.le_of_ble_eq_true rfl, Nat.le_of_ble_eq_true rfl⟩ 0 rfl rfl rfl hl.1 rfl (Nat.le_of_ble_eq_true rfl) dX7_puts_36 ⟨Nat.le_of_ble_eq_true rfl, Nat.le_of_ble_eq_true rfl⟩ (fun w1 H locs hB hP hD hS => ?_)
      subst hB
      refine lv_aload_n hx hb dX7_puts_39 rfl (lv_at hl 1 rfl) ?_
      refine sm_gt (ci := 7) (C := RX7) (T := TX7) (N := 33) hx hb hts inlX7 hown hK hP 0 rfl rfl 5 (by decide) wf_RX7_26 rfl dX7_puts_40 ?_
      refine lv_iload_n hx hb dX7_puts_43 rfl (lv_at hl 2 rfl) ?_
      refine lv_aload_n hx hb dX7_puts_44 rfl (lv_at hl 1 rfl) ?_
      refine sm_gt (ci := 7) (C := RX7) (T := TX7) (N := 33) hx hb hts inlX7 hown hK hP 0 rfl rfl 30 (by decide) wf_RX7_103 rfl dX7_puts_45 ?_
      refine sm_ist hx hb hK hP hD hS 6 rfl k rfl (by omega) (by decide) dX7_puts_48 (fun H locs hP hD hS => ?_)
      have hP : va_P D.1 sm_cl (sm_w7 D am P S ((sm_hldT T k 2 x).1, ((sm_hldT T k 2 x).2).1, va_up ((((sm_hldT T k 2 x).2).2).1) k (((sm_tr P (a, b)).2).1), (((sm_hldT T k 2 x).2).2).2) L nm Z ((sm_tr P (a, b)).2) ph th n2 fo rd np pw ev od rc wr) H := hP
      have hD : va_D (sm_ad (sm_w7 D am P S T L nm Z cp ph th n2 fo rd np pw ev od rc wr)) (sm_w7 D am P S ((sm_hldT T k 2 x).1, ((sm_hldT T k 2 x).2).1, va_up ((((sm_hldT T k 2 x).2).2).1) k (((sm_tr P (a, b)).2).1), (((sm_hldT T k 2 x).2).2).2) L nm Z ((sm_tr P (a, b)).2) ph th n2 fo rd np pw ev od rc wr) := hD
      refine lv_aload_n hx hb dX7_puts_49 rfl (lv_at hl 1 rfl) ?_
      refine sm_gt (ci := 7) (C := RX7) (T := TX7) (N := 33) hx hb hts inlX7 hown hK hP 0 rfl rfl 6 (by decide) wf_RX7_29 rfl dX7_puts_50 ?_
      refine lv_iload_n hx hb dX7_puts_53 rfl (lv_at hl 2 rfl) ?_
      refine lv_aload_n hx hb dX7_puts_54 rfl (lv_at hl 1 rfl) ?_
      refine sm_gt (ci := 7) (C := RX7) (T := TX7) (N := 33) hx hb hts inlX7 hown hK hP 0 rfl rfl 31 (by decide) wf_RX7_106 rfl dX7_puts_55 ?_
      refine sm_ist hx hb hK hP hD hS 7 rfl k rfl (by omega) (by decide) dX7_puts_58 (fun H locs hP hD hS => ?_)
      have hP : va_P D.1 sm_cl (sm_w7 D am P S ((sm_hldT T k 2 x).1, ((sm_hldT T k 2 x).2).1, va_up ((((sm_hldT T k 2 x).2).2).1) k (((sm_tr P (a, b)).2).1), va_up ((((sm_hldT T k 2 x).2).2).2) k (((sm_tr P (a, b)).2).2)) L nm Z ((sm_tr P (a, b)).2) ph th n2 fo rd np pw ev od rc wr) H := hP
      have hD : va_D (sm_ad (sm_w7 D am P S T L nm Z cp ph th n2 fo rd np pw ev od rc wr)) (sm_w7 D am P S ((sm_hldT T k 2 x).1, ((sm_hldT T k 2 x).2).1, va_up ((((sm_hldT T k 2 x).2).2).1) k (((sm_tr P (a, b)).2).1), va_up ((((sm_hldT T k 2 x).2).2).2) k (((sm_tr P (a, b)).2).2)) L nm Z ((sm_tr P (a, b)).2) ph th n2 fo rd np pw ev od rc wr) := hD
      refine lv_iconst (v := 1) hx hb dX7_puts_59 (by decide) ?_
      exact sm_retC hC hP hD hS (by first | rfl | (simp [sm_b, c_1, c_2]; done) | (simp [sm_b] at c_1 c_2; simp [sm_b, c_1, c_2]; done) | (simp_all [sm_b]; done)) (by decide) (by exact ⟨((sm_tr P (a, b)).2), by simp [sm_k1, sm_prM, sm_hldT, c_1, c_2]⟩) dX7_puts_60
    · have c_2 := sm_b1 c_2
      refine lv_bipush (v := 101) hx hb dX7_puts_27 (by decide) ?_
      refine sm_re (y := sm_hc 1) (by decide) ?_
      refine lv_goto (tgt := 34) hx hb dX7_puts_29 (by decide) ?_
      refine lv_iload hx hb dX7_puts_34 (lv_at hl 5 rfl) ?_
      refine sm_cVC (rest := []) hC hK hP hD hS hZ (c_X7_holds D am P S T L nm Z ((sm_tr P (a, b)).2) ph th n2 fo rd np pw ev od rc wr k (by omega) 1 x) qyX7_holds wl_RX7_143 ⟨Nat.le_of_ble_eq_true rfl, Nat.le_of_ble_eq_true rfl⟩ 0 rfl rfl rfl hl.1 rfl (Nat.le_of_ble_eq_true rfl) dX7_puts_36 ⟨Nat.le_of_ble_eq_true rfl, Nat.le_of_ble_eq_true rfl⟩ (fun w1 H locs hB hP hD hS => ?_)
      subst hB
      refine lv_aload_n hx hb dX7_puts_39 rfl (lv_at hl 1 rfl) ?_
      refine sm_gt (ci := 7) (C := RX7) (T := TX7) (N := 33) hx hb hts inlX7 hown hK hP 0 rfl rfl 5 (by decide) wf_RX7_26 rfl dX7_puts_40 ?_
      refine lv_iload_n hx hb dX7_puts_43 rfl (lv_at hl 2 rfl) ?_
      refine lv_aload_n hx hb dX7_puts_44 rfl (lv_at hl 1 rfl) ?_
      refine sm_gt (ci := 7) (C := RX7) (T := TX7) (N := 33) hx hb hts inlX7 hown hK hP 0 rfl rfl 30 (by decide) wf_RX7_103 rfl dX7_puts_45 ?_
      refine sm_ist hx hb hK hP hD hS 6 rfl k rfl (by omega) (by decide) dX7_puts_48 (fun H locs hP hD hS => ?_)
      have hP : va_P D.1 sm_cl (sm_w7 D am P S ((sm_hldT T k 1 x).1, ((sm_hldT T k 1 x).2).1, va_up ((((sm_hldT T k 1 x).2).2).1) k (((sm_tr P (a, b)).2).1), (((sm_hldT T k 1 x).2).2).2) L nm Z ((sm_tr P (a, b)).2) ph th n2 fo rd np pw ev od rc wr) H := hP
      have hD : va_D (sm_ad (sm_w7 D am P S T L nm Z cp ph th n2 fo rd np pw ev od rc wr)) (sm_w7 D am P S ((sm_hldT T k 1 x).1, ((sm_hldT T k 1 x).2).1, va_up ((((sm_hldT T k 1 x).2).2).1) k (((sm_tr P (a, b)).2).1), (((sm_hldT T k 1 x).2).2).2) L nm Z ((sm_tr P (a, b)).2) ph th n2 fo rd np pw ev od rc wr) := hD
      refine lv_aload_n hx hb dX7_puts_49 rfl (lv_at hl 1 rfl) ?_
      refine sm_gt (ci := 7) (C := RX7) (T := TX7) (N := 33) hx hb hts inlX7 hown hK hP 0 rfl rfl 6 (by decide) wf_RX7_29 rfl dX7_puts_50 ?_
      refine lv_iload_n hx hb dX7_puts_53 rfl (lv_at hl 2 rfl) ?_
      refine lv_aload_n hx hb dX7_puts_54 rfl (lv_at hl 1 rfl) ?_
      refine sm_gt (ci := 7) (C := RX7) (T := TX7) (N := 33) hx hb hts inlX7 hown hK hP 0 rfl rfl 31 (by decide) wf_RX7_106 rfl dX7_puts_55 ?_
      refine sm_ist hx hb hK hP hD hS 7 rfl k rfl (by omega) (by decide) dX7_puts_58 (fun H locs hP hD hS => ?_)
      have hP : va_P D.1 sm_cl (sm_w7 D am P S ((sm_hldT T k 1 x).1, ((sm_hldT T k 1 x).2).1, va_up ((((sm_hldT T k 1 x).2).2).1) k (((sm_tr P (a, b)).2).1), va_up ((((sm_hldT T k 1 x).2).2).2) k (((sm_tr P (a, b)).2).2)) L nm Z ((sm_tr P (a, b)).2) ph th n2 fo rd np pw ev od rc wr) H := hP
      have hD : va_D (sm_ad (sm_w7 D am P S T L nm Z cp ph th n2 fo rd np pw ev od rc wr)) (sm_w7 D am P S ((sm_hldT T k 1 x).1, ((sm_hldT T k 1 x).2).1, va_up ((((sm_hldT T k 1 x).2).2).1) k (((sm_tr P (a, b)).2).1), va_up ((((sm_hldT T k 1 x).2).2).2) k (((sm_tr P (a, b)).2).2)) L nm Z ((sm_tr P (a, b)).2) ph th n2 fo rd np pw ev od rc wr) := hD
      refine lv_iconst (v := 1) hx hb dX7_puts_59 (by decide) ?_
      exact sm_retC hC hP hD hS (by first | rfl | (simp [sm_b, c_1, c_2]; done) | (simp [sm_b] at c_1 c_2; simp [sm_b, c_1, c_2]; done) | (simp_all [sm_b]; done)) (by decide) (by exact ⟨((sm_tr P (a, b)).2), by simp [sm_k1, sm_prM, sm_hldT, c_1, c_2]⟩) dX7_puts_60
  · have c_1 := sm_b0 c_1
    refine lv_iconst (v := 0) hx hb dX7_puts_10 (by decide) ?_
    exact sm_retC hC hP hD hS (by first | rfl | (simp [sm_b, c_1]; done) | (simp [sm_b] at c_1; simp [sm_b, c_1]; done) | (simp_all [sm_b]; done)) (by decide) (by exact ⟨cp, by simp [sm_k1, sm_prM, sm_hldT, c_1]⟩) dX7_puts_11

set_option maxHeartbeats 1000000 in
set_option maxRecDepth 100000 in
theorem c_X7_takesAway (k : Nat) (hk : k < 40) (x : Int32) (hTk : ∀ k, sm_kv (T.1 k)) : sm_MC l yX7_takesAway cX7_takesAway 3 none 1 23 [.ref (am 0), .int (nI k), .int x] D (sm_w7 D am P S T L nm Z cp ph th n2 fo rd np pw ev od rc wr) (fun w => w = sm_w7 D am P S (sm_taM T k x) L nm Z cp ph th n2 fo rd np pw ev od rc wr) none := by
  refine sm_met (own := RX7) (by decide) rfl (Nat.le_of_ble_eq_true rfl) ?_
  intro p e s m below meth c ls hC hv hl
  obtain ⟨hx, hb, hml, hr, hown, hlk, hts⟩ := id hC
  obtain ⟨⟨hP, hK⟩, hD, hZ⟩ := hv
  have hS : va_S (sm_ad (sm_w7 D am P S T L nm Z cp ph th n2 fo rd np pw ev od rc wr)) s.heap s.heap [] := va_S.rf
  have hl : lv_has ls 3 [(0, .ref (am 0)), (1, .int (nI k)), (2, .int x)] := hl
  refine lv_aload_n hx hb dX7_takesAway_0 rfl (lv_at hl 0 rfl) ?_
  refine lv_iload_n hx hb dX7_takesAway_1 rfl (lv_at hl 1 rfl) ?_
  refine lv_iload_n hx hb dX7_takesAway_2 rfl (lv_at hl 2 rfl) ?_
  refine sm_cVPr (rest := []) hC hK hP (c_X7_isLater D am P S T L nm Z cp ph th n2 fo rd np pw ev od rc wr k (by omega) x hTk) qyX7_isLater wl_RX7_136 ⟨Nat.le_of_ble_eq_true rfl, Nat.le_of_ble_eq_true rfl⟩ 0 rfl rfl rfl hl.1 rfl (Nat.le_of_ble_eq_true rfl) dX7_takesAway_3 ⟨Nat.le_of_ble_eq_true rfl, Nat.le_of_ble_eq_true rfl⟩ ?_
  refine lv_if_eq (tgt := 17) hx hb dX7_takesAway_6 (by decide) (fun c_1 => ?_) (fun c_1 => ?_)
  · have c_1 := sm_b0 c_1
    exact sm_vretC hC hP hD hS rfl  (by simp [sm_k1, sm_taM, c_1]) dX7_takesAway_17
  · have c_1 := sm_b1 c_1
    refine lv_aload_n hx hb dX7_takesAway_9 rfl (lv_at hl 0 rfl) ?_
    refine lv_iload_n hx hb dX7_takesAway_10 rfl (lv_at hl 1 rfl) ?_
    refine lv_bipush (v := 116) hx hb dX7_takesAway_11 (by decide) ?_
    refine sm_re (y := sm_hc 3) (by decide) ?_
    refine lv_iload_n hx hb dX7_takesAway_13 rfl (lv_at hl 2 rfl) ?_
    refine sm_cVC (rest := []) hC hK hP hD hS hZ (c_X7_holds D am P S T L nm Z cp ph th n2 fo rd np pw ev od rc wr k (by omega) 3 x) qyX7_holds wl_RX7_143 ⟨Nat.le_of_ble_eq_true rfl, Nat.le_of_ble_eq_true rfl⟩ 0 rfl rfl rfl hl.1 rfl (Nat.le_of_ble_eq_true rfl) dX7_takesAway_14 ⟨Nat.le_of_ble_eq_true rfl, Nat.le_of_ble_eq_true rfl⟩ (fun w1 H locs hB hP hD hS => ?_)
    subst hB
    exact sm_vretC hC hP hD hS rfl  (by simp [sm_k1, sm_taM, c_1]) dX7_takesAway_17

set_option maxHeartbeats 1000000 in
set_option maxRecDepth 100000 in
theorem c_X7_followsOne (hfo : fo < L.1) (hL : L.1 ≤ 120) (hLk : ∀ i, L.2.1 i < 40) (hP6 : P.1 ≤ 6) (hOK : ∀ i, i < P.1 → sm_kOK (P.2.1 i) (P.2.2 i)) (hTk : ∀ k, sm_kv (T.1 k)) : sm_MC l yX7_followsOne cX7_followsOne 2 none 4 91 [.ref (am 0)] D (sm_w7 D am P S T L nm Z cp ph th n2 fo rd np pw ev od rc wr) (fun w => ∃ (cp' : sm_Cp), w = sm_w7 D am P S (sm_fM1 P L T fo) L nm Z (cp') ph th n2 (fo + 1) rd np pw ev od rc wr) none := by
  refine sm_met (own := RX7) (by decide) rfl (Nat.le_of_ble_eq_true rfl) ?_
  intro p e s m below meth c ls hC hv hl
  obtain ⟨hx, hb, hml, hr, hown, hlk, hts⟩ := id hC
  obtain ⟨⟨hP, hK⟩, hD, hZ⟩ := hv
  have hS : va_S (sm_ad (sm_w7 D am P S T L nm Z cp ph th n2 fo rd np pw ev od rc wr)) s.heap s.heap [] := va_S.rf
  have hl : lv_has ls 2 [(0, .ref (am 0))] := hl
  refine lv_aload_n hx hb dX7_followsOne_0 rfl (lv_at hl 0 rfl) ?_
  refine sm_gt (ci := 7) (C := RX7) (T := TX7) (N := 33) hx hb hts inlX7 hown hK hP 0 rfl rfl 22 (by decide) wf_RX7_79 rfl dX7_followsOne_1 ?_
  refine lv_istore_n (lv' := [(1, .int (nI fo)), (0, .ref (am 0))]) hx hb dX7_followsOne_4 rfl hl (by decide) rfl (fun ls hl => ?_)
  refine lv_aload_n hx hb dX7_followsOne_5 rfl (lv_at hl 1 rfl) ?_
  refine lv_dup hx hb dX7_followsOne_6 rfl ?_
  refine sm_gt (ci := 7) (C := RX7) (T := TX7) (N := 33) hx hb hts inlX7 hown hK hP 0 rfl rfl 22 (by decide) wf_RX7_79 rfl dX7_followsOne_7 ?_
  refine lv_iconst (v := 1) hx hb dX7_followsOne_10 (by decide) ?_
  refine lv_iadd hx hb dX7_followsOne_11 ?_
  refine sm_re (y := nI (fo + 1)) (nI_1 fo) ?_
  refine sm_pt (ci := 7) (C := RX7) (T := TX7) (N := 33) hx hb hts inlX7 tyX7 tyX7_ok nmX7 hown hK hP hD hS 0 rfl rfl 22 (by decide) wf_RX7_79 rfl rfl rfl (Nat.le_of_ble_eq_true rfl) dX7_followsOne_12 (fun H locs hP hD hS => ?_)
  have hP : va_P D.1 sm_cl (sm_w7 D am P S T L nm Z cp ph th n2 (fo + 1) rd np pw ev od rc wr) H := hP
  have hD : va_D (sm_ad (sm_w7 D am P S T L nm Z cp ph th n2 fo rd np pw ev od rc wr)) (sm_w7 D am P S T L nm Z cp ph th n2 (fo + 1) rd np pw ev od rc wr) := hD
  refine lv_aload_n hx hb dX7_followsOne_15 rfl (lv_at hl 1 rfl) ?_
  refine sm_gt (ci := 7) (C := RX7) (T := TX7) (N := 33) hx hb hts inlX7 hown hK hP 0 rfl rfl 17 (by decide) wf_RX7_63 rfl dX7_followsOne_16 ?_
  refine lv_iload_n hx hb dX7_followsOne_19 rfl (lv_at hl 0 rfl) ?_
  refine sm_zld hx hb hK hP 18 rfl fo rfl (by omega) (by decide) dX7_followsOne_20 ?_
  refine lv_if_eq (tgt := 40) hx hb dX7_followsOne_21 (by decide) (fun c_1 => ?_) (fun c_1 => ?_)
  · have c_1 := sm_b0 c_1
    refine lv_aload_n hx hb dX7_followsOne_40 rfl (lv_at hl 1 rfl) ?_
    refine lv_aload_n hx hb dX7_followsOne_41 rfl (lv_at hl 1 rfl) ?_
    refine sm_gt (ci := 7) (C := RX7) (T := TX7) (N := 33) hx hb hts inlX7 hown hK hP 0 rfl rfl 10 (by decide) wf_RX7_42 rfl dX7_followsOne_42 ?_
    refine lv_iload_n hx hb dX7_followsOne_45 rfl (lv_at hl 0 rfl) ?_
    refine sm_ild hx hb hK hP 11 rfl fo rfl (by omega) (by decide) dX7_followsOne_46 ?_
    refine lv_aload_n hx hb dX7_followsOne_47 rfl (lv_at hl 1 rfl) ?_
    refine sm_gt (ci := 7) (C := RX7) (T := TX7) (N := 33) hx hb hts inlX7 hown hK hP 0 rfl rfl 11 (by decide) wf_RX7_45 rfl dX7_followsOne_48 ?_
    refine lv_iload_n hx hb dX7_followsOne_51 rfl (lv_at hl 0 rfl) ?_
    refine sm_ild hx hb hK hP 12 rfl fo rfl (by omega) (by decide) dX7_followsOne_52 ?_
    refine lv_aload_n hx hb dX7_followsOne_53 rfl (lv_at hl 1 rfl) ?_
    refine sm_gt (ci := 7) (C := RX7) (T := TX7) (N := 33) hx hb hts inlX7 hown hK hP 0 rfl rfl 12 (by decide) wf_RX7_48 rfl dX7_followsOne_54 ?_
    refine lv_iload_n hx hb dX7_followsOne_57 rfl (lv_at hl 0 rfl) ?_
    refine sm_ild hx hb hK hP 13 rfl fo rfl (by omega) (by decide) dX7_followsOne_58 ?_
    refine lv_iload_n hx hb dX7_followsOne_59 rfl (lv_at hl 0 rfl) ?_
    refine lv_iconst (v := 1) hx hb dX7_followsOne_60 (by decide) ?_
    refine lv_iadd hx hb dX7_followsOne_61 ?_
    refine sm_re (y := nI (fo + 1)) (nI_1 fo) ?_
    refine sm_cVCr (rest := []) hC hK hP hD hS hZ (c_X7_puts D am P S T L nm Z cp ph th n2 (fo + 1) rd np pw ev od rc wr (L.2.1 fo) (by first | omega | exact hLk _) (L.2.2.2.1 fo) (L.2.2.2.2 fo) (nI (fo + 1)) hP6 hOK hTk) qyX7_puts wl_RX7_151 ⟨Nat.le_of_ble_eq_true rfl, Nat.le_of_ble_eq_true rfl⟩ 0 rfl rfl rfl hl.1 rfl (Nat.le_of_ble_eq_true rfl) dX7_followsOne_62 ⟨Nat.le_of_ble_eq_true rfl, Nat.le_of_ble_eq_true rfl⟩ (fun w1 H locs hB hP hD hS => ?_)
    obtain ⟨cp_2, rfl⟩ := hB
    refine lv_pop hx hb dX7_followsOne_65 rfl ?_
    exact sm_vretC hC hP hD hS rfl  (by exact ⟨cp_2, by simp [sm_k1, sm_fM1, c_1]⟩) dX7_followsOne_66
  · have c_1 := sm_b1 c_1
    refine lv_aload_n hx hb dX7_followsOne_24 rfl (lv_at hl 1 rfl) ?_
    refine lv_aload_n hx hb dX7_followsOne_25 rfl (lv_at hl 1 rfl) ?_
    refine sm_gt (ci := 7) (C := RX7) (T := TX7) (N := 33) hx hb hts inlX7 hown hK hP 0 rfl rfl 10 (by decide) wf_RX7_42 rfl dX7_followsOne_26 ?_
    refine lv_iload_n hx hb dX7_followsOne_29 rfl (lv_at hl 0 rfl) ?_
    refine sm_ild hx hb hK hP 11 rfl fo rfl (by omega) (by decide) dX7_followsOne_30 ?_
    refine lv_iload_n hx hb dX7_followsOne_31 rfl (lv_at hl 0 rfl) ?_
    refine lv_iconst (v := 1) hx hb dX7_followsOne_32 (by decide) ?_
    refine lv_iadd hx hb dX7_followsOne_33 ?_
    refine sm_re (y := nI (fo + 1)) (nI_1 fo) ?_
    refine sm_cVC (rest := []) hC hK hP hD hS hZ (c_X7_takesAway D am P S T L nm Z cp ph th n2 (fo + 1) rd np pw ev od rc wr (L.2.1 fo) (by first | omega | exact hLk _) (nI (fo + 1)) hTk) qyX7_takesAway wl_RX7_147 ⟨Nat.le_of_ble_eq_true rfl, Nat.le_of_ble_eq_true rfl⟩ 0 rfl rfl rfl hl.1 rfl (Nat.le_of_ble_eq_true rfl) dX7_followsOne_34 ⟨Nat.le_of_ble_eq_true rfl, Nat.le_of_ble_eq_true rfl⟩ (fun w1 H locs hB hP hD hS => ?_)
    subst hB
    refine lv_goto (tgt := 66) hx hb dX7_followsOne_37 (by decide) ?_
    exact sm_vretC hC hP hD hS rfl  (by exact ⟨cp, by simp [sm_k1, sm_fM1, c_1]⟩) dX7_followsOne_66

end
