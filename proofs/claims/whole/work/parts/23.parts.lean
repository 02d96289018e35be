/-! Parts -/
section
def sm_isKey (x : Int32) : Bool := if x < 0 then false else if x < 40 then true else false
def sm_finC (C : sm_Pt) (k : Nat) : sm_Pt := (C.1, C.2.1, C.2.2.1, C.2.2.2.1, va_up C.2.2.2.2.1 k false, C.2.2.2.2.2.1, C.2.2.2.2.2.2.1 - 1, C.2.2.2.2.2.2.2)
def sm_tkG (S : sm_Rw) : Nat → Nat → sm_Rw → sm_Rw
  | 0, _, q => q
  | n + 1, i, q => sm_tkG S n (i + 1) (if S.1 i = true then sm_putS q i (S.2.1 i) (S.2.2 i) else q)
theorem sm_tkS {S : sm_Rw} {n i : Nat} {q : sm_Rw} (h : i < n) : sm_tkG S (n - i) i q = sm_tkG S (n - (i + 1)) (i + 1) (if S.1 i = true then sm_putS q i (S.2.1 i) (S.2.2 i) else q) := by
  obtain ⟨k, hk⟩ : ∃ k, n - i = k + 1 := ⟨n - i - 1, by omega⟩
  rw [hk, show n - (i + 1) = k by omega]
  rfl
def sm_takeC (S : sm_Rw) (C : sm_Pt) (k : Nat) (x : Int32) : sm_Pt := (sm_tkG S (C.2.2.2.2.2.2.2 + min k (40 - C.2.2.2.2.2.2.2) - C.2.2.2.2.2.2.2) C.2.2.2.2.2.2.2 C.1, va_up C.2.1 C.2.2.2.2.2.1 C.2.2.2.2.2.2.2, va_up C.2.2.1 C.2.2.2.2.2.1 (C.2.2.2.2.2.2.2 + min k (40 - C.2.2.2.2.2.2.2)), va_up C.2.2.2.1 C.2.2.2.2.2.1 x, va_up C.2.2.2.2.1 C.2.2.2.2.2.1 true, C.2.2.2.2.2.1 + 1, C.2.2.2.2.2.2.1 + 1, C.2.2.2.2.2.2.2 + min k (40 - C.2.2.2.2.2.2.2))
variable {l : Launch} (D : sm_G) (ad : Nat → Nat) (P : sm_Sp) (S : sm_Rw) (T : sm_Tg) (L M : sm_Lg) (C : sm_Pt) (cp : sm_Cp) (ph : Int32) (fo ne no rc : Nat) (wr : va_W)
set_option maxHeartbeats 1000000 in
set_option maxRecDepth 100000 in
theorem c_X6_isKey_i (x : Int32) : sm_MP l yX6_isKey cX6_isKey 1 (some .boolean) 0 0 [.int x] D (sm_w6 D ad P S T L M C cp ph fo ne no rc wr) (some (.int (sm_b (sm_isKey x)))) := by
  refine sm_met (own := RX6) (by decide) rfl (Nat.le_of_ble_eq_true rfl) ?_
  intro p e s m below meth c ls hC hv hl
  obtain ⟨hx, hb, hml, hr, hown, hlk, hts⟩ := id hC
  obtain ⟨hP, hK⟩ := hv
  have hl : lv_has ls 1 [(0, .int x)] := hl
  refine lv_iload_n hx hb dX6_isKey_0 rfl (lv_at hl 0 rfl) ?_
  refine lv_if_lt (tgt := 14) hx hb dX6_isKey_1 (by decide) (fun c_1 => ?_) (fun c_1 => ?_)
  · have c_1_ := c_1
    refine lv_iconst (v := 0) hx hb dX6_isKey_14 (by decide) ?_
    exact sm_retP hC (by first | rfl | (simp [sm_isKey, sm_b, c_1]; done) | (simp [sm_isKey, sm_b] at c_1; simp [sm_isKey, sm_b, c_1]; done) | (simp_all [sm_isKey, sm_b]; done)) (by decide) dX6_isKey_15
  · have c_1_ := c_1
    refine lv_iload_n hx hb dX6_isKey_4 rfl (lv_at hl 0 rfl) ?_
    refine lv_bipush (v := 40) hx hb dX6_isKey_5 (by decide) ?_
    refine lv_icmp_ge (tgt := 14) hx hb dX6_isKey_7 (by decide) (fun c_2 => ?_) (fun c_2 => ?_)
    · have c_2 := sm_nl c_2
      refine lv_iconst (v := 0) hx hb dX6_isKey_14 (by decide) ?_
      exact sm_retP hC (by first | rfl | (simp [sm_isKey, sm_b, c_1, c_2]; done) | (simp [sm_isKey, sm_b] at c_1 c_2; simp [sm_isKey, sm_b, c_1, c_2]; done) | (simp_all [sm_isKey, sm_b]; done)) (by decide) dX6_isKey_15
    · have c_2 := sm_nle c_2
      refine lv_iconst (v := 1) hx hb dX6_isKey_10 (by decide) ?_
      refine lv_goto (tgt := 15) hx hb dX6_isKey_11 (by decide) ?_
      exact sm_retP hC (by first | rfl | (simp [sm_isKey, sm_b, c_1, c_2]; done) | (simp [sm_isKey, sm_b] at c_1 c_2; simp [sm_isKey, sm_b, c_1, c_2]; done) | (simp_all [sm_isKey, sm_b]; done)) (by decide) dX6_isKey_15

set_option maxHeartbeats 1000000 in
set_option maxRecDepth 100000 in
theorem c_X2_isPart (k : Nat) (hk : k < 40) : sm_MP l yX2_isPart cX2_isPart 1 (some .boolean) 0 0 [.int (nI k)] D (sm_w6 D ad P S T L M C cp ph fo ne no rc wr) (some (.int (sm_b true))) := by
  refine sm_met (own := RX2) (by decide) rfl (Nat.le_of_ble_eq_true rfl) ?_
  intro p e s m below meth c ls hC hv hl
  obtain ⟨hx, hb, hml, hr, hown, hlk, hts⟩ := id hC
  obtain ⟨hP, hK⟩ := hv
  have hl : lv_has ls 1 [(0, .int (nI k))] := hl
  refine lv_iload_n hx hb dX2_isPart_0 rfl (lv_at hl 0 rfl) ?_
  refine lv_if_lt (tgt := 14) hx hb dX2_isPart_1 (by decide) (fun h => absurd h (fun z => absurd (sm_Nlt (a := k) (b := 0) z (by omega) (by omega)) (Nat.not_lt_zero _))) (fun _ => ?_)
  refine lv_iload_n hx hb dX2_isPart_4 rfl (lv_at hl 0 rfl) ?_
  refine lv_bipush (v := 40) hx hb dX2_isPart_5 (by decide) ?_
  refine lv_icmp_ge (tgt := 14) hx hb dX2_isPart_7 (by decide) (fun h => absurd h (Int32.not_le.mpr (sm_pNlt (a := k) (b := 40) hk (by omega)))) (fun _ => ?_)
  refine lv_iconst (v := 1) hx hb dX2_isPart_10 (by decide) ?_
  refine lv_goto (tgt := 15) hx hb dX2_isPart_11 (by decide) ?_
  exact sm_retP hC (rfl) (by decide) dX2_isPart_15

set_option maxHeartbeats 1000000 in
set_option maxRecDepth 100000 in
theorem c_X2_isPart_i (x : Int32) : sm_MP l yX2_isPart cX2_isPart 1 (some .boolean) 0 0 [.int x] D (sm_w6 D ad P S T L M C cp ph fo ne no rc wr) (some (.int (sm_b (sm_isKey x)))) := by
  refine sm_met (own := RX2) (by decide) rfl (Nat.le_of_ble_eq_true rfl) ?_
  intro p e s m below meth c ls hC hv hl
  obtain ⟨hx, hb, hml, hr, hown, hlk, hts⟩ := id hC
  obtain ⟨hP, hK⟩ := hv
  have hl : lv_has ls 1 [(0, .int x)] := hl
  refine lv_iload_n hx hb dX2_isPart_0 rfl (lv_at hl 0 rfl) ?_
  refine lv_if_lt (tgt := 14) hx hb dX2_isPart_1 (by decide) (fun c_1 => ?_) (fun c_1 => ?_)
  · have c_1_ := c_1
    refine lv_iconst (v := 0) hx hb dX2_isPart_14 (by decide) ?_
    exact sm_retP hC (by first | rfl | (simp [sm_isKey, sm_b, c_1]; done) | (simp [sm_isKey, sm_b] at c_1; simp [sm_isKey, sm_b, c_1]; done) | (simp_all [sm_isKey, sm_b]; done)) (by decide) dX2_isPart_15
  · have c_1_ := c_1
    refine lv_iload_n hx hb dX2_isPart_4 rfl (lv_at hl 0 rfl) ?_
    refine lv_bipush (v := 40) hx hb dX2_isPart_5 (by decide) ?_
    refine lv_icmp_ge (tgt := 14) hx hb dX2_isPart_7 (by decide) (fun c_2 => ?_) (fun c_2 => ?_)
    · have c_2 := sm_nl c_2
      refine lv_iconst (v := 0) hx hb dX2_isPart_14 (by decide) ?_
      exact sm_retP hC (by first | rfl | (simp [sm_isKey, sm_b, c_1, c_2]; done) | (simp [sm_isKey, sm_b] at c_1 c_2; simp [sm_isKey, sm_b, c_1, c_2]; done) | (simp_all [sm_isKey, sm_b]; done)) (by decide) dX2_isPart_15
    · have c_2 := sm_nle c_2
      refine lv_iconst (v := 1) hx hb dX2_isPart_10 (by decide) ?_
      refine lv_goto (tgt := 15) hx hb dX2_isPart_11 (by decide) ?_
      exact sm_retP hC (by first | rfl | (simp [sm_isKey, sm_b, c_1, c_2]; done) | (simp [sm_isKey, sm_b] at c_1 c_2; simp [sm_isKey, sm_b, c_1, c_2]; done) | (simp_all [sm_isKey, sm_b]; done)) (by decide) dX2_isPart_15

set_option maxHeartbeats 1000000 in
set_option maxRecDepth 100000 in
theorem c_X2_keysLeft (hC40 : C.2.2.2.2.2.2.2 ≤ 40) : sm_MP l yX2_keysLeft cX2_keysLeft 1 (some .int) 0 0 [.ref (ad 23)] D (sm_w6 D ad P S T L M C cp ph fo ne no rc wr) (some (.int (nI (40 - C.2.2.2.2.2.2.2)))) := by
  refine sm_met (own := RX2) (by decide) rfl (Nat.le_of_ble_eq_true rfl) ?_
  intro p e s m below meth c ls hC hv hl
  obtain ⟨hx, hb, hml, hr, hown, hlk, hts⟩ := id hC
  obtain ⟨hP, hK⟩ := hv
  have hl : lv_has ls 1 [(0, .ref (ad 23))] := hl
  refine lv_bipush (v := 40) hx hb dX2_keysLeft_0 (by decide) ?_
  refine lv_aload_n hx hb dX2_keysLeft_2 rfl (lv_at hl 0 rfl) ?_
  refine sm_gt (ci := 2) (C := RX2) (T := TX2) (N := 8) hx hb hts inlX2 hown hK hP 23 rfl rfl 7 (by decide) wf_RX2_32 rfl dX2_keysLeft_3 ?_
  refine lv_isub hx hb dX2_keysLeft_6 ?_
  refine sm_re (y := nI (40 - C.2.2.2.2.2.2.2)) (pk_sub (a := 40) (b := C.2.2.2.2.2.2.2) (by omega)) ?_
  exact sm_retP hC rfl rfl dX2_keysLeft_7

set_option maxHeartbeats 1000000 in
set_option maxRecDepth 100000 in
theorem c_X2_waiting  : sm_MP l yX2_waiting cX2_waiting 1 (some .int) 0 0 [.ref (ad 23)] D (sm_w6 D ad P S T L M C cp ph fo ne no rc wr) (some (.int (nI C.2.2.2.2.2.2.1))) := by
  refine sm_met (own := RX2) (by decide) rfl (Nat.le_of_ble_eq_true rfl) ?_
  intro p e s m below meth c ls hC hv hl
  obtain ⟨hx, hb, hml, hr, hown, hlk, hts⟩ := id hC
  obtain ⟨hP, hK⟩ := hv
  have hl : lv_has ls 1 [(0, .ref (ad 23))] := hl
  refine lv_aload_n hx hb dX2_waiting_0 rfl (lv_at hl 0 rfl) ?_
  refine sm_gt (ci := 2) (C := RX2) (T := TX2) (N := 8) hx hb hts inlX2 hown hK hP 23 rfl rfl 6 (by decide) wf_RX2_36 rfl dX2_waiting_1 ?_
  exact sm_retP hC rfl rfl dX2_waiting_4

set_option maxHeartbeats 1000000 in
set_option maxRecDepth 100000 in
theorem c_X2_isWaiting (k : Nat) (hk : k < 40) : sm_MP l yX2_isWaiting cX2_isWaiting 2 (some .boolean) 1 20 [.ref (ad 23), .int (nI k)] D (sm_w6 D ad P S T L M C cp ph fo ne no rc wr) (some (.int (sm_b (C.2.2.2.2.1 k)))) := by
  refine sm_met (own := RX2) (by decide) rfl (Nat.le_of_ble_eq_true rfl) ?_
  intro p e s m below meth c ls hC hv hl
  obtain ⟨hx, hb, hml, hr, hown, hlk, hts⟩ := id hC
  obtain ⟨hP, hK⟩ := hv
  have hl : lv_has ls 2 [(0, .ref (ad 23)), (1, .int (nI k))] := hl
  refine lv_iload_n hx hb dX2_isWaiting_0 rfl (lv_at hl 1 rfl) ?_
  refine sm_cSPr (rest := []) hC hK hP (c_X2_isPart D ad P S T L M C cp ph fo ne no rc wr k (by omega)) qyX2_isPart wl_RX2_64 ⟨Nat.le_of_ble_eq_true rfl, Nat.le_of_ble_eq_true rfl⟩ rfl hl.1 rfl (Nat.le_of_ble_eq_true rfl) dX2_isWaiting_1 ⟨Nat.le_of_ble_eq_true rfl, Nat.le_of_ble_eq_true rfl⟩ ?_
  refine lv_if_eq (tgt := 20) hx hb dX2_isWaiting_4 (by decide) (fun h => absurd h (by decide)) (fun _ => ?_)
  refine lv_aload_n hx hb dX2_isWaiting_7 rfl (lv_at hl 0 rfl) ?_
  refine sm_gt (ci := 2) (C := RX2) (T := TX2) (N := 8) hx hb hts inlX2 hown hK hP 23 rfl rfl 4 (by decide) wf_RX2_28 rfl dX2_isWaiting_8 ?_
  refine lv_iload_n hx hb dX2_isWaiting_11 rfl (lv_at hl 1 rfl) ?_
  refine sm_zld hx hb hK hP 27 rfl k rfl (by omega) (by decide) dX2_isWaiting_12 ?_
  refine lv_if_eq (tgt := 20) hx hb dX2_isWaiting_13 (by decide) (fun c_1 => ?_) (fun c_1 => ?_)
  · have c_1 := sm_b0 c_1
    refine lv_iconst (v := 0) hx hb dX2_isWaiting_20 (by decide) ?_
    exact sm_retP hC (by first | rfl | (simp [sm_b, c_1]; done) | (simp [sm_b] at c_1; simp [sm_b, c_1]; done) | (simp_all [sm_b]; done)) (by decide) dX2_isWaiting_21
  · have c_1 := sm_b1 c_1
    refine lv_iconst (v := 1) hx hb dX2_isWaiting_16 (by decide) ?_
    refine lv_goto (tgt := 21) hx hb dX2_isWaiting_17 (by decide) ?_
    exact sm_retP hC (by first | rfl | (simp [sm_b, c_1]; done) | (simp [sm_b] at c_1; simp [sm_b, c_1]; done) | (simp_all [sm_b]; done)) (by decide) dX2_isWaiting_21

set_option maxHeartbeats 1000000 in
set_option maxRecDepth 100000 in
theorem c_X2_isWaiting_i (x : Int32) (hbk : sm_isKey x = false) : sm_MP l yX2_isWaiting cX2_isWaiting 2 (some .boolean) 1 20 [.ref (ad 23), .int x] D (sm_w6 D ad P S T L M C cp ph fo ne no rc wr) (some (.int (sm_b false))) := by
  refine sm_met (own := RX2) (by decide) rfl (Nat.le_of_ble_eq_true rfl) ?_
  intro p e s m below meth c ls hC hv hl
  obtain ⟨hx, hb, hml, hr, hown, hlk, hts⟩ := id hC
  obtain ⟨hP, hK⟩ := hv
  have hl : lv_has ls 2 [(0, .ref (ad 23)), (1, .int x)] := hl
  refine lv_iload_n hx hb dX2_isWaiting_0 rfl (lv_at hl 1 rfl) ?_
  refine sm_cSPr (rest := []) hC hK hP (c_X2_isPart_i D ad P S T L M C cp ph fo ne no rc wr x) qyX2_isPart wl_RX2_64 ⟨Nat.le_of_ble_eq_true rfl, Nat.le_of_ble_eq_true rfl⟩ rfl hl.1 rfl (Nat.le_of_ble_eq_true rfl) dX2_isWaiting_1 ⟨Nat.le_of_ble_eq_true rfl, Nat.le_of_ble_eq_true rfl⟩ ?_
  refine lv_if_eq (tgt := 20) hx hb dX2_isWaiting_4 (by decide) (fun _ => ?_) (fun h => absurd h (by rw [hbk]; decide))
  refine lv_iconst (v := 0) hx hb dX2_isWaiting_20 (by decide) ?_
  exact sm_retP hC (rfl) (by decide) dX2_isWaiting_21

set_option maxHeartbeats 1000000 in
set_option maxRecDepth 100000 in
theorem c_X2_lowOf (k : Nat) (hk : k < 40) : sm_MP l yX2_lowOf cX2_lowOf 2 (some .int) 1 20 [.ref (ad 23), .int (nI k)] D (sm_w6 D ad P S T L M C cp ph fo ne no rc wr) (some (.int (nI (C.2.1 k)))) := by
  refine sm_met (own := RX2) (by decide) rfl (Nat.le_of_ble_eq_true rfl) ?_
  intro p e s m below meth c ls hC hv hl
  obtain ⟨hx, hb, hml, hr, hown, hlk, hts⟩ := id hC
  obtain ⟨hP, hK⟩ := hv
  have hl : lv_has ls 2 [(0, .ref (ad 23)), (1, .int (nI k))] := hl
  refine lv_iload_n hx hb dX2_lowOf_0 rfl (lv_at hl 1 rfl) ?_
  refine sm_cSPr (rest := []) hC hK hP (c_X2_isPart D ad P S T L M C cp ph fo ne no rc wr k (by omega)) qyX2_isPart wl_RX2_64 ⟨Nat.le_of_ble_eq_true rfl, Nat.le_of_ble_eq_true rfl⟩ rfl hl.1 rfl (Nat.le_of_ble_eq_true rfl) dX2_lowOf_1 ⟨Nat.le_of_ble_eq_true rfl, Nat.le_of_ble_eq_true rfl⟩ ?_
  refine lv_if_eq (tgt := 16) hx hb dX2_lowOf_4 (by decide) (fun h => absurd h (by decide)) (fun _ => ?_)
  refine lv_aload_n hx hb dX2_lowOf_7 rfl (lv_at hl 0 rfl) ?_
  refine sm_gt (ci := 2) (C := RX2) (T := TX2) (N := 8) hx hb hts inlX2 hown hK hP 23 rfl rfl 1 (by decide) wf_RX2_18 rfl dX2_lowOf_8 ?_
  refine lv_iload_n hx hb dX2_lowOf_11 rfl (lv_at hl 1 rfl) ?_
  refine sm_ild hx hb hK hP 24 rfl k rfl (by omega) (by decide) dX2_lowOf_12 ?_
  refine lv_goto (tgt := 17) hx hb dX2_lowOf_13 (by decide) ?_
  exact sm_retP hC rfl rfl dX2_lowOf_17

set_option maxHeartbeats 1000000 in
set_option maxRecDepth 100000 in
theorem c_X2_endOf (k : Nat) (hk : k < 40) : sm_MP l yX2_endOf cX2_endOf 2 (some .int) 1 20 [.ref (ad 23), .int (nI k)] D (sm_w6 D ad P S T L M C cp ph fo ne no rc wr) (some (.int (nI (C.2.2.1 k)))) := by
  refine sm_met (own := RX2) (by decide) rfl (Nat.le_of_ble_eq_true rfl) ?_
  intro p e s m below meth c ls hC hv hl
  obtain ⟨hx, hb, hml, hr, hown, hlk, hts⟩ := id hC
  obtain ⟨hP, hK⟩ := hv
  have hl : lv_has ls 2 [(0, .ref (ad 23)), (1, .int (nI k))] := hl
  refine lv_iload_n hx hb dX2_endOf_0 rfl (lv_at hl 1 rfl) ?_
  refine sm_cSPr (rest := []) hC hK hP (c_X2_isPart D ad P S T L M C cp ph fo ne no rc wr k (by omega)) qyX2_isPart wl_RX2_64 ⟨Nat.le_of_ble_eq_true rfl, Nat.le_of_ble_eq_true rfl⟩ rfl hl.1 rfl (Nat.le_of_ble_eq_true rfl) dX2_endOf_1 ⟨Nat.le_of_ble_eq_true rfl, Nat.le_of_ble_eq_true rfl⟩ ?_
  refine lv_if_eq (tgt := 16) hx hb dX2_endOf_4 (by decide) (fun h => absurd h (by decide)) (fun _ => ?_)
  refine lv_aload_n hx hb dX2_endOf_7 rfl (lv_at hl 0 rfl) ?_
  refine sm_gt (ci := 2) (C := RX2) (T := TX2) (N := 8) hx hb hts inlX2 hown hK hP 23 rfl rfl 2 (by decide) wf_RX2_22 rfl dX2_endOf_8 ?_
  refine lv_iload_n hx hb dX2_endOf_11 rfl (lv_at hl 1 rfl) ?_
  refine sm_ild hx hb hK hP 25 rfl k rfl (by omega) (by decide) dX2_endOf_12 ?_
  refine lv_goto (tgt := 17) hx hb dX2_endOf_13 (by decide) ?_
  exact sm_retP hC rfl rfl dX2_endOf_17

set_option maxHeartbeats 1000000 in
set_option maxRecDepth 100000 in
theorem c_X2_stampOf (k : Nat) (hk : k < 40) : sm_MP l yX2_stampOf cX2_stampOf 2 (some .int) 1 20 [.ref (ad 23), .int (nI k)] D (sm_w6 D ad P S T L M C cp ph fo ne no rc wr) (some (.int (C.2.2.2.1 k))) := by
  refine sm_met (own := RX2) (by decide) rfl (Nat.le_of_ble_eq_true rfl) ?_
  intro p e s m below meth c ls hC hv hl
  obtain ⟨hx, hb, hml, hr, hown, hlk, hts⟩ := id hC
  obtain ⟨hP, hK⟩ := hv
  have hl : lv_has ls 2 [(0, .ref (ad 23)), (1, .int (nI k))] := hl
  refine lv_iload_n hx hb dX2_stampOf_0 rfl (lv_at hl 1 rfl) ?_
  refine sm_cSPr (rest := []) hC hK hP (c_X2_isPart D ad P S T L M C cp ph fo ne no rc wr k (by omega)) qyX2_isPart wl_RX2_64 ⟨Nat.le_of_ble_eq_true rfl, Nat.le_of_ble_eq_true rfl⟩ rfl hl.1 rfl (Nat.le_of_ble_eq_true rfl) dX2_stampOf_1 ⟨Nat.le_of_ble_eq_true rfl, Nat.le_of_ble_eq_true rfl⟩ ?_
  refine lv_if_eq (tgt := 16) hx hb dX2_stampOf_4 (by decide) (fun h => absurd h (by decide)) (fun _ => ?_)
  refine lv_aload_n hx hb dX2_stampOf_7 rfl (lv_at hl 0 rfl) ?_
  refine sm_gt (ci := 2) (C := RX2) (T := TX2) (N := 8) hx hb hts inlX2 hown hK hP 23 rfl rfl 3 (by decide) wf_RX2_25 rfl dX2_stampOf_8 ?_
  refine lv_iload_n hx hb dX2_stampOf_11 rfl (lv_at hl 1 rfl) ?_
  refine sm_ild hx hb hK hP 26 rfl k rfl (by omega) (by decide) dX2_stampOf_12 ?_
  refine lv_goto (tgt := 17) hx hb dX2_stampOf_13 (by decide) ?_
  exact sm_retP hC rfl rfl dX2_stampOf_17

set_option maxHeartbeats 1000000 in
set_option maxRecDepth 100000 in
theorem c_X2_hasRow (k : Nat) (hk : k < 40) : sm_MP l yX2_hasRow cX2_hasRow 2 (some .boolean) 2 42 [.ref (ad 23), .int (nI k)] D (sm_w6 D ad P S T L M C cp ph fo ne no rc wr) (some (.int (sm_b (C.1.1 k)))) := by
  refine sm_met (own := RX2) (by decide) rfl (Nat.le_of_ble_eq_true rfl) ?_
  intro p e s m below meth c ls hC hv hl
  obtain ⟨hx, hb, hml, hr, hown, hlk, hts⟩ := id hC
  obtain ⟨hP, hK⟩ := hv
  have hl : lv_has ls 2 [(0, .ref (ad 23)), (1, .int (nI k))] := hl
  refine lv_aload_n hx hb dX2_hasRow_0 rfl (lv_at hl 0 rfl) ?_
  refine sm_gt (ci := 2) (C := RX2) (T := TX2) (N := 8) hx hb hts inlX2 hown hK hP 23 rfl rfl 0 (by decide) wf_RX2_12 rfl dX2_hasRow_1 ?_
  refine lv_iload_n hx hb dX2_hasRow_4 rfl (lv_at hl 1 rfl) ?_
  refine sm_cVPr (rest := []) hC hK hP (c_X3_has_c D ad P S T L M C cp ph fo ne no rc wr k (by omega)) qyX3_has wl_RX2_52 ⟨Nat.le_of_ble_eq_true rfl, Nat.le_of_ble_eq_true rfl⟩ 28 rfl rfl rfl hl.1 rfl (Nat.le_of_ble_eq_true rfl) dX2_hasRow_5 ⟨Nat.le_of_ble_eq_true rfl, Nat.le_of_ble_eq_true rfl⟩ ?_
  exact sm_retP hC rfl (sm_nb _) dX2_hasRow_8

set_option maxHeartbeats 1000000 in
set_option maxRecDepth 100000 in
theorem c_X2_number (k : Nat) (hk : k < 40) (z : Bool) : sm_MP l yX2_number cX2_number 3 (some .int) 2 43 [.ref (ad 23), .int (nI k), .int (sm_b z)] D (sm_w6 D ad P S T L M C cp ph fo ne no rc wr) (some (.int (sm_pk z (C.1.2.1 k, C.1.2.2 k)))) := by
  refine sm_met (own := RX2) (by decide) rfl (Nat.le_of_ble_eq_true rfl) ?_
  intro p e s m below meth c ls hC hv hl
  obtain ⟨hx, hb, hml, hr, hown, hlk, hts⟩ := id hC
  obtain ⟨hP, hK⟩ := hv
  have hl : lv_has ls 3 [(0, .ref (ad 23)), (1, .int (nI k)), (2, .int (sm_b z))] := hl
  refine lv_aload_n hx hb dX2_number_0 rfl (lv_at hl 0 rfl) ?_
  refine sm_gt (ci := 2) (C := RX2) (T := TX2) (N := 8) hx hb hts inlX2 hown hK hP 23 rfl rfl 0 (by decide) wf_RX2_12 rfl dX2_number_1 ?_
  refine lv_iload_n hx hb dX2_number_4 rfl (lv_at hl 1 rfl) ?_
  refine lv_iload_n hx hb dX2_number_5 rfl (lv_at hl 2 rfl) ?_
  refine sm_cVPr (rest := []) hC hK hP (c_X3_number_c D ad P S T L M C cp ph fo ne no rc wr k (by omega) z) qyX3_number wl_RX2_56 ⟨Nat.le_of_ble_eq_true rfl, Nat.le_of_ble_eq_true rfl⟩ 28 rfl rfl rfl hl.1 rfl (Nat.le_of_ble_eq_true rfl) dX2_number_6 ⟨Nat.le_of_ble_eq_true rfl, Nat.le_of_ble_eq_true rfl⟩ ?_
  exact sm_retP hC rfl rfl dX2_number_9

set_option maxHeartbeats 1000000 in
set_option maxRecDepth 100000 in
theorem c_X2_finish (k : Nat) (hk : k < 40) (hwt : C.2.2.2.2.1 k = true) (hw1 : 1 ≤ C.2.2.2.2.2.2.1) : sm_MC l yX2_finish cX2_finish 2 none 2 41 [.ref (ad 23), .int (nI k)] D (sm_w6 D ad P S T L M C cp ph fo ne no rc wr) (fun w => w = sm_w6 D ad P S T L M (sm_finC C k) cp ph fo ne no rc wr) none := by
  refine sm_met (own := RX2) (by decide) rfl (Nat.le_of_ble_eq_true rfl) ?_
  intro p e s m below meth c ls hC hv hl
  obtain ⟨hx, hb, hml, hr, hown, hlk, hts⟩ := id hC
  obtain ⟨⟨hP, hK⟩, hD, hZ⟩ := hv
  have hS : va_S (sm_ad (sm_w6 D ad P S T L M C cp ph fo ne no rc wr)) s.heap s.heap [] := va_S.rf
  have hl : lv_has ls 2 [(0, .ref (ad 23)), (1, .int (nI k))] := hl
  refine lv_aload_n hx hb dX2_finish_0 rfl (lv_at hl 0 rfl) ?_
  refine lv_iload_n hx hb dX2_finish_1 rfl (lv_at hl 1 rfl) ?_
  refine sm_cVPr (rest := []) hC hK hP (c_X2_isWaiting D ad P S T L M C cp ph fo ne no rc wr k (by omega)) qyX2_isWaiting wl_RX2_67 ⟨Nat.le_of_ble_eq_true rfl, Nat.le_of_ble_eq_true rfl⟩ 23 rfl rfl rfl hl.1 rfl (Nat.le_of_ble_eq_true rfl) dX2_finish_2 ⟨Nat.le_of_ble_eq_true rfl, Nat.le_of_ble_eq_true rfl⟩ ?_
  refine lv_if_eq (tgt := 25) hx hb dX2_finish_5 (by decide) (fun h => absurd h (by rw [hwt]; decide)) (fun _ => ?_)
  refine lv_aload_n hx hb dX2_finish_8 rfl (lv_at hl 0 rfl) ?_
  refine sm_gt (ci := 2) (C := RX2) (T := TX2) (N := 8) hx hb hts inlX2 hown hK hP 23 rfl rfl 4 (by decide) wf_RX2_28 rfl dX2_finish_9 ?_
  refine lv_iload_n hx hb dX2_finish_12 rfl (lv_at hl 1 rfl) ?_
  refine lv_iconst (v := 0) hx hb dX2_finish_13 (by decide) ?_
  refine sm_zst hx hb hK hP hD hS 27 rfl false rfl k rfl (by omega) (by decide) dX2_finish_14 (fun H locs hP hD hS => ?_)
  have hP : va_P D.1 sm_cl (sm_w6 D ad P S T L M (C.1, C.2.1, C.2.2.1, C.2.2.2.1, va_up C.2.2.2.2.1 k false, C.2.2.2.2.2) cp ph fo ne no rc wr) H := hP
  have hD : va_D (sm_ad (sm_w6 D ad P S T L M C cp ph fo ne no rc wr)) (sm_w6 D ad P S T L M (C.1, C.2.1, C.2.2.1, C.2.2.2.1, va_up C.2.2.2.2.1 k false, C.2.2.2.2.2) cp ph fo ne no rc wr) := hD
  refine lv_aload_n hx hb dX2_finish_15 rfl (lv_at hl 0 rfl) ?_
  refine lv_dup hx hb dX2_finish_16 rfl ?_
  refine sm_gt (ci := 2) (C := RX2) (T := TX2) (N := 8) hx hb hts inlX2 hown hK hP 23 rfl rfl 6 (by decide) wf_RX2_36 rfl dX2_finish_17 ?_
  refine lv_iconst (v := 1) hx hb dX2_finish_20 (by decide) ?_
  refine lv_isub hx hb dX2_finish_21 ?_
  refine sm_re (y := nI (C.2.2.2.2.2.2.1 - 1)) (pk_sub (a := C.2.2.2.2.2.2.1) (b := 1) (by omega)) ?_
  refine sm_pt (ci := 2) (C := RX2) (T := TX2) (N := 8) hx hb hts inlX2 tyX2 tyX2_ok nmX2 hown hK hP hD hS 23 rfl rfl 6 (by decide) wf_RX2_36 rfl rfl rfl (Nat.le_of_ble_eq_true rfl) dX2_finish_22 (fun H locs hP hD hS => ?_)
  have hP : va_P D.1 sm_cl (sm_w6 D ad P S T L M (C.1, C.2.1, C.2.2.1, C.2.2.2.1, va_up C.2.2.2.2.1 k false, C.2.2.2.2.2.1, C.2.2.2.2.2.2.1 - 1, C.2.2.2.2.2.2.2) cp ph fo ne no rc wr) H := hP
  have hD : va_D (sm_ad (sm_w6 D ad P S T L M C cp ph fo ne no rc wr)) (sm_w6 D ad P S T L M (C.1, C.2.1, C.2.2.1, C.2.2.2.1, va_up C.2.2.2.2.1 k false, C.2.2.2.2.2.1, C.2.2.2.2.2.2.1 - 1, C.2.2.2.2.2.2.2) cp ph fo ne no rc wr) := hD
  exact sm_vretC hC hP hD hS rfl  (by exact rfl) dX2_finish_25

set_option maxHeartbeats 1000000 in
set_option maxRecDepth 100000 in
theorem c_X2_take (k : Nat) (x : Int32) (hk : k ≤ 40) (hC40 : C.2.2.2.2.2.2.2 ≤ 40) (hcn : C.2.2.2.2.2.1 < 40) : sm_MC l yX2_take cX2_take 7 (some .int) 2 44 [.ref (ad 23), .ref (ad 4), .int (nI k), .int x] D (sm_w6 D ad P S T L M C cp ph fo ne no rc wr) (fun w => w = sm_w6 D ad P S T L M (sm_takeC S C k x) cp ph fo ne no rc wr) (some (.int (nI C.2.2.2.2.2.1))) := by
  refine sm_met (own := RX2) (by decide) rfl (Nat.le_of_ble_eq_true rfl) ?_
  intro p e s m below meth c ls hC hv hl
  obtain ⟨hx, hb, hml, hr, hown, hlk, hts⟩ := id hC
  obtain ⟨⟨hP, hK⟩, hD, hZ⟩ := hv
  have hS : va_S (sm_ad (sm_w6 D ad P S T L M C cp ph fo ne no rc wr)) s.heap s.heap [] := va_S.rf
  have hl : lv_has ls 7 [(0, .ref (ad 23)), (1, .ref (ad 4)), (2, .int (nI k)), (3, .int x)] := hl
  refine lv_aload_n hx hb dX2_take_0 rfl (lv_at hl 0 rfl) ?_
  refine sm_gt (ci := 2) (C := RX2) (T := TX2) (N := 8) hx hb hts inlX2 hown hK hP 23 rfl rfl 5 (by decide) wf_RX2_39 rfl dX2_take_1 ?_
  refine lv_istore (lv' := [(4, .int (nI C.2.2.2.2.2.1)), (0, .ref (ad 23)), (1, .ref (ad 4)), (2, .int (nI k)), (3, .int x)]) hx hb dX2_take_4 hl (by decide) rfl (fun ls hl => ?_)
  refine lv_aload_n hx hb dX2_take_6 rfl (lv_at hl 1 rfl) ?_
  refine sm_gt (ci := 2) (C := RX2) (T := TX2) (N := 8) hx hb hts inlX2 hown hK hP 23 rfl rfl 7 (by decide) wf_RX2_32 rfl dX2_take_7 ?_
  refine lv_iload_n hx hb dX2_take_10 rfl (lv_at hl 3 rfl) ?_
  refine lv_aload_n hx hb dX2_take_11 rfl (lv_at hl 1 rfl) ?_
  refine sm_cVPr (rest := [.int (nI k), .int (nI C.2.2.2.2.2.2.2)]) hC hK hP (c_X2_keysLeft D ad P S T L M C cp ph fo ne no rc wr hC40) qyX2_keysLeft wl_RX2_42 ⟨Nat.le_of_ble_eq_true rfl, Nat.le_of_ble_eq_true rfl⟩ 23 rfl rfl rfl hl.1 rfl (Nat.le_of_ble_eq_true rfl) dX2_take_12 ⟨Nat.le_of_ble_eq_true rfl, Nat.le_of_ble_eq_true rfl⟩ ?_
  refine va_mmin hx hb (hml.trans hl.1.symm) hown (hts _ wl_RX2_46) (hts _ (List.mem_of_getElem? (i := 226) rfl)) (hts _ (List.mem_of_getElem? (i := 227) rfl)) (hts _ (List.mem_of_getElem? (i := 228) rfl)) (Nat.le_of_ble_eq_true rfl) (Nat.le_of_ble_eq_true rfl) (Nat.le_of_ble_eq_true rfl) (Nat.le_of_ble_eq_true rfl) dX2_take_15 ?_
  refine sm_re (y := nI (min k (40 - C.2.2.2.2.2.2.2))) (sm_min k (40 - C.2.2.2.2.2.2.2) (by omega) (by omega)) ?_
  refine lv_iadd hx hb dX2_take_18 ?_
  refine sm_re (y := nI (C.2.2.2.2.2.2.2 + min k (40 - C.2.2.2.2.2.2.2))) (nI_add C.2.2.2.2.2.2.2 (min k (40 - C.2.2.2.2.2.2.2))) ?_
  refine lv_istore (lv' := [(5, .int (nI (C.2.2.2.2.2.2.2 + min k (40 - C.2.2.2.2.2.2.2)))), (4, .int (nI C.2.2.2.2.2.1)), (0, .ref (ad 23)), (1, .ref (ad 4)), (2, .int (nI k)), (3, .int x)]) hx hb dX2_take_19 hl (by decide) rfl (fun ls hl => ?_)
  refine lv_aload_n hx hb dX2_take_21 rfl (lv_at hl 2 rfl) ?_
  refine sm_gt (ci := 2) (C := RX2) (T := TX2) (N := 8) hx hb hts inlX2 hown hK hP 23 rfl rfl 7 (by decide) wf_RX2_32 rfl dX2_take_22 ?_
  refine lv_istore (lv' := [(6, .int (nI C.2.2.2.2.2.2.2)), (5, .int (nI (C.2.2.2.2.2.2.2 + min k (40 - C.2.2.2.2.2.2.2)))), (4, .int (nI C.2.2.2.2.2.1)), (0, .ref (ad 23)), (1, .ref (ad 4)), (2, .int (nI k)), (3, .int x)]) hx hb dX2_take_25 hl (by decide) rfl (fun ls hl => ?_)
  suffices K : ∀ (n : Nat) (i : Nat) (q : sm_Rw) (H : Heap) (locs : List Loc) (ls : Array Slot), C.2.2.2.2.2.2.2 + min k (40 - C.2.2.2.2.2.2.2) - i = n → (i ≤ C.2.2.2.2.2.2.2 + min k (40 - C.2.2.2.2.2.2.2)) → (sm_tkG S (C.2.2.2.2.2.2.2 + min k (40 - C.2.2.2.2.2.2.2) - i) i q = sm_tkG S (C.2.2.2.2.2.2.2 + min k (40 - C.2.2.2.2.2.2.2) - C.2.2.2.2.2.2.2) C.2.2.2.2.2.2.2 C.1) → va_P D.1 sm_cl (sm_w6 D ad P S T L M (q, C.2) cp ph fo ne no rc wr) H → va_D (sm_ad (sm_w6 D ad P S T L M C cp ph fo ne no rc wr)) (sm_w6 D ad P S T L M (q, C.2) cp ph fo ne no rc wr) → va_S (sm_ad (sm_w6 D ad P S T L M C cp ph fo ne no rc wr)) s.heap H locs → lv_has ls 7 [(0, .ref (ad 23)), (1, .ref (ad 4)), (2, .int (nI k)), (3, .int x), (4, .int (nI C.2.2.2.2.2.1)), (5, .int (nI (C.2.2.2.2.2.2.2 + min k (40 - C.2.2.2.2.2.2.2)))), (6, .int (nI i))] → W p l e ({ frames := 2, cells := 0, slots := 0, locals := 44 } : Room) s m ([.ref (ad 23), .ref (ad 4), .int (nI k), .int x] : List Value).toArray below meth c H locs 0 0 (MQ below (sm_Qc D (sm_w6 D ad P S T L M C cp ph fo ne no rc wr) (fun w => w = sm_w6 D ad P S T L M (sm_takeC S C k x) cp ph fo ne no rc wr) (some (.int (nI C.2.2.2.2.2.1)))) ([.ref (ad 23), .ref (ad 4), .int (nI k), .int x] : List Value).toArray s 0 0 (sm_ad (sm_w6 D ad P S T L M C cp ph fo ne no rc wr))) (F0 m 27 ls []) from K _ C.2.2.2.2.2.2.2 C.1 _ _ ls rfl (by omega) (rfl) hP hD hS (lv_sub hl [3, 4, 5, 6, 2, 1, 0] rfl)
  intro n
  induction n using Nat.strongRecOn with
  | ind n ih =>
    intro i q H locs ls hn hi hR hP hD hS hl
    refine lv_iload hx hb dX2_take_27 (lv_at hl 6 rfl) ?_
    refine lv_iload hx hb dX2_take_29 (lv_at hl 5 rfl) ?_
    refine lv_icmp_ge (tgt := 79) hx hb dX2_take_31 (by decide) (fun c_1 => ?_) (fun c_1 => ?_)
    · have c_1 := sm_Nnl (a := i) (b := C.2.2.2.2.2.2.2 + min k (40 - C.2.2.2.2.2.2.2)) (sm_nl c_1) (by omega) (by omega)
      refine lv_iload hx hb dX2_take_79 (lv_at hl 4 rfl) ?_
      refine sm_cSPr (rest := []) hC hK hP (c_X2_isPart D ad P S T L M (q, C.2) cp ph fo ne no rc wr C.2.2.2.2.2.1 (by omega)) qyX2_isPart wl_RX2_64 ⟨Nat.le_of_ble_eq_true rfl, Nat.le_of_ble_eq_true rfl⟩ rfl hl.1 rfl (Nat.le_of_ble_eq_true rfl) dX2_take_81 ⟨Nat.le_of_ble_eq_true rfl, Nat.le_of_ble_eq_true rfl⟩ ?_
      refine lv_if_eq (tgt := 149) hx hb dX2_take_84 (by decide) (fun h => absurd h (by decide)) (fun _ => ?_)
      refine lv_aload_n hx hb dX2_take_87 rfl (lv_at hl 0 rfl) ?_
      refine sm_gt (ci := 2) (C := RX2) (T := TX2) (N := 8) hx hb hts inlX2 hown hK hP 23 rfl rfl 1 (by decide) wf_RX2_18 rfl dX2_take_88 ?_
      refine lv_iload hx hb dX2_take_91 (lv_at hl 4 rfl) ?_
      refine lv_aload_n hx hb dX2_take_93 rfl (lv_at hl 0 rfl) ?_
      refine sm_gt (ci := 2) (C := RX2) (T := TX2) (N := 8) hx hb hts inlX2 hown hK hP 23 rfl rfl 7 (by decide) wf_RX2_32 rfl dX2_take_94 ?_
      refine sm_istG (g := nI) hx hb hK hP hD hS 24 rfl ((((((((q, C.2).2).2).2).2).2).2).2) rfl C.2.2.2.2.2.1 rfl (by omega) (by decide) dX2_take_97 (fun H locs hP hD hS => ?_)
      have hP : va_P D.1 sm_cl (sm_w6 D ad P S T L M ((q, C.2).1, va_up (((q, C.2).2).1) C.2.2.2.2.2.1 ((((((((q, C.2).2).2).2).2).2).2).2), ((q, C.2).2).2) cp ph fo ne no rc wr) H := hP
      have hD : va_D (sm_ad (sm_w6 D ad P S T L M C cp ph fo ne no rc wr)) (sm_w6 D ad P S T L M ((q, C.2).1, va_up (((q, C.2).2).1) C.2.2.2.2.2.1 ((((((((q, C.2).2).2).2).2).2).2).2), ((q, C.2).2).2) cp ph fo ne no rc wr) := hD
      refine lv_aload_n hx hb dX2_take_98 rfl (lv_at hl 0 rfl) ?_
      refine sm_gt (ci := 2) (C := RX2) (T := TX2) (N := 8) hx hb hts inlX2 hown hK hP 23 rfl rfl 2 (by decide) wf_RX2_22 rfl dX2_take_99 ?_
      refine lv_iload hx hb dX2_take_102 (lv_at hl 4 rfl) ?_
      refine lv_iload hx hb dX2_take_104 (lv_at hl 5 rfl) ?_
      refine sm_istG (g := nI) hx hb hK hP hD hS 25 rfl (C.2.2.2.2.2.2.2 + min k (40 - C.2.2.2.2.2.2.2)) rfl C.2.2.2.2.2.1 rfl (by omega) (by decide) dX2_take_106 (fun H locs hP hD hS => ?_)
      have hP : va_P D.1 sm_cl (sm_w6 D ad P S T L M ((q, C.2).1, va_up (((q, C.2).2).1) C.2.2.2.2.2.1 ((((((((q, C.2).2).2).2).2).2).2).2), va_up ((((q, C.2).2).2).1) C.2.2.2.2.2.1 (C.2.2.2.2.2.2.2 + min k (40 - C.2.2.2.2.2.2.2)), (((q, C.2).2).2).2) cp ph fo ne no rc wr) H := hP
      have hD : va_D (sm_ad (sm_w6 D ad P S T L M C cp ph fo ne no rc wr)) (sm_w6 D ad P S T L M ((q, C.2).1, va_up (((q, C.2).2).1) C.2.2.2.2.2.1 ((((((((q, C.2).2).2).2).2).2).2).2), va_up ((((q, C.2).2).2).1) C.2.2.2.2.2.1 (C.2.2.2.2.2.2.2 + min k (40 - C.2.2.2.2.2.2.2)), (((q, C.2).2).2).2) cp ph fo ne no rc wr) := hD
      refine lv_aload_n hx hb dX2_take_107 rfl (lv_at hl 0 rfl) ?_
      refine sm_gt (ci := 2) (C := RX2) (T := TX2) (N := 8) hx hb hts inlX2 hown hK hP 23 rfl rfl 3 (by decide) wf_RX2_25 rfl dX2_take_108 ?_
      refine lv_iload hx hb dX2_take_111 (lv_at hl 4 rfl) ?_
      refine lv_iload_n hx hb dX2_take_113 rfl (lv_at hl 3 rfl) ?_
      refine sm_ist hx hb hK hP hD hS 26 rfl C.2.2.2.2.2.1 rfl (by omega) (by decide) dX2_take_114 (fun H locs hP hD hS => ?_)
      have hP : va_P D.1 sm_cl (sm_w6 D ad P S T L M ((q, C.2).1, va_up (((q, C.2).2).1) C.2.2.2.2.2.1 ((((((((q, C.2).2).2).2).2).2).2).2), va_up ((((q, C.2).2).2).1) C.2.2.2.2.2.1 (C.2.2.2.2.2.2.2 + min k (40 - C.2.2.2.2.2.2.2)), va_up (((((q, C.2).2).2).2).1) C.2.2.2.2.2.1 x, ((((q, C.2).2).2).2).2) cp ph fo ne no rc wr) H := hP
      have hD : va_D (sm_ad (sm_w6 D ad P S T L M C cp ph fo ne no rc wr)) (sm_w6 D ad P S T L M ((q, C.2).1, va_up (((q, C.2).2).1) C.2.2.2.2.2.1 ((((((((q, C.2).2).2).2).2).2).2).2), va_up ((((q, C.2).2).2).1) C.2.2.2.2.2.1 (C.2.2.2.2.2.2.2 + min k (40 - C.2.2.2.2.2.2.2)), va_up (((((q, C.2).2).2).2).1) C.2.2.2.2.2.1 x, ((((q, C.2).2).2).2).2) cp ph fo ne no rc wr) := hD
      refine lv_aload_n hx hb dX2_take_115 rfl (lv_at hl 0 rfl) ?_
      refine sm_gt (ci := 2) (C := RX2) (T := TX2) (N := 8) hx hb hts inlX2 hown hK hP 23 rfl rfl 4 (by decide) wf_RX2_28 rfl dX2_take_116 ?_
      refine lv_iload hx hb dX2_take_119 (lv_at hl 4 rfl) ?_
      refine lv_iconst (v := 1) hx hb dX2_take_121 (by decide) ?_
      refine sm_zst hx hb hK hP hD hS 27 rfl true rfl C.2.2.2.2.2.1 rfl (by omega) (by decide) dX2_take_122 (fun H locs hP hD hS => ?_)
      have hP : va_P D.1 sm_cl (sm_w6 D ad P S T L M ((q, C.2).1, va_up (((q, C.2).2).1) C.2.2.2.2.2.1 ((((((((q, C.2).2).2).2).2).2).2).2), va_up ((((q, C.2).2).2).1) C.2.2.2.2.2.1 (C.2.2.2.2.2.2.2 + min k (40 - C.2.2.2.2.2.2.2)), va_up (((((q, C.2).2).2).2).1) C.2.2.2.2.2.1 x, va_up ((((((q, C.2).2).2).2).2).1) C.2.2.2.2.2.1 true, (((((q, C.2).2).2).2).2).2) cp ph fo ne no rc wr) H := hP
      have hD : va_D (sm_ad (sm_w6 D ad P S T L M C cp ph fo ne no rc wr)) (sm_w6 D ad P S T L M ((q, C.2).1, va_up (((q, C.2).2).1) C.2.2.2.2.2.1 ((((((((q, C.2).2).2).2).2).2).2).2), va_up ((((q, C.2).2).2).1) C.2.2.2.2.2.1 (C.2.2.2.2.2.2.2 + min k (40 - C.2.2.2.2.2.2.2)), va_up (((((q, C.2).2).2).2).1) C.2.2.2.2.2.1 x, va_up ((((((q, C.2).2).2).2).2).1) C.2.2.2.2.2.1 true, (((((q, C.2).2).2).2).2).2) cp ph fo ne no rc wr) := hD
      refine lv_aload_n hx hb dX2_take_123 rfl (lv_at hl 0 rfl) ?_
      refine lv_dup hx hb dX2_take_124 rfl ?_
      refine sm_gt (ci := 2) (C := RX2) (T := TX2) (N := 8) hx hb hts inlX2 hown hK hP 23 rfl rfl 6 (by decide) wf_RX2_36 rfl dX2_take_125 ?_
      refine lv_iconst (v := 1) hx hb dX2_take_128 (by decide) ?_
      refine lv_iadd hx hb dX2_take_129 ?_
      refine sm_re (y := nI (((((((((q, C.2).2).2).2).2).2).2).1) + 1)) (nI_1 ((((((((q, C.2).2).2).2).2).2).2).1)) ?_
      refine sm_pt (ci := 2) (C := RX2) (T := TX2) (N := 8) hx hb hts inlX2 tyX2 tyX2_ok nmX2 hown hK hP hD hS 23 rfl rfl 6 (by decide) wf_RX2_36 rfl rfl rfl (Nat.le_of_ble_eq_true rfl) dX2_take_130 (fun H locs hP hD hS => ?_)
      have hP : va_P D.1 sm_cl (sm_w6 D ad P S T L M ((q, C.2).1, va_up (((q, C.2).2).1) C.2.2.2.2.2.1 ((((((((q, C.2).2).2).2).2).2).2).2), va_up ((((q, C.2).2).2).1) C.2.2.2.2.2.1 (C.2.2.2.2.2.2.2 + min k (40 - C.2.2.2.2.2.2.2)), va_up (((((q, C.2).2).2).2).1) C.2.2.2.2.2.1 x, va_up ((((((q, C.2).2).2).2).2).1) C.2.2.2.2.2.1 true, ((((((q, C.2).2).2).2).2).2).1, ((((((((q, C.2).2).2).2).2).2).2).1) + 1, (((((((q, C.2).2).2).2).2).2).2).2) cp ph fo ne no rc wr) H := hP
      have hD : va_D (sm_ad (sm_w6 D ad P S T L M C cp ph fo ne no rc wr)) (sm_w6 D ad P S T L M ((q, C.2).1, va_up (((q, C.2).2).1) C.2.2.2.2.2.1 ((((((((q, C.2).2).2).2).2).2).2).2), va_up ((((q, C.2).2).2).1) C.2.2.2.2.2.1 (C.2.2.2.2.2.2.2 + min k (40 - C.2.2.2.2.2.2.2)), va_up (((((q, C.2).2).2).2).1) C.2.2.2.2.2.1 x, va_up ((((((q, C.2).2).2).2).2).1) C.2.2.2.2.2.1 true, ((((((q, C.2).2).2).2).2).2).1, ((((((((q, C.2).2).2).2).2).2).2).1) + 1, (((((((q, C.2).2).2).2).2).2).2).2) cp ph fo ne no rc wr) := hD
      refine lv_aload_n hx hb dX2_take_133 rfl (lv_at hl 0 rfl) ?_
      refine lv_dup hx hb dX2_take_134 rfl ?_
      refine sm_gt (ci := 2) (C := RX2) (T := TX2) (N := 8) hx hb hts inlX2 hown hK hP 23 rfl rfl 5 (by decide) wf_RX2_39 rfl dX2_take_135 ?_
      refine lv_iconst (v := 1) hx hb dX2_take_138 (by decide) ?_
      refine lv_iadd hx hb dX2_take_139 ?_
      refine sm_re (y := nI ((((((((q, C.2).2).2).2).2).2).1) + 1)) (nI_1 (((((((q, C.2).2).2).2).2).2).1)) ?_
      refine sm_pt (ci := 2) (C := RX2) (T := TX2) (N := 8) hx hb hts inlX2 tyX2 tyX2_ok nmX2 hown hK hP hD hS 23 rfl rfl 5 (by decide) wf_RX2_39 rfl rfl rfl (Nat.le_of_ble_eq_true rfl) dX2_take_140 (fun H locs hP hD hS => ?_)
      have hP : va_P D.1 sm_cl (sm_w6 D ad P S T L M ((q, C.2).1, va_up (((q, C.2).2).1) C.2.2.2.2.2.1 ((((((((q, C.2).2).2).2).2).2).2).2), va_up ((((q, C.2).2).2).1) C.2.2.2.2.2.1 (C.2.2.2.2.2.2.2 + min k (40 - C.2.2.2.2.2.2.2)), va_up (((((q, C.2).2).2).2).1) C.2.2.2.2.2.1 x, va_up ((((((q, C.2).2).2).2).2).1) C.2.2.2.2.2.1 true, (((((((q, C.2).2).2).2).2).2).1) + 1, ((((((((q, C.2).2).2).2).2).2).2).1) + 1, (((((((q, C.2).2).2).2).2).2).2).2) cp ph fo ne no rc wr) H := hP
      have hD : va_D (sm_ad (sm_w6 D ad P S T L M C cp ph fo ne no rc wr)) (sm_w6 D ad P S T L M ((q, C.2).1, va_up (((q, C.2).2).1) C.2.2.2.2.2.1 ((((((((q, C.2).2).2).2).2).2).2).2), va_up ((((q, C.2).2).2).1) C.2.2.2.2.2.1 (C.2.2.2.2.2.2.2 + min k (40 - C.2.2.2.2.2.2.2)), va_up (((((q, C.2).2).2).2).1) C.2.2.2.2.2.1 x, va_up ((((((q, C.2).2).2).2).2).1) C.2.2.2.2.2.1 true, (((((((q, C.2).2).2).2).2).2).1) + 1, ((((((((q, C.2).2).2).2).2).2).2).1) + 1, (((((((q, C.2).2).2).2).2).2).2).2) cp ph fo ne no rc wr) := hD
      refine lv_aload_n hx hb dX2_take_143 rfl (lv_at hl 0 rfl) ?_
      refine lv_iload hx hb dX2_take_144 (lv_at hl 5 rfl) ?_
      refine sm_pt (ci := 2) (C := RX2) (T := TX2) (N := 8) hx hb hts inlX2 tyX2 tyX2_ok nmX2 hown hK hP hD hS 23 rfl rfl 7 (by decide) wf_RX2_32 rfl rfl rfl (Nat.le_of_ble_eq_true rfl) dX2_take_146 (fun H locs hP hD hS => ?_)
      have hP : va_P D.1 sm_cl (sm_w6 D ad P S T L M ((q, C.2).1, va_up (((q, C.2).2).1) C.2.2.2.2.2.1 ((((((((q, C.2).2).2).2).2).2).2).2), va_up ((((q, C.2).2).2).1) C.2.2.2.2.2.1 (C.2.2.2.2.2.2.2 + min k (40 - C.2.2.2.2.2.2.2)), va_up (((((q, C.2).2).2).2).1) C.2.2.2.2.2.1 x, va_up ((((((q, C.2).2).2).2).2).1) C.2.2.2.2.2.1 true, (((((((q, C.2).2).2).2).2).2).1) + 1, ((((((((q, C.2).2).2).2).2).2).2).1) + 1, C.2.2.2.2.2.2.2 + min k (40 - C.2.2.2.2.2.2.2)) cp ph fo ne no rc wr) H := hP
      have hD : va_D (sm_ad (sm_w6 D ad P S T L M C cp ph fo ne no rc wr)) (sm_w6 D ad P S T L M ((q, C.2).1, va_up (((q, C.2).2).1) C.2.2.2.2.2.1 ((((((((q, C.2).2).2).2).2).2).2).2), va_up ((((q, C.2).2).2).1) C.2.2.2.2.2.1 (C.2.2.2.2.2.2.2 + min k (40 - C.2.2.2.2.2.2.2)), va_up (((((q, C.2).2).2).2).1) C.2.2.2.2.2.1 x, va_up ((((((q, C.2).2).2).2).2).1) C.2.2.2.2.2.1 true, (((((((q, C.2).2).2).2).2).2).1) + 1, ((((((((q, C.2).2).2).2).2).2).2).1) + 1, C.2.2.2.2.2.2.2 + min k (40 - C.2.2.2.2.2.2.2)) cp ph fo ne no rc wr) := hD
      refine lv_iload hx hb dX2_take_149 (lv_at hl 4 rfl) ?_
      exact sm_retC hC hP hD hS rfl rfl (by rw [show C.2.2.2.2.2.2.2 + min k (40 - C.2.2.2.2.2.2.2) - i = 0 by omega] at hR; have hR : q = _ := hR; subst hR; rfl) dX2_take_151
    · have c_1 := sm_Nlt (a := i) (b := C.2.2.2.2.2.2.2 + min k (40 - C.2.2.2.2.2.2.2)) (sm_nle c_1) (by omega) (by omega)
      refine lv_iload hx hb dX2_take_34 (lv_at hl 6 rfl) ?_
      have h40 : i < 40 := by omega
      refine lv_bipush (v := 40) hx hb dX2_take_36 (by decide) ?_
      refine lv_icmp_ge (tgt := 79) hx hb dX2_take_38 (by decide) (fun h => absurd h (Int32.not_le.mpr (sm_pNlt (a := i) (b := 40) h40 (by omega)))) (fun _ => ?_)
      refine lv_aload_n hx hb dX2_take_41 rfl (lv_at hl 1 rfl) ?_
      refine lv_iload hx hb dX2_take_42 (lv_at hl 6 rfl) ?_
      refine sm_cVPr (rest := []) hC hK hP (c_X3_has_s D ad P S T L M (q, C.2) cp ph fo ne no rc wr i (by omega)) qyX3_has wl_RX2_52 ⟨Nat.le_of_ble_eq_true rfl, Nat.le_of_ble_eq_true rfl⟩ 4 rfl rfl rfl hl.1 rfl (Nat.le_of_ble_eq_true rfl) dX2_take_44 ⟨Nat.le_of_ble_eq_true rfl, Nat.le_of_ble_eq_true rfl⟩ ?_
      refine lv_if_eq (tgt := 73) hx hb dX2_take_47 (by decide) (fun c_2 => ?_) (fun c_2 => ?_)
      · have c_2 := sm_b0 c_2
        refine lv_iinc (v := nI (i + 1)) (lv' := [(6, .int (nI (i + 1))), (0, .ref (ad 23)), (1, .ref (ad 4)), (2, .int (nI k)), (3, .int x), (4, .int (nI C.2.2.2.2.2.1)), (5, .int (nI (C.2.2.2.2.2.2.2 + min k (40 - C.2.2.2.2.2.2.2))))]) hx hb dX2_take_73 hl (k := 6) rfl (nI_1 i) (by decide) rfl (fun ls hl => ?_)
        refine lv_goto (tgt := 27) hx hb dX2_take_76 (by decide) ?_
        exact ih _ (by omega) (i + 1) q _ _ ls rfl (by omega) (by rw [sm_tkS (by omega), if_neg (by rw [c_2]; decide)] at hR; exact hR) hP hD hS (lv_sub hl [1, 2, 3, 4, 5, 6, 0] rfl)
      · have c_2 := sm_b1 c_2
        refine lv_aload_n hx hb dX2_take_50 rfl (lv_at hl 0 rfl) ?_
        refine sm_gt (ci := 2) (C := RX2) (T := TX2) (N := 8) hx hb hts inlX2 hown hK hP 23 rfl rfl 0 (by decide) wf_RX2_12 rfl dX2_take_51 ?_
        refine lv_iload hx hb dX2_take_54 (lv_at hl 6 rfl) ?_
        refine lv_aload_n hx hb dX2_take_56 rfl (lv_at hl 1 rfl) ?_
        refine lv_iload hx hb dX2_take_57 (lv_at hl 6 rfl) ?_
        refine lv_iconst (v := 0) hx hb dX2_take_59 (by decide) ?_
        refine sm_cVPr (rest := [.int (nI i), .ref (ad 28)]) hC hK hP (c_X3_number_s D ad P S T L M (q, C.2) cp ph fo ne no rc wr i (by omega) false) qyX3_number wl_RX2_56 ⟨Nat.le_of_ble_eq_true rfl, Nat.le_of_ble_eq_true rfl⟩ 4 rfl rfl rfl hl.1 rfl (Nat.le_of_ble_eq_true rfl) dX2_take_60 ⟨Nat.le_of_ble_eq_true rfl, Nat.le_of_ble_eq_true rfl⟩ ?_
        refine sm_re (y := S.2.1 i) rfl ?_
        refine lv_aload_n hx hb dX2_take_63 rfl (lv_at hl 1 rfl) ?_
        refine lv_iload hx hb dX2_take_64 (lv_at hl 6 rfl) ?_
        refine lv_iconst (v := 1) hx hb dX2_take_66 (by decide) ?_
        refine sm_cVPr (rest := [.int (S.2.1 i), .int (nI i), .ref (ad 28)]) hC hK hP (c_X3_number_s D ad P S T L M (q, C.2) cp ph fo ne no rc wr i (by omega) true) qyX3_number wl_RX2_56 ⟨Nat.le_of_ble_eq_true rfl, Nat.le_of_ble_eq_true rfl⟩ 4 rfl rfl rfl hl.1 rfl (Nat.le_of_ble_eq_true rfl) dX2_take_67 ⟨Nat.le_of_ble_eq_true rfl, Nat.le_of_ble_eq_true rfl⟩ ?_
        refine sm_re (y := S.2.2 i) rfl ?_
        refine sm_cVC (rest := []) hC hK hP hD hS hZ (c_X3_put_c D ad P S T L M (q, C.2) cp ph fo ne no rc wr i (by omega) (S.2.1 i) (S.2.2 i)) qyX3_put wl_RX2_60 ⟨Nat.le_of_ble_eq_true rfl, Nat.le_of_ble_eq_true rfl⟩ 28 rfl rfl rfl hl.1 rfl (Nat.le_of_ble_eq_true rfl) dX2_take_70 ⟨Nat.le_of_ble_eq_true rfl, Nat.le_of_ble_eq_true rfl⟩ (fun w1 H locs hB hP hD hS => ?_)
        subst hB
        refine lv_iinc (v := nI (i + 1)) (lv' := [(6, .int (nI (i + 1))), (0, .ref (ad 23)), (1, .ref (ad 4)), (2, .int (nI k)), (3, .int x), (4, .int (nI C.2.2.2.2.2.1)), (5, .int (nI (C.2.2.2.2.2.2.2 + min k (40 - C.2.2.2.2.2.2.2))))]) hx hb dX2_take_73 hl (k := 6) rfl (nI_1 i) (by decide) rfl (fun ls hl => ?_)
        refine lv_goto (tgt := 27) hx hb dX2_take_76 (by decide) ?_
        exact ih _ (by omega) (i + 1) (sm_putS q i (S.2.1 i) (S.2.2 i)) _ _ ls rfl (by omega) (by rw [sm_tkS (by omega), if_pos c_2] at hR; exact hR) hP hD hS (lv_sub hl [1, 2, 3, 4, 5, 6, 0] rfl)

end
