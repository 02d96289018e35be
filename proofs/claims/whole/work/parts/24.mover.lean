/-! StoreMover, what is private -/
section
def sm_isRg (x y : Int32) : Bool := if sm_isKey x = true then (if sm_isKey y = true then (if y < x then false else true) else false) else false
def sm_lv (ph : Int32) : Bool := if ph = 116 then true else if ph = 100 then true else false
def sm_live (ph : Int32) (T : sm_Tg) (S : sm_Rw) (k : Nat) : Bool := if sm_lv ph = true then sm_kd T k 1 else S.1 k
def sm_lf (ph : Int32) (L M : sm_Lg) : Bool := if ph = 105 then false else if ph = 116 then sm_full M else sm_full L
def sm_prd (P : sm_Sp) (T : sm_Tg) (k : Nat) (a b x : Int32) : sm_Tg := if sm_later T k x = true then (if (sm_tr P (a, b)).1 = true then sm_entT T k (sm_tr P (a, b)).2.1 (sm_tr P (a, b)).2.2 x else sm_hldT T k 2 x) else T
def sm_fo1 (P : sm_Sp) (L : sm_Lg) (T : sm_Tg) (i : Nat) : sm_Tg := if L.2.2.1 i = true then (if sm_later T (L.2.1 i) (nI (i + 1)) = true then sm_hldT T (L.2.1 i) 3 (nI (i + 1)) else T) else sm_prd P T (L.2.1 i) (L.2.2.2.1 i) (L.2.2.2.2 i) (nI (i + 1))
def sm_foG (P : sm_Sp) (L : sm_Lg) : Nat → sm_Tg → Nat → sm_Tg
  | 0, t, _ => t
  | n + 1, t, i => sm_foG P L n (sm_fo1 P L t i) (i + 1)
theorem sm_foS {P : sm_Sp} {L : sm_Lg} {n i j : Nat} {t : sm_Tg} (h : i < n) : sm_foG P L (n - i) t (j + i) = sm_foG P L (n - (i + 1)) (sm_fo1 P L t (j + i)) (j + (i + 1)) := by
  obtain ⟨k, hk⟩ : ∃ k, n - i = k + 1 := ⟨n - i - 1, by omega⟩
  rw [hk, show n - (i + 1) = k by omega]
  rfl
def sm_tn (P : sm_Sp) (S : sm_Rw) (k : Nat) : Bool := if S.1 k = true then (sm_tr P (S.2.1 k, S.2.2 k)).1 else false
def sm_tnc (P : sm_Sp) (S : sm_Rw) (k : Nat) (c : sm_Cp) : sm_Cp := if S.1 k = true then (sm_tr P (S.2.1 k, S.2.2 k)).2 else c
theorem sm_tnS {P : sm_Sp} {S : sm_Rw} {k : Nat} (h : sm_tn P S k = true) : S.1 k = true := by
  unfold sm_tn at h
  split at h
  · assumption
  · exact absurd h (by decide)
def sm_tb (P : sm_Sp) (T : sm_Tg) (k : Nat) : Bool := if sm_kd T k 1 = true then (sm_bk P (T.2.2.1 k, T.2.2.2 k)).1 else false
def sm_tbc (P : sm_Sp) (T : sm_Tg) (k : Nat) (c : sm_Cp) : sm_Cp := if sm_kd T k 1 = true then (sm_bk P (T.2.2.1 k, T.2.2.2 k)).2 else c
def sm_ccG (P : sm_Sp) (T : sm_Tg) (M : sm_Lg) : Nat → Nat → Bool
  | 0, _ => true
  | n + 1, i => if sm_kd T (M.2.1 i) 1 = true then (if sm_tb P T (M.2.1 i) = true then sm_ccG P T M n (i + 1) else false) else sm_ccG P T M n (i + 1)
theorem sm_ccS {P : sm_Sp} {T : sm_Tg} {M : sm_Lg} {n i : Nat} (h : i < n) : sm_ccG P T M (n - i) i = if sm_kd T (M.2.1 i) 1 = true then (if sm_tb P T (M.2.1 i) = true then sm_ccG P T M (n - (i + 1)) (i + 1) else false) else sm_ccG P T M (n - (i + 1)) (i + 1) := by
  obtain ⟨k, hk⟩ : ∃ k, n - i = k + 1 := ⟨n - i - 1, by omega⟩
  rw [hk, show n - (i + 1) = k by omega]
  rfl
def sm_cbR (P : sm_Sp) (T : sm_Tg) (S : sm_Rw) (k : Nat) : Bool := if sm_kd T k 1 = true then (if sm_tb P T k = true then (if sm_hold S k (sm_bk P (T.2.2.1 k, T.2.2.2 k)).2.1 (sm_bk P (T.2.2.1 k, T.2.2.2 k)).2.2 = true then false else true) else false) else S.1 k
def sm_cbS (P : sm_Sp) (T : sm_Tg) (S : sm_Rw) (k : Nat) : sm_Rw := if sm_kd T k 1 = true then (if sm_tb P T k = true then sm_putS S k (sm_bk P (T.2.2.1 k, T.2.2.2 k)).2.1 (sm_bk P (T.2.2.1 k, T.2.2.2 k)).2.2 else S) else sm_rmS S k
def sm_eac (T : sm_Tg) (k : Nat) (c : sm_Cp) : Bool := if T.2.2.1 k = c.1 then (if T.2.2.2 k = c.2 then true else false) else false
def sm_stF (P : sm_Sp) (S : sm_Rw) (T : sm_Tg) (k : Nat) : Int32 := if sm_kd T k 2 = true then 97 else if S.1 k = true then (if sm_kd T k 1 = true then (if sm_tn P S k = true then (if sm_eac T k (sm_tr P (S.2.1 k, S.2.2 k)).2 = true then 101 else 117) else 117) else 115) else (if sm_kd T k 1 = true then 116 else 110)
def sm_sk (k : Nat) (p q : Int32) : Int64 := 1000 * (nI k).toInt64 + 31 * p.toInt64 + q.toInt64 + 1
def sm_seF (T : sm_Tg) (k : Nat) : Int64 := if sm_kd T k 1 = true then sm_sk k (T.2.2.1 k) (T.2.2.2 k) else 0
def sm_srF (P : sm_Sp) (S : sm_Rw) (k : Nat) : Int64 := if sm_tn P S k = true then sm_sk k (sm_tr P (S.2.1 k, S.2.2 k)).2.1 (sm_tr P (S.2.1 k, S.2.2 k)).2.2 else 0
def sm_sf (z : Bool) (P : sm_Sp) (S : sm_Rw) (T : sm_Tg) (i : Nat) : Int64 := if z = true then sm_seF T i else sm_srF P S i
theorem sm_sft {z : Bool} {P : sm_Sp} {S : sm_Rw} {T : sm_Tg} {i : Nat} (h : z = true) : sm_sf z P S T i = sm_seF T i := if_pos h
theorem sm_sff {z : Bool} {P : sm_Sp} {S : sm_Rw} {T : sm_Tg} {i : Nat} (h : z = false) : sm_sf z P S T i = sm_srF P S i := if_neg (by rw [h]; decide)
def sm_smG (f : Nat → Int64) : Nat → Nat → Int64 → Int64
  | 0, _, c => c
  | n + 1, i, c => sm_smG f n (i + 1) (c + f i)
theorem sm_smS {f : Nat → Int64} {n i : Nat} {c : Int64} (h : i < n) : sm_smG f (n - i) i c = sm_smG f (n - (i + 1)) (i + 1) (c + f i) := by
  obtain ⟨k, hk⟩ : ∃ k, n - i = k + 1 := ⟨n - i - 1, by omega⟩
  rw [hk, show n - (i + 1) = k by omega]
  rfl
def sm_sm (z : Bool) (P : sm_Sp) (S : sm_Rw) (T : sm_Tg) (lo hi : Nat) : Int64 := sm_smG (sm_sf z P S T) (hi + 1 - lo) lo 0
def sm_ss (P : sm_Sp) (S : sm_Rw) (T : sm_Tg) (lo hi : Nat) : Bool := if sm_sm true P S T lo hi = sm_sm false P S T lo hi then true else false
variable {l : Launch} (D : sm_G) (ad : Nat → Nat) (P : sm_Sp) (S : sm_Rw) (T : sm_Tg) (L M : sm_Lg) (C : sm_Pt) (cp : sm_Cp) (ph : Int32) (fo ne no rc : Nat) (wr : va_W)
set_option maxHeartbeats 1000000 in
set_option maxRecDepth 100000 in
theorem c_X6_checkKey (k : Nat) (hk : k < 40) : sm_MP l yX6_checkKey cX6_checkKey 1 none 6 82 [.int (nI k)] D (sm_w6 D ad P S T L M C cp ph fo ne no rc wr) none := by
  refine sm_met (own := RX6) (by decide) rfl (Nat.le_of_ble_eq_true rfl) ?_
  intro p e s m below meth c ls hC hv hl
  obtain ⟨hx, hb, hml, hr, hown, hlk, hts⟩ := id hC
  obtain ⟨hP, hK⟩ := hv
  have hl : lv_has ls 1 [(0, .int (nI k))] := hl
  refine lv_iload_n hx hb dX6_checkKey_0 rfl (lv_at hl 0 rfl) ?_
  refine sm_cSPr (rest := []) hC hK hP (c_X6_isKey D ad P S T L M C cp ph fo ne no rc wr k (by omega)) qyX6_isKey wl_RX6_156 ⟨Nat.le_of_ble_eq_true rfl, Nat.le_of_ble_eq_true rfl⟩ rfl hl.1 rfl (Nat.le_of_ble_eq_true rfl) dX6_checkKey_1 ⟨Nat.le_of_ble_eq_true rfl, Nat.le_of_ble_eq_true rfl⟩ ?_
  refine lv_if_ne (tgt := 18) hx hb dX6_checkKey_4 (by decide) (fun _ => ?_) (fun h => absurd h (by decide))
  exact sm_vretP hC (rfl)  dX6_checkKey_18

set_option maxHeartbeats 1000000 in
set_option maxRecDepth 100000 in
theorem c_X6_checkKey_i (hlt : l.stackTraces = false) (x : Int32) (hbk : sm_isKey x = false) : sm_MX l yX6_checkKey cX6_checkKey 1 none 6 82 [.int x] D (sm_w6 D ad P S T L M C cp ph fo ne no rc wr) (fun w => w = sm_w6 D ad P S T L M C cp ph fo ne no rc wr) (.inl sm_IA) := by
  refine sm_metX (own := RX6) (by decide) rfl (Nat.le_of_ble_eq_true rfl) ?_
  intro p e s m below meth c ls hC htab hv hl
  obtain ⟨hx, hb, hml, hr, hown, hlk, hts⟩ := id hC
  obtain ⟨⟨hP, hK⟩, hD, hZ⟩ := hv
  have hS : va_S (sm_ad (sm_w6 D ad P S T L M C cp ph fo ne no rc wr)) s.heap s.heap [] := va_S.rf
  have hl : lv_has ls 1 [(0, .int x)] := hl
  refine lv_iload_n hx hb dX6_checkKey_0 rfl (lv_at hl 0 rfl) ?_
  refine sm_cSPr (rest := []) hC hK hP (c_X6_isKey_i D ad P S T L M C cp ph fo ne no rc wr x) qyX6_isKey wl_RX6_156 ⟨Nat.le_of_ble_eq_true rfl, Nat.le_of_ble_eq_true rfl⟩ rfl hl.1 rfl (Nat.le_of_ble_eq_true rfl) dX6_checkKey_1 ⟨Nat.le_of_ble_eq_true rfl, Nat.le_of_ble_eq_true rfl⟩ ?_
  refine lv_if_ne (tgt := 18) hx hb dX6_checkKey_4 (by decide) (fun h => absurd h (by rw [hbk]; decide)) (fun _ => ?_)
  exact sm_throwW hlt hC htab hK hZ hP hD hS rfl (by exact rfl) hl.1 sm_xIA (List.mem_of_getElem? (i := 25) rfl) dX6_checkKey_7 dX6_checkKey_10 dX6_checkKey_11 dX6_checkKey_14 dX6_checkKey_17 ⟨Nat.lt_of_lt_of_le (by decide) (Nat.le_of_ble_eq_true (rfl : Nat.ble 6 _ = true)), Nat.le_of_ble_eq_true rfl, Nat.le_of_ble_eq_true rfl, Nat.le_of_ble_eq_true rfl⟩ (Nat.le_of_ble_eq_true rfl) (Nat.le_of_ble_eq_true rfl)

set_option maxHeartbeats 1000000 in
set_option maxRecDepth 100000 in
theorem c_X6_checkRange (y z : Nat) (hy : y < 40) (hz : z < 40) (hyz : ¬ z < y) : sm_MP l yX6_checkRange cX6_checkRange 2 none 6 82 [.int (nI y), .int (nI z)] D (sm_w6 D ad P S T L M C cp ph fo ne no rc wr) none := by
  refine sm_met (own := RX6) (by decide) rfl (Nat.le_of_ble_eq_true rfl) ?_
  intro p e s m below meth c ls hC hv hl
  obtain ⟨hx, hb, hml, hr, hown, hlk, hts⟩ := id hC
  obtain ⟨hP, hK⟩ := hv
  have hl : lv_has ls 2 [(0, .int (nI y)), (1, .int (nI z))] := hl
  refine lv_iload_n hx hb dX6_checkRange_0 rfl (lv_at hl 0 rfl) ?_
  refine sm_cSPr (rest := []) hC hK hP (c_X6_isKey D ad P S T L M C cp ph fo ne no rc wr y (by omega)) qyX6_isKey wl_RX6_156 ⟨Nat.le_of_ble_eq_true rfl, Nat.le_of_ble_eq_true rfl⟩ rfl hl.1 rfl (Nat.le_of_ble_eq_true rfl) dX6_checkRange_1 ⟨Nat.le_of_ble_eq_true rfl, Nat.le_of_ble_eq_true rfl⟩ ?_
  refine lv_if_eq (tgt := 19) hx hb dX6_checkRange_4 (by decide) (fun h => absurd h (by decide)) (fun _ => ?_)
  refine lv_iload_n hx hb dX6_checkRange_7 rfl (lv_at hl 1 rfl) ?_
  refine sm_cSPr (rest := []) hC hK hP (c_X6_isKey D ad P S T L M C cp ph fo ne no rc wr z (by omega)) qyX6_isKey wl_RX6_156 ⟨Nat.le_of_ble_eq_true rfl, Nat.le_of_ble_eq_true rfl⟩ rfl hl.1 rfl (Nat.le_of_ble_eq_true rfl) dX6_checkRange_8 ⟨Nat.le_of_ble_eq_true rfl, Nat.le_of_ble_eq_true rfl⟩ ?_
  refine lv_if_eq (tgt := 19) hx hb dX6_checkRange_11 (by decide) (fun h => absurd h (by decide)) (fun _ => ?_)
  refine lv_iload_n hx hb dX6_checkRange_14 rfl (lv_at hl 0 rfl) ?_
  refine lv_iload_n hx hb dX6_checkRange_15 rfl (lv_at hl 1 rfl) ?_
  refine lv_icmp_le (tgt := 30) hx hb dX6_checkRange_16 (by decide) (fun _ => ?_) (fun h => absurd (Int32.not_lt.mp (sm_pNnl (a := z) (b := y) hyz (by omega) (by omega))) h)
  exact sm_vretP hC (rfl)  dX6_checkRange_30

set_option maxHeartbeats 1000000 in
set_option maxRecDepth 100000 in
theorem c_X6_checkRange_i (hlt : l.stackTraces = false) (x y : Int32) (hbk : sm_isRg x y = false) : sm_MX l yX6_checkRange cX6_checkRange 2 none 6 82 [.int x, .int y] D (sm_w6 D ad P S T L M C cp ph fo ne no rc wr) (fun w => w = sm_w6 D ad P S T L M C cp ph fo ne no rc wr) (.inl sm_IA) := by
  refine sm_metX (own := RX6) (by decide) rfl (Nat.le_of_ble_eq_true rfl) ?_
  intro p e s m below meth c ls hC htab hv hl
  obtain ⟨hx, hb, hml, hr, hown, hlk, hts⟩ := id hC
  obtain ⟨⟨hP, hK⟩, hD, hZ⟩ := hv
  have hS : va_S (sm_ad (sm_w6 D ad P S T L M C cp ph fo ne no rc wr)) s.heap s.heap [] := va_S.rf
  have hl : lv_has ls 2 [(0, .int x), (1, .int y)] := hl
  refine lv_iload_n hx hb dX6_checkRange_0 rfl (lv_at hl 0 rfl) ?_
  refine sm_cSPr (rest := []) hC hK hP (c_X6_isKey_i D ad P S T L M C cp ph fo ne no rc wr x) qyX6_isKey wl_RX6_156 ⟨Nat.le_of_ble_eq_true rfl, Nat.le_of_ble_eq_true rfl⟩ rfl hl.1 rfl (Nat.le_of_ble_eq_true rfl) dX6_checkRange_1 ⟨Nat.le_of_ble_eq_true rfl, Nat.le_of_ble_eq_true rfl⟩ ?_
  refine lv_if_eq (tgt := 19) hx hb dX6_checkRange_4 (by decide) (fun c_1 => ?_) (fun c_1 => ?_)
  · have c_1 := sm_b0 c_1
    exact sm_throwW hlt hC htab hK hZ hP hD hS (rfl) (by exact rfl) hl.1 sm_xIA (List.mem_of_getElem? (i := 26) rfl) dX6_checkRange_19 dX6_checkRange_22 dX6_checkRange_23 dX6_checkRange_26 dX6_checkRange_29 ⟨Nat.lt_of_lt_of_le (by decide) (Nat.le_of_ble_eq_true (rfl : Nat.ble 6 _ = true)), Nat.le_of_ble_eq_true rfl, Nat.le_of_ble_eq_true rfl, Nat.le_of_ble_eq_true rfl⟩ (Nat.le_of_ble_eq_true rfl) (Nat.le_of_ble_eq_true rfl)
  · have c_1 := sm_b1 c_1
    refine lv_iload_n hx hb dX6_checkRange_7 rfl (lv_at hl 1 rfl) ?_
    refine sm_cSPr (rest := []) hC hK hP (c_X6_isKey_i D ad P S T L M C cp ph fo ne no rc wr y) qyX6_isKey wl_RX6_156 ⟨Nat.le_of_ble_eq_true rfl, Nat.le_of_ble_eq_true rfl⟩ rfl hl.1 rfl (Nat.le_of_ble_eq_true rfl) dX6_checkRange_8 ⟨Nat.le_of_ble_eq_true rfl, Nat.le_of_ble_eq_true rfl⟩ ?_
    refine lv_if_eq (tgt := 19) hx hb dX6_checkRange_11 (by decide) (fun c_2 => ?_) (fun c_2 => ?_)
    · have c_2 := sm_b0 c_2
      exact sm_throwW hlt hC htab hK hZ hP hD hS (rfl) (by exact rfl) hl.1 sm_xIA (List.mem_of_getElem? (i := 26) rfl) dX6_checkRange_19 dX6_checkRange_22 dX6_checkRange_23 dX6_checkRange_26 dX6_checkRange_29 ⟨Nat.lt_of_lt_of_le (by decide) (Nat.le_of_ble_eq_true (rfl : Nat.ble 6 _ = true)), Nat.le_of_ble_eq_true rfl, Nat.le_of_ble_eq_true rfl, Nat.le_of_ble_eq_true rfl⟩ (Nat.le_of_ble_eq_true rfl) (Nat.le_of_ble_eq_true rfl)
    · have c_2 := sm_b1 c_2
      refine lv_iload_n hx hb dX6_checkRange_14 rfl (lv_at hl 0 rfl) ?_
      refine lv_iload_n hx hb dX6_checkRange_15 rfl (lv_at hl 1 rfl) ?_
      refine lv_icmp_le (tgt := 30) hx hb dX6_checkRange_16 (by decide) (fun c_3 => ?_) (fun c_3 => ?_)
      · have c_3 := sm_nl c_3
        exact sm_vretX hC hP hD hS (by simp [sm_isRg, c_1, c_2, c_3] at hbk)  (by exact rfl) (Nat.le_of_ble_eq_true rfl) (Nat.le_of_ble_eq_true rfl) dX6_checkRange_30
      · have c_3 := sm_nle c_3
        exact sm_throwW hlt hC htab hK hZ hP hD hS (rfl) (by exact rfl) hl.1 sm_xIA (List.mem_of_getElem? (i := 26) rfl) dX6_checkRange_19 dX6_checkRange_22 dX6_checkRange_23 dX6_checkRange_26 dX6_checkRange_29 ⟨Nat.lt_of_lt_of_le (by decide) (Nat.le_of_ble_eq_true (rfl : Nat.ble 6 _ = true)), Nat.le_of_ble_eq_true rfl, Nat.le_of_ble_eq_true rfl, Nat.le_of_ble_eq_true rfl⟩ (Nat.le_of_ble_eq_true rfl) (Nat.le_of_ble_eq_true rfl)

set_option maxHeartbeats 1000000 in
set_option maxRecDepth 100000 in
theorem c_X6_isTargetLive  : sm_MP l yX6_isTargetLive cX6_isTargetLive 1 (some .boolean) 0 0 [.ref (ad 0)] D (sm_w6 D ad P S T L M C cp ph fo ne no rc wr) (some (.int (sm_b (sm_lv ph)))) := by
  refine sm_met (own := RX6) (by decide) rfl (Nat.le_of_ble_eq_true rfl) ?_
  intro p e s m below meth c ls hC hv hl
  obtain ⟨hx, hb, hml, hr, hown, hlk, hts⟩ := id hC
  obtain ⟨hP, hK⟩ := hv
  have hl : lv_has ls 1 [(0, .ref (ad 0))] := hl
  refine lv_aload_n hx hb dX6_isTargetLive_0 rfl (lv_at hl 0 rfl) ?_
  refine sm_gt (ci := 6) (C := RX6) (T := TX6) (N := 12) hx hb hts inlX6 hown hK hP 0 rfl rfl 7 (by decide) wf_RX6_54 rfl dX6_isTargetLive_1 ?_
  refine lv_bipush (v := 116) hx hb dX6_isTargetLive_4 (by decide) ?_
  refine lv_icmp_eq (tgt := 18) hx hb dX6_isTargetLive_6 (by decide) (fun c_1 => ?_) (fun c_1 => ?_)
  · have c_1_ := c_1
    refine lv_iconst (v := 1) hx hb dX6_isTargetLive_18 (by decide) ?_
    refine lv_goto (tgt := 23) hx hb dX6_isTargetLive_19 (by decide) ?_
    exact sm_retP hC (by first | rfl | (simp [sm_lv, sm_b, c_1]; done) | (simp [sm_lv, sm_b] at c_1; simp [sm_lv, sm_b, c_1]; done) | (simp_all [sm_lv, sm_b]; done)) (by decide) dX6_isTargetLive_23
  · have c_1_ := c_1
    refine lv_aload_n hx hb dX6_isTargetLive_9 rfl (lv_at hl 0 rfl) ?_
    refine sm_gt (ci := 6) (C := RX6) (T := TX6) (N := 12) hx hb hts inlX6 hown hK hP 0 rfl rfl 7 (by decide) wf_RX6_54 rfl dX6_isTargetLive_10 ?_
    refine lv_bipush (v := 100) hx hb dX6_isTargetLive_13 (by decide) ?_
    refine lv_icmp_ne (tgt := 22) hx hb dX6_isTargetLive_15 (by decide) (fun c_2 => ?_) (fun c_2 => ?_)
    · have c_2_ := c_2
      refine lv_iconst (v := 0) hx hb dX6_isTargetLive_22 (by decide) ?_
      exact sm_retP hC (by first | rfl | (simp [sm_lv, sm_b, c_1, c_2]; done) | (simp [sm_lv, sm_b] at c_1 c_2; simp [sm_lv, sm_b, c_1, c_2]; done) | (simp_all [sm_lv, sm_b]; done)) (by decide) dX6_isTargetLive_23
    · have c_2_ := c_2
      refine lv_iconst (v := 1) hx hb dX6_isTargetLive_18 (by decide) ?_
      refine lv_goto (tgt := 23) hx hb dX6_isTargetLive_19 (by decide) ?_
      exact sm_retP hC (by first | rfl | (simp [sm_lv, sm_b, c_1, c_2]; done) | (simp [sm_lv, sm_b] at c_1 c_2; simp [sm_lv, sm_b, c_1, c_2]; done) | (simp_all [sm_lv, sm_b]; done)) (by decide) dX6_isTargetLive_23

set_option maxHeartbeats 1000000 in
set_option maxRecDepth 100000 in
theorem c_X6_isLive (k : Nat) (hk : k < 40) : sm_MP l yX6_isLive cX6_isLive 2 (some .boolean) 2 42 [.ref (ad 0), .int (nI k)] D (sm_w6 D ad P S T L M C cp ph fo ne no rc wr) (some (.int (sm_b (sm_live ph T S k)))) := by
  refine sm_met (own := RX6) (by decide) rfl (Nat.le_of_ble_eq_true rfl) ?_
  intro p e s m below meth c ls hC hv hl
  obtain ⟨hx, hb, hml, hr, hown, hlk, hts⟩ := id hC
  obtain ⟨hP, hK⟩ := hv
  have hl : lv_has ls 2 [(0, .ref (ad 0)), (1, .int (nI k))] := hl
  refine lv_aload_n hx hb dX6_isLive_0 rfl (lv_at hl 0 rfl) ?_
  refine sm_cVPr (rest := []) hC hK hP (c_X6_isTargetLive D ad P S T L M C cp ph fo ne no rc wr ) qyX6_isTargetLive wl_RX6_153 ⟨Nat.le_of_ble_eq_true rfl, Nat.le_of_ble_eq_true rfl⟩ 0 rfl rfl rfl hl.1 rfl (Nat.le_of_ble_eq_true rfl) dX6_isLive_1 ⟨Nat.le_of_ble_eq_true rfl, Nat.le_of_ble_eq_true rfl⟩ ?_
  refine lv_if_eq (tgt := 18) hx hb dX6_isLive_4 (by decide) (fun c_1 => ?_) (fun c_1 => ?_)
  · have c_1 := sm_b0 c_1
    refine lv_aload_n hx hb dX6_isLive_18 rfl (lv_at hl 0 rfl) ?_
    refine sm_gt (ci := 6) (C := RX6) (T := TX6) (N := 12) hx hb hts inlX6 hown hK hP 0 rfl rfl 1 (by decide) wf_RX6_19 rfl dX6_isLive_19 ?_
    refine lv_iload_n hx hb dX6_isLive_22 rfl (lv_at hl 1 rfl) ?_
    refine sm_cVPr (rest := []) hC hK hP (c_X3_has_s D ad P S T L M C cp ph fo ne no rc wr k (by omega)) qyX3_has wl_RX6_264 ⟨Nat.le_of_ble_eq_true rfl, Nat.le_of_ble_eq_true rfl⟩ 4 rfl rfl rfl hl.1 rfl (Nat.le_of_ble_eq_true rfl) dX6_isLive_23 ⟨Nat.le_of_ble_eq_true rfl, Nat.le_of_ble_eq_true rfl⟩ ?_
    exact sm_retP hC (by first | rfl | (simp [sm_live, c_1]; done) | (simp [sm_live] at c_1; simp [sm_live, c_1]; done) | (simp_all [sm_live]; done)) (sm_nb _) dX6_isLive_26
  · have c_1 := sm_b1 c_1
    refine lv_aload_n hx hb dX6_isLive_7 rfl (lv_at hl 0 rfl) ?_
    refine sm_gt (ci := 6) (C := RX6) (T := TX6) (N := 12) hx hb hts inlX6 hown hK hP 0 rfl rfl 2 (by decide) wf_RX6_26 rfl dX6_isLive_8 ?_
    refine lv_iload_n hx hb dX6_isLive_11 rfl (lv_at hl 1 rfl) ?_
    refine sm_cVPr (rest := []) hC hK hP (c_X5_hasEntry D ad P S T L M C cp ph fo ne no rc wr k (by omega)) qyX5_hasEntry wl_RX6_277 ⟨Nat.le_of_ble_eq_true rfl, Nat.le_of_ble_eq_true rfl⟩ 8 rfl rfl rfl hl.1 rfl (Nat.le_of_ble_eq_true rfl) dX6_isLive_12 ⟨Nat.le_of_ble_eq_true rfl, Nat.le_of_ble_eq_true rfl⟩ ?_
    refine lv_goto (tgt := 26) hx hb dX6_isLive_15 (by decide) ?_
    exact sm_retP hC (by first | rfl | (simp [sm_live, c_1]; done) | (simp [sm_live] at c_1; simp [sm_live, c_1]; done) | (simp_all [sm_live]; done)) (sm_nb _) dX6_isLive_26

set_option maxHeartbeats 1000000 in
set_option maxRecDepth 100000 in
theorem c_X6_isLogFull (hL : L.1 ≤ 120) (hM : M.1 ≤ 120) : sm_MP l yX6_isLogFull cX6_isLogFull 1 (some .boolean) 1 20 [.ref (ad 0)] D (sm_w6 D ad P S T L M C cp ph fo ne no rc wr) (some (.int (sm_b (sm_lf ph L M)))) := by
  refine sm_met (own := RX6) (by decide) rfl (Nat.le_of_ble_eq_true rfl) ?_
  intro p e s m below meth c ls hC hv hl
  obtain ⟨hx, hb, hml, hr, hown, hlk, hts⟩ := id hC
  obtain ⟨hP, hK⟩ := hv
  have hl : lv_has ls 1 [(0, .ref (ad 0))] := hl
  refine lv_aload_n hx hb dX6_isLogFull_0 rfl (lv_at hl 0 rfl) ?_
  refine sm_gt (ci := 6) (C := RX6) (T := TX6) (N := 12) hx hb hts inlX6 hown hK hP 0 rfl rfl 7 (by decide) wf_RX6_54 rfl dX6_isLogFull_1 ?_
  refine lv_bipush (v := 105) hx hb dX6_isLogFull_4 (by decide) ?_
  refine lv_icmp_ne (tgt := 11) hx hb dX6_isLogFull_6 (by decide) (fun c_1 => ?_) (fun c_1 => ?_)
  · have c_1_ := c_1
    refine lv_aload_n hx hb dX6_isLogFull_11 rfl (lv_at hl 0 rfl) ?_
    refine sm_gt (ci := 6) (C := RX6) (T := TX6) (N := 12) hx hb hts inlX6 hown hK hP 0 rfl rfl 7 (by decide) wf_RX6_54 rfl dX6_isLogFull_12 ?_
    refine lv_bipush (v := 116) hx hb dX6_isLogFull_15 (by decide) ?_
    refine lv_icmp_ne (tgt := 30) hx hb dX6_isLogFull_17 (by decide) (fun c_2 => ?_) (fun c_2 => ?_)
    · have c_2_ := c_2
      refine lv_aload_n hx hb dX6_isLogFull_30 rfl (lv_at hl 0 rfl) ?_
      refine sm_gt (ci := 6) (C := RX6) (T := TX6) (N := 12) hx hb hts inlX6 hown hK hP 0 rfl rfl 3 (by decide) wf_RX6_33 rfl dX6_isLogFull_31 ?_
      refine sm_cVPr (rest := []) hC hK hP (c_X1_isFull_f D ad P S T L M C cp ph fo ne no rc wr hL) qyX1_isFull wl_RX6_315 ⟨Nat.le_of_ble_eq_true rfl, Nat.le_of_ble_eq_true rfl⟩ 13 rfl rfl rfl hl.1 rfl (Nat.le_of_ble_eq_true rfl) dX6_isLogFull_34 ⟨Nat.le_of_ble_eq_true rfl, Nat.le_of_ble_eq_true rfl⟩ ?_
      exact sm_retP hC (by first | rfl | (simp [sm_lf, sm_b, c_1, c_2]; done) | (simp [sm_lf, sm_b] at c_1 c_2; simp [sm_lf, sm_b, c_1, c_2]; done) | (simp_all [sm_lf, sm_b]; done)) (sm_nb _) dX6_isLogFull_37
    · have c_2_ := c_2
      refine lv_aload_n hx hb dX6_isLogFull_20 rfl (lv_at hl 0 rfl) ?_
      refine sm_gt (ci := 6) (C := RX6) (T := TX6) (N := 12) hx hb hts inlX6 hown hK hP 0 rfl rfl 4 (by decide) wf_RX6_37 rfl dX6_isLogFull_21 ?_
      refine sm_cVPr (rest := []) hC hK hP (c_X1_isFull_g D ad P S T L M C cp ph fo ne no rc wr hM) qyX1_isFull wl_RX6_315 ⟨Nat.le_of_ble_eq_true rfl, Nat.le_of_ble_eq_true rfl⟩ 18 rfl rfl rfl hl.1 rfl (Nat.le_of_ble_eq_true rfl) dX6_isLogFull_24 ⟨Nat.le_of_ble_eq_true rfl, Nat.le_of_ble_eq_true rfl⟩ ?_
      refine lv_goto (tgt := 37) hx hb dX6_isLogFull_27 (by decide) ?_
      exact sm_retP hC (by first | rfl | (simp [sm_lf, sm_b, c_1, c_2]; done) | (simp [sm_lf, sm_b] at c_1 c_2; simp [sm_lf, sm_b, c_1, c_2]; done) | (simp_all [sm_lf, sm_b]; done)) (sm_nb _) dX6_isLogFull_37
  · have c_1_ := c_1
    refine lv_iconst (v := 0) hx hb dX6_isLogFull_9 (by decide) ?_
    exact sm_retP hC (by first | rfl | (simp [sm_lf, sm_b, c_1]; done) | (simp [sm_lf, sm_b] at c_1; simp [sm_lf, sm_b, c_1]; done) | (simp_all [sm_lf, sm_b]; done)) (by decide) dX6_isLogFull_10

set_option maxHeartbeats 1000000 in
set_option maxRecDepth 100000 in
theorem c_X6_putRowDown (k : Nat) (hk : k < 40) (a b x : Int32) (hP6 : P.1 ≤ 6) : sm_MC l yX6_putRowDown cX6_putRowDown 5 (some .boolean) 3 66 [.ref (ad 0), .int (nI k), .int a, .int b, .int x] D (sm_w6 D ad P S T L M C cp ph fo ne no rc wr) (fun w => ∃ (cp' : sm_Cp), w = sm_w6 D ad P S (sm_prd P T k a b x) L M C (cp') ph fo ne no rc wr) (some (.int (sm_b (sm_later T k x)))) := by
  refine sm_met (own := RX6) (by decide) rfl (Nat.le_of_ble_eq_true rfl) ?_
  intro p e s m below meth c ls hC hv hl
  obtain ⟨hx, hb, hml, hr, hown, hlk, hts⟩ := id hC
  obtain ⟨⟨hP, hK⟩, hD, hZ⟩ := hv
  have hS : va_S (sm_ad (sm_w6 D ad P S T L M C cp ph fo ne no rc wr)) s.heap s.heap [] := va_S.rf
  have hl : lv_has ls 5 [(0, .ref (ad 0)), (1, .int (nI k)), (2, .int a), (3, .int b), (4, .int x)] := hl
  refine lv_aload_n hx hb dX6_putRowDown_0 rfl (lv_at hl 0 rfl) ?_
  refine sm_gt (ci := 6) (C := RX6) (T := TX6) (N := 12) hx hb hts inlX6 hown hK hP 0 rfl rfl 2 (by decide) wf_RX6_26 rfl dX6_putRowDown_1 ?_
  refine lv_iload_n hx hb dX6_putRowDown_4 rfl (lv_at hl 1 rfl) ?_
  refine lv_iload hx hb dX6_putRowDown_5 (lv_at hl 4 rfl) ?_
  refine sm_cVPr (rest := []) hC hK hP (c_X5_givesWay D ad P S T L M C cp ph fo ne no rc wr k (by omega) x) qyX5_givesWay wl_RX6_326 ⟨Nat.le_of_ble_eq_true rfl, Nat.le_of_ble_eq_true rfl⟩ 8 rfl rfl rfl hl.1 rfl (Nat.le_of_ble_eq_true rfl) dX6_putRowDown_7 ⟨Nat.le_of_ble_eq_true rfl, Nat.le_of_ble_eq_true rfl⟩ ?_
  refine lv_if_ne (tgt := 15) hx hb dX6_putRowDown_10 (by decide) (fun c_1 => ?_) (fun c_1 => ?_)
  · have c_1 := sm_b1 c_1
    refine lv_aload_n hx hb dX6_putRowDown_15 rfl (lv_at hl 0 rfl) ?_
    refine sm_gt (ci := 6) (C := RX6) (T := TX6) (N := 12) hx hb hts inlX6 hown hK hP 0 rfl rfl 6 (by decide) wf_RX6_50 rfl dX6_putRowDown_16 ?_
    refine lv_iload_n hx hb dX6_putRowDown_19 rfl (lv_at hl 2 rfl) ?_
    refine lv_iload_n hx hb dX6_putRowDown_20 rfl (lv_at hl 3 rfl) ?_
    refine sm_cVC (rest := []) hC hK hP hD hS hZ (c_X0_set D ad P S T L M C cp ph fo ne no rc wr a b) qyX0_set wl_RX6_329 ⟨Nat.le_of_ble_eq_true rfl, Nat.le_of_ble_eq_true rfl⟩ 32 rfl rfl rfl hl.1 rfl (Nat.le_of_ble_eq_true rfl) dX6_putRowDown_21 ⟨Nat.le_of_ble_eq_true rfl, Nat.le_of_ble_eq_true rfl⟩ (fun w1 H locs hB hP hD hS => ?_)
    subst hB
    refine lv_aload_n hx hb dX6_putRowDown_24 rfl (lv_at hl 0 rfl) ?_
    refine sm_gt (ci := 6) (C := RX6) (T := TX6) (N := 12) hx hb hts inlX6 hown hK hP 0 rfl rfl 0 (by decide) wf_RX6_10 rfl dX6_putRowDown_25 ?_
    refine lv_aload_n hx hb dX6_putRowDown_28 rfl (lv_at hl 0 rfl) ?_
    refine sm_gt (ci := 6) (C := RX6) (T := TX6) (N := 12) hx hb hts inlX6 hown hK hP 0 rfl rfl 6 (by decide) wf_RX6_50 rfl dX6_putRowDown_29 ?_
    refine sm_cVCr (rest := []) hC hK hP hD hS hZ (c_X4_turn D ad P S T L M C (a, b) ph fo ne no rc wr hP6) qyX4_turn wl_RX6_332 ⟨Nat.le_of_ble_eq_true rfl, Nat.le_of_ble_eq_true rfl⟩ 1 rfl rfl rfl hl.1 rfl (Nat.le_of_ble_eq_true rfl) dX6_putRowDown_32 ⟨Nat.le_of_ble_eq_true rfl, Nat.le_of_ble_eq_true rfl⟩ (fun w1 H locs hB hP hD hS => ?_)
    subst hB
    refine lv_if_eq (tgt := 67) hx hb dX6_putRowDown_35 (by decide) (fun c_2 => ?_) (fun c_2 => ?_)
    · have c_2 := sm_b0 c_2
      refine lv_aload_n hx hb dX6_putRowDown_67 rfl (lv_at hl 0 rfl) ?_
      refine sm_gt (ci := 6) (C := RX6) (T := TX6) (N := 12) hx hb hts inlX6 hown hK hP 0 rfl rfl 2 (by decide) wf_RX6_26 rfl dX6_putRowDown_68 ?_
      refine lv_iload_n hx hb dX6_putRowDown_71 rfl (lv_at hl 1 rfl) ?_
      refine lv_iload hx hb dX6_putRowDown_72 (lv_at hl 4 rfl) ?_
      refine sm_cVC (rest := []) hC hK hP hD hS hZ (c_X5_putAside D ad P S T L M C ((sm_tr P (a, b)).2) ph fo ne no rc wr k (by omega) x) qyX5_putAside wl_RX6_336 ⟨Nat.le_of_ble_eq_true rfl, Nat.le_of_ble_eq_true rfl⟩ 8 rfl rfl rfl hl.1 rfl (Nat.le_of_ble_eq_true rfl) dX6_putRowDown_74 ⟨Nat.le_of_ble_eq_true rfl, Nat.le_of_ble_eq_true rfl⟩ (fun w1 H locs hB hP hD hS => ?_)
      subst hB
      refine lv_iconst (v := 1) hx hb dX6_putRowDown_77 (by decide) ?_
      exact sm_retC hC hP hD hS (by first | rfl | (simp [sm_b, c_1, c_2]; done) | (simp [sm_b] at c_1 c_2; simp [sm_b, c_1, c_2]; done) | (simp_all [sm_b]; done)) (by decide) (by exact ⟨((sm_tr P (a, b)).2), by first | rfl | (simp [sm_prd, c_1, c_2]; done) | (simp [sm_prd] at c_1 c_2; simp [sm_prd, c_1, c_2]; done) | (simp_all [sm_prd]; done)⟩) dX6_putRowDown_78
    · have c_2 := sm_b1 c_2
      refine lv_aload_n hx hb dX6_putRowDown_38 rfl (lv_at hl 0 rfl) ?_
      refine sm_gt (ci := 6) (C := RX6) (T := TX6) (N := 12) hx hb hts inlX6 hown hK hP 0 rfl rfl 2 (by decide) wf_RX6_26 rfl dX6_putRowDown_39 ?_
      refine lv_iload_n hx hb dX6_putRowDown_42 rfl (lv_at hl 1 rfl) ?_
      refine lv_aload_n hx hb dX6_putRowDown_43 rfl (lv_at hl 0 rfl) ?_
      refine sm_gt (ci := 6) (C := RX6) (T := TX6) (N := 12) hx hb hts inlX6 hown hK hP 0 rfl rfl 6 (by decide) wf_RX6_50 rfl dX6_putRowDown_44 ?_
      refine lv_iconst (v := 0) hx hb dX6_putRowDown_47 (by decide) ?_
      refine sm_cVPr (rest := [.int (nI k), .ref (ad 8)]) hC hK hP (c_X0_number D ad P S T L M C ((sm_tr P (a, b)).2) ph fo ne no rc wr false) qyX0_number wl_RX6_274 ⟨Nat.le_of_ble_eq_true rfl, Nat.le_of_ble_eq_true rfl⟩ 32 rfl rfl rfl hl.1 rfl (Nat.le_of_ble_eq_true rfl) dX6_putRowDown_48 ⟨Nat.le_of_ble_eq_true rfl, Nat.le_of_ble_eq_true rfl⟩ ?_
      refine sm_re (y := ((sm_tr P (a, b)).2).1) rfl ?_
      refine lv_aload_n hx hb dX6_putRowDown_51 rfl (lv_at hl 0 rfl) ?_
      refine sm_gt (ci := 6) (C := RX6) (T := TX6) (N := 12) hx hb hts inlX6 hown hK hP 0 rfl rfl 6 (by decide) wf_RX6_50 rfl dX6_putRowDown_52 ?_
      refine lv_iconst (v := 1) hx hb dX6_putRowDown_55 (by decide) ?_
      refine sm_cVPr (rest := [.int (((sm_tr P (a, b)).2).1), .int (nI k), .ref (ad 8)]) hC hK hP (c_X0_number D ad P S T L M C ((sm_tr P (a, b)).2) ph fo ne no rc wr true) qyX0_number wl_RX6_274 ⟨Nat.le_of_ble_eq_true rfl, Nat.le_of_ble_eq_true rfl⟩ 32 rfl rfl rfl hl.1 rfl (Nat.le_of_ble_eq_true rfl) dX6_putRowDown_56 ⟨Nat.le_of_ble_eq_true rfl, Nat.le_of_ble_eq_true rfl⟩ ?_
      refine sm_re (y := ((sm_tr P (a, b)).2).2) rfl ?_
      refine lv_iload hx hb dX6_putRowDown_59 (lv_at hl 4 rfl) ?_
      refine sm_cVC (rest := []) hC hK hP hD hS hZ (c_X5_putEntry D ad P S T L M C ((sm_tr P (a, b)).2) ph fo ne no rc wr k (by omega) (((sm_tr P (a, b)).2).1) (((sm_tr P (a, b)).2).2) x) qyX5_putEntry wl_RX6_172 ⟨Nat.le_of_ble_eq_true rfl, Nat.le_of_ble_eq_true rfl⟩ 8 rfl rfl rfl hl.1 rfl (Nat.le_of_ble_eq_true rfl) dX6_putRowDown_61 ⟨Nat.le_of_ble_eq_true rfl, Nat.le_of_ble_eq_true rfl⟩ (fun w1 H locs hB hP hD hS => ?_)
      subst hB
      refine lv_goto (tgt := 77) hx hb dX6_putRowDown_64 (by decide) ?_
      refine lv_iconst (v := 1) hx hb dX6_putRowDown_77 (by decide) ?_
      exact sm_retC hC hP hD hS (by first | rfl | (simp [sm_b, c_1, c_2]; done) | (simp [sm_b] at c_1 c_2; simp [sm_b, c_1, c_2]; done) | (simp_all [sm_b]; done)) (by decide) (by exact ⟨((sm_tr P (a, b)).2), by first | rfl | (simp [sm_prd, c_1, c_2]; done) | (simp [sm_prd] at c_1 c_2; simp [sm_prd, c_1, c_2]; done) | (simp_all [sm_prd]; done)⟩) dX6_putRowDown_78
  · have c_1 := sm_b0 c_1
    refine lv_iconst (v := 0) hx hb dX6_putRowDown_13 (by decide) ?_
    exact sm_retC hC hP hD hS (by first | rfl | (simp [sm_b, c_1]; done) | (simp [sm_b] at c_1; simp [sm_b, c_1]; done) | (simp_all [sm_b]; done)) (by decide) (by exact ⟨cp, by first | rfl | (simp [sm_prd, c_1]; done) | (simp [sm_prd] at c_1; simp [sm_prd, c_1]; done) | (simp_all [sm_prd]; done)⟩) dX6_putRowDown_14

set_option maxHeartbeats 1000000 in
set_option maxRecDepth 100000 in
theorem c_X6_followNext (hfo : fo < L.1) (hL : L.1 ≤ 120) (hLk : ∀ i, L.2.1 i < 40) (hP6 : P.1 ≤ 6) : sm_MC l yX6_followNext cX6_followNext 4 none 4 90 [.ref (ad 0)] D (sm_w6 D ad P S T L M C cp ph fo ne no rc wr) (fun w => ∃ (cp' : sm_Cp), w = sm_w6 D ad P S (sm_fo1 P L T fo) L M C (cp') ph (fo + 1) ne no rc wr) none := by
  refine sm_met (own := RX6) (by decide) rfl (Nat.le_of_ble_eq_true rfl) ?_
  intro p e s m below meth c ls hC hv hl
  obtain ⟨hx, hb, hml, hr, hown, hlk, hts⟩ := id hC
  obtain ⟨⟨hP, hK⟩, hD, hZ⟩ := hv
  have hS : va_S (sm_ad (sm_w6 D ad P S T L M C cp ph fo ne no rc wr)) s.heap s.heap [] := va_S.rf
  have hl : lv_has ls 4 [(0, .ref (ad 0))] := hl
  refine lv_aload_n hx hb dX6_followNext_0 rfl (lv_at hl 0 rfl) ?_
  refine sm_gt (ci := 6) (C := RX6) (T := TX6) (N := 12) hx hb hts inlX6 hown hK hP 0 rfl rfl 8 (by decide) wf_RX6_58 rfl dX6_followNext_1 ?_
  refine lv_istore_n (lv' := [(1, .int (nI fo)), (0, .ref (ad 0))]) hx hb dX6_followNext_4 rfl hl (by decide) rfl (fun ls hl => ?_)
  refine lv_aload_n hx hb dX6_followNext_5 rfl (lv_at hl 1 rfl) ?_
  refine lv_dup hx hb dX6_followNext_6 rfl ?_
  refine sm_gt (ci := 6) (C := RX6) (T := TX6) (N := 12) hx hb hts inlX6 hown hK hP 0 rfl rfl 8 (by decide) wf_RX6_58 rfl dX6_followNext_7 ?_
  refine lv_iconst (v := 1) hx hb dX6_followNext_10 (by decide) ?_
  refine lv_iadd hx hb dX6_followNext_11 ?_
  refine sm_re (y := nI (fo + 1)) (nI_1 fo) ?_
  refine sm_pt (ci := 6) (C := RX6) (T := TX6) (N := 12) hx hb hts inlX6 tyX6 tyX6_ok nmX6 hown hK hP hD hS 0 rfl rfl 8 (by decide) wf_RX6_58 rfl rfl rfl (Nat.le_of_ble_eq_true rfl) dX6_followNext_12 (fun H locs hP hD hS => ?_)
  have hP : va_P D.1 sm_cl (sm_w6 D ad P S T L M C cp ph (fo + 1) ne no rc wr) H := hP
  have hD : va_D (sm_ad (sm_w6 D ad P S T L M C cp ph fo ne no rc wr)) (sm_w6 D ad P S T L M C cp ph (fo + 1) ne no rc wr) := hD
  refine lv_aload_n hx hb dX6_followNext_15 rfl (lv_at hl 1 rfl) ?_
  refine sm_gt (ci := 6) (C := RX6) (T := TX6) (N := 12) hx hb hts inlX6 hown hK hP 0 rfl rfl 3 (by decide) wf_RX6_33 rfl dX6_followNext_16 ?_
  refine lv_iload_n hx hb dX6_followNext_19 rfl (lv_at hl 0 rfl) ?_
  refine sm_cVPr (rest := []) hC hK hP (c_X1_key_f D ad P S T L M C cp ph (fo + 1) ne no rc wr fo (by first | omega | exact hLk _)) qyX1_key wl_RX6_143 ⟨Nat.le_of_ble_eq_true rfl, Nat.le_of_ble_eq_true rfl⟩ 13 rfl rfl rfl hl.1 rfl (Nat.le_of_ble_eq_true rfl) dX6_followNext_20 ⟨Nat.le_of_ble_eq_true rfl, Nat.le_of_ble_eq_true rfl⟩ ?_
  refine lv_istore_n (lv' := [(2, .int (nI (L.2.1 fo))), (1, .int (nI fo)), (0, .ref (ad 0))]) hx hb dX6_followNext_23 rfl hl (by decide) rfl (fun ls hl => ?_)
  refine lv_iload_n hx hb dX6_followNext_24 rfl (lv_at hl 1 rfl) ?_
  refine lv_iconst (v := 1) hx hb dX6_followNext_25 (by decide) ?_
  refine lv_iadd hx hb dX6_followNext_26 ?_
  refine sm_re (y := nI (fo + 1)) (nI_1 fo) ?_
  refine lv_istore_n (lv' := [(3, .int (nI (fo + 1))), (2, .int (nI (L.2.1 fo))), (1, .int (nI fo)), (0, .ref (ad 0))]) hx hb dX6_followNext_27 rfl hl (by decide) rfl (fun ls hl => ?_)
  refine lv_aload_n hx hb dX6_followNext_28 rfl (lv_at hl 3 rfl) ?_
  refine sm_gt (ci := 6) (C := RX6) (T := TX6) (N := 12) hx hb hts inlX6 hown hK hP 0 rfl rfl 3 (by decide) wf_RX6_33 rfl dX6_followNext_29 ?_
  refine lv_iload_n hx hb dX6_followNext_32 rfl (lv_at hl 2 rfl) ?_
  refine sm_cVPr (rest := []) hC hK hP (c_X1_isDeletion_f D ad P S T L M C cp ph (fo + 1) ne no rc wr fo (by first | omega | exact hLk _)) qyX1_isDeletion wl_RX6_322 ⟨Nat.le_of_ble_eq_true rfl, Nat.le_of_ble_eq_true rfl⟩ 13 rfl rfl rfl hl.1 rfl (Nat.le_of_ble_eq_true rfl) dX6_followNext_33 ⟨Nat.le_of_ble_eq_true rfl, Nat.le_of_ble_eq_true rfl⟩ ?_
  refine lv_if_ne (tgt := 67) hx hb dX6_followNext_36 (by decide) (fun c_1 => ?_) (fun c_1 => ?_)
  · have c_1 := sm_b1 c_1
    refine lv_aload_n hx hb dX6_followNext_67 rfl (lv_at hl 3 rfl) ?_
    refine sm_gt (ci := 6) (C := RX6) (T := TX6) (N := 12) hx hb hts inlX6 hown hK hP 0 rfl rfl 2 (by decide) wf_RX6_26 rfl dX6_followNext_68 ?_
    refine lv_iload_n hx hb dX6_followNext_71 rfl (lv_at hl 1 rfl) ?_
    refine lv_iload_n hx hb dX6_followNext_72 rfl (lv_at hl 0 rfl) ?_
    refine sm_cVPr (rest := []) hC hK hP (c_X5_givesWay D ad P S T L M C cp ph (fo + 1) ne no rc wr (L.2.1 fo) (by first | omega | exact hLk _) (nI (fo + 1))) qyX5_givesWay wl_RX6_326 ⟨Nat.le_of_ble_eq_true rfl, Nat.le_of_ble_eq_true rfl⟩ 8 rfl rfl rfl hl.1 rfl (Nat.le_of_ble_eq_true rfl) dX6_followNext_73 ⟨Nat.le_of_ble_eq_true rfl, Nat.le_of_ble_eq_true rfl⟩ ?_
    refine lv_if_eq (tgt := 88) hx hb dX6_followNext_76 (by decide) (fun c_2 => ?_) (fun c_2 => ?_)
    · have c_2 := sm_b0 c_2
      exact sm_vretC hC hP hD hS rfl  (by exact ⟨cp, by first | rfl | (simp [sm_fo1, c_1, c_2]; done) | (simp [sm_fo1] at c_1 c_2; simp [sm_fo1, c_1, c_2]; done) | (simp_all [sm_fo1]; done)⟩) dX6_followNext_88
    · have c_2 := sm_b1 c_2
      refine lv_aload_n hx hb dX6_followNext_79 rfl (lv_at hl 3 rfl) ?_
      refine sm_gt (ci := 6) (C := RX6) (T := TX6) (N := 12) hx hb hts inlX6 hown hK hP 0 rfl rfl 2 (by decide) wf_RX6_26 rfl dX6_followNext_80 ?_
      refine lv_iload_n hx hb dX6_followNext_83 rfl (lv_at hl 1 rfl) ?_
      refine lv_iload_n hx hb dX6_followNext_84 rfl (lv_at hl 0 rfl) ?_
      refine sm_cVC (rest := []) hC hK hP hD hS hZ (c_X5_putTrace D ad P S T L M C cp ph (fo + 1) ne no rc wr (L.2.1 fo) (by first | omega | exact hLk _) (nI (fo + 1))) qyX5_putTrace wl_RX6_194 ⟨Nat.le_of_ble_eq_true rfl, Nat.le_of_ble_eq_true rfl⟩ 8 rfl rfl rfl hl.1 rfl (Nat.le_of_ble_eq_true rfl) dX6_followNext_85 ⟨Nat.le_of_ble_eq_true rfl, Nat.le_of_ble_eq_true rfl⟩ (fun w1 H locs hB hP hD hS => ?_)
      subst hB
      exact sm_vretC hC hP hD hS rfl  (by exact ⟨cp, by first | rfl | (simp [sm_fo1, c_1, c_2]; done) | (simp [sm_fo1] at c_1 c_2; simp [sm_fo1, c_1, c_2]; done) | (simp_all [sm_fo1]; done)⟩) dX6_followNext_88
  · have c_1 := sm_b0 c_1
    refine lv_aload_n hx hb dX6_followNext_39 rfl (lv_at hl 3 rfl) ?_
    refine lv_iload_n hx hb dX6_followNext_40 rfl (lv_at hl 1 rfl) ?_
    refine lv_aload_n hx hb dX6_followNext_41 rfl (lv_at hl 3 rfl) ?_
    refine sm_gt (ci := 6) (C := RX6) (T := TX6) (N := 12) hx hb hts inlX6 hown hK hP 0 rfl rfl 3 (by decide) wf_RX6_33 rfl dX6_followNext_42 ?_
    refine lv_iload_n hx hb dX6_followNext_45 rfl (lv_at hl 2 rfl) ?_
    refine lv_iconst (v := 0) hx hb dX6_followNext_46 (by decide) ?_
    refine sm_cVPr (rest := [.int (nI (L.2.1 fo)), .ref (ad 0)]) hC hK hP (c_X1_number_f D ad P S T L M C cp ph (fo + 1) ne no rc wr fo (by first | omega | exact hLk _) false) qyX1_number wl_RX6_325 ⟨Nat.le_of_ble_eq_true rfl, Nat.le_of_ble_eq_true rfl⟩ 13 rfl rfl rfl hl.1 rfl (Nat.le_of_ble_eq_true rfl) dX6_followNext_47 ⟨Nat.le_of_ble_eq_true rfl, Nat.le_of_ble_eq_true rfl⟩ ?_
    refine sm_re (y := L.2.2.2.1 fo) rfl ?_
    refine lv_aload_n hx hb dX6_followNext_50 rfl (lv_at hl 3 rfl) ?_
    refine sm_gt (ci := 6) (C := RX6) (T := TX6) (N := 12) hx hb hts inlX6 hown hK hP 0 rfl rfl 3 (by decide) wf_RX6_33 rfl dX6_followNext_51 ?_
    refine lv_iload_n hx hb dX6_followNext_54 rfl (lv_at hl 2 rfl) ?_
    refine lv_iconst (v := 1) hx hb dX6_followNext_55 (by decide) ?_
    refine sm_cVPr (rest := [.int (L.2.2.2.1 fo), .int (nI (L.2.1 fo)), .ref (ad 0)]) hC hK hP (c_X1_number_f D ad P S T L M C cp ph (fo + 1) ne no rc wr fo (by first | omega | exact hLk _) true) qyX1_number wl_RX6_325 ⟨Nat.le_of_ble_eq_true rfl, Nat.le_of_ble_eq_true rfl⟩ 13 rfl rfl rfl hl.1 rfl (Nat.le_of_ble_eq_true rfl) dX6_followNext_56 ⟨Nat.le_of_ble_eq_true rfl, Nat.le_of_ble_eq_true rfl⟩ ?_
    refine sm_re (y := L.2.2.2.2 fo) rfl ?_
    refine lv_iload_n hx hb dX6_followNext_59 rfl (lv_at hl 0 rfl) ?_
    refine sm_cVCr (rest := []) hC hK hP hD hS hZ (c_X6_putRowDown D ad P S T L M C cp ph (fo + 1) ne no rc wr (L.2.1 fo) (by first | omega | exact hLk _) (L.2.2.2.1 fo) (L.2.2.2.2 fo) (nI (fo + 1)) hP6) qyX6_putRowDown wl_RX6_245 ⟨Nat.le_of_ble_eq_true rfl, Nat.le_of_ble_eq_true rfl⟩ 0 rfl rfl rfl hl.1 rfl (Nat.le_of_ble_eq_true rfl) dX6_followNext_60 ⟨Nat.le_of_ble_eq_true rfl, Nat.le_of_ble_eq_true rfl⟩ (fun w1 H locs hB hP hD hS => ?_)
    obtain ⟨cp_3, rfl⟩ := hB
    refine lv_pop hx hb dX6_followNext_63 rfl ?_
    refine lv_goto (tgt := 88) hx hb dX6_followNext_64 (by decide) ?_
    exact sm_vretC hC hP hD hS rfl  (by exact ⟨cp_3, by first | rfl | (simp [sm_fo1, c_1]; done) | (simp [sm_fo1] at c_1; simp [sm_fo1, c_1]; done) | (simp_all [sm_fo1]; done)⟩) dX6_followNext_88

set_option maxHeartbeats 1000000 in
set_option maxRecDepth 100000 in
theorem c_X6_followUpTo (k : Nat) (hk : k ≤ 120) (hfo : fo ≤ L.1) (hL : L.1 ≤ 120) (hLk : ∀ i, L.2.1 i < 40) (hP6 : P.1 ≤ 6) : sm_MC l yX6_followUpTo cX6_followUpTo 4 (some .int) 5 113 [.ref (ad 0), .int (nI k)] D (sm_w6 D ad P S T L M C cp ph fo ne no rc wr) (fun w => ∃ (cp' : sm_Cp), w = sm_w6 D ad P S (sm_foG P L (min k (L.1 - fo)) T fo) L M C (cp') ph (fo + min k (L.1 - fo)) ne no rc wr) (some (.int (nI (min k (L.1 - fo))))) := by
  refine sm_met (own := RX6) (by decide) rfl (Nat.le_of_ble_eq_true rfl) ?_
  intro p e s m below meth c ls hC hv hl
  obtain ⟨hx, hb, hml, hr, hown, hlk, hts⟩ := id hC
  obtain ⟨⟨hP, hK⟩, hD, hZ⟩ := hv
  have hS : va_S (sm_ad (sm_w6 D ad P S T L M C cp ph fo ne no rc wr)) s.heap s.heap [] := va_S.rf
  have hl : lv_has ls 4 [(0, .ref (ad 0)), (1, .int (nI k))] := hl
  refine lv_iload_n hx hb dX6_followUpTo_0 rfl (lv_at hl 1 rfl) ?_
  refine lv_aload_n hx hb dX6_followUpTo_1 rfl (lv_at hl 0 rfl) ?_
  refine sm_gt (ci := 6) (C := RX6) (T := TX6) (N := 12) hx hb hts inlX6 hown hK hP 0 rfl rfl 3 (by decide) wf_RX6_33 rfl dX6_followUpTo_2 ?_
  refine sm_cVPr (rest := [.int (nI k)]) hC hK hP (c_X1_size_f D ad P S T L M C cp ph fo ne no rc wr ) qyX1_size wl_RX6_142 ⟨Nat.le_of_ble_eq_true rfl, Nat.le_of_ble_eq_true rfl⟩ 13 rfl rfl rfl hl.1 rfl (Nat.le_of_ble_eq_true rfl) dX6_followUpTo_5 ⟨Nat.le_of_ble_eq_true rfl, Nat.le_of_ble_eq_true rfl⟩ ?_
  refine lv_aload_n hx hb dX6_followUpTo_8 rfl (lv_at hl 0 rfl) ?_
  refine sm_gt (ci := 6) (C := RX6) (T := TX6) (N := 12) hx hb hts inlX6 hown hK hP 0 rfl rfl 8 (by decide) wf_RX6_58 rfl dX6_followUpTo_9 ?_
  refine lv_isub hx hb dX6_followUpTo_12 ?_
  refine sm_re (y := nI (L.1 - fo)) (pk_sub (a := L.1) (b := fo) (by omega)) ?_
  refine va_mmin hx hb (hml.trans hl.1.symm) hown (hts _ wl_RX6_316) (hts _ (List.mem_of_getElem? (i := 226) rfl)) (hts _ (List.mem_of_getElem? (i := 227) rfl)) (hts _ (List.mem_of_getElem? (i := 228) rfl)) (Nat.le_of_ble_eq_true rfl) (Nat.le_of_ble_eq_true rfl) (Nat.le_of_ble_eq_true rfl) (Nat.le_of_ble_eq_true rfl) dX6_followUpTo_13 ?_
  refine sm_re (y := nI (min k (L.1 - fo))) (sm_min k (L.1 - fo) (by omega) (by omega)) ?_
  refine lv_istore_n (lv' := [(2, .int (nI (min k (L.1 - fo)))), (0, .ref (ad 0)), (1, .int (nI k))]) hx hb dX6_followUpTo_16 rfl hl (by decide) rfl (fun ls hl => ?_)
  refine lv_iconst (v := 0) hx hb dX6_followUpTo_17 (by decide) ?_
  refine lv_istore_n (lv' := [(3, .int 0), (2, .int (nI (min k (L.1 - fo)))), (0, .ref (ad 0)), (1, .int (nI k))]) hx hb dX6_followUpTo_18 rfl hl (by decide) rfl (fun ls hl => ?_)
  suffices K : ∀ (n : Nat) (i : Nat) (t : sm_Tg) (q : sm_Cp) (H : Heap) (locs : List Loc) (ls : Array Slot), min k (L.1 - fo) - i = n → (i ≤ min k (L.1 - fo)) → (sm_foG P L (min k (L.1 - fo) - i) t (fo + i) = sm_foG P L (min k (L.1 - fo)) T fo) → va_P D.1 sm_cl (sm_w6 D ad P S t L M C q ph (fo + i) ne no rc wr) H → va_D (sm_ad (sm_w6 D ad P S T L M C cp ph fo ne no rc wr)) (sm_w6 D ad P S t L M C q ph (fo + i) ne no rc wr) → va_S (sm_ad (sm_w6 D ad P S T L M C cp ph fo ne no rc wr)) s.heap H locs → lv_has ls 4 [(0, .ref (ad 0)), (1, .int (nI k)), (2, .int (nI (min k (L.1 - fo)))), (3, .int (nI i))] → W p l e ({ frames := 5, cells := 0, slots := 0, locals := 113 } : Room) s m ([.ref (ad 0), .int (nI k)] : List Value).toArray below meth c H locs 0 0 (MQ below (sm_Qc D (sm_w6 D ad P S T L M C cp ph fo ne no rc wr) (fun w => ∃ (cp' : sm_Cp), w = sm_w6 D ad P S (sm_foG P L (min k (L.1 - fo)) T fo) L M C (cp') ph (fo + min k (L.1 - fo)) ne no rc wr) (some (.int (nI (min k (L.1 - fo)))))) ([.ref (ad 0), .int (nI k)] : List Value).toArray s 0 0 (sm_ad (sm_w6 D ad P S T L M C cp ph fo ne no rc wr))) (F0 m 19 ls []) from K _ 0 T cp _ _ ls rfl (by omega) (rfl) hP hD hS (lv_sub hl [2, 3, 1, 0] rfl)
  intro n
  induction n using Nat.strongRecOn with
  | ind n ih =>
    intro i t q H locs ls hn hi hR hP hD hS hl
    refine lv_iload_n hx hb dX6_followUpTo_19 rfl (lv_at hl 3 rfl) ?_
    refine lv_iload_n hx hb dX6_followUpTo_20 rfl (lv_at hl 2 rfl) ?_
    refine lv_icmp_ge (tgt := 34) hx hb dX6_followUpTo_21 (by decide) (fun c_1 => ?_) (fun c_1 => ?_)
    · have c_1 := sm_Nnl (a := i) (b := min k (L.1 - fo)) (sm_nl c_1) (by omega) (by omega)
      refine lv_iload_n hx hb dX6_followUpTo_34 rfl (lv_at hl 2 rfl) ?_
      exact sm_retC hC hP hD hS rfl rfl (by have e : i = min k (L.1 - fo) := (by omega); rw [show min k (L.1 - fo) - i = 0 by omega] at hR; exact ⟨q, by rw [← hR, e]; rfl⟩) dX6_followUpTo_35
    · have c_1 := sm_Nlt (a := i) (b := min k (L.1 - fo)) (sm_nle c_1) (by omega) (by omega)
      refine lv_aload_n hx hb dX6_followUpTo_24 rfl (lv_at hl 0 rfl) ?_
      refine sm_cVC (rest := []) hC hK hP hD hS hZ (c_X6_followNext D ad P S t L M C q ph (fo + i) ne no rc wr (by omega) hL hLk hP6) qyX6_followNext wl_RX6_183 ⟨Nat.le_of_ble_eq_true rfl, Nat.le_of_ble_eq_true rfl⟩ 0 rfl rfl rfl hl.1 rfl (Nat.le_of_ble_eq_true rfl) dX6_followUpTo_25 ⟨Nat.le_of_ble_eq_true rfl, Nat.le_of_ble_eq_true rfl⟩ (fun w1 H locs hB hP hD hS => ?_)
      obtain ⟨cp_2, rfl⟩ := hB
      refine lv_iinc (v := nI (i + 1)) (lv' := [(3, .int (nI (i + 1))), (0, .ref (ad 0)), (1, .int (nI k)), (2, .int (nI (min k (L.1 - fo))))]) hx hb dX6_followUpTo_28 hl (k := 3) rfl (nI_1 i) (by decide) rfl (fun ls hl => ?_)
      refine lv_goto (tgt := 19) hx hb dX6_followUpTo_31 (by decide) ?_
      exact ih _ (by omega) (i + 1) (sm_fo1 P L t (fo + i)) cp_2 _ _ ls rfl (by omega) (by rw [sm_foS (by omega)] at hR; exact hR) hP hD hS (lv_sub hl [1, 2, 3, 0] rfl)

set_option maxHeartbeats 1000000 in
set_option maxRecDepth 100000 in
theorem c_X6_turnRow (k : Nat) (hk : k < 40) (hP6 : P.1 ≤ 6) : sm_MC l yX6_turnRow cX6_turnRow 2 (some .boolean) 2 45 [.ref (ad 0), .int (nI k)] D (sm_w6 D ad P S T L M C cp ph fo ne no rc wr) (fun w => w = sm_w6 D ad P S T L M C (sm_tnc P S k cp) ph fo ne no rc wr) (some (.int (sm_b (sm_tn P S k)))) := by
  refine sm_met (own := RX6) (by decide) rfl (Nat.le_of_ble_eq_true rfl) ?_
  intro p e s m below meth c ls hC hv hl
  obtain ⟨hx, hb, hml, hr, hown, hlk, hts⟩ := id hC
  obtain ⟨⟨hP, hK⟩, hD, hZ⟩ := hv
  have hS : va_S (sm_ad (sm_w6 D ad P S T L M C cp ph fo ne no rc wr)) s.heap s.heap [] := va_S.rf
  have hl : lv_has ls 2 [(0, .ref (ad 0)), (1, .int (nI k))] := hl
  refine lv_aload_n hx hb dX6_turnRow_0 rfl (lv_at hl 0 rfl) ?_
  refine sm_gt (ci := 6) (C := RX6) (T := TX6) (N := 12) hx hb hts inlX6 hown hK hP 0 rfl rfl 1 (by decide) wf_RX6_19 rfl dX6_turnRow_1 ?_
  refine lv_iload_n hx hb dX6_turnRow_4 rfl (lv_at hl 1 rfl) ?_
  refine sm_cVPr (rest := []) hC hK hP (c_X3_has_s D ad P S T L M C cp ph fo ne no rc wr k (by omega)) qyX3_has wl_RX6_264 ⟨Nat.le_of_ble_eq_true rfl, Nat.le_of_ble_eq_true rfl⟩ 4 rfl rfl rfl hl.1 rfl (Nat.le_of_ble_eq_true rfl) dX6_turnRow_5 ⟨Nat.le_of_ble_eq_true rfl, Nat.le_of_ble_eq_true rfl⟩ ?_
  refine lv_if_ne (tgt := 13) hx hb dX6_turnRow_8 (by decide) (fun c_1 => ?_) (fun c_1 => ?_)
  · have c_1 := sm_b1 c_1
    refine lv_aload_n hx hb dX6_turnRow_13 rfl (lv_at hl 0 rfl) ?_
    refine sm_gt (ci := 6) (C := RX6) (T := TX6) (N := 12) hx hb hts inlX6 hown hK hP 0 rfl rfl 6 (by decide) wf_RX6_50 rfl dX6_turnRow_14 ?_
    refine lv_aload_n hx hb dX6_turnRow_17 rfl (lv_at hl 0 rfl) ?_
    refine sm_gt (ci := 6) (C := RX6) (T := TX6) (N := 12) hx hb hts inlX6 hown hK hP 0 rfl rfl 1 (by decide) wf_RX6_19 rfl dX6_turnRow_18 ?_
    refine lv_iload_n hx hb dX6_turnRow_21 rfl (lv_at hl 1 rfl) ?_
    refine lv_iconst (v := 0) hx hb dX6_turnRow_22 (by decide) ?_
    refine sm_cVPr (rest := [.ref (ad 32)]) hC hK hP (c_X3_number_s D ad P S T L M C cp ph fo ne no rc wr k (by omega) false) qyX3_number wl_RX6_213 ⟨Nat.le_of_ble_eq_true rfl, Nat.le_of_ble_eq_true rfl⟩ 4 rfl rfl rfl hl.1 rfl (Nat.le_of_ble_eq_true rfl) dX6_turnRow_23 ⟨Nat.le_of_ble_eq_true rfl, Nat.le_of_ble_eq_true rfl⟩ ?_
    refine sm_re (y := S.2.1 k) rfl ?_
    refine lv_aload_n hx hb dX6_turnRow_26 rfl (lv_at hl 0 rfl) ?_
    refine sm_gt (ci := 6) (C := RX6) (T := TX6) (N := 12) hx hb hts inlX6 hown hK hP 0 rfl rfl 1 (by decide) wf_RX6_19 rfl dX6_turnRow_27 ?_
    refine lv_iload_n hx hb dX6_turnRow_30 rfl (lv_at hl 1 rfl) ?_
    refine lv_iconst (v := 1) hx hb dX6_turnRow_31 (by decide) ?_
    refine sm_cVPr (rest := [.int (S.2.1 k), .ref (ad 32)]) hC hK hP (c_X3_number_s D ad P S T L M C cp ph fo ne no rc wr k (by omega) true) qyX3_number wl_RX6_213 ⟨Nat.le_of_ble_eq_true rfl, Nat.le_of_ble_eq_true rfl⟩ 4 rfl rfl rfl hl.1 rfl (Nat.le_of_ble_eq_true rfl) dX6_turnRow_32 ⟨Nat.le_of_ble_eq_true rfl, Nat.le_of_ble_eq_true rfl⟩ ?_
    refine sm_re (y := S.2.2 k) rfl ?_
    refine sm_cVC (rest := []) hC hK hP hD hS hZ (c_X0_set D ad P S T L M C cp ph fo ne no rc wr (S.2.1 k) (S.2.2 k)) qyX0_set wl_RX6_329 ⟨Nat.le_of_ble_eq_true rfl, Nat.le_of_ble_eq_true rfl⟩ 32 rfl rfl rfl hl.1 rfl (Nat.le_of_ble_eq_true rfl) dX6_turnRow_35 ⟨Nat.le_of_ble_eq_true rfl, Nat.le_of_ble_eq_true rfl⟩ (fun w1 H locs hB hP hD hS => ?_)
    subst hB
    refine lv_aload_n hx hb dX6_turnRow_38 rfl (lv_at hl 0 rfl) ?_
    refine sm_gt (ci := 6) (C := RX6) (T := TX6) (N := 12) hx hb hts inlX6 hown hK hP 0 rfl rfl 0 (by decide) wf_RX6_10 rfl dX6_turnRow_39 ?_
    refine lv_aload_n hx hb dX6_turnRow_42 rfl (lv_at hl 0 rfl) ?_
    refine sm_gt (ci := 6) (C := RX6) (T := TX6) (N := 12) hx hb hts inlX6 hown hK hP 0 rfl rfl 6 (by decide) wf_RX6_50 rfl dX6_turnRow_43 ?_
    refine sm_cVCr (rest := []) hC hK hP hD hS hZ (c_X4_turn D ad P S T L M C ((S.2.1 k), (S.2.2 k)) ph fo ne no rc wr hP6) qyX4_turn wl_RX6_332 ⟨Nat.le_of_ble_eq_true rfl, Nat.le_of_ble_eq_true rfl⟩ 1 rfl rfl rfl hl.1 rfl (Nat.le_of_ble_eq_true rfl) dX6_turnRow_46 ⟨Nat.le_of_ble_eq_true rfl, Nat.le_of_ble_eq_true rfl⟩ (fun w1 H locs hB hP hD hS => ?_)
    subst hB
    exact sm_retC hC hP hD hS (by first | rfl | (simp [sm_tn, sm_b, c_1]; done) | (simp [sm_tn, sm_b] at c_1; simp [sm_tn, sm_b, c_1]; done) | (simp_all [sm_tn, sm_b]; done)) (sm_nb _) (by first | rfl | (simp [sm_tnc, c_1]; done) | (simp [sm_tnc] at c_1; simp [sm_tnc, c_1]; done) | (simp_all [sm_tnc]; done)) dX6_turnRow_49
  · have c_1 := sm_b0 c_1
    refine lv_iconst (v := 0) hx hb dX6_turnRow_11 (by decide) ?_
    exact sm_retC hC hP hD hS (by first | rfl | (simp [sm_tn, sm_b, c_1]; done) | (simp [sm_tn, sm_b] at c_1; simp [sm_tn, sm_b, c_1]; done) | (simp_all [sm_tn, sm_b]; done)) (by decide) (by first | rfl | (simp [sm_tnc, c_1]; done) | (simp [sm_tnc] at c_1; simp [sm_tnc, c_1]; done) | (simp_all [sm_tnc]; done)) dX6_turnRow_12

set_option maxHeartbeats 1000000 in
set_option maxRecDepth 100000 in
theorem c_X6_turnEntryBack (k : Nat) (hk : k < 40) (hP6 : P.1 ≤ 6) : sm_MC l yX6_turnEntryBack cX6_turnEntryBack 2 (some .boolean) 2 45 [.ref (ad 0), .int (nI k)] D (sm_w6 D ad P S T L M C cp ph fo ne no rc wr) (fun w => w = sm_w6 D ad P S T L M C (sm_tbc P T k cp) ph fo ne no rc wr) (some (.int (sm_b (sm_tb P T k)))) := by
  refine sm_met (own := RX6) (by decide) rfl (Nat.le_of_ble_eq_true rfl) ?_
  intro p e s m below meth c ls hC hv hl
  obtain ⟨hx, hb, hml, hr, hown, hlk, hts⟩ := id hC
  obtain ⟨⟨hP, hK⟩, hD, hZ⟩ := hv
  have hS : va_S (sm_ad (sm_w6 D ad P S T L M C cp ph fo ne no rc wr)) s.heap s.heap [] := va_S.rf
  have hl : lv_has ls 2 [(0, .ref (ad 0)), (1, .int (nI k))] := hl
  refine lv_aload_n hx hb dX6_turnEntryBack_0 rfl (lv_at hl 0 rfl) ?_
  refine sm_gt (ci := 6) (C := RX6) (T := TX6) (N := 12) hx hb hts inlX6 hown hK hP 0 rfl rfl 2 (by decide) wf_RX6_26 rfl dX6_turnEntryBack_1 ?_
  refine lv_iload_n hx hb dX6_turnEntryBack_4 rfl (lv_at hl 1 rfl) ?_
  refine sm_cVPr (rest := []) hC hK hP (c_X5_hasEntry D ad P S T L M C cp ph fo ne no rc wr k (by omega)) qyX5_hasEntry wl_RX6_277 ⟨Nat.le_of_ble_eq_true rfl, Nat.le_of_ble_eq_true rfl⟩ 8 rfl rfl rfl hl.1 rfl (Nat.le_of_ble_eq_true rfl) dX6_turnEntryBack_5 ⟨Nat.le_of_ble_eq_true rfl, Nat.le_of_ble_eq_true rfl⟩ ?_
  refine lv_if_ne (tgt := 13) hx hb dX6_turnEntryBack_8 (by decide) (fun c_1 => ?_) (fun c_1 => ?_)
  · have c_1 := sm_b1 c_1
    refine lv_aload_n hx hb dX6_turnEntryBack_13 rfl (lv_at hl 0 rfl) ?_
    refine sm_gt (ci := 6) (C := RX6) (T := TX6) (N := 12) hx hb hts inlX6 hown hK hP 0 rfl rfl 6 (by decide) wf_RX6_50 rfl dX6_turnEntryBack_14 ?_
    refine lv_aload_n hx hb dX6_turnEntryBack_17 rfl (lv_at hl 0 rfl) ?_
    refine sm_gt (ci := 6) (C := RX6) (T := TX6) (N := 12) hx hb hts inlX6 hown hK hP 0 rfl rfl 2 (by decide) wf_RX6_26 rfl dX6_turnEntryBack_18 ?_
    refine lv_iload_n hx hb dX6_turnEntryBack_21 rfl (lv_at hl 1 rfl) ?_
    refine lv_iconst (v := 0) hx hb dX6_turnEntryBack_22 (by decide) ?_
    refine sm_cVPr (rest := [.ref (ad 32)]) hC hK hP (c_X5_number D ad P S T L M C cp ph fo ne no rc wr k (by omega) false) qyX5_number wl_RX6_209 ⟨Nat.le_of_ble_eq_true rfl, Nat.le_of_ble_eq_true rfl⟩ 8 rfl rfl rfl hl.1 rfl (Nat.le_of_ble_eq_true rfl) dX6_turnEntryBack_23 ⟨Nat.le_of_ble_eq_true rfl, Nat.le_of_ble_eq_true rfl⟩ ?_
    refine sm_re (y := T.2.2.1 k) rfl ?_
    refine lv_aload_n hx hb dX6_turnEntryBack_26 rfl (lv_at hl 0 rfl) ?_
    refine sm_gt (ci := 6) (C := RX6) (T := TX6) (N := 12) hx hb hts inlX6 hown hK hP 0 rfl rfl 2 (by decide) wf_RX6_26 rfl dX6_turnEntryBack_27 ?_
    refine lv_iload_n hx hb dX6_turnEntryBack_30 rfl (lv_at hl 1 rfl) ?_
    refine lv_iconst (v := 1) hx hb dX6_turnEntryBack_31 (by decide) ?_
    refine sm_cVPr (rest := [.int (T.2.2.1 k), .ref (ad 32)]) hC hK hP (c_X5_number D ad P S T L M C cp ph fo ne no rc wr k (by omega) true) qyX5_number wl_RX6_209 ⟨Nat.le_of_ble_eq_true rfl, Nat.le_of_ble_eq_true rfl⟩ 8 rfl rfl rfl hl.1 rfl (Nat.le_of_ble_eq_true rfl) dX6_turnEntryBack_32 ⟨Nat.le_of_ble_eq_true rfl, Nat.le_of_ble_eq_true rfl⟩ ?_
    refine sm_re (y := T.2.2.2 k) rfl ?_
    refine sm_cVC (rest := []) hC hK hP hD hS hZ (c_X0_set D ad P S T L M C cp ph fo ne no rc wr (T.2.2.1 k) (T.2.2.2 k)) qyX0_set wl_RX6_329 ⟨Nat.le_of_ble_eq_true rfl, Nat.le_of_ble_eq_true rfl⟩ 32 rfl rfl rfl hl.1 rfl (Nat.le_of_ble_eq_true rfl) dX6_turnEntryBack_35 ⟨Nat.le_of_ble_eq_true rfl, Nat.le_of_ble_eq_true rfl⟩ (fun w1 H locs hB hP hD hS => ?_)
    subst hB
    refine lv_aload_n hx hb dX6_turnEntryBack_38 rfl (lv_at hl 0 rfl) ?_
    refine sm_gt (ci := 6) (C := RX6) (T := TX6) (N := 12) hx hb hts inlX6 hown hK hP 0 rfl rfl 0 (by decide) wf_RX6_10 rfl dX6_turnEntryBack_39 ?_
    refine lv_aload_n hx hb dX6_turnEntryBack_42 rfl (lv_at hl 0 rfl) ?_
    refine sm_gt (ci := 6) (C := RX6) (T := TX6) (N := 12) hx hb hts inlX6 hown hK hP 0 rfl rfl 6 (by decide) wf_RX6_50 rfl dX6_turnEntryBack_43 ?_
    refine sm_cVCr (rest := []) hC hK hP hD hS hZ (c_X4_turnBack D ad P S T L M C ((T.2.2.1 k), (T.2.2.2 k)) ph fo ne no rc wr hP6) qyX4_turnBack wl_RX6_339 ⟨Nat.le_of_ble_eq_true rfl, Nat.le_of_ble_eq_true rfl⟩ 1 rfl rfl rfl hl.1 rfl (Nat.le_of_ble_eq_true rfl) dX6_turnEntryBack_46 ⟨Nat.le_of_ble_eq_true rfl, Nat.le_of_ble_eq_true rfl⟩ (fun w1 H locs hB hP hD hS => ?_)
    subst hB
    exact sm_retC hC hP hD hS (by first | rfl | (simp [sm_tb, sm_b, c_1]; done) | (simp [sm_tb, sm_b] at c_1; simp [sm_tb, sm_b, c_1]; done) | (simp_all [sm_tb, sm_b]; done)) (sm_nb _) (by first | rfl | (simp [sm_tbc, c_1]; done) | (simp [sm_tbc] at c_1; simp [sm_tbc, c_1]; done) | (simp_all [sm_tbc]; done)) dX6_turnEntryBack_49
  · have c_1 := sm_b0 c_1
    refine lv_iconst (v := 0) hx hb dX6_turnEntryBack_11 (by decide) ?_
    exact sm_retC hC hP hD hS (by first | rfl | (simp [sm_tb, sm_b, c_1]; done) | (simp [sm_tb, sm_b] at c_1; simp [sm_tb, sm_b, c_1]; done) | (simp_all [sm_tb, sm_b]; done)) (by decide) (by first | rfl | (simp [sm_tbc, c_1]; done) | (simp [sm_tbc] at c_1; simp [sm_tbc, c_1]; done) | (simp_all [sm_tbc]; done)) dX6_turnEntryBack_12

set_option maxHeartbeats 1000000 in
set_option maxRecDepth 100000 in
theorem c_X6_canComeBack (hM : M.1 ≤ 120) (hMk : ∀ i, M.2.1 i < 40) (hP6 : P.1 ≤ 6) : sm_MC l yX6_canComeBack cX6_canComeBack 4 (some .boolean) 3 66 [.ref (ad 0)] D (sm_w6 D ad P S T L M C cp ph fo ne no rc wr) (fun w => ∃ (cp' : sm_Cp), w = sm_w6 D ad P S T L M C (cp') ph fo ne no rc wr) (some (.int (sm_b (sm_ccG P T M M.1 0)))) := by
  refine sm_met (own := RX6) (by decide) rfl (Nat.le_of_ble_eq_true rfl) ?_
  intro p e s m below meth c ls hC hv hl
  obtain ⟨hx, hb, hml, hr, hown, hlk, hts⟩ := id hC
  obtain ⟨⟨hP, hK⟩, hD, hZ⟩ := hv
  have hS : va_S (sm_ad (sm_w6 D ad P S T L M C cp ph fo ne no rc wr)) s.heap s.heap [] := va_S.rf
  have hl : lv_has ls 4 [(0, .ref (ad 0))] := hl
  refine lv_aload_n hx hb dX6_canComeBack_0 rfl (lv_at hl 0 rfl) ?_
  refine sm_gt (ci := 6) (C := RX6) (T := TX6) (N := 12) hx hb hts inlX6 hown hK hP 0 rfl rfl 4 (by decide) wf_RX6_37 rfl dX6_canComeBack_1 ?_
  refine sm_cVPr (rest := []) hC hK hP (c_X1_size_g D ad P S T L M C cp ph fo ne no rc wr ) qyX1_size wl_RX6_142 ⟨Nat.le_of_ble_eq_true rfl, Nat.le_of_ble_eq_true rfl⟩ 18 rfl rfl rfl hl.1 rfl (Nat.le_of_ble_eq_true rfl) dX6_canComeBack_4 ⟨Nat.le_of_ble_eq_true rfl, Nat.le_of_ble_eq_true rfl⟩ ?_
  refine lv_istore_n (lv' := [(1, .int (nI M.1)), (0, .ref (ad 0))]) hx hb dX6_canComeBack_7 rfl hl (by decide) rfl (fun ls hl => ?_)
  refine lv_iconst (v := 0) hx hb dX6_canComeBack_8 (by decide) ?_
  refine lv_istore_n (lv' := [(2, .int 0), (1, .int (nI M.1)), (0, .ref (ad 0))]) hx hb dX6_canComeBack_9 rfl hl (by decide) rfl (fun ls hl => ?_)
  suffices K : ∀ (n : Nat) (i : Nat) (q : sm_Cp) (H : Heap) (locs : List Loc) (ls : Array Slot), M.1 - i = n → (i ≤ M.1) → (sm_ccG P T M (M.1 - i) i = sm_ccG P T M M.1 0) → va_P D.1 sm_cl (sm_w6 D ad P S T L M C q ph fo ne no rc wr) H → va_D (sm_ad (sm_w6 D ad P S T L M C cp ph fo ne no rc wr)) (sm_w6 D ad P S T L M C q ph fo ne no rc wr) → va_S (sm_ad (sm_w6 D ad P S T L M C cp ph fo ne no rc wr)) s.heap H locs → lv_has ls 4 [(0, .ref (ad 0)), (1, .int (nI M.1)), (2, .int (nI i))] → W p l e ({ frames := 3, cells := 0, slots := 0, locals := 66 } : Room) s m ([.ref (ad 0)] : List Value).toArray below meth c H locs 0 0 (MQ below (sm_Qc D (sm_w6 D ad P S T L M C cp ph fo ne no rc wr) (fun w => ∃ (cp' : sm_Cp), w = sm_w6 D ad P S T L M C (cp') ph fo ne no rc wr) (some (.int (sm_b (sm_ccG P T M M.1 0))))) ([.ref (ad 0)] : List Value).toArray s 0 0 (sm_ad (sm_w6 D ad P S T L M C cp ph fo ne no rc wr))) (F0 m 10 ls []) from K _ 0 cp _ _ ls rfl (by omega) (rfl) hP hD hS (lv_sub hl [2, 1, 0] rfl)
  intro n
  induction n using Nat.strongRecOn with
  | ind n ih =>
    intro i q H locs ls hn hi hR hP hD hS hl
    refine lv_iload_n hx hb dX6_canComeBack_10 rfl (lv_at hl 2 rfl) ?_
    refine lv_iload_n hx hb dX6_canComeBack_11 rfl (lv_at hl 1 rfl) ?_
    refine lv_icmp_ge (tgt := 51) hx hb dX6_canComeBack_12 (by decide) (fun c_1 => ?_) (fun c_1 => ?_)
    · have c_1 := sm_Nnl (a := i) (b := M.1) (sm_nl c_1) (by omega) (by omega)
      refine lv_iconst (v := 1) hx hb dX6_canComeBack_51 (by decide) ?_
      exact sm_retC hC hP hD hS (by rw [show M.1 - i = 0 by omega] at hR; rw [← hR]; try rfl) (by decide) (by exact ⟨q, by rfl⟩) dX6_canComeBack_52
    · have c_1 := sm_Nlt (a := i) (b := M.1) (sm_nle c_1) (by omega) (by omega)
      refine lv_aload_n hx hb dX6_canComeBack_15 rfl (lv_at hl 0 rfl) ?_
      refine sm_gt (ci := 6) (C := RX6) (T := TX6) (N := 12) hx hb hts inlX6 hown hK hP 0 rfl rfl 4 (by decide) wf_RX6_37 rfl dX6_canComeBack_16 ?_
      refine lv_iload_n hx hb dX6_canComeBack_19 rfl (lv_at hl 2 rfl) ?_
      refine sm_cVPr (rest := []) hC hK hP (c_X1_key_g D ad P S T L M C q ph fo ne no rc wr i (by first | omega | exact hMk _)) qyX1_key wl_RX6_143 ⟨Nat.le_of_ble_eq_true rfl, Nat.le_of_ble_eq_true rfl⟩ 18 rfl rfl rfl hl.1 rfl (Nat.le_of_ble_eq_true rfl) dX6_canComeBack_20 ⟨Nat.le_of_ble_eq_true rfl, Nat.le_of_ble_eq_true rfl⟩ ?_
      refine lv_istore_n (lv' := [(3, .int (nI (M.2.1 i))), (0, .ref (ad 0)), (1, .int (nI M.1)), (2, .int (nI i))]) hx hb dX6_canComeBack_23 rfl hl (by decide) rfl (fun ls hl => ?_)
      refine lv_aload_n hx hb dX6_canComeBack_24 rfl (lv_at hl 1 rfl) ?_
      refine sm_gt (ci := 6) (C := RX6) (T := TX6) (N := 12) hx hb hts inlX6 hown hK hP 0 rfl rfl 2 (by decide) wf_RX6_26 rfl dX6_canComeBack_25 ?_
      refine lv_iload_n hx hb dX6_canComeBack_28 rfl (lv_at hl 0 rfl) ?_
      refine sm_cVPr (rest := []) hC hK hP (c_X5_hasEntry D ad P S T L M C q ph fo ne no rc wr (M.2.1 i) (by first | omega | exact hMk _)) qyX5_hasEntry wl_RX6_277 ⟨Nat.le_of_ble_eq_true rfl, Nat.le_of_ble_eq_true rfl⟩ 8 rfl rfl rfl hl.1 rfl (Nat.le_of_ble_eq_true rfl) dX6_canComeBack_29 ⟨Nat.le_of_ble_eq_true rfl, Nat.le_of_ble_eq_true rfl⟩ ?_
      refine lv_if_eq (tgt := 45) hx hb dX6_canComeBack_32 (by decide) (fun c_2 => ?_) (fun c_2 => ?_)
      · have c_2 := sm_b0 c_2
        refine lv_iinc (v := nI (i + 1)) (lv' := [(2, .int (nI (i + 1))), (3, .int (nI (M.2.1 i))), (0, .ref (ad 0)), (1, .int (nI M.1))]) hx hb dX6_canComeBack_45 hl (k := 3) rfl (nI_1 i) (by decide) rfl (fun ls hl => ?_)
        refine lv_goto (tgt := 10) hx hb dX6_canComeBack_48 (by decide) ?_
        exact ih _ (by omega) (i + 1) q _ _ ls rfl (by omega) (by rw [sm_ccS (by omega), if_neg (by rw [c_2]; decide)] at hR; exact hR) hP hD hS (lv_sub hl [2, 3, 0] rfl)
      · have c_2 := sm_b1 c_2
        refine lv_aload_n hx hb dX6_canComeBack_35 rfl (lv_at hl 1 rfl) ?_
        refine lv_iload_n hx hb dX6_canComeBack_36 rfl (lv_at hl 0 rfl) ?_
        refine sm_cVCr (rest := []) hC hK hP hD hS hZ (c_X6_turnEntryBack D ad P S T L M C q ph fo ne no rc wr (M.2.1 i) (by first | omega | exact hMk _) hP6) qyX6_turnEntryBack wl_RX6_282 ⟨Nat.le_of_ble_eq_true rfl, Nat.le_of_ble_eq_true rfl⟩ 0 rfl rfl rfl hl.1 rfl (Nat.le_of_ble_eq_true rfl) dX6_canComeBack_37 ⟨Nat.le_of_ble_eq_true rfl, Nat.le_of_ble_eq_true rfl⟩ (fun w1 H locs hB hP hD hS => ?_)
        subst hB
        refine lv_if_ne (tgt := 45) hx hb dX6_canComeBack_40 (by decide) (fun c_3 => ?_) (fun c_3 => ?_)
        · have c_3 := sm_b1 c_3
          refine lv_iinc (v := nI (i + 1)) (lv' := [(2, .int (nI (i + 1))), (3, .int (nI (M.2.1 i))), (0, .ref (ad 0)), (1, .int (nI M.1))]) hx hb dX6_canComeBack_45 hl (k := 3) rfl (nI_1 i) (by decide) rfl (fun ls hl => ?_)
          refine lv_goto (tgt := 10) hx hb dX6_canComeBack_48 (by decide) ?_
          exact ih _ (by omega) (i + 1) (sm_tbc P T (M.2.1 i) q) _ _ ls rfl (by omega) (by rw [sm_ccS (by omega), if_pos c_2, if_pos c_3] at hR; exact hR) hP hD hS (lv_sub hl [2, 3, 0] rfl)
        · have c_3 := sm_b0 c_3
          refine lv_iconst (v := 0) hx hb dX6_canComeBack_43 (by decide) ?_
          exact sm_retC hC hP hD hS (by rw [sm_ccS (by omega), if_pos c_2, if_neg (by rw [c_3]; decide)] at hR; rw [← hR]; try rfl) (by decide) (by exact ⟨(sm_tbc P T (M.2.1 i) q), by rfl⟩) dX6_canComeBack_44

set_option maxHeartbeats 1000000 in
set_option maxRecDepth 100000 in
theorem c_X6_comeBack (k : Nat) (hk : k < 40) (hP6 : P.1 ≤ 6) : sm_MC l yX6_comeBack cX6_comeBack 5 (some .boolean) 3 66 [.ref (ad 0), .int (nI k)] D (sm_w6 D ad P S T L M C cp ph fo ne no rc wr) (fun w => ∃ (cp' : sm_Cp), w = sm_w6 D ad P (sm_cbS P T S k) T L M C (cp') ph fo ne no rc wr) (some (.int (sm_b (sm_cbR P T S k)))) := by
  refine sm_met (own := RX6) (by decide) rfl (Nat.le_of_ble_eq_true rfl) ?_
  intro p e s m below meth c ls hC hv hl
  obtain ⟨hx, hb, hml, hr, hown, hlk, hts⟩ := id hC
  obtain ⟨⟨hP, hK⟩, hD, hZ⟩ := hv
  have hS : va_S (sm_ad (sm_w6 D ad P S T L M C cp ph fo ne no rc wr)) s.heap s.heap [] := va_S.rf
  have hl : lv_has ls 5 [(0, .ref (ad 0)), (1, .int (nI k))] := hl
  refine lv_aload_n hx hb dX6_comeBack_0 rfl (lv_at hl 0 rfl) ?_
  refine sm_gt (ci := 6) (C := RX6) (T := TX6) (N := 12) hx hb hts inlX6 hown hK hP 0 rfl rfl 2 (by decide) wf_RX6_26 rfl dX6_comeBack_1 ?_
  refine lv_iload_n hx hb dX6_comeBack_4 rfl (lv_at hl 1 rfl) ?_
  refine sm_cVPr (rest := []) hC hK hP (c_X5_hasEntry D ad P S T L M C cp ph fo ne no rc wr k (by omega)) qyX5_hasEntry wl_RX6_277 ⟨Nat.le_of_ble_eq_true rfl, Nat.le_of_ble_eq_true rfl⟩ 8 rfl rfl rfl hl.1 rfl (Nat.le_of_ble_eq_true rfl) dX6_comeBack_5 ⟨Nat.le_of_ble_eq_true rfl, Nat.le_of_ble_eq_true rfl⟩ ?_
  refine lv_if_ne (tgt := 30) hx hb dX6_comeBack_8 (by decide) (fun c_1 => ?_) (fun c_1 => ?_)
  · have c_1 := sm_b1 c_1
    refine lv_aload_n hx hb dX6_comeBack_30 rfl (lv_at hl 0 rfl) ?_
    refine lv_iload_n hx hb dX6_comeBack_31 rfl (lv_at hl 1 rfl) ?_
    refine sm_cVCr (rest := []) hC hK hP hD hS hZ (c_X6_turnEntryBack D ad P S T L M C cp ph fo ne no rc wr k (by omega) hP6) qyX6_turnEntryBack wl_RX6_282 ⟨Nat.le_of_ble_eq_true rfl, Nat.le_of_ble_eq_true rfl⟩ 0 rfl rfl rfl hl.1 rfl (Nat.le_of_ble_eq_true rfl) dX6_comeBack_32 ⟨Nat.le_of_ble_eq_true rfl, Nat.le_of_ble_eq_true rfl⟩ (fun w1 H locs hB hP hD hS => ?_)
    subst hB
    refine lv_if_ne (tgt := 40) hx hb dX6_comeBack_35 (by decide) (fun c_2 => ?_) (fun c_2 => ?_)
    · have c_2 := sm_b1 c_2
      refine lv_aload_n hx hb dX6_comeBack_40 rfl (lv_at hl 0 rfl) ?_
      refine sm_gt (ci := 6) (C := RX6) (T := TX6) (N := 12) hx hb hts inlX6 hown hK hP 0 rfl rfl 6 (by decide) wf_RX6_50 rfl dX6_comeBack_41 ?_
      refine lv_iconst (v := 0) hx hb dX6_comeBack_44 (by decide) ?_
      refine sm_cVPr (rest := []) hC hK hP (c_X0_number D ad P S T L M C (sm_tbc P T k cp) ph fo ne no rc wr false) qyX0_number wl_RX6_274 ⟨Nat.le_of_ble_eq_true rfl, Nat.le_of_ble_eq_true rfl⟩ 32 rfl rfl rfl hl.1 rfl (Nat.le_of_ble_eq_true rfl) dX6_comeBack_45 ⟨Nat.le_of_ble_eq_true rfl, Nat.le_of_ble_eq_true rfl⟩ ?_
      refine sm_re (y := (sm_tbc P T k cp).1) rfl ?_
      refine lv_istore_n (lv' := [(2, .int ((sm_tbc P T k cp).1)), (0, .ref (ad 0)), (1, .int (nI k))]) hx hb dX6_comeBack_48 rfl hl (by decide) rfl (fun ls hl => ?_)
      refine lv_aload_n hx hb dX6_comeBack_49 rfl (lv_at hl 1 rfl) ?_
      refine sm_gt (ci := 6) (C := RX6) (T := TX6) (N := 12) hx hb hts inlX6 hown hK hP 0 rfl rfl 6 (by decide) wf_RX6_50 rfl dX6_comeBack_50 ?_
      refine lv_iconst (v := 1) hx hb dX6_comeBack_53 (by decide) ?_
      refine sm_cVPr (rest := []) hC hK hP (c_X0_number D ad P S T L M C (sm_tbc P T k cp) ph fo ne no rc wr true) qyX0_number wl_RX6_274 ⟨Nat.le_of_ble_eq_true rfl, Nat.le_of_ble_eq_true rfl⟩ 32 rfl rfl rfl hl.1 rfl (Nat.le_of_ble_eq_true rfl) dX6_comeBack_54 ⟨Nat.le_of_ble_eq_true rfl, Nat.le_of_ble_eq_true rfl⟩ ?_
      refine sm_re (y := (sm_tbc P T k cp).2) rfl ?_
      refine lv_istore_n (lv' := [(3, .int ((sm_tbc P T k cp).2)), (2, .int ((sm_tbc P T k cp).1)), (0, .ref (ad 0)), (1, .int (nI k))]) hx hb dX6_comeBack_57 rfl hl (by decide) rfl (fun ls hl => ?_)
      refine lv_aload_n hx hb dX6_comeBack_58 rfl (lv_at hl 2 rfl) ?_
      refine sm_gt (ci := 6) (C := RX6) (T := TX6) (N := 12) hx hb hts inlX6 hown hK hP 0 rfl rfl 1 (by decide) wf_RX6_19 rfl dX6_comeBack_59 ?_
      refine lv_iload_n hx hb dX6_comeBack_62 rfl (lv_at hl 3 rfl) ?_
      refine lv_iload_n hx hb dX6_comeBack_63 rfl (lv_at hl 1 rfl) ?_
      refine lv_iload_n hx hb dX6_comeBack_64 rfl (lv_at hl 0 rfl) ?_
      refine sm_cVPr (rest := []) hC hK hP (c_X3_holds_s D ad P S T L M C (sm_tbc P T k cp) ph fo ne no rc wr k (by omega) ((sm_tbc P T k cp).1) ((sm_tbc P T k cp).2)) qyX3_holds wl_RX6_342 ⟨Nat.le_of_ble_eq_true rfl, Nat.le_of_ble_eq_true rfl⟩ 4 rfl rfl rfl hl.1 rfl (Nat.le_of_ble_eq_true rfl) dX6_comeBack_65 ⟨Nat.le_of_ble_eq_true rfl, Nat.le_of_ble_eq_true rfl⟩ ?_
      refine lv_istore (lv' := [(4, .int (sm_b (sm_hold S k ((sm_tbc P T k cp).1) ((sm_tbc P T k cp).2)))), (3, .int ((sm_tbc P T k cp).2)), (2, .int ((sm_tbc P T k cp).1)), (0, .ref (ad 0)), (1, .int (nI k))]) hx hb dX6_comeBack_68 hl (by decide) rfl (fun ls hl => ?_)
      refine lv_aload_n hx hb dX6_comeBack_70 rfl (lv_at hl 3 rfl) ?_
      refine sm_gt (ci := 6) (C := RX6) (T := TX6) (N := 12) hx hb hts inlX6 hown hK hP 0 rfl rfl 1 (by decide) wf_RX6_19 rfl dX6_comeBack_71 ?_
      refine lv_iload_n hx hb dX6_comeBack_74 rfl (lv_at hl 4 rfl) ?_
      refine lv_iload_n hx hb dX6_comeBack_75 rfl (lv_at hl 2 rfl) ?_
      refine lv_iload_n hx hb dX6_comeBack_76 rfl (lv_at hl 1 rfl) ?_
      refine sm_cVC (rest := []) hC hK hP hD hS hZ (c_X3_put_s D ad P S T L M C (sm_tbc P T k cp) ph fo ne no rc wr k (by omega) ((sm_tbc P T k cp).1) ((sm_tbc P T k cp).2)) qyX3_put wl_RX6_180 ⟨Nat.le_of_ble_eq_true rfl, Nat.le_of_ble_eq_true rfl⟩ 4 rfl rfl rfl hl.1 rfl (Nat.le_of_ble_eq_true rfl) dX6_comeBack_77 ⟨Nat.le_of_ble_eq_true rfl, Nat.le_of_ble_eq_true rfl⟩ (fun w1 H locs hB hP hD hS => ?_)
      subst hB
      refine lv_iload hx hb dX6_comeBack_80 (lv_at hl 0 rfl) ?_
      refine lv_if_ne (tgt := 89) hx hb dX6_comeBack_82 (by decide) (fun c_3 => ?_) (fun c_3 => ?_)
      · have c_3 := sm_b1 c_3
        refine lv_iconst (v := 0) hx hb dX6_comeBack_89 (by decide) ?_
        exact sm_retC hC hP hD hS (by first | rfl | (simp [sm_cbR, sm_tbc, sm_b, c_1, c_2, c_3]; done) | (simp [sm_cbR, sm_tbc, sm_b] at c_1 c_2 c_3; simp [sm_cbR, sm_tbc, sm_b, c_1, c_2, c_3]; done) | (simp_all [sm_cbR, sm_tbc, sm_b]; done)) (by decide) (by exact ⟨(sm_tbc P T k cp), by first | rfl | (simp [sm_cbS, sm_tbc, c_1, c_2, c_3]; done) | (simp [sm_cbS, sm_tbc] at c_1 c_2 c_3; simp [sm_cbS, sm_tbc, c_1, c_2, c_3]; done) | (simp_all [sm_cbS, sm_tbc]; done)⟩) dX6_comeBack_90
      · have c_3 := sm_b0 c_3
        refine lv_iconst (v := 1) hx hb dX6_comeBack_85 (by decide) ?_
        refine lv_goto (tgt := 90) hx hb dX6_comeBack_86 (by decide) ?_
        exact sm_retC hC hP hD hS (by first | rfl | (simp [sm_cbR, sm_tbc, sm_b, c_1, c_2, c_3]; done) | (simp [sm_cbR, sm_tbc, sm_b] at c_1 c_2 c_3; simp [sm_cbR, sm_tbc, sm_b, c_1, c_2, c_3]; done) | (simp_all [sm_cbR, sm_tbc, sm_b]; done)) (by decide) (by exact ⟨(sm_tbc P T k cp), by first | rfl | (simp [sm_cbS, sm_tbc, c_1, c_2, c_3]; done) | (simp [sm_cbS, sm_tbc] at c_1 c_2 c_3; simp [sm_cbS, sm_tbc, c_1, c_2, c_3]; done) | (simp_all [sm_cbS, sm_tbc]; done)⟩) dX6_comeBack_90
    · have c_2 := sm_b0 c_2
      refine lv_iconst (v := 0) hx hb dX6_comeBack_38 (by decide) ?_
      exact sm_retC hC hP hD hS (by first | rfl | (simp [sm_cbR, sm_tbc, sm_b, c_1, c_2]; done) | (simp [sm_cbR, sm_tbc, sm_b] at c_1 c_2; simp [sm_cbR, sm_tbc, sm_b, c_1, c_2]; done) | (simp_all [sm_cbR, sm_tbc, sm_b]; done)) (by decide) (by exact ⟨(sm_tbc P T k cp), by first | rfl | (simp [sm_cbS, sm_tbc, c_1, c_2]; done) | (simp [sm_cbS, sm_tbc] at c_1 c_2; simp [sm_cbS, sm_tbc, c_1, c_2]; done) | (simp_all [sm_cbS, sm_tbc]; done)⟩) dX6_comeBack_39
  · have c_1 := sm_b0 c_1
    refine lv_aload_n hx hb dX6_comeBack_11 rfl (lv_at hl 0 rfl) ?_
    refine sm_gt (ci := 6) (C := RX6) (T := TX6) (N := 12) hx hb hts inlX6 hown hK hP 0 rfl rfl 1 (by decide) wf_RX6_19 rfl dX6_comeBack_12 ?_
    refine lv_iload_n hx hb dX6_comeBack_15 rfl (lv_at hl 1 rfl) ?_
    refine sm_cVPr (rest := []) hC hK hP (c_X3_has_s D ad P S T L M C cp ph fo ne no rc wr k (by omega)) qyX3_has wl_RX6_264 ⟨Nat.le_of_ble_eq_true rfl, Nat.le_of_ble_eq_true rfl⟩ 4 rfl rfl rfl hl.1 rfl (Nat.le_of_ble_eq_true rfl) dX6_comeBack_16 ⟨Nat.le_of_ble_eq_true rfl, Nat.le_of_ble_eq_true rfl⟩ ?_
    refine lv_istore_n (lv' := [(2, .int (sm_b (S.1 k))), (0, .ref (ad 0)), (1, .int (nI k))]) hx hb dX6_comeBack_19 rfl hl (by decide) rfl (fun ls hl => ?_)
    refine lv_aload_n hx hb dX6_comeBack_20 rfl (lv_at hl 1 rfl) ?_
    refine sm_gt (ci := 6) (C := RX6) (T := TX6) (N := 12) hx hb hts inlX6 hown hK hP 0 rfl rfl 1 (by decide) wf_RX6_19 rfl dX6_comeBack_21 ?_
    refine lv_iload_n hx hb dX6_comeBack_24 rfl (lv_at hl 2 rfl) ?_
    refine sm_cVC (rest := []) hC hK hP hD hS hZ (c_X3_remove_s D ad P S T L M C cp ph fo ne no rc wr k (by omega)) qyX3_remove wl_RX6_201 ⟨Nat.le_of_ble_eq_true rfl, Nat.le_of_ble_eq_true rfl⟩ 4 rfl rfl rfl hl.1 rfl (Nat.le_of_ble_eq_true rfl) dX6_comeBack_25 ⟨Nat.le_of_ble_eq_true rfl, Nat.le_of_ble_eq_true rfl⟩ (fun w1 H locs hB hP hD hS => ?_)
    subst hB
    refine lv_iload_n hx hb dX6_comeBack_28 rfl (lv_at hl 0 rfl) ?_
    exact sm_retC hC hP hD hS (by first | rfl | (simp [sm_cbR, sm_tbc, sm_b, c_1]; done) | (simp [sm_cbR, sm_tbc, sm_b] at c_1; simp [sm_cbR, sm_tbc, sm_b, c_1]; done) | (simp_all [sm_cbR, sm_tbc, sm_b]; done)) (sm_nb _) (by exact ⟨cp, by first | rfl | (simp [sm_cbS, sm_tbc, c_1]; done) | (simp [sm_cbS, sm_tbc] at c_1; simp [sm_cbS, sm_tbc, c_1]; done) | (simp_all [sm_cbS, sm_tbc]; done)⟩) dX6_comeBack_29

set_option maxHeartbeats 1000000 in
set_option maxRecDepth 100000 in
theorem c_X6_isEntryAsCouple (k : Nat) (hk : k < 40) : sm_MP l yX6_isEntryAsCouple cX6_isEntryAsCouple 2 (some .boolean) 2 43 [.ref (ad 0), .int (nI k)] D (sm_w6 D ad P S T L M C cp ph fo ne no rc wr) (some (.int (sm_b (sm_eac T k cp)))) := by
  refine sm_met (own := RX6) (by decide) rfl (Nat.le_of_ble_eq_true rfl) ?_
  intro p e s m below meth c ls hC hv hl
  obtain ⟨hx, hb, hml, hr, hown, hlk, hts⟩ := id hC
  obtain ⟨hP, hK⟩ := hv
  have hl : lv_has ls 2 [(0, .ref (ad 0)), (1, .int (nI k))] := hl
  refine lv_aload_n hx hb dX6_isEntryAsCouple_0 rfl (lv_at hl 0 rfl) ?_
  refine sm_gt (ci := 6) (C := RX6) (T := TX6) (N := 12) hx hb hts inlX6 hown hK hP 0 rfl rfl 2 (by decide) wf_RX6_26 rfl dX6_isEntryAsCouple_1 ?_
  refine lv_iload_n hx hb dX6_isEntryAsCouple_4 rfl (lv_at hl 1 rfl) ?_
  refine lv_iconst (v := 0) hx hb dX6_isEntryAsCouple_5 (by decide) ?_
  refine sm_cVPr (rest := []) hC hK hP (c_X5_number D ad P S T L M C cp ph fo ne no rc wr k (by omega) false) qyX5_number wl_RX6_209 ⟨Nat.le_of_ble_eq_true rfl, Nat.le_of_ble_eq_true rfl⟩ 8 rfl rfl rfl hl.1 rfl (Nat.le_of_ble_eq_true rfl) dX6_isEntryAsCouple_6 ⟨Nat.le_of_ble_eq_true rfl, Nat.le_of_ble_eq_true rfl⟩ ?_
  refine sm_re (y := T.2.2.1 k) rfl ?_
  refine lv_aload_n hx hb dX6_isEntryAsCouple_9 rfl (lv_at hl 0 rfl) ?_
  refine sm_gt (ci := 6) (C := RX6) (T := TX6) (N := 12) hx hb hts inlX6 hown hK hP 0 rfl rfl 6 (by decide) wf_RX6_50 rfl dX6_isEntryAsCouple_10 ?_
  refine lv_iconst (v := 0) hx hb dX6_isEntryAsCouple_13 (by decide) ?_
  refine sm_cVPr (rest := [.int (T.2.2.1 k)]) hC hK hP (c_X0_number D ad P S T L M C cp ph fo ne no rc wr false) qyX0_number wl_RX6_274 ⟨Nat.le_of_ble_eq_true rfl, Nat.le_of_ble_eq_true rfl⟩ 32 rfl rfl rfl hl.1 rfl (Nat.le_of_ble_eq_true rfl) dX6_isEntryAsCouple_14 ⟨Nat.le_of_ble_eq_true rfl, Nat.le_of_ble_eq_true rfl⟩ ?_
  refine sm_re (y := cp.1) rfl ?_
  refine lv_icmp_ne (tgt := 44) hx hb dX6_isEntryAsCouple_17 (by decide) (fun c_1 => ?_) (fun c_1 => ?_)
  · have c_1_ := c_1
    refine lv_iconst (v := 0) hx hb dX6_isEntryAsCouple_44 (by decide) ?_
    exact sm_retP hC (by first | rfl | (simp [sm_eac, sm_b, c_1]; done) | (simp [sm_eac, sm_b] at c_1; simp [sm_eac, sm_b, c_1]; done) | (simp_all [sm_eac, sm_b]; done)) (by decide) dX6_isEntryAsCouple_45
  · have c_1_ := c_1
    refine lv_aload_n hx hb dX6_isEntryAsCouple_20 rfl (lv_at hl 0 rfl) ?_
    refine sm_gt (ci := 6) (C := RX6) (T := TX6) (N := 12) hx hb hts inlX6 hown hK hP 0 rfl rfl 2 (by decide) wf_RX6_26 rfl dX6_isEntryAsCouple_21 ?_
    refine lv_iload_n hx hb dX6_isEntryAsCouple_24 rfl (lv_at hl 1 rfl) ?_
    refine lv_iconst (v := 1) hx hb dX6_isEntryAsCouple_25 (by decide) ?_
    refine sm_cVPr (rest := []) hC hK hP (c_X5_number D ad P S T L M C cp ph fo ne no rc wr k (by omega) true) qyX5_number wl_RX6_209 ⟨Nat.le_of_ble_eq_true rfl, Nat.le_of_ble_eq_true rfl⟩ 8 rfl rfl rfl hl.1 rfl (Nat.le_of_ble_eq_true rfl) dX6_isEntryAsCouple_26 ⟨Nat.le_of_ble_eq_true rfl, Nat.le_of_ble_eq_true rfl⟩ ?_
    refine sm_re (y := T.2.2.2 k) rfl ?_
    refine lv_aload_n hx hb dX6_isEntryAsCouple_29 rfl (lv_at hl 0 rfl) ?_
    refine sm_gt (ci := 6) (C := RX6) (T := TX6) (N := 12) hx hb hts inlX6 hown hK hP 0 rfl rfl 6 (by decide) wf_RX6_50 rfl dX6_isEntryAsCouple_30 ?_
    refine lv_iconst (v := 1) hx hb dX6_isEntryAsCouple_33 (by decide) ?_
    refine sm_cVPr (rest := [.int (T.2.2.2 k)]) hC hK hP (c_X0_number D ad P S T L M C cp ph fo ne no rc wr true) qyX0_number wl_RX6_274 ⟨Nat.le_of_ble_eq_true rfl, Nat.le_of_ble_eq_true rfl⟩ 32 rfl rfl rfl hl.1 rfl (Nat.le_of_ble_eq_true rfl) dX6_isEntryAsCouple_34 ⟨Nat.le_of_ble_eq_true rfl, Nat.le_of_ble_eq_true rfl⟩ ?_
    refine sm_re (y := cp.2) rfl ?_
    refine lv_icmp_ne (tgt := 44) hx hb dX6_isEntryAsCouple_37 (by decide) (fun c_2 => ?_) (fun c_2 => ?_)
    · have c_2_ := c_2
      refine lv_iconst (v := 0) hx hb dX6_isEntryAsCouple_44 (by decide) ?_
      exact sm_retP hC (by first | rfl | (simp [sm_eac, sm_b, c_1, c_2]; done) | (simp [sm_eac, sm_b] at c_1 c_2; simp [sm_eac, sm_b, c_1, c_2]; done) | (simp_all [sm_eac, sm_b]; done)) (by decide) dX6_isEntryAsCouple_45
    · have c_2_ := c_2
      refine lv_iconst (v := 1) hx hb dX6_isEntryAsCouple_40 (by decide) ?_
      refine lv_goto (tgt := 45) hx hb dX6_isEntryAsCouple_41 (by decide) ?_
      exact sm_retP hC (by first | rfl | (simp [sm_eac, sm_b, c_1, c_2]; done) | (simp [sm_eac, sm_b] at c_1 c_2; simp [sm_eac, sm_b, c_1, c_2]; done) | (simp_all [sm_eac, sm_b]; done)) (by decide) dX6_isEntryAsCouple_45

set_option maxHeartbeats 1000000 in
set_option maxRecDepth 100000 in
theorem c_X6_stateOf (k : Nat) (hk : k < 40) (hP6 : P.1 ≤ 6) : sm_MC l yX6_stateOf cX6_stateOf 3 (some .char) 3 66 [.ref (ad 0), .int (nI k)] D (sm_w6 D ad P S T L M C cp ph fo ne no rc wr) (fun w => ∃ (cp' : sm_Cp), w = sm_w6 D ad P S T L M C (cp') ph fo ne no rc wr) (some (.int (sm_stF P S T k))) := by
  refine sm_met (own := RX6) (by decide) rfl (Nat.le_of_ble_eq_true rfl) ?_
  intro p e s m below meth c ls hC hv hl
  obtain ⟨hx, hb, hml, hr, hown, hlk, hts⟩ := id hC
  obtain ⟨⟨hP, hK⟩, hD, hZ⟩ := hv
  have hS : va_S (sm_ad (sm_w6 D ad P S T L M C cp ph fo ne no rc wr)) s.heap s.heap [] := va_S.rf
  have hl : lv_has ls 3 [(0, .ref (ad 0)), (1, .int (nI k))] := hl
  refine lv_aload_n hx hb dX6_stateOf_0 rfl (lv_at hl 0 rfl) ?_
  refine sm_gt (ci := 6) (C := RX6) (T := TX6) (N := 12) hx hb hts inlX6 hown hK hP 0 rfl rfl 2 (by decide) wf_RX6_26 rfl dX6_stateOf_1 ?_
  refine lv_iload_n hx hb dX6_stateOf_4 rfl (lv_at hl 1 rfl) ?_
  refine sm_cVPr (rest := []) hC hK hP (c_X5_isAside D ad P S T L M C cp ph fo ne no rc wr k (by omega)) qyX5_isAside wl_RX6_346 ⟨Nat.le_of_ble_eq_true rfl, Nat.le_of_ble_eq_true rfl⟩ 8 rfl rfl rfl hl.1 rfl (Nat.le_of_ble_eq_true rfl) dX6_stateOf_5 ⟨Nat.le_of_ble_eq_true rfl, Nat.le_of_ble_eq_true rfl⟩ ?_
  refine lv_if_eq (tgt := 14) hx hb dX6_stateOf_8 (by decide) (fun c_1 => ?_) (fun c_1 => ?_)
  · have c_1 := sm_b0 c_1
    refine lv_aload_n hx hb dX6_stateOf_14 rfl (lv_at hl 0 rfl) ?_
    refine sm_gt (ci := 6) (C := RX6) (T := TX6) (N := 12) hx hb hts inlX6 hown hK hP 0 rfl rfl 2 (by decide) wf_RX6_26 rfl dX6_stateOf_15 ?_
    refine lv_iload_n hx hb dX6_stateOf_18 rfl (lv_at hl 1 rfl) ?_
    refine sm_cVPr (rest := []) hC hK hP (c_X5_hasEntry D ad P S T L M C cp ph fo ne no rc wr k (by omega)) qyX5_hasEntry wl_RX6_277 ⟨Nat.le_of_ble_eq_true rfl, Nat.le_of_ble_eq_true rfl⟩ 8 rfl rfl rfl hl.1 rfl (Nat.le_of_ble_eq_true rfl) dX6_stateOf_19 ⟨Nat.le_of_ble_eq_true rfl, Nat.le_of_ble_eq_true rfl⟩ ?_
    refine lv_istore_n (lv' := [(2, .int (sm_b (sm_kd T k 1))), (0, .ref (ad 0)), (1, .int (nI k))]) hx hb dX6_stateOf_22 rfl hl (by decide) rfl (fun ls hl => ?_)
    refine lv_aload_n hx hb dX6_stateOf_23 rfl (lv_at hl 1 rfl) ?_
    refine sm_gt (ci := 6) (C := RX6) (T := TX6) (N := 12) hx hb hts inlX6 hown hK hP 0 rfl rfl 1 (by decide) wf_RX6_19 rfl dX6_stateOf_24 ?_
    refine lv_iload_n hx hb dX6_stateOf_27 rfl (lv_at hl 2 rfl) ?_
    refine sm_cVPr (rest := []) hC hK hP (c_X3_has_s D ad P S T L M C cp ph fo ne no rc wr k (by omega)) qyX3_has wl_RX6_264 ⟨Nat.le_of_ble_eq_true rfl, Nat.le_of_ble_eq_true rfl⟩ 4 rfl rfl rfl hl.1 rfl (Nat.le_of_ble_eq_true rfl) dX6_stateOf_28 ⟨Nat.le_of_ble_eq_true rfl, Nat.le_of_ble_eq_true rfl⟩ ?_
    refine lv_if_ne (tgt := 46) hx hb dX6_stateOf_31 (by decide) (fun c_2 => ?_) (fun c_2 => ?_)
    · have c_2 := sm_b1 c_2
      refine lv_iload_n hx hb dX6_stateOf_46 rfl (lv_at hl 0 rfl) ?_
      refine lv_if_ne (tgt := 53) hx hb dX6_stateOf_47 (by decide) (fun c_3 => ?_) (fun c_3 => ?_)
      · have c_3 := sm_b1 c_3
        refine lv_aload_n hx hb dX6_stateOf_53 rfl (lv_at hl 1 rfl) ?_
        refine lv_iload_n hx hb dX6_stateOf_54 rfl (lv_at hl 2 rfl) ?_
        refine sm_cVCr (rest := []) hC hK hP hD hS hZ (c_X6_turnRow D ad P S T L M C cp ph fo ne no rc wr k (by omega) hP6) qyX6_turnRow wl_RX6_269 ⟨Nat.le_of_ble_eq_true rfl, Nat.le_of_ble_eq_true rfl⟩ 0 rfl rfl rfl hl.1 rfl (Nat.le_of_ble_eq_true rfl) dX6_stateOf_55 ⟨Nat.le_of_ble_eq_true rfl, Nat.le_of_ble_eq_true rfl⟩ (fun w1 H locs hB hP hD hS => ?_)
        subst hB
        refine lv_if_eq (tgt := 74) hx hb dX6_stateOf_58 (by decide) (fun c_4 => ?_) (fun c_4 => ?_)
        · have c_4 := sm_b0 c_4
          refine lv_bipush (v := 117) hx hb dX6_stateOf_74 (by decide) ?_
          exact sm_retC hC hP hD hS (by first | rfl | (simp [sm_stF, sm_tnc, c_1, c_2, c_3, c_4]; done) | (simp [sm_stF, sm_tnc] at c_1 c_2 c_3 c_4; simp [sm_stF, sm_tnc, c_1, c_2, c_3, c_4]; done) | (simp_all [sm_stF, sm_tnc]; done)) (by decide) (by exact ⟨(sm_tnc P S k cp), by rfl⟩) dX6_stateOf_76
        · have c_4 := sm_b1 c_4
          refine lv_aload_n hx hb dX6_stateOf_61 rfl (lv_at hl 1 rfl) ?_
          refine lv_iload_n hx hb dX6_stateOf_62 rfl (lv_at hl 2 rfl) ?_
          refine sm_cVPr (rest := []) hC hK hP (c_X6_isEntryAsCouple D ad P S T L M C (sm_tnc P S k cp) ph fo ne no rc wr k (by omega)) qyX6_isEntryAsCouple wl_RX6_349 ⟨Nat.le_of_ble_eq_true rfl, Nat.le_of_ble_eq_true rfl⟩ 0 rfl rfl rfl hl.1 rfl (Nat.le_of_ble_eq_true rfl) dX6_stateOf_63 ⟨Nat.le_of_ble_eq_true rfl, Nat.le_of_ble_eq_true rfl⟩ ?_
          refine lv_if_eq (tgt := 74) hx hb dX6_stateOf_66 (by decide) (fun c_5 => ?_) (fun c_5 => ?_)
          · have c_5 := sm_b0 c_5
            refine lv_bipush (v := 117) hx hb dX6_stateOf_74 (by decide) ?_
            exact sm_retC hC hP hD hS (by first | rfl | (simp [sm_stF, sm_tnc, c_1, c_2, c_3, c_4, c_5]; done) | (simp [sm_stF, sm_tnc] at c_1 c_2 c_3 c_4 c_5; simp [sm_stF, sm_tnc, c_1, c_2, c_3, c_4, c_5]; done) | (simp_all [sm_stF, sm_tnc]; done)) (by decide) (by exact ⟨(sm_tnc P S k cp), by rfl⟩) dX6_stateOf_76
          · have c_5 := sm_b1 c_5
            refine lv_bipush (v := 101) hx hb dX6_stateOf_69 (by decide) ?_
            refine lv_goto (tgt := 76) hx hb dX6_stateOf_71 (by decide) ?_
            exact sm_retC hC hP hD hS (by first | rfl | (simp [sm_stF, sm_tnc, c_1, c_2, c_3, c_4, c_5]; done) | (simp [sm_stF, sm_tnc] at c_1 c_2 c_3 c_4 c_5; simp [sm_stF, sm_tnc, c_1, c_2, c_3, c_4, c_5]; done) | (simp_all [sm_stF, sm_tnc]; done)) (by decide) (by exact ⟨(sm_tnc P S k cp), by rfl⟩) dX6_stateOf_76
      · have c_3 := sm_b0 c_3
        refine lv_bipush (v := 115) hx hb dX6_stateOf_50 (by decide) ?_
        exact sm_retC hC hP hD hS (by first | rfl | (simp [sm_stF, sm_tnc, c_1, c_2, c_3]; done) | (simp [sm_stF, sm_tnc] at c_1 c_2 c_3; simp [sm_stF, sm_tnc, c_1, c_2, c_3]; done) | (simp_all [sm_stF, sm_tnc]; done)) (by decide) (by exact ⟨cp, by rfl⟩) dX6_stateOf_52
    · have c_2 := sm_b0 c_2
      refine lv_iload_n hx hb dX6_stateOf_34 rfl (lv_at hl 0 rfl) ?_
      refine lv_if_eq (tgt := 43) hx hb dX6_stateOf_35 (by decide) (fun c_6 => ?_) (fun c_6 => ?_)
      · have c_6 := sm_b0 c_6
        refine lv_bipush (v := 110) hx hb dX6_stateOf_43 (by decide) ?_
        exact sm_retC hC hP hD hS (by first | rfl | (simp [sm_stF, sm_tnc, c_1, c_2, c_6]; done) | (simp [sm_stF, sm_tnc] at c_1 c_2 c_6; simp [sm_stF, sm_tnc, c_1, c_2, c_6]; done) | (simp_all [sm_stF, sm_tnc]; done)) (by decide) (by exact ⟨cp, by rfl⟩) dX6_stateOf_45
      · have c_6 := sm_b1 c_6
        refine lv_bipush (v := 116) hx hb dX6_stateOf_38 (by decide) ?_
        refine lv_goto (tgt := 45) hx hb dX6_stateOf_40 (by decide) ?_
        exact sm_retC hC hP hD hS (by first | rfl | (simp [sm_stF, sm_tnc, c_1, c_2, c_6]; done) | (simp [sm_stF, sm_tnc] at c_1 c_2 c_6; simp [sm_stF, sm_tnc, c_1, c_2, c_6]; done) | (simp_all [sm_stF, sm_tnc]; done)) (by decide) (by exact ⟨cp, by rfl⟩) dX6_stateOf_45
  · have c_1 := sm_b1 c_1
    refine lv_bipush (v := 97) hx hb dX6_stateOf_11 (by decide) ?_
    exact sm_retC hC hP hD hS (by first | rfl | (simp [sm_stF, sm_tnc, c_1]; done) | (simp [sm_stF, sm_tnc] at c_1; simp [sm_stF, sm_tnc, c_1]; done) | (simp_all [sm_stF, sm_tnc]; done)) (by decide) (by exact ⟨cp, by rfl⟩) dX6_stateOf_13

set_option maxHeartbeats 1000000 in
set_option maxRecDepth 100000 in
theorem c_X6_countMoved (hP6 : P.1 ≤ 6) : sm_MC l yX6_countMoved cX6_countMoved 3 (some .int) 4 88 [.ref (ad 0)] D (sm_w6 D ad P S T L M C cp ph fo ne no rc wr) (fun w => ∃ (cp' : sm_Cp), w = sm_w6 D ad P S T L M C (cp') ph fo ne no rc wr) (some (.int (nI (sm_cnG (fun i => decide (sm_stF P S T i = 101)) 40 0 0)))) := by
  refine sm_met (own := RX6) (by decide) rfl (Nat.le_of_ble_eq_true rfl) ?_
  intro p e s m below meth c ls hC hv hl
  obtain ⟨hx, hb, hml, hr, hown, hlk, hts⟩ := id hC
  obtain ⟨⟨hP, hK⟩, hD, hZ⟩ := hv
  have hS : va_S (sm_ad (sm_w6 D ad P S T L M C cp ph fo ne no rc wr)) s.heap s.heap [] := va_S.rf
  have hl : lv_has ls 3 [(0, .ref (ad 0))] := hl
  refine lv_iconst (v := 0) hx hb dX6_countMoved_0 (by decide) ?_
  refine lv_istore_n (lv' := [(1, .int 0), (0, .ref (ad 0))]) hx hb dX6_countMoved_1 rfl hl (by decide) rfl (fun ls hl => ?_)
  refine lv_iconst (v := 0) hx hb dX6_countMoved_2 (by decide) ?_
  refine lv_istore_n (lv' := [(2, .int 0), (1, .int 0), (0, .ref (ad 0))]) hx hb dX6_countMoved_3 rfl hl (by decide) rfl (fun ls hl => ?_)
  suffices K : ∀ (n : Nat) (i : Nat) (q : Nat) (r : sm_Cp) (H : Heap) (locs : List Loc) (ls : Array Slot), 40 - i = n → (i ≤ 40) → (sm_cnG (fun i => decide (sm_stF P S T i = 101)) (40 - i) i q = sm_cnG (fun i => decide (sm_stF P S T i = 101)) 40 0 0) → va_P D.1 sm_cl (sm_w6 D ad P S T L M C r ph fo ne no rc wr) H → va_D (sm_ad (sm_w6 D ad P S T L M C cp ph fo ne no rc wr)) (sm_w6 D ad P S T L M C r ph fo ne no rc wr) → va_S (sm_ad (sm_w6 D ad P S T L M C cp ph fo ne no rc wr)) s.heap H locs → lv_has ls 3 [(0, .ref (ad 0)), (1, .int (nI q)), (2, .int (nI i))] → W p l e ({ frames := 4, cells := 0, slots := 0, locals := 88 } : Room) s m ([.ref (ad 0)] : List Value).toArray below meth c H locs 0 0 (MQ below (sm_Qc D (sm_w6 D ad P S T L M C cp ph fo ne no rc wr) (fun w => ∃ (cp' : sm_Cp), w = sm_w6 D ad P S T L M C (cp') ph fo ne no rc wr) (some (.int (nI (sm_cnG (fun i => decide (sm_stF P S T i = 101)) 40 0 0))))) ([.ref (ad 0)] : List Value).toArray s 0 0 (sm_ad (sm_w6 D ad P S T L M C cp ph fo ne no rc wr))) (F0 m 4 ls []) from K _ 0 0 cp _ _ ls rfl (by omega) (rfl) hP hD hS (lv_sub hl [2, 1, 0] rfl)
  intro n
  induction n using Nat.strongRecOn with
  | ind n ih =>
    intro i q r H locs ls hn hi hR hP hD hS hl
    refine lv_iload_n hx hb dX6_countMoved_4 rfl (lv_at hl 2 rfl) ?_
    refine lv_bipush (v := 40) hx hb dX6_countMoved_5 (by decide) ?_
    refine lv_icmp_ge (tgt := 29) hx hb dX6_countMoved_7 (by decide) (fun c_1 => ?_) (fun c_1 => ?_)
    · have c_1 := sm_Nnl (a := i) (b := 40) (sm_nl c_1) (by omega) (by omega)
      refine lv_iload_n hx hb dX6_countMoved_29 rfl (lv_at hl 1 rfl) ?_
      exact sm_retC hC hP hD hS (by have e : i = 40 := (by omega); subst e; rw [← hR]; rfl) rfl (by exact ⟨r, by rfl⟩) dX6_countMoved_30
    · have c_1 := sm_Nlt (a := i) (b := 40) (sm_nle c_1) (by omega) (by omega)
      refine lv_aload_n hx hb dX6_countMoved_10 rfl (lv_at hl 0 rfl) ?_
      refine lv_iload_n hx hb dX6_countMoved_11 rfl (lv_at hl 2 rfl) ?_
      refine sm_cVCr (rest := []) hC hK hP hD hS hZ (c_X6_stateOf D ad P S T L M C r ph fo ne no rc wr i (by omega) hP6) qyX6_stateOf wl_RX6_254 ⟨Nat.le_of_ble_eq_true rfl, Nat.le_of_ble_eq_true rfl⟩ 0 rfl rfl rfl hl.1 rfl (Nat.le_of_ble_eq_true rfl) dX6_countMoved_12 ⟨Nat.le_of_ble_eq_true rfl, Nat.le_of_ble_eq_true rfl⟩ (fun w1 H locs hB hP hD hS => ?_)
      obtain ⟨cp_2, rfl⟩ := hB
      refine lv_bipush (v := 101) hx hb dX6_countMoved_15 (by decide) ?_
      refine lv_icmp_ne (tgt := 23) hx hb dX6_countMoved_17 (by decide) (fun c_3 => ?_) (fun c_3 => ?_)
      · have c_3_ := c_3
        refine lv_iinc (v := nI (i + 1)) (lv' := [(2, .int (nI (i + 1))), (0, .ref (ad 0)), (1, .int (nI q))]) hx hb dX6_countMoved_23 hl (k := 2) rfl (nI_1 i) (by decide) rfl (fun ls hl => ?_)
        refine lv_goto (tgt := 4) hx hb dX6_countMoved_26 (by decide) ?_
        exact ih _ (by omega) (i + 1) q cp_2 _ _ ls rfl (by omega) (by rw [sm_cnS (by omega), if_neg (by simp [c_3])] at hR; exact hR) hP hD hS (lv_sub hl [1, 2, 0] rfl)
      · have c_3_ := c_3
        refine lv_iinc (v := nI (q + 1)) (lv' := [(1, .int (nI (q + 1))), (0, .ref (ad 0)), (2, .int (nI i))]) hx hb dX6_countMoved_20 hl (k := 1) rfl (nI_1 q) (by decide) rfl (fun ls hl => ?_)
        refine lv_iinc (v := nI (i + 1)) (lv' := [(2, .int (nI (i + 1))), (1, .int (nI (q + 1))), (0, .ref (ad 0))]) hx hb dX6_countMoved_23 hl (k := 2) rfl (nI_1 i) (by decide) rfl (fun ls hl => ?_)
        refine lv_goto (tgt := 4) hx hb dX6_countMoved_26 (by decide) ?_
        exact ih _ (by omega) (i + 1) (q + 1) cp_2 _ _ ls rfl (by omega) (by rw [sm_cnS (by omega), if_pos (by simp [c_3])] at hR; exact hR) hP hD hS (lv_sub hl [2, 1, 0] rfl)

set_option maxHeartbeats 1000000 in
set_option maxRecDepth 100000 in
theorem c_X6_sumOfKey (k : Nat) (a b : Int32) : sm_MP l yX6_sumOfKey cX6_sumOfKey 3 (some .long) 0 0 [.int (nI k), .int a, .int b] D (sm_w6 D ad P S T L M C cp ph fo ne no rc wr) (some (.long (sm_sk k a b))) := by
  refine sm_met (own := RX6) (by decide) rfl (Nat.le_of_ble_eq_true rfl) ?_
  intro p e s m below meth c ls hC hv hl
  obtain ⟨hx, hb, hml, hr, hown, hlk, hts⟩ := id hC
  obtain ⟨hP, hK⟩ := hv
  have hl : lv_has ls 3 [(0, .int (nI k)), (1, .int a), (2, .int b)] := hl
  refine lv_ldc2 hx hb hown (hts _ wk_RX6_363) dX6_sumOfKey_0 ?_
  refine lv_iload_n hx hb dX6_sumOfKey_3 rfl (lv_at hl 0 rfl) ?_
  refine lv_i2l hx hb dX6_sumOfKey_4 rfl ?_
  refine lv_lmul hx hb dX6_sumOfKey_5 ?_
  refine lv_ldc2 hx hb hown (hts _ wk_RX6_365) dX6_sumOfKey_6 ?_
  refine lv_iload_n hx hb dX6_sumOfKey_9 rfl (lv_at hl 1 rfl) ?_
  refine lv_i2l hx hb dX6_sumOfKey_10 rfl ?_
  refine lv_lmul hx hb dX6_sumOfKey_11 ?_
  refine lv_ladd hx hb dX6_sumOfKey_12 ?_
  refine lv_iload_n hx hb dX6_sumOfKey_13 rfl (lv_at hl 2 rfl) ?_
  refine lv_i2l hx hb dX6_sumOfKey_14 rfl ?_
  refine lv_ladd hx hb dX6_sumOfKey_15 ?_
  refine lv_lconst (v := 1) hx hb dX6_sumOfKey_16 (by decide) ?_
  refine lv_ladd hx hb dX6_sumOfKey_17 ?_
  exact sm_lretP hC (rfl)  dX6_sumOfKey_18

set_option maxHeartbeats 1000000 in
set_option maxRecDepth 100000 in
theorem c_X6_sumOfEntry (k : Nat) (hk : k < 40) : sm_MP l yX6_sumOfEntry cX6_sumOfEntry 2 (some .long) 2 43 [.ref (ad 0), .int (nI k)] D (sm_w6 D ad P S T L M C cp ph fo ne no rc wr) (some (.long (sm_seF T k))) := by
  refine sm_met (own := RX6) (by decide) rfl (Nat.le_of_ble_eq_true rfl) ?_
  intro p e s m below meth c ls hC hv hl
  obtain ⟨hx, hb, hml, hr, hown, hlk, hts⟩ := id hC
  obtain ⟨hP, hK⟩ := hv
  have hl : lv_has ls 2 [(0, .ref (ad 0)), (1, .int (nI k))] := hl
  refine lv_aload_n hx hb dX6_sumOfEntry_0 rfl (lv_at hl 0 rfl) ?_
  refine sm_gt (ci := 6) (C := RX6) (T := TX6) (N := 12) hx hb hts inlX6 hown hK hP 0 rfl rfl 2 (by decide) wf_RX6_26 rfl dX6_sumOfEntry_1 ?_
  refine lv_iload_n hx hb dX6_sumOfEntry_4 rfl (lv_at hl 1 rfl) ?_
  refine sm_cVPr (rest := []) hC hK hP (c_X5_hasEntry D ad P S T L M C cp ph fo ne no rc wr k (by omega)) qyX5_hasEntry wl_RX6_277 ⟨Nat.le_of_ble_eq_true rfl, Nat.le_of_ble_eq_true rfl⟩ 8 rfl rfl rfl hl.1 rfl (Nat.le_of_ble_eq_true rfl) dX6_sumOfEntry_5 ⟨Nat.le_of_ble_eq_true rfl, Nat.le_of_ble_eq_true rfl⟩ ?_
  refine lv_if_ne (tgt := 13) hx hb dX6_sumOfEntry_8 (by decide) (fun c_1 => ?_) (fun c_1 => ?_)
  · have c_1 := sm_b1 c_1
    refine lv_iload_n hx hb dX6_sumOfEntry_13 rfl (lv_at hl 1 rfl) ?_
    refine lv_aload_n hx hb dX6_sumOfEntry_14 rfl (lv_at hl 0 rfl) ?_
    refine sm_gt (ci := 6) (C := RX6) (T := TX6) (N := 12) hx hb hts inlX6 hown hK hP 0 rfl rfl 2 (by decide) wf_RX6_26 rfl dX6_sumOfEntry_15 ?_
    refine lv_iload_n hx hb dX6_sumOfEntry_18 rfl (lv_at hl 1 rfl) ?_
    refine lv_iconst (v := 0) hx hb dX6_sumOfEntry_19 (by decide) ?_
    refine sm_cVPr (rest := [.int (nI k)]) hC hK hP (c_X5_number D ad P S T L M C cp ph fo ne no rc wr k (by omega) false) qyX5_number wl_RX6_209 ⟨Nat.le_of_ble_eq_true rfl, Nat.le_of_ble_eq_true rfl⟩ 8 rfl rfl rfl hl.1 rfl (Nat.le_of_ble_eq_true rfl) dX6_sumOfEntry_20 ⟨Nat.le_of_ble_eq_true rfl, Nat.le_of_ble_eq_true rfl⟩ ?_
    refine sm_re (y := T.2.2.1 k) rfl ?_
    refine lv_aload_n hx hb dX6_sumOfEntry_23 rfl (lv_at hl 0 rfl) ?_
    refine sm_gt (ci := 6) (C := RX6) (T := TX6) (N := 12) hx hb hts inlX6 hown hK hP 0 rfl rfl 2 (by decide) wf_RX6_26 rfl dX6_sumOfEntry_24 ?_
    refine lv_iload_n hx hb dX6_sumOfEntry_27 rfl (lv_at hl 1 rfl) ?_
    refine lv_iconst (v := 1) hx hb dX6_sumOfEntry_28 (by decide) ?_
    refine sm_cVPr (rest := [.int (T.2.2.1 k), .int (nI k)]) hC hK hP (c_X5_number D ad P S T L M C cp ph fo ne no rc wr k (by omega) true) qyX5_number wl_RX6_209 ⟨Nat.le_of_ble_eq_true rfl, Nat.le_of_ble_eq_true rfl⟩ 8 rfl rfl rfl hl.1 rfl (Nat.le_of_ble_eq_true rfl) dX6_sumOfEntry_29 ⟨Nat.le_of_ble_eq_true rfl, Nat.le_of_ble_eq_true rfl⟩ ?_
    refine sm_re (y := T.2.2.2 k) rfl ?_
    refine sm_cSPr (rest := []) hC hK hP (c_X6_sumOfKey D ad P S T L M C cp ph fo ne no rc wr k (T.2.2.1 k) (T.2.2.2 k)) qyX6_sumOfKey wl_RX6_359 ⟨Nat.le_of_ble_eq_true rfl, Nat.le_of_ble_eq_true rfl⟩ rfl hl.1 rfl (Nat.le_of_ble_eq_true rfl) dX6_sumOfEntry_32 ⟨Nat.le_of_ble_eq_true rfl, Nat.le_of_ble_eq_true rfl⟩ ?_
    exact sm_lretP hC (by first | rfl | (simp [sm_seF, c_1]; done) | (simp [sm_seF] at c_1; simp [sm_seF, c_1]; done) | (simp_all [sm_seF]; done))  dX6_sumOfEntry_35
  · have c_1 := sm_b0 c_1
    refine lv_lconst (v := 0) hx hb dX6_sumOfEntry_11 (by decide) ?_
    exact sm_lretP hC (by first | rfl | (simp [sm_seF, c_1]; done) | (simp [sm_seF] at c_1; simp [sm_seF, c_1]; done) | (simp_all [sm_seF]; done))  dX6_sumOfEntry_12

set_option maxHeartbeats 1000000 in
set_option maxRecDepth 100000 in
theorem c_X6_sumOfRow (k : Nat) (hk : k < 40) (hP6 : P.1 ≤ 6) : sm_MC l yX6_sumOfRow cX6_sumOfRow 2 (some .long) 3 66 [.ref (ad 0), .int (nI k)] D (sm_w6 D ad P S T L M C cp ph fo ne no rc wr) (fun w => ∃ (cp' : sm_Cp), w = sm_w6 D ad P S T L M C (cp') ph fo ne no rc wr) (some (.long (sm_srF P S k))) := by
  refine sm_met (own := RX6) (by decide) rfl (Nat.le_of_ble_eq_true rfl) ?_
  intro p e s m below meth c ls hC hv hl
  obtain ⟨hx, hb, hml, hr, hown, hlk, hts⟩ := id hC
  obtain ⟨⟨hP, hK⟩, hD, hZ⟩ := hv
  have hS : va_S (sm_ad (sm_w6 D ad P S T L M C cp ph fo ne no rc wr)) s.heap s.heap [] := va_S.rf
  have hl : lv_has ls 2 [(0, .ref (ad 0)), (1, .int (nI k))] := hl
  refine lv_aload_n hx hb dX6_sumOfRow_0 rfl (lv_at hl 0 rfl) ?_
  refine lv_iload_n hx hb dX6_sumOfRow_1 rfl (lv_at hl 1 rfl) ?_
  refine sm_cVCr (rest := []) hC hK hP hD hS hZ (c_X6_turnRow D ad P S T L M C cp ph fo ne no rc wr k (by omega) hP6) qyX6_turnRow wl_RX6_269 ⟨Nat.le_of_ble_eq_true rfl, Nat.le_of_ble_eq_true rfl⟩ 0 rfl rfl rfl hl.1 rfl (Nat.le_of_ble_eq_true rfl) dX6_sumOfRow_2 ⟨Nat.le_of_ble_eq_true rfl, Nat.le_of_ble_eq_true rfl⟩ (fun w1 H locs hB hP hD hS => ?_)
  subst hB
  refine lv_if_ne (tgt := 10) hx hb dX6_sumOfRow_5 (by decide) (fun c_1 => ?_) (fun c_1 => ?_)
  · have c_1 := sm_b1 c_1
    refine lv_iload_n hx hb dX6_sumOfRow_10 rfl (lv_at hl 1 rfl) ?_
    refine lv_aload_n hx hb dX6_sumOfRow_11 rfl (lv_at hl 0 rfl) ?_
    refine sm_gt (ci := 6) (C := RX6) (T := TX6) (N := 12) hx hb hts inlX6 hown hK hP 0 rfl rfl 6 (by decide) wf_RX6_50 rfl dX6_sumOfRow_12 ?_
    refine lv_iconst (v := 0) hx hb dX6_sumOfRow_15 (by decide) ?_
    refine sm_cVPr (rest := [.int (nI k)]) hC hK hP (c_X0_number D ad P S T L M C (sm_tnc P S k cp) ph fo ne no rc wr false) qyX0_number wl_RX6_274 ⟨Nat.le_of_ble_eq_true rfl, Nat.le_of_ble_eq_true rfl⟩ 32 rfl rfl rfl hl.1 rfl (Nat.le_of_ble_eq_true rfl) dX6_sumOfRow_16 ⟨Nat.le_of_ble_eq_true rfl, Nat.le_of_ble_eq_true rfl⟩ ?_
    refine sm_re (y := (sm_tnc P S k cp).1) rfl ?_
    refine lv_aload_n hx hb dX6_sumOfRow_19 rfl (lv_at hl 0 rfl) ?_
    refine sm_gt (ci := 6) (C := RX6) (T := TX6) (N := 12) hx hb hts inlX6 hown hK hP 0 rfl rfl 6 (by decide) wf_RX6_50 rfl dX6_sumOfRow_20 ?_
    refine lv_iconst (v := 1) hx hb dX6_sumOfRow_23 (by decide) ?_
    refine sm_cVPr (rest := [.int ((sm_tnc P S k cp).1), .int (nI k)]) hC hK hP (c_X0_number D ad P S T L M C (sm_tnc P S k cp) ph fo ne no rc wr true) qyX0_number wl_RX6_274 ⟨Nat.le_of_ble_eq_true rfl, Nat.le_of_ble_eq_true rfl⟩ 32 rfl rfl rfl hl.1 rfl (Nat.le_of_ble_eq_true rfl) dX6_sumOfRow_24 ⟨Nat.le_of_ble_eq_true rfl, Nat.le_of_ble_eq_true rfl⟩ ?_
    refine sm_re (y := (sm_tnc P S k cp).2) rfl ?_
    refine sm_cSPr (rest := []) hC hK hP (c_X6_sumOfKey D ad P S T L M C (sm_tnc P S k cp) ph fo ne no rc wr k ((sm_tnc P S k cp).1) ((sm_tnc P S k cp).2)) qyX6_sumOfKey wl_RX6_359 ⟨Nat.le_of_ble_eq_true rfl, Nat.le_of_ble_eq_true rfl⟩ rfl hl.1 rfl (Nat.le_of_ble_eq_true rfl) dX6_sumOfRow_27 ⟨Nat.le_of_ble_eq_true rfl, Nat.le_of_ble_eq_true rfl⟩ ?_
    exact sm_lretC hC hP hD hS (by have hs := sm_tnS c_1; simp [sm_srF, sm_tnc, c_1, hs])  (by exact ⟨(sm_tnc P S k cp), by rfl⟩) dX6_sumOfRow_30
  · have c_1 := sm_b0 c_1
    refine lv_lconst (v := 0) hx hb dX6_sumOfRow_8 (by decide) ?_
    exact sm_lretC hC hP hD hS (by simp [sm_srF, c_1])  (by exact ⟨(sm_tnc P S k cp), by rfl⟩) dX6_sumOfRow_9

set_option maxHeartbeats 1000000 in
set_option maxRecDepth 100000 in
theorem c_X6_sumOfRange (z : Bool) (lo hi : Nat) (hlo : lo ≤ hi) (hhi : hi < 40) (hP6 : P.1 ≤ 6) : sm_MC l yX6_sumOfRange cX6_sumOfRange 7 (some .long) 4 87 [.ref (ad 0), .int (sm_b z), .int (nI lo), .int (nI hi)] D (sm_w6 D ad P S T L M C cp ph fo ne no rc wr) (fun w => ∃ (cp' : sm_Cp), w = sm_w6 D ad P S T L M C (cp') ph fo ne no rc wr) (some (.long (sm_sm z P S T lo hi))) := by
  refine sm_met (own := RX6) (by decide) rfl (Nat.le_of_ble_eq_true rfl) ?_
  intro p e s m below meth c ls hC hv hl
  obtain ⟨hx, hb, hml, hr, hown, hlk, hts⟩ := id hC
  obtain ⟨⟨hP, hK⟩, hD, hZ⟩ := hv
  have hS : va_S (sm_ad (sm_w6 D ad P S T L M C cp ph fo ne no rc wr)) s.heap s.heap [] := va_S.rf
  have hl : lv_has ls 7 [(0, .ref (ad 0)), (1, .int (sm_b z)), (2, .int (nI lo)), (3, .int (nI hi))] := hl
  refine lv_lconst (v := 0) hx hb dX6_sumOfRange_0 (by decide) ?_
  refine lv_lstore (lv' := [(4, .long 0), (0, .ref (ad 0)), (1, .int (sm_b z)), (2, .int (nI lo)), (3, .int (nI hi))]) hx hb dX6_sumOfRange_1 hl (by decide) rfl (fun ls hl => ?_)
  refine lv_iload_n hx hb dX6_sumOfRange_3 rfl (lv_at hl 3 rfl) ?_
  refine lv_istore (lv' := [(6, .int (nI lo)), (4, .long 0), (0, .ref (ad 0)), (1, .int (sm_b z)), (2, .int (nI lo)), (3, .int (nI hi))]) hx hb dX6_sumOfRange_4 hl (by decide) rfl (fun ls hl => ?_)
  suffices K : ∀ (n : Nat) (i : Nat) (q : Int64) (r : sm_Cp) (H : Heap) (locs : List Loc) (ls : Array Slot), hi + 1 - i = n → (lo ≤ i) → (i ≤ hi + 1) → (sm_smG (sm_sf z P S T) (hi + 1 - i) i q = sm_smG (sm_sf z P S T) (hi + 1 - lo) lo 0) → va_P D.1 sm_cl (sm_w6 D ad P S T L M C r ph fo ne no rc wr) H → va_D (sm_ad (sm_w6 D ad P S T L M C cp ph fo ne no rc wr)) (sm_w6 D ad P S T L M C r ph fo ne no rc wr) → va_S (sm_ad (sm_w6 D ad P S T L M C cp ph fo ne no rc wr)) s.heap H locs → lv_has ls 7 [(0, .ref (ad 0)), (1, .int (sm_b z)), (2, .int (nI lo)), (3, .int (nI hi)), (4, .long q), (6, .int (nI i))] → W p l e ({ frames := 4, cells := 0, slots := 0, locals := 87 } : Room) s m ([.ref (ad 0), .int (sm_b z), .int (nI lo), .int (nI hi)] : List Value).toArray below meth c H locs 0 0 (MQ below (sm_Qc D (sm_w6 D ad P S T L M C cp ph fo ne no rc wr) (fun w => ∃ (cp' : sm_Cp), w = sm_w6 D ad P S T L M C (cp') ph fo ne no rc wr) (some (.long (sm_sm z P S T lo hi)))) ([.ref (ad 0), .int (sm_b z), .int (nI lo), .int (nI hi)] : List Value).toArray s 0 0 (sm_ad (sm_w6 D ad P S T L M C cp ph fo ne no rc wr))) (F0 m 6 ls []) from K _ lo 0 cp _ _ ls rfl (by omega) (by omega) (rfl) hP hD hS (lv_sub hl [2, 3, 4, 5, 1, 0] rfl)
  intro n
  induction n using Nat.strongRecOn with
  | ind n ih =>
    intro i q r H locs ls hn hi1 hi2 hR hP hD hS hl
    refine lv_iload hx hb dX6_sumOfRange_6 (lv_at hl 5 rfl) ?_
    refine lv_iload_n hx hb dX6_sumOfRange_8 rfl (lv_at hl 3 rfl) ?_
    refine lv_icmp_gt (tgt := 49) hx hb dX6_sumOfRange_9 (by decide) (fun c_1 => ?_) (fun c_1 => ?_)
    · have c_1 := sm_Nlt (a := hi) (b := i) (c_1) (by omega) (by omega)
      refine lv_lload hx hb dX6_sumOfRange_49 (lv_at hl 4 rfl) ?_
      exact sm_lretC hC hP hD hS (by rw [show hi + 1 - i = 0 by omega] at hR; rw [sm_sm, ← hR]; rfl)  (by exact ⟨r, by rfl⟩) dX6_sumOfRange_51
    · have c_1 := sm_Nnl (a := hi) (b := i) (c_1) (by omega) (by omega)
      refine lv_iload hx hb dX6_sumOfRange_12 (lv_at hl 5 rfl) ?_
      refine lv_bipush (v := 40) hx hb dX6_sumOfRange_14 (by decide) ?_
      have h40 : i < 40 := by omega
      refine lv_icmp_ge (tgt := 49) hx hb dX6_sumOfRange_16 (by decide) (fun h => absurd h (Int32.not_le.mpr (sm_pNlt (a := i) (b := 40) h40 (by omega)))) (fun _ => ?_)
      refine lv_lload hx hb dX6_sumOfRange_19 (lv_at hl 4 rfl) ?_
      refine lv_iload_n hx hb dX6_sumOfRange_21 rfl (lv_at hl 1 rfl) ?_
      refine lv_if_eq (tgt := 34) hx hb dX6_sumOfRange_22 (by decide) (fun c_2 => ?_) (fun c_2 => ?_)
      · have c_2 := sm_b0 c_2
        refine lv_aload_n hx hb dX6_sumOfRange_34 rfl (lv_at hl 0 rfl) ?_
        refine lv_iload hx hb dX6_sumOfRange_35 (lv_at hl 5 rfl) ?_
        refine sm_cVCr (rest := [.long q]) hC hK hP hD hS hZ (c_X6_sumOfRow D ad P S T L M C r ph fo ne no rc wr i (by omega) hP6) qyX6_sumOfRow wl_RX6_356 ⟨Nat.le_of_ble_eq_true rfl, Nat.le_of_ble_eq_true rfl⟩ 0 rfl rfl rfl hl.1 rfl (Nat.le_of_ble_eq_true rfl) dX6_sumOfRange_37 ⟨Nat.le_of_ble_eq_true rfl, Nat.le_of_ble_eq_true rfl⟩ (fun w1 H locs hB hP hD hS => ?_)
        obtain ⟨cp_3, rfl⟩ := hB
        refine lv_ladd hx hb dX6_sumOfRange_40 ?_
        refine lv_lstore (lv' := [(4, .long (q + (sm_srF P S i))), (0, .ref (ad 0)), (1, .int (sm_b z)), (2, .int (nI lo)), (3, .int (nI hi)), (6, .int (nI i))]) hx hb dX6_sumOfRange_41 hl (by decide) rfl (fun ls hl => ?_)
        refine lv_iinc (v := nI (i + 1)) (lv' := [(6, .int (nI (i + 1))), (4, .long (q + (sm_srF P S i))), (0, .ref (ad 0)), (1, .int (sm_b z)), (2, .int (nI lo)), (3, .int (nI hi))]) hx hb dX6_sumOfRange_43 hl (k := 5) rfl (nI_1 i) (by decide) rfl (fun ls hl => ?_)
        refine lv_goto (tgt := 6) hx hb dX6_sumOfRange_46 (by decide) ?_
        exact ih _ (by omega) (i + 1) (q + sm_srF P S i) cp_3 _ _ ls rfl (by omega) (by omega) (by rw [sm_smS (by omega), sm_sff c_2] at hR; exact hR) hP hD hS (lv_sub hl [2, 3, 4, 5, 1, 0] rfl)
      · have c_2 := sm_b1 c_2
        refine lv_aload_n hx hb dX6_sumOfRange_25 rfl (lv_at hl 0 rfl) ?_
        refine lv_iload hx hb dX6_sumOfRange_26 (lv_at hl 5 rfl) ?_
        refine sm_cVPr (rest := [.long q]) hC hK hP (c_X6_sumOfEntry D ad P S T L M C r ph fo ne no rc wr i (by omega)) qyX6_sumOfEntry wl_RX6_352 ⟨Nat.le_of_ble_eq_true rfl, Nat.le_of_ble_eq_true rfl⟩ 0 rfl rfl rfl hl.1 rfl (Nat.le_of_ble_eq_true rfl) dX6_sumOfRange_28 ⟨Nat.le_of_ble_eq_true rfl, Nat.le_of_ble_eq_true rfl⟩ ?_
        refine lv_goto (tgt := 40) hx hb dX6_sumOfRange_31 (by decide) ?_
        refine lv_ladd hx hb dX6_sumOfRange_40 ?_
        refine lv_lstore (lv' := [(4, .long (q + (sm_seF T i))), (0, .ref (ad 0)), (1, .int (sm_b z)), (2, .int (nI lo)), (3, .int (nI hi)), (6, .int (nI i))]) hx hb dX6_sumOfRange_41 hl (by decide) rfl (fun ls hl => ?_)
        refine lv_iinc (v := nI (i + 1)) (lv' := [(6, .int (nI (i + 1))), (4, .long (q + (sm_seF T i))), (0, .ref (ad 0)), (1, .int (sm_b z)), (2, .int (nI lo)), (3, .int (nI hi))]) hx hb dX6_sumOfRange_43 hl (k := 5) rfl (nI_1 i) (by decide) rfl (fun ls hl => ?_)
        refine lv_goto (tgt := 6) hx hb dX6_sumOfRange_46 (by decide) ?_
        exact ih _ (by omega) (i + 1) (q + sm_seF T i) r _ _ ls rfl (by omega) (by omega) (by rw [sm_smS (by omega), sm_sft c_2] at hR; exact hR) hP hD hS (lv_sub hl [2, 3, 4, 5, 1, 0] rfl)

set_option maxHeartbeats 1000000 in
set_option maxRecDepth 100000 in
theorem c_X6_areSumsSame (lo hi : Nat) (hlo : lo ≤ hi) (hhi : hi < 40) (hP6 : P.1 ≤ 6) : sm_MC l yX6_areSumsSame cX6_areSumsSame 3 (some .boolean) 5 113 [.ref (ad 0), .int (nI lo), .int (nI hi)] D (sm_w6 D ad P S T L M C cp ph fo ne no rc wr) (fun w => ∃ (cp' : sm_Cp), w = sm_w6 D ad P S T L M C (cp') ph fo ne no rc wr) (some (.int (sm_b (sm_ss P S T lo hi)))) := by
  refine sm_met (own := RX6) (by decide) rfl (Nat.le_of_ble_eq_true rfl) ?_
  intro p e s m below meth c ls hC hv hl
  obtain ⟨hx, hb, hml, hr, hown, hlk, hts⟩ := id hC
  obtain ⟨⟨hP, hK⟩, hD, hZ⟩ := hv
  have hS : va_S (sm_ad (sm_w6 D ad P S T L M C cp ph fo ne no rc wr)) s.heap s.heap [] := va_S.rf
  have hl : lv_has ls 3 [(0, .ref (ad 0)), (1, .int (nI lo)), (2, .int (nI hi))] := hl
  refine lv_aload_n hx hb dX6_areSumsSame_0 rfl (lv_at hl 0 rfl) ?_
  refine lv_iconst (v := 1) hx hb dX6_areSumsSame_1 (by decide) ?_
  refine lv_iload_n hx hb dX6_areSumsSame_2 rfl (lv_at hl 1 rfl) ?_
  refine lv_iload_n hx hb dX6_areSumsSame_3 rfl (lv_at hl 2 rfl) ?_
  refine sm_cVCr (rest := []) hC hK hP hD hS hZ (c_X6_sumOfRange D ad P S T L M C cp ph fo ne no rc wr true lo hi (by omega) (by omega) hP6) qyX6_sumOfRange wl_RX6_290 ⟨Nat.le_of_ble_eq_true rfl, Nat.le_of_ble_eq_true rfl⟩ 0 rfl rfl rfl hl.1 rfl (Nat.le_of_ble_eq_true rfl) dX6_areSumsSame_4 ⟨Nat.le_of_ble_eq_true rfl, Nat.le_of_ble_eq_true rfl⟩ (fun w1 H locs hB hP hD hS => ?_)
  obtain ⟨cp_1, rfl⟩ := hB
  refine lv_aload_n hx hb dX6_areSumsSame_7 rfl (lv_at hl 0 rfl) ?_
  refine lv_iconst (v := 0) hx hb dX6_areSumsSame_8 (by decide) ?_
  refine lv_iload_n hx hb dX6_areSumsSame_9 rfl (lv_at hl 1 rfl) ?_
  refine lv_iload_n hx hb dX6_areSumsSame_10 rfl (lv_at hl 2 rfl) ?_
  refine sm_cVCr (rest := [.long (sm_sm true P S T lo hi)]) hC hK hP hD hS hZ (c_X6_sumOfRange D ad P S T L M C cp_1 ph fo ne no rc wr false lo hi (by omega) (by omega) hP6) qyX6_sumOfRange wl_RX6_290 ⟨Nat.le_of_ble_eq_true rfl, Nat.le_of_ble_eq_true rfl⟩ 0 rfl rfl rfl hl.1 rfl (Nat.le_of_ble_eq_true rfl) dX6_areSumsSame_11 ⟨Nat.le_of_ble_eq_true rfl, Nat.le_of_ble_eq_true rfl⟩ (fun w1 H locs hB hP hD hS => ?_)
  obtain ⟨cp_2, rfl⟩ := hB
  refine W.lcmp hx hb dX6_areSumsSame_14 ?_
  refine lv_if_ne (tgt := 22) hx hb dX6_areSumsSame_15 (by decide) (fun c_3 => ?_) (fun c_3 => ?_)
  · have c_3 := sm_lc1 c_3
    refine lv_iconst (v := 0) hx hb dX6_areSumsSame_22 (by decide) ?_
    exact sm_retC hC hP hD hS (by rw [sm_ss]; first | rw [if_pos c_3]; rfl | rw [if_neg c_3]; rfl) (by decide) (by exact ⟨cp_2, by rfl⟩) dX6_areSumsSame_23
  · have c_3 := sm_lc0 c_3
    refine lv_iconst (v := 1) hx hb dX6_areSumsSame_18 (by decide) ?_
    refine lv_goto (tgt := 23) hx hb dX6_areSumsSame_19 (by decide) ?_
    exact sm_retC hC hP hD hS (by rw [sm_ss]; first | rw [if_pos c_3]; rfl | rw [if_neg c_3]; rfl) (by decide) (by exact ⟨cp_2, by rfl⟩) dX6_areSumsSame_23

end
