/-! StoreMover, its face -/
section
def sm_phOK (ph : Int32) : Prop := ph = 105 ∨ ph = 99 ∨ ph = 98 ∨ ph = 116 ∨ ph = 100
theorem sm_phn {ph : Int32} (h : sm_phOK ph) : narrow .char (.int ph) = .int ph := by rcases h with h | h | h | h | h <;> subst h <;> decide
/-- what a call comes to: an answer, or one of three exceptions, by the number that the law's helper gives it -/
def sm_rs (E1 E2 E3 : String) (k : Int32) (ov : Option Value) : String ⊕ Option Value := if k = 0 then .inr ov else if k = 1 then .inl E1 else if k = 2 then .inl E2 else .inl E3
def sm_k1 (z : Bool) : Int32 := if z = true then 0 else 1
def sm_k2 (z : Bool) : Int32 := if z = true then 0 else 2
def sm_k2n (z : Bool) : Int32 := if z = true then 2 else 0
def sm_k23 (y z : Bool) : Int32 := if y = true then (if z = true then 0 else 3) else 2
def sm_kAdd (P : sm_Sp) (ph k x : Int32) : Int32 := if sm_isStep k x = true then (if ph = 105 then (if sm_full6 P = true then 2 else 0) else 2) else 1
def sm_addP (P : sm_Sp) (k x : Int32) : sm_Sp := (P.1 + 1, va_up P.2.1 P.1 k, va_up P.2.2 P.1 x)
theorem sm_full6f {P : sm_Sp} (h : sm_full6 P = false) : P.1 < 6 := by
  unfold sm_full6 at h
  split at h
  · assumption
  · exact absurd h (by decide)
def sm_kPh (x ph : Int32) : Int32 := if ph = x then 0 else 1
def sm_kGB (ph : Int32) (C : sm_Pt) : Int32 := if ph = 99 then (if 0 < 40 - C.2.2.2.2.2.2.2 then 2 else if 0 < C.2.2.2.2.2.2.1 then 2 else 0) else 1
def sm_kSO (P : sm_Sp) (S : sm_Rw) (T : sm_Tg) (ph : Int32) : Int32 := if ph = 98 then (if sm_any T = true then 2 else if sm_ss P S T 0 39 = true then 0 else 2) else 1
def sm_kBk (P : sm_Sp) (T : sm_Tg) (M : sm_Lg) (ph : Int32) : Int32 := if ph = 116 then (if sm_ccG P T M M.1 0 = true then 0 else 2) else 1
def sm_gbG (P : sm_Sp) (T : sm_Tg) (M : sm_Lg) : Nat → Nat → sm_Rw → Nat → sm_Rw × Nat
  | 0, _, r, q => (r, q)
  | n + 1, i, r, q => sm_gbG P T M n (i + 1) (sm_cbS P T r (M.2.1 i)) (if sm_cbR P T r (M.2.1 i) = true then q + 1 else q)
theorem sm_gbS {P : sm_Sp} {T : sm_Tg} {M : sm_Lg} {n i q : Nat} {r : sm_Rw} (h : i < n) : sm_gbG P T M (n - i) i r q = sm_gbG P T M (n - (i + 1)) (i + 1) (sm_cbS P T r (M.2.1 i)) (if sm_cbR P T r (M.2.1 i) = true then q + 1 else q) := by
  obtain ⟨k, hk⟩ : ∃ k, n - i = k + 1 := ⟨n - i - 1, by omega⟩
  rw [hk, show n - (i + 1) = k by omega]
  rfl
def sm_lim (ph : Int32) : Int32 := if sm_lv ph = true then 999 else 99
def sm_kWr (ph : Int32) (L M : sm_Lg) (a b : Int32) : Int32 := if sm_in (sm_lim ph) a = true then (if sm_in (sm_lim ph) b = true then (if ph = 100 then 2 else if sm_lf ph L M = true then 2 else 0) else 1) else 1
def sm_kDl (ph : Int32) (T : sm_Tg) (S : sm_Rw) (L M : sm_Lg) (k : Nat) : Int32 := if ph = 100 then 2 else if sm_live ph T S k = true then (if sm_lf ph L M = true then 2 else 0) else 0
theorem sm_fullf {L : sm_Lg} (h : sm_full L = false) : L.1 < 120 := by
  unfold sm_full at h
  split at h
  · assumption
  · exact absurd h (by decide)
theorem sm_lfL {ph : Int32} {L M : sm_Lg} (h : sm_lf ph L M = false) (h1 : ¬ ph = 105) (h2 : ¬ ph = 116) : L.1 < 120 := by
  rw [sm_lf, if_neg h1, if_neg h2] at h
  exact sm_fullf h
theorem sm_lfM {ph : Int32} {L M : sm_Lg} (h : sm_lf ph L M = false) (h2 : ph = 116) : M.1 < 120 := by
  rw [sm_lf, if_neg (by rw [h2]; decide), if_pos h2] at h
  exact sm_fullf h
theorem sm_appk {L : sm_Lg} {k : Nat} {z : Bool} {a b : Int32} (h : ∀ i, L.2.1 i < 40) (hk : k < 40) : ∀ i, (sm_appL L k z a b).2.1 i < 40 := by
  intro i
  show va_up L.2.1 L.1 k i < 40
  unfold va_up
  split
  · exact hk
  · exact h i
def sm_rdF (ph : Int32) (T : sm_Tg) (S : sm_Rw) (k : Nat) (z : Bool) : Int32 := if sm_lv ph = true then sm_pk z (T.2.2.1 k, T.2.2.2 k) else sm_pk z (S.2.1 k, S.2.2 k)
def sm_kNx (ph : Int32) : Int32 := if ph = 100 then 1 else 0
def sm_bt (lo hi x : Int32) : Bool := if x < lo then false else if hi < x then false else true
def sm_kRP (ph : Int32) (C : sm_Pt) : Int32 := if ph = 99 then (if 40 - C.2.2.2.2.2.2.2 = 0 then 2 else if C.2.2.2.2.2.2.1 < 8 then 0 else 2) else 2
def sm_kFl (ph : Int32) : Int32 := if ph = 99 then 0 else 2
def sm_pdG (P : sm_Sp) (C : sm_Pt) (x : Int32) : Nat → Nat → sm_Tg → Nat → sm_Tg × Nat
  | 0, _, t, q => (t, q)
  | n + 1, i, t, q => if C.1.1 i = true then sm_pdG P C x n (i + 1) (sm_prd P t i (C.1.2.1 i) (C.1.2.2 i) x) (if sm_later t i x = true then q + 1 else q) else sm_pdG P C x n (i + 1) t q
theorem sm_pdS {P : sm_Sp} {C : sm_Pt} {x : Int32} {n i q : Nat} {t : sm_Tg} (h : i < n) : sm_pdG P C x (n - i) i t q = if C.1.1 i = true then sm_pdG P C x (n - (i + 1)) (i + 1) (sm_prd P t i (C.1.2.1 i) (C.1.2.2 i) x) (if sm_later t i x = true then q + 1 else q) else sm_pdG P C x (n - (i + 1)) (i + 1) t q := by
  obtain ⟨k, hk⟩ : ∃ k, n - i = k + 1 := ⟨n - i - 1, by omega⟩
  rw [hk, show n - (i + 1) = k by omega]
  rfl
theorem sm_stN (P : sm_Sp) (S : sm_Rw) (T : sm_Tg) (k : Nat) : narrow .char (.int (sm_stF P S T k)) = .int (sm_stF P S T k) := by
  unfold sm_stF
  repeat' split
  all_goals decide
def sm_kGl (ph : Int32) : Int32 := if ph = 99 then 0 else if ph = 98 then 0 else 2
def sm_glF (P : sm_Sp) (S : sm_Rw) (k : Nat) : Int32 := if S.1 k = true then (if sm_tn P S k = true then 101 else 97) else 110
def sm_fuG (P : sm_Sp) (S : sm_Rw) (T : sm_Tg) : Nat → Nat → Nat → Nat → Nat × Nat
  | 0, a, _, q => (a, q)
  | n + 1, a, b, q => if a < b then (if sm_ss P S T a (a + (b - a) / 2) = true then sm_fuG P S T n (a + (b - a) / 2 + 1) b (q + 1 + 1) else sm_fuG P S T n a (a + (b - a) / 2) (q + 1)) else (a, q)
theorem sm_fuS {P : sm_Sp} {S : sm_Rw} {T : sm_Tg} {n i a b q : Nat} (h : i < n) : sm_fuG P S T (n - i) a b q = if a < b then (if sm_ss P S T a (a + (b - a) / 2) = true then sm_fuG P S T (n - (i + 1)) (a + (b - a) / 2 + 1) b (q + 1 + 1) else sm_fuG P S T (n - (i + 1)) a (a + (b - a) / 2) (q + 1)) else (a, q) := by
  obtain ⟨k, hk⟩ : ∃ k, n - i = k + 1 := ⟨n - i - 1, by omega⟩
  rw [hk, show n - (i + 1) = k by omega]
  rfl
theorem sm_fu0 {P : sm_Sp} {S : sm_Rw} {T : sm_Tg} {n a b q : Nat} (h : ¬ a < b) : sm_fuG P S T n a b q = (a, q) := by
  cases n with
  | zero => rfl
  | succ n => exact if_neg h
def sm_iam (P : sm_Sp) (S : sm_Rw) (T : sm_Tg) : Bool := if 0 < sm_cnG S.1 40 0 0 then (if sm_cnG (fun i => decide (sm_stF P S T i = 101)) 40 0 0 = sm_cnG S.1 40 0 0 then true else false) else false
variable {l : Launch} (D : sm_G) (ad : Nat → Nat) (P : sm_Sp) (S : sm_Rw) (T : sm_Tg) (L M : sm_Lg) (C : sm_Pt) (cp : sm_Cp) (ph : Int32) (fo ne no rc : Nat) (wr : va_W)
set_option maxHeartbeats 1000000 in
set_option maxRecDepth 100000 in
theorem c_X6_phase (hph : sm_phOK ph) : sm_MP l yX6_phase cX6_phase 1 (some .char) 0 0 [.ref (ad 0)] D (sm_w6 D ad P S T L M C cp ph fo ne no rc wr) (some (.int ph)) := by
  refine sm_met (own := RX6) (by decide) rfl (Nat.le_of_ble_eq_true rfl) ?_
  intro p e s m below meth c ls hC hv hl
  obtain ⟨hx, hb, hml, hr, hown, hlk, hts⟩ := id hC
  obtain ⟨hP, hK⟩ := hv
  have hl : lv_has ls 1 [(0, .ref (ad 0))] := hl
  refine lv_aload_n hx hb dX6_phase_0 rfl (lv_at hl 0 rfl) ?_
  refine sm_gt (ci := 6) (C := RX6) (T := TX6) (N := 12) hx hb hts inlX6 hown hK hP 0 rfl rfl 7 (by decide) wf_RX6_54 rfl dX6_phase_1 ?_
  exact sm_retP hC rfl (sm_phn hph) dX6_phase_4

set_option maxHeartbeats 1000000 in
set_option maxRecDepth 100000 in
theorem c_X6_left (hC40 : C.2.2.2.2.2.2.2 ≤ 40) : sm_MP l yX6_left cX6_left 1 (some .int) 1 20 [.ref (ad 0)] D (sm_w6 D ad P S T L M C cp ph fo ne no rc wr) (some (.int (nI (40 - C.2.2.2.2.2.2.2)))) := by
  refine sm_met (own := RX6) (by decide) rfl (Nat.le_of_ble_eq_true rfl) ?_
  intro p e s m below meth c ls hC hv hl
  obtain ⟨hx, hb, hml, hr, hown, hlk, hts⟩ := id hC
  obtain ⟨hP, hK⟩ := hv
  have hl : lv_has ls 1 [(0, .ref (ad 0))] := hl
  refine lv_aload_n hx hb dX6_left_0 rfl (lv_at hl 0 rfl) ?_
  refine sm_gt (ci := 6) (C := RX6) (T := TX6) (N := 12) hx hb hts inlX6 hown hK hP 0 rfl rfl 5 (by decide) wf_RX6_43 rfl dX6_left_1 ?_
  refine sm_cVPr (rest := []) hC hK hP (c_X2_keysLeft D ad P S T L M C cp ph fo ne no rc wr hC40) qyX2_keysLeft wl_RX6_106 ⟨Nat.le_of_ble_eq_true rfl, Nat.le_of_ble_eq_true rfl⟩ 23 rfl rfl rfl hl.1 rfl (Nat.le_of_ble_eq_true rfl) dX6_left_4 ⟨Nat.le_of_ble_eq_true rfl, Nat.le_of_ble_eq_true rfl⟩ ?_
  exact sm_retP hC rfl rfl dX6_left_7

set_option maxHeartbeats 1000000 in
set_option maxRecDepth 100000 in
theorem c_X6_behind (hfo : fo ≤ L.1) : sm_MP l yX6_behind cX6_behind 1 (some .int) 1 20 [.ref (ad 0)] D (sm_w6 D ad P S T L M C cp ph fo ne no rc wr) (some (.int (nI (L.1 - fo)))) := by
  refine sm_met (own := RX6) (by decide) rfl (Nat.le_of_ble_eq_true rfl) ?_
  intro p e s m below meth c ls hC hv hl
  obtain ⟨hx, hb, hml, hr, hown, hlk, hts⟩ := id hC
  obtain ⟨hP, hK⟩ := hv
  have hl : lv_has ls 1 [(0, .ref (ad 0))] := hl
  refine lv_aload_n hx hb dX6_behind_0 rfl (lv_at hl 0 rfl) ?_
  refine sm_gt (ci := 6) (C := RX6) (T := TX6) (N := 12) hx hb hts inlX6 hown hK hP 0 rfl rfl 3 (by decide) wf_RX6_33 rfl dX6_behind_1 ?_
  refine sm_cVPr (rest := []) hC hK hP (c_X1_size_f D ad P S T L M C cp ph fo ne no rc wr ) qyX1_size wl_RX6_142 ⟨Nat.le_of_ble_eq_true rfl, Nat.le_of_ble_eq_true rfl⟩ 13 rfl rfl rfl hl.1 rfl (Nat.le_of_ble_eq_true rfl) dX6_behind_4 ⟨Nat.le_of_ble_eq_true rfl, Nat.le_of_ble_eq_true rfl⟩ ?_
  refine lv_aload_n hx hb dX6_behind_7 rfl (lv_at hl 0 rfl) ?_
  refine sm_gt (ci := 6) (C := RX6) (T := TX6) (N := 12) hx hb hts inlX6 hown hK hP 0 rfl rfl 8 (by decide) wf_RX6_58 rfl dX6_behind_8 ?_
  refine lv_isub hx hb dX6_behind_11 ?_
  refine sm_re (y := nI (L.1 - fo)) (pk_sub (a := L.1) (b := fo) (by omega)) ?_
  exact sm_retP hC rfl rfl dX6_behind_12

set_option maxHeartbeats 1000000 in
set_option maxRecDepth 100000 in
theorem c_X6_parts  : sm_MP l yX6_parts cX6_parts 1 (some .int) 1 20 [.ref (ad 0)] D (sm_w6 D ad P S T L M C cp ph fo ne no rc wr) (some (.int (nI C.2.2.2.2.2.2.1))) := by
  refine sm_met (own := RX6) (by decide) rfl (Nat.le_of_ble_eq_true rfl) ?_
  intro p e s m below meth c ls hC hv hl
  obtain ⟨hx, hb, hml, hr, hown, hlk, hts⟩ := id hC
  obtain ⟨hP, hK⟩ := hv
  have hl : lv_has ls 1 [(0, .ref (ad 0))] := hl
  refine lv_aload_n hx hb dX6_parts_0 rfl (lv_at hl 0 rfl) ?_
  refine sm_gt (ci := 6) (C := RX6) (T := TX6) (N := 12) hx hb hts inlX6 hown hK hP 0 rfl rfl 5 (by decide) wf_RX6_43 rfl dX6_parts_1 ?_
  refine sm_cVPr (rest := []) hC hK hP (c_X2_waiting D ad P S T L M C cp ph fo ne no rc wr ) qyX2_waiting wl_RX6_109 ⟨Nat.le_of_ble_eq_true rfl, Nat.le_of_ble_eq_true rfl⟩ 23 rfl rfl rfl hl.1 rfl (Nat.le_of_ble_eq_true rfl) dX6_parts_4 ⟨Nat.le_of_ble_eq_true rfl, Nat.le_of_ble_eq_true rfl⟩ ?_
  exact sm_retP hC rfl rfl dX6_parts_7

set_option maxHeartbeats 1000000 in
set_option maxRecDepth 100000 in
theorem c_X6_compared  : sm_MP l yX6_compared cX6_compared 1 (some .int) 0 0 [.ref (ad 0)] D (sm_w6 D ad P S T L M C cp ph fo ne no rc wr) (some (.int (nI rc))) := by
  refine sm_met (own := RX6) (by decide) rfl (Nat.le_of_ble_eq_true rfl) ?_
  intro p e s m below meth c ls hC hv hl
  obtain ⟨hx, hb, hml, hr, hown, hlk, hts⟩ := id hC
  obtain ⟨hP, hK⟩ := hv
  have hl : lv_has ls 1 [(0, .ref (ad 0))] := hl
  refine lv_aload_n hx hb dX6_compared_0 rfl (lv_at hl 0 rfl) ?_
  refine sm_gt (ci := 6) (C := RX6) (T := TX6) (N := 12) hx hb hts inlX6 hown hK hP 0 rfl rfl 11 (by decide) wf_RX6_68 rfl dX6_compared_1 ?_
  exact sm_retP hC rfl rfl dX6_compared_4

set_option maxHeartbeats 1000000 in
set_option maxRecDepth 100000 in
theorem c_X6_addStep (hlt : l.stackTraces = false) (k x : Int32) (hkc : vp_nar .char k = k) (hP6 : P.1 ≤ 6) : sm_MX l yX6_addStep cX6_addStep 3 (some .int) 6 82 [.ref (ad 0), .int k, .int x] D (sm_w6 D ad P S T L M C cp ph fo ne no rc wr) (fun w => w = sm_w6 D ad (if sm_kAdd P ph k x = 0 then sm_addP P k x else P) S T L M C cp ph fo ne no rc wr) (sm_rs sm_IA sm_IS sm_IS (sm_kAdd P ph k x) (some (.int (nI (P.1 + 1))))) := by
  refine sm_metX (own := RX6) (by decide) rfl (Nat.le_of_ble_eq_true rfl) ?_
  intro p e s m below meth c ls hC htab hv hl
  obtain ⟨hx, hb, hml, hr, hown, hlk, hts⟩ := id hC
  obtain ⟨⟨hP, hK⟩, hD, hZ⟩ := hv
  have hS : va_S (sm_ad (sm_w6 D ad P S T L M C cp ph fo ne no rc wr)) s.heap s.heap [] := va_S.rf
  have hl : lv_has ls 3 [(0, .ref (ad 0)), (1, .int k), (2, .int x)] := hl
  refine lv_iload_n hx hb dX6_addStep_0 rfl (lv_at hl 1 rfl) ?_
  refine lv_iload_n hx hb dX6_addStep_1 rfl (lv_at hl 2 rfl) ?_
  refine sm_cSPr (rest := []) hC hK hP (c_X4_isStep D ad P S T L M C cp ph fo ne no rc wr k x) qyX4_isStep wl_RX6_71 ⟨Nat.le_of_ble_eq_true rfl, Nat.le_of_ble_eq_true rfl⟩ rfl hl.1 rfl (Nat.le_of_ble_eq_true rfl) dX6_addStep_2 ⟨Nat.le_of_ble_eq_true rfl, Nat.le_of_ble_eq_true rfl⟩ ?_
  refine lv_if_ne (tgt := 18) hx hb dX6_addStep_5 (by decide) (fun c_1 => ?_) (fun c_1 => ?_)
  · have c_1 := sm_b1 c_1
    refine lv_aload_n hx hb dX6_addStep_18 rfl (lv_at hl 0 rfl) ?_
    refine sm_gt (ci := 6) (C := RX6) (T := TX6) (N := 12) hx hb hts inlX6 hown hK hP 0 rfl rfl 7 (by decide) wf_RX6_54 rfl dX6_addStep_19 ?_
    refine lv_bipush (v := 105) hx hb dX6_addStep_22 (by decide) ?_
    refine lv_icmp_ne (tgt := 37) hx hb dX6_addStep_24 (by decide) (fun c_2 => ?_) (fun c_2 => ?_)
    · have c_2_ := c_2
      exact sm_throw hlt hC htab hK hZ hP hD hS (by simp [sm_kAdd, sm_rs, c_1, c_2]) (by simp [sm_kAdd, sm_addP, c_1, c_2]) hl.1 sm_xIS (List.mem_of_getElem? (i := 28) rfl) dX6_addStep_37 dX6_addStep_40 dX6_addStep_41 dX6_addStep_43 dX6_addStep_46 ⟨Nat.lt_of_lt_of_le (by decide) (Nat.le_of_ble_eq_true (rfl : Nat.ble 6 _ = true)), Nat.le_of_ble_eq_true rfl, Nat.le_of_ble_eq_true rfl, Nat.le_of_ble_eq_true rfl⟩ (Nat.le_of_ble_eq_true rfl) (Nat.le_of_ble_eq_true rfl)
    · have c_2_ := c_2
      refine lv_aload_n hx hb dX6_addStep_27 rfl (lv_at hl 0 rfl) ?_
      refine sm_gt (ci := 6) (C := RX6) (T := TX6) (N := 12) hx hb hts inlX6 hown hK hP 0 rfl rfl 0 (by decide) wf_RX6_10 rfl dX6_addStep_28 ?_
      refine sm_cVPr (rest := []) hC hK hP (c_X4_isFull D ad P S T L M C cp ph fo ne no rc wr hP6) qyX4_isFull wl_RX6_82 ⟨Nat.le_of_ble_eq_true rfl, Nat.le_of_ble_eq_true rfl⟩ 1 rfl rfl rfl hl.1 rfl (Nat.le_of_ble_eq_true rfl) dX6_addStep_31 ⟨Nat.le_of_ble_eq_true rfl, Nat.le_of_ble_eq_true rfl⟩ ?_
      refine lv_if_eq (tgt := 47) hx hb dX6_addStep_34 (by decide) (fun c_3 => ?_) (fun c_3 => ?_)
      · have c_3 := sm_b0 c_3
        refine lv_aload_n hx hb dX6_addStep_47 rfl (lv_at hl 0 rfl) ?_
        refine sm_gt (ci := 6) (C := RX6) (T := TX6) (N := 12) hx hb hts inlX6 hown hK hP 0 rfl rfl 0 (by decide) wf_RX6_10 rfl dX6_addStep_48 ?_
        refine lv_iload_n hx hb dX6_addStep_51 rfl (lv_at hl 1 rfl) ?_
        refine lv_iload_n hx hb dX6_addStep_52 rfl (lv_at hl 2 rfl) ?_
        refine sm_cVC (rest := []) hC hK hP hD hS hZ (c_X4_append D ad P S T L M C cp ph fo ne no rc wr k x hkc (sm_full6f c_3)) qyX4_append wl_RX6_91 ⟨Nat.le_of_ble_eq_true rfl, Nat.le_of_ble_eq_true rfl⟩ 1 rfl rfl rfl hl.1 rfl (Nat.le_of_ble_eq_true rfl) dX6_addStep_53 ⟨Nat.le_of_ble_eq_true rfl, Nat.le_of_ble_eq_true rfl⟩ (fun w1 H locs hB hP hD hS => ?_)
        subst hB
        refine lv_aload_n hx hb dX6_addStep_56 rfl (lv_at hl 0 rfl) ?_
        refine sm_gt (ci := 6) (C := RX6) (T := TX6) (N := 12) hx hb hts inlX6 hown hK hP 0 rfl rfl 0 (by decide) wf_RX6_10 rfl dX6_addStep_57 ?_
        refine sm_cVPr (rest := []) hC hK hP (c_X4_size D ad (P.1 + 1, va_up P.2.1 P.1 k, va_up P.2.2 P.1 x) S T L M C cp ph fo ne no rc wr ) qyX4_size wl_RX6_95 ⟨Nat.le_of_ble_eq_true rfl, Nat.le_of_ble_eq_true rfl⟩ 1 rfl rfl rfl hl.1 rfl (Nat.le_of_ble_eq_true rfl) dX6_addStep_60 ⟨Nat.le_of_ble_eq_true rfl, Nat.le_of_ble_eq_true rfl⟩ ?_
        exact sm_retX hC hP hD hS (by subst c_2; simp [sm_kAdd, sm_rs, c_1, c_3]) rfl (by subst c_2; simp [sm_kAdd, sm_addP, c_1, c_3]) (Nat.le_of_ble_eq_true rfl) (Nat.le_of_ble_eq_true rfl) dX6_addStep_63
      · have c_3 := sm_b1 c_3
        exact sm_throw hlt hC htab hK hZ hP hD hS (by subst c_2; simp [sm_kAdd, sm_rs, c_1, c_3]) (by subst c_2; simp [sm_kAdd, sm_addP, c_1, c_3]) hl.1 sm_xIS (List.mem_of_getElem? (i := 28) rfl) dX6_addStep_37 dX6_addStep_40 dX6_addStep_41 dX6_addStep_43 dX6_addStep_46 ⟨Nat.lt_of_lt_of_le (by decide) (Nat.le_of_ble_eq_true (rfl : Nat.ble 6 _ = true)), Nat.le_of_ble_eq_true rfl, Nat.le_of_ble_eq_true rfl, Nat.le_of_ble_eq_true rfl⟩ (Nat.le_of_ble_eq_true rfl) (Nat.le_of_ble_eq_true rfl)
  · have c_1 := sm_b0 c_1
    exact sm_throw hlt hC htab hK hZ hP hD hS (by simp [sm_kAdd, sm_rs, c_1]) (by simp [sm_kAdd, sm_addP, c_1]) hl.1 sm_xIA (List.mem_of_getElem? (i := 27) rfl) dX6_addStep_8 dX6_addStep_11 dX6_addStep_12 dX6_addStep_14 dX6_addStep_17 ⟨Nat.lt_of_lt_of_le (by decide) (Nat.le_of_ble_eq_true (rfl : Nat.ble 6 _ = true)), Nat.le_of_ble_eq_true rfl, Nat.le_of_ble_eq_true rfl, Nat.le_of_ble_eq_true rfl⟩ (Nat.le_of_ble_eq_true rfl) (Nat.le_of_ble_eq_true rfl)

set_option maxHeartbeats 1000000 in
set_option maxRecDepth 100000 in
theorem c_X6_start (hlt : l.stackTraces = false)  : sm_MX l yX6_start cX6_start 1 (some .int) 6 82 [.ref (ad 0)] D (sm_w6 D ad P S T L M C cp ph fo ne no rc wr) (fun w => w = sm_w6 D ad P S T L M C cp (if sm_kPh 105 ph = 0 then 99 else ph) fo ne no rc wr) (sm_rs sm_IS sm_IS sm_IS (sm_kPh 105 ph) (some (.int (nI (sm_cnG S.1 40 0 0))))) := by
  refine sm_metX (own := RX6) (by decide) rfl (Nat.le_of_ble_eq_true rfl) ?_
  intro p e s m below meth c ls hC htab hv hl
  obtain ⟨hx, hb, hml, hr, hown, hlk, hts⟩ := id hC
  obtain ⟨⟨hP, hK⟩, hD, hZ⟩ := hv
  have hS : va_S (sm_ad (sm_w6 D ad P S T L M C cp ph fo ne no rc wr)) s.heap s.heap [] := va_S.rf
  have hl : lv_has ls 1 [(0, .ref (ad 0))] := hl
  refine lv_aload_n hx hb dX6_start_0 rfl (lv_at hl 0 rfl) ?_
  refine sm_gt (ci := 6) (C := RX6) (T := TX6) (N := 12) hx hb hts inlX6 hown hK hP 0 rfl rfl 7 (by decide) wf_RX6_54 rfl dX6_start_1 ?_
  refine lv_bipush (v := 105) hx hb dX6_start_4 (by decide) ?_
  refine lv_icmp_eq (tgt := 19) hx hb dX6_start_6 (by decide) (fun c_1 => ?_) (fun c_1 => ?_)
  · have c_1_ := c_1
    refine lv_aload_n hx hb dX6_start_19 rfl (lv_at hl 0 rfl) ?_
    refine lv_bipush (v := 99) hx hb dX6_start_20 (by decide) ?_
    refine sm_pt (ci := 6) (C := RX6) (T := TX6) (N := 12) hx hb hts inlX6 tyX6 tyX6_ok nmX6 hown hK hP hD hS 0 rfl rfl 7 (by decide) wf_RX6_54 rfl (by decide) rfl (Nat.le_of_ble_eq_true rfl) dX6_start_22 (fun H locs hP hD hS => ?_)
    have hP : va_P D.1 sm_cl (sm_w6 D ad P S T L M C cp 99 fo ne no rc wr) H := hP
    have hD : va_D (sm_ad (sm_w6 D ad P S T L M C cp ph fo ne no rc wr)) (sm_w6 D ad P S T L M C cp 99 fo ne no rc wr) := hD
    refine lv_aload_n hx hb dX6_start_25 rfl (lv_at hl 0 rfl) ?_
    refine sm_gt (ci := 6) (C := RX6) (T := TX6) (N := 12) hx hb hts inlX6 hown hK hP 0 rfl rfl 1 (by decide) wf_RX6_19 rfl dX6_start_26 ?_
    refine sm_cVPr (rest := []) hC hK hP (c_X3_count_s D ad P S T L M C cp 99 fo ne no rc wr ) qyX3_count wl_RX6_101 ⟨Nat.le_of_ble_eq_true rfl, Nat.le_of_ble_eq_true rfl⟩ 4 rfl rfl rfl hl.1 rfl (Nat.le_of_ble_eq_true rfl) dX6_start_29 ⟨Nat.le_of_ble_eq_true rfl, Nat.le_of_ble_eq_true rfl⟩ ?_
    exact sm_retX hC hP hD hS (by subst c_1; simp [sm_kPh, sm_rs]) rfl (by subst c_1; simp [sm_kPh]) (Nat.le_of_ble_eq_true rfl) (Nat.le_of_ble_eq_true rfl) dX6_start_32
  · have c_1_ := c_1
    exact sm_throw hlt hC htab hK hZ hP hD hS (by simp [sm_kPh, sm_rs, c_1]) (by simp [sm_kPh, c_1]) hl.1 sm_xIS (List.mem_of_getElem? (i := 29) rfl) dX6_start_9 dX6_start_12 dX6_start_13 dX6_start_15 dX6_start_18 ⟨Nat.lt_of_lt_of_le (by decide) (Nat.le_of_ble_eq_true (rfl : Nat.ble 6 _ = true)), Nat.le_of_ble_eq_true rfl, Nat.le_of_ble_eq_true rfl, Nat.le_of_ble_eq_true rfl⟩ (Nat.le_of_ble_eq_true rfl) (Nat.le_of_ble_eq_true rfl)

set_option maxHeartbeats 1000000 in
set_option maxRecDepth 100000 in
theorem c_X6_end (hlt : l.stackTraces = false)  : sm_MX l yX6_end cX6_end 1 (some .int) 6 82 [.ref (ad 0)] D (sm_w6 D ad P S T L M C cp ph fo ne no rc wr) (fun w => w = sm_w6 D ad P S T L M C cp (if sm_kPh 116 ph = 0 then 100 else ph) fo ne no rc wr) (sm_rs sm_IS sm_IS sm_IS (sm_kPh 116 ph) (some (.int (nI M.1)))) := by
  refine sm_metX (own := RX6) (by decide) rfl (Nat.le_of_ble_eq_true rfl) ?_
  intro p e s m below meth c ls hC htab hv hl
  obtain ⟨hx, hb, hml, hr, hown, hlk, hts⟩ := id hC
  obtain ⟨⟨hP, hK⟩, hD, hZ⟩ := hv
  have hS : va_S (sm_ad (sm_w6 D ad P S T L M C cp ph fo ne no rc wr)) s.heap s.heap [] := va_S.rf
  have hl : lv_has ls 1 [(0, .ref (ad 0))] := hl
  refine lv_aload_n hx hb dX6_end_0 rfl (lv_at hl 0 rfl) ?_
  refine sm_gt (ci := 6) (C := RX6) (T := TX6) (N := 12) hx hb hts inlX6 hown hK hP 0 rfl rfl 7 (by decide) wf_RX6_54 rfl dX6_end_1 ?_
  refine lv_bipush (v := 116) hx hb dX6_end_4 (by decide) ?_
  refine lv_icmp_eq (tgt := 19) hx hb dX6_end_6 (by decide) (fun c_1 => ?_) (fun c_1 => ?_)
  · have c_1_ := c_1
    refine lv_aload_n hx hb dX6_end_19 rfl (lv_at hl 0 rfl) ?_
    refine lv_bipush (v := 100) hx hb dX6_end_20 (by decide) ?_
    refine sm_pt (ci := 6) (C := RX6) (T := TX6) (N := 12) hx hb hts inlX6 tyX6 tyX6_ok nmX6 hown hK hP hD hS 0 rfl rfl 7 (by decide) wf_RX6_54 rfl (by decide) rfl (Nat.le_of_ble_eq_true rfl) dX6_end_22 (fun H locs hP hD hS => ?_)
    have hP : va_P D.1 sm_cl (sm_w6 D ad P S T L M C cp 100 fo ne no rc wr) H := hP
    have hD : va_D (sm_ad (sm_w6 D ad P S T L M C cp ph fo ne no rc wr)) (sm_w6 D ad P S T L M C cp 100 fo ne no rc wr) := hD
    refine lv_aload_n hx hb dX6_end_25 rfl (lv_at hl 0 rfl) ?_
    refine sm_gt (ci := 6) (C := RX6) (T := TX6) (N := 12) hx hb hts inlX6 hown hK hP 0 rfl rfl 4 (by decide) wf_RX6_37 rfl dX6_end_26 ?_
    refine sm_cVPr (rest := []) hC hK hP (c_X1_size_g D ad P S T L M C cp 100 fo ne no rc wr ) qyX1_size wl_RX6_142 ⟨Nat.le_of_ble_eq_true rfl, Nat.le_of_ble_eq_true rfl⟩ 18 rfl rfl rfl hl.1 rfl (Nat.le_of_ble_eq_true rfl) dX6_end_29 ⟨Nat.le_of_ble_eq_true rfl, Nat.le_of_ble_eq_true rfl⟩ ?_
    exact sm_retX hC hP hD hS (by subst c_1; simp [sm_kPh, sm_rs]) rfl (by subst c_1; simp [sm_kPh]) (Nat.le_of_ble_eq_true rfl) (Nat.le_of_ble_eq_true rfl) dX6_end_32
  · have c_1_ := c_1
    exact sm_throw hlt hC htab hK hZ hP hD hS (by simp [sm_kPh, sm_rs, c_1]) (by simp [sm_kPh, c_1]) hl.1 sm_xIS (List.mem_of_getElem? (i := 4) rfl) dX6_end_9 dX6_end_12 dX6_end_13 dX6_end_15 dX6_end_18 ⟨Nat.lt_of_lt_of_le (by decide) (Nat.le_of_ble_eq_true (rfl : Nat.ble 6 _ = true)), Nat.le_of_ble_eq_true rfl, Nat.le_of_ble_eq_true rfl, Nat.le_of_ble_eq_true rfl⟩ (Nat.le_of_ble_eq_true rfl) (Nat.le_of_ble_eq_true rfl)

set_option maxHeartbeats 1000000 in
set_option maxRecDepth 100000 in
theorem c_X6_goToBoth (hlt : l.stackTraces = false) (hC40 : C.2.2.2.2.2.2.2 ≤ 40) (hwt : C.2.2.2.2.2.2.1 ≤ 40) (hfo : fo ≤ L.1) (hL : L.1 ≤ 120) (hLk : ∀ i, L.2.1 i < 40) (hP6 : P.1 ≤ 6) : sm_MX l yX6_goToBoth cX6_goToBoth 2 (some .int) 6 136 [.ref (ad 0)] D (sm_w6 D ad P S T L M C cp ph fo ne no rc wr) (fun w => ∃ (cp' : sm_Cp), w = sm_w6 D ad P S (if sm_kGB ph C = 0 then sm_foG P L (min 120 (L.1 - fo)) T fo else T) L M C (cp') (if sm_kGB ph C = 0 then 98 else ph) (if sm_kGB ph C = 0 then fo + min 120 (L.1 - fo) else fo) ne no rc wr) (sm_rs sm_IS sm_UO sm_UO (sm_kGB ph C) (some (.int (nI (min 120 (L.1 - fo)))))) := by
  refine sm_metX (own := RX6) (by decide) rfl (Nat.le_of_ble_eq_true rfl) ?_
  intro p e s m below meth c ls hC htab hv hl
  obtain ⟨hx, hb, hml, hr, hown, hlk, hts⟩ := id hC
  obtain ⟨⟨hP, hK⟩, hD, hZ⟩ := hv
  have hS : va_S (sm_ad (sm_w6 D ad P S T L M C cp ph fo ne no rc wr)) s.heap s.heap [] := va_S.rf
  have hl : lv_has ls 2 [(0, .ref (ad 0))] := hl
  refine lv_aload_n hx hb dX6_goToBoth_0 rfl (lv_at hl 0 rfl) ?_
  refine sm_gt (ci := 6) (C := RX6) (T := TX6) (N := 12) hx hb hts inlX6 hown hK hP 0 rfl rfl 7 (by decide) wf_RX6_54 rfl dX6_goToBoth_1 ?_
  refine lv_bipush (v := 99) hx hb dX6_goToBoth_4 (by decide) ?_
  refine lv_icmp_eq (tgt := 19) hx hb dX6_goToBoth_6 (by decide) (fun c_1 => ?_) (fun c_1 => ?_)
  · have c_1_ := c_1
    refine lv_aload_n hx hb dX6_goToBoth_19 rfl (lv_at hl 0 rfl) ?_
    refine sm_gt (ci := 6) (C := RX6) (T := TX6) (N := 12) hx hb hts inlX6 hown hK hP 0 rfl rfl 5 (by decide) wf_RX6_43 rfl dX6_goToBoth_20 ?_
    refine sm_cVPr (rest := []) hC hK hP (c_X2_keysLeft D ad P S T L M C cp ph fo ne no rc wr hC40) qyX2_keysLeft wl_RX6_106 ⟨Nat.le_of_ble_eq_true rfl, Nat.le_of_ble_eq_true rfl⟩ 23 rfl rfl rfl hl.1 rfl (Nat.le_of_ble_eq_true rfl) dX6_goToBoth_23 ⟨Nat.le_of_ble_eq_true rfl, Nat.le_of_ble_eq_true rfl⟩ ?_
    refine lv_if_gt (tgt := 39) hx hb dX6_goToBoth_26 (by decide) (fun c_2 => ?_) (fun c_2 => ?_)
    · have c_2 := sm_Nlt (a := 0) (b := 40 - C.2.2.2.2.2.2.2) (c_2) (by omega) (by omega)
      exact sm_throw hlt hC htab hK hZ hP hD hS (by subst c_1; simp [sm_kGB, sm_rs, c_2]) (by exact ⟨cp, by subst c_1; simp [sm_kGB, c_2]⟩) hl.1 sm_xUO (List.mem_of_getElem? (i := 1) rfl) dX6_goToBoth_39 dX6_goToBoth_42 dX6_goToBoth_43 dX6_goToBoth_45 dX6_goToBoth_48 ⟨Nat.lt_of_lt_of_le (by decide) (Nat.le_of_ble_eq_true (rfl : Nat.ble 6 _ = true)), Nat.le_of_ble_eq_true rfl, Nat.le_of_ble_eq_true rfl, Nat.le_of_ble_eq_true rfl⟩ (Nat.le_of_ble_eq_true rfl) (Nat.le_of_ble_eq_true rfl)
    · have c_2 := sm_Nnl (a := 0) (b := 40 - C.2.2.2.2.2.2.2) (c_2) (by omega) (by omega)
      refine lv_aload_n hx hb dX6_goToBoth_29 rfl (lv_at hl 0 rfl) ?_
      refine sm_gt (ci := 6) (C := RX6) (T := TX6) (N := 12) hx hb hts inlX6 hown hK hP 0 rfl rfl 5 (by decide) wf_RX6_43 rfl dX6_goToBoth_30 ?_
      refine sm_cVPr (rest := []) hC hK hP (c_X2_waiting D ad P S T L M C cp ph fo ne no rc wr ) qyX2_waiting wl_RX6_109 ⟨Nat.le_of_ble_eq_true rfl, Nat.le_of_ble_eq_true rfl⟩ 23 rfl rfl rfl hl.1 rfl (Nat.le_of_ble_eq_true rfl) dX6_goToBoth_33 ⟨Nat.le_of_ble_eq_true rfl, Nat.le_of_ble_eq_true rfl⟩ ?_
      refine lv_if_le (tgt := 49) hx hb dX6_goToBoth_36 (by decide) (fun c_3 => ?_) (fun c_3 => ?_)
      · have c_3 := sm_Nnl (a := 0) (b := C.2.2.2.2.2.2.1) (sm_nl c_3) (by omega) (by omega)
        refine lv_aload_n hx hb dX6_goToBoth_49 rfl (lv_at hl 0 rfl) ?_
        refine lv_bipush (v := 120) hx hb dX6_goToBoth_50 (by decide) ?_
        refine sm_cVCr (rest := []) hC hK hP hD hS hZ (c_X6_followUpTo D ad P S T L M C cp ph fo ne no rc wr 120 (by omega) (by omega) hL hLk hP6) qyX6_followUpTo wl_RX6_117 ⟨Nat.le_of_ble_eq_true rfl, Nat.le_of_ble_eq_true rfl⟩ 0 rfl rfl rfl hl.1 rfl (Nat.le_of_ble_eq_true rfl) dX6_goToBoth_52 ⟨Nat.le_of_ble_eq_true rfl, Nat.le_of_ble_eq_true rfl⟩ (fun w1 H locs hB hP hD hS => ?_)
        obtain ⟨cp_4, rfl⟩ := hB
        refine lv_istore_n (lv' := [(1, .int (nI (min 120 (L.1 - fo)))), (0, .ref (ad 0))]) hx hb dX6_goToBoth_55 rfl hl (by decide) rfl (fun ls hl => ?_)
        refine lv_aload_n hx hb dX6_goToBoth_56 rfl (lv_at hl 1 rfl) ?_
        refine lv_bipush (v := 98) hx hb dX6_goToBoth_57 (by decide) ?_
        refine sm_pt (ci := 6) (C := RX6) (T := TX6) (N := 12) hx hb hts inlX6 tyX6 tyX6_ok nmX6 hown hK hP hD hS 0 rfl rfl 7 (by decide) wf_RX6_54 rfl (by decide) rfl (Nat.le_of_ble_eq_true rfl) dX6_goToBoth_59 (fun H locs hP hD hS => ?_)
        have hP : va_P D.1 sm_cl (sm_w6 D ad P S (sm_foG P L (min 120 (L.1 - fo)) T fo) L M C cp_4 98 (fo + min 120 (L.1 - fo)) ne no rc wr) H := hP
        have hD : va_D (sm_ad (sm_w6 D ad P S T L M C cp ph fo ne no rc wr)) (sm_w6 D ad P S (sm_foG P L (min 120 (L.1 - fo)) T fo) L M C cp_4 98 (fo + min 120 (L.1 - fo)) ne no rc wr) := hD
        refine lv_iload_n hx hb dX6_goToBoth_62 rfl (lv_at hl 0 rfl) ?_
        exact sm_retX hC hP hD hS (by subst c_1; simp [sm_kGB, sm_rs, c_2, c_3]) rfl (by exact ⟨cp_4, by subst c_1; simp [sm_kGB, c_2, c_3]⟩) (Nat.le_of_ble_eq_true rfl) (Nat.le_of_ble_eq_true rfl) dX6_goToBoth_63
      · have c_3 := sm_Nlt (a := 0) (b := C.2.2.2.2.2.2.1) (sm_nle c_3) (by omega) (by omega)
        exact sm_throw hlt hC htab hK hZ hP hD hS (by subst c_1; simp [sm_kGB, sm_rs, c_2, c_3]) (by exact ⟨cp, by subst c_1; simp [sm_kGB, c_2, c_3]⟩) hl.1 sm_xUO (List.mem_of_getElem? (i := 1) rfl) dX6_goToBoth_39 dX6_goToBoth_42 dX6_goToBoth_43 dX6_goToBoth_45 dX6_goToBoth_48 ⟨Nat.lt_of_lt_of_le (by decide) (Nat.le_of_ble_eq_true (rfl : Nat.ble 6 _ = true)), Nat.le_of_ble_eq_true rfl, Nat.le_of_ble_eq_true rfl, Nat.le_of_ble_eq_true rfl⟩ (Nat.le_of_ble_eq_true rfl) (Nat.le_of_ble_eq_true rfl)
  · have c_1_ := c_1
    exact sm_throw hlt hC htab hK hZ hP hD hS (by simp [sm_kGB, sm_rs, c_1]) (by exact ⟨cp, by simp [sm_kGB, c_1]⟩) hl.1 sm_xIS (List.mem_of_getElem? (i := 0) rfl) dX6_goToBoth_9 dX6_goToBoth_12 dX6_goToBoth_13 dX6_goToBoth_15 dX6_goToBoth_18 ⟨Nat.lt_of_lt_of_le (by decide) (Nat.le_of_ble_eq_true (rfl : Nat.ble 6 _ = true)), Nat.le_of_ble_eq_true rfl, Nat.le_of_ble_eq_true rfl, Nat.le_of_ble_eq_true rfl⟩ (Nat.le_of_ble_eq_true rfl) (Nat.le_of_ble_eq_true rfl)

set_option maxHeartbeats 1000000 in
set_option maxRecDepth 100000 in
theorem c_X6_switchOver (hlt : l.stackTraces = false) (hP6 : P.1 ≤ 6) : sm_MX l yX6_switchOver cX6_switchOver 1 (some .int) 6 135 [.ref (ad 0)] D (sm_w6 D ad P S T L M C cp ph fo ne no rc wr) (fun w => ∃ (cp' : sm_Cp), w = sm_w6 D ad P S T L M C (cp') (if sm_kSO P S T ph = 0 then 116 else ph) fo ne no rc wr) (sm_rs sm_IS sm_UO sm_UO (sm_kSO P S T ph) (some (.int (nI (sm_cnG (fun i => sm_kd T i 1) 40 0 0))))) := by
  refine sm_metX (own := RX6) (by decide) rfl (Nat.le_of_ble_eq_true rfl) ?_
  intro p e s m below meth c ls hC htab hv hl
  obtain ⟨hx, hb, hml, hr, hown, hlk, hts⟩ := id hC
  obtain ⟨⟨hP, hK⟩, hD, hZ⟩ := hv
  have hS : va_S (sm_ad (sm_w6 D ad P S T L M C cp ph fo ne no rc wr)) s.heap s.heap [] := va_S.rf
  have hl : lv_has ls 1 [(0, .ref (ad 0))] := hl
  refine lv_aload_n hx hb dX6_switchOver_0 rfl (lv_at hl 0 rfl) ?_
  refine sm_gt (ci := 6) (C := RX6) (T := TX6) (N := 12) hx hb hts inlX6 hown hK hP 0 rfl rfl 7 (by decide) wf_RX6_54 rfl dX6_switchOver_1 ?_
  refine lv_bipush (v := 98) hx hb dX6_switchOver_4 (by decide) ?_
  refine lv_icmp_eq (tgt := 19) hx hb dX6_switchOver_6 (by decide) (fun c_1 => ?_) (fun c_1 => ?_)
  · have c_1_ := c_1
    refine lv_aload_n hx hb dX6_switchOver_19 rfl (lv_at hl 0 rfl) ?_
    refine sm_gt (ci := 6) (C := RX6) (T := TX6) (N := 12) hx hb hts inlX6 hown hK hP 0 rfl rfl 2 (by decide) wf_RX6_26 rfl dX6_switchOver_20 ?_
    refine sm_cVPr (rest := []) hC hK hP (c_X5_isAnyAside D ad P S T L M C cp ph fo ne no rc wr ) qyX5_isAnyAside wl_RX6_123 ⟨Nat.le_of_ble_eq_true rfl, Nat.le_of_ble_eq_true rfl⟩ 8 rfl rfl rfl hl.1 rfl (Nat.le_of_ble_eq_true rfl) dX6_switchOver_23 ⟨Nat.le_of_ble_eq_true rfl, Nat.le_of_ble_eq_true rfl⟩ ?_
    refine lv_if_ne (tgt := 39) hx hb dX6_switchOver_26 (by decide) (fun c_2 => ?_) (fun c_2 => ?_)
    · have c_2 := sm_b1 c_2
      exact sm_throw hlt hC htab hK hZ hP hD hS (by subst c_1; simp [sm_kSO, sm_rs, c_2]) (by exact ⟨cp, by subst c_1; simp [sm_kSO, c_2]⟩) hl.1 sm_xUO (List.mem_of_getElem? (i := 3) rfl) dX6_switchOver_39 dX6_switchOver_42 dX6_switchOver_43 dX6_switchOver_45 dX6_switchOver_48 ⟨Nat.lt_of_lt_of_le (by decide) (Nat.le_of_ble_eq_true (rfl : Nat.ble 6 _ = true)), Nat.le_of_ble_eq_true rfl, Nat.le_of_ble_eq_true rfl, Nat.le_of_ble_eq_true rfl⟩ (Nat.le_of_ble_eq_true rfl) (Nat.le_of_ble_eq_true rfl)
    · have c_2 := sm_b0 c_2
      refine lv_aload_n hx hb dX6_switchOver_29 rfl (lv_at hl 0 rfl) ?_
      refine lv_iconst (v := 0) hx hb dX6_switchOver_30 (by decide) ?_
      refine lv_bipush (v := 39) hx hb dX6_switchOver_31 (by decide) ?_
      refine sm_cVCr (rest := []) hC hK hP hD hS hZ (c_X6_areSumsSame D ad P S T L M C cp ph fo ne no rc wr 0 39 (by omega) (by omega) hP6) qyX6_areSumsSame wl_RX6_126 ⟨Nat.le_of_ble_eq_true rfl, Nat.le_of_ble_eq_true rfl⟩ 0 rfl rfl rfl hl.1 rfl (Nat.le_of_ble_eq_true rfl) dX6_switchOver_33 ⟨Nat.le_of_ble_eq_true rfl, Nat.le_of_ble_eq_true rfl⟩ (fun w1 H locs hB hP hD hS => ?_)
      obtain ⟨cp_3, rfl⟩ := hB
      refine lv_if_ne (tgt := 49) hx hb dX6_switchOver_36 (by decide) (fun c_4 => ?_) (fun c_4 => ?_)
      · have c_4 := sm_b1 c_4
        refine lv_aload_n hx hb dX6_switchOver_49 rfl (lv_at hl 0 rfl) ?_
        refine lv_bipush (v := 116) hx hb dX6_switchOver_50 (by decide) ?_
        refine sm_pt (ci := 6) (C := RX6) (T := TX6) (N := 12) hx hb hts inlX6 tyX6 tyX6_ok nmX6 hown hK hP hD hS 0 rfl rfl 7 (by decide) wf_RX6_54 rfl (by decide) rfl (Nat.le_of_ble_eq_true rfl) dX6_switchOver_52 (fun H locs hP hD hS => ?_)
        have hP : va_P D.1 sm_cl (sm_w6 D ad P S T L M C cp_3 116 fo ne no rc wr) H := hP
        have hD : va_D (sm_ad (sm_w6 D ad P S T L M C cp ph fo ne no rc wr)) (sm_w6 D ad P S T L M C cp_3 116 fo ne no rc wr) := hD
        refine lv_aload_n hx hb dX6_switchOver_55 rfl (lv_at hl 0 rfl) ?_
        refine sm_gt (ci := 6) (C := RX6) (T := TX6) (N := 12) hx hb hts inlX6 hown hK hP 0 rfl rfl 2 (by decide) wf_RX6_26 rfl dX6_switchOver_56 ?_
        refine sm_cVPr (rest := []) hC hK hP (c_X5_countEntries D ad P S T L M C cp_3 116 fo ne no rc wr ) qyX5_countEntries wl_RX6_132 ⟨Nat.le_of_ble_eq_true rfl, Nat.le_of_ble_eq_true rfl⟩ 8 rfl rfl rfl hl.1 rfl (Nat.le_of_ble_eq_true rfl) dX6_switchOver_59 ⟨Nat.le_of_ble_eq_true rfl, Nat.le_of_ble_eq_true rfl⟩ ?_
        exact sm_retX hC hP hD hS (by subst c_1; simp [sm_kSO, sm_rs, c_2, c_4]) rfl (by exact ⟨cp_3, by subst c_1; simp [sm_kSO, c_2, c_4]⟩) (Nat.le_of_ble_eq_true rfl) (Nat.le_of_ble_eq_true rfl) dX6_switchOver_62
      · have c_4 := sm_b0 c_4
        exact sm_throw hlt hC htab hK hZ hP hD hS (by subst c_1; simp [sm_kSO, sm_rs, c_2, c_4]) (by exact ⟨cp_3, by subst c_1; simp [sm_kSO, c_2, c_4]⟩) hl.1 sm_xUO (List.mem_of_getElem? (i := 3) rfl) dX6_switchOver_39 dX6_switchOver_42 dX6_switchOver_43 dX6_switchOver_45 dX6_switchOver_48 ⟨Nat.lt_of_lt_of_le (by decide) (Nat.le_of_ble_eq_true (rfl : Nat.ble 6 _ = true)), Nat.le_of_ble_eq_true rfl, Nat.le_of_ble_eq_true rfl, Nat.le_of_ble_eq_true rfl⟩ (Nat.le_of_ble_eq_true rfl) (Nat.le_of_ble_eq_true rfl)
  · have c_1_ := c_1
    exact sm_throw hlt hC htab hK hZ hP hD hS (by simp [sm_kSO, sm_rs, c_1]) (by exact ⟨cp, by simp [sm_kSO, c_1]⟩) hl.1 sm_xIS (List.mem_of_getElem? (i := 2) rfl) dX6_switchOver_9 dX6_switchOver_12 dX6_switchOver_13 dX6_switchOver_15 dX6_switchOver_18 ⟨Nat.lt_of_lt_of_le (by decide) (Nat.le_of_ble_eq_true (rfl : Nat.ble 6 _ = true)), Nat.le_of_ble_eq_true rfl, Nat.le_of_ble_eq_true rfl, Nat.le_of_ble_eq_true rfl⟩ (Nat.le_of_ble_eq_true rfl) (Nat.le_of_ble_eq_true rfl)

set_option maxHeartbeats 1000000 in
set_option maxRecDepth 100000 in
theorem c_X6_goBack (hlt : l.stackTraces = false) (hM : M.1 ≤ 120) (hMk : ∀ i, M.2.1 i < 40) (hP6 : P.1 ≤ 6) : sm_MX l yX6_goBack cX6_goBack 4 (some .int) 6 90 [.ref (ad 0)] D (sm_w6 D ad P S T L M C cp ph fo ne no rc wr) (fun w => ∃ (cp' : sm_Cp), w = sm_w6 D ad P (if sm_kBk P T M ph = 0 then (sm_gbG P T M M.1 0 S 0).1 else S) T L (if sm_kBk P T M ph = 0 then (0, M.2) else M) C (cp') (if sm_kBk P T M ph = 0 then 98 else ph) fo ne no rc wr) (sm_rs sm_IS sm_UO sm_UO (sm_kBk P T M ph) (some (.int (nI (sm_gbG P T M M.1 0 S 0).2)))) := by
  refine sm_metX (own := RX6) (by decide) rfl (Nat.le_of_ble_eq_true rfl) ?_
  intro p e s m below meth c ls hC htab hv hl
  obtain ⟨hx, hb, hml, hr, hown, hlk, hts⟩ := id hC
  obtain ⟨⟨hP, hK⟩, hD, hZ⟩ := hv
  have hS : va_S (sm_ad (sm_w6 D ad P S T L M C cp ph fo ne no rc wr)) s.heap s.heap [] := va_S.rf
  have hl : lv_has ls 4 [(0, .ref (ad 0))] := hl
  refine lv_aload_n hx hb dX6_goBack_0 rfl (lv_at hl 0 rfl) ?_
  refine sm_gt (ci := 6) (C := RX6) (T := TX6) (N := 12) hx hb hts inlX6 hown hK hP 0 rfl rfl 7 (by decide) wf_RX6_54 rfl dX6_goBack_1 ?_
  refine lv_bipush (v := 116) hx hb dX6_goBack_4 (by decide) ?_
  refine lv_icmp_eq (tgt := 19) hx hb dX6_goBack_6 (by decide) (fun c_1 => ?_) (fun c_1 => ?_)
  · have c_1_ := c_1
    refine lv_aload_n hx hb dX6_goBack_19 rfl (lv_at hl 0 rfl) ?_
    refine sm_cVCr (rest := []) hC hK hP hD hS hZ (c_X6_canComeBack D ad P S T L M C cp ph fo ne no rc wr hM hMk hP6) qyX6_canComeBack wl_RX6_137 ⟨Nat.le_of_ble_eq_true rfl, Nat.le_of_ble_eq_true rfl⟩ 0 rfl rfl rfl hl.1 rfl (Nat.le_of_ble_eq_true rfl) dX6_goBack_20 ⟨Nat.le_of_ble_eq_true rfl, Nat.le_of_ble_eq_true rfl⟩ (fun w1 H locs hB hP hD hS => ?_)
    obtain ⟨cp_2, rfl⟩ := hB
    refine lv_if_ne (tgt := 36) hx hb dX6_goBack_23 (by decide) (fun c_3 => ?_) (fun c_3 => ?_)
    · have c_3 := sm_b1 c_3
      refine lv_aload_n hx hb dX6_goBack_36 rfl (lv_at hl 0 rfl) ?_
      refine sm_gt (ci := 6) (C := RX6) (T := TX6) (N := 12) hx hb hts inlX6 hown hK hP 0 rfl rfl 4 (by decide) wf_RX6_37 rfl dX6_goBack_37 ?_
      refine sm_cVPr (rest := []) hC hK hP (c_X1_size_g D ad P S T L M C cp_2 ph fo ne no rc wr ) qyX1_size wl_RX6_142 ⟨Nat.le_of_ble_eq_true rfl, Nat.le_of_ble_eq_true rfl⟩ 18 rfl rfl rfl hl.1 rfl (Nat.le_of_ble_eq_true rfl) dX6_goBack_40 ⟨Nat.le_of_ble_eq_true rfl, Nat.le_of_ble_eq_true rfl⟩ ?_
      refine lv_istore_n (lv' := [(1, .int (nI M.1)), (0, .ref (ad 0))]) hx hb dX6_goBack_43 rfl hl (by decide) rfl (fun ls hl => ?_)
      refine lv_iconst (v := 0) hx hb dX6_goBack_44 (by decide) ?_
      refine lv_istore_n (lv' := [(2, .int 0), (1, .int (nI M.1)), (0, .ref (ad 0))]) hx hb dX6_goBack_45 rfl hl (by decide) rfl (fun ls hl => ?_)
      refine lv_iconst (v := 0) hx hb dX6_goBack_46 (by decide) ?_
      refine lv_istore_n (lv' := [(3, .int 0), (2, .int 0), (1, .int (nI M.1)), (0, .ref (ad 0))]) hx hb dX6_goBack_47 rfl hl (by decide) rfl (fun ls hl => ?_)
      suffices K : ∀ (n : Nat) (i : Nat) (q : Nat) (r : sm_Rw) (t : sm_Cp) (H : Heap) (locs : List Loc) (ls : Array Slot), M.1 - i = n → (i ≤ M.1) → (sm_gbG P T M (M.1 - i) i r q = sm_gbG P T M M.1 0 S 0) → va_P D.1 sm_cl (sm_w6 D ad P r T L M C t ph fo ne no rc wr) H → va_D (sm_ad (sm_w6 D ad P S T L M C cp ph fo ne no rc wr)) (sm_w6 D ad P r T L M C t ph fo ne no rc wr) → va_S (sm_ad (sm_w6 D ad P S T L M C cp ph fo ne no rc wr)) s.heap H locs → lv_has ls 4 [(0, .ref (ad 0)), (1, .int (nI M.1)), (2, .int (nI q)), (3, .int (nI i))] → W p l e ({ frames := 6, cells := 1, slots := 6, locals := 90 } : Room) s m ([.ref (ad 0)] : List Value).toArray below meth c H locs 0 0 (vx_MQ below (sm_Qx D (sm_w6 D ad P S T L M C cp ph fo ne no rc wr) (fun w => ∃ (cp' : sm_Cp), w = sm_w6 D ad P (if sm_kBk P T M ph = 0 then (sm_gbG P T M M.1 0 S 0).1 else S) T L (if sm_kBk P T M ph = 0 then (0, M.2) else M) C (cp') (if sm_kBk P T M ph = 0 then 98 else ph) fo ne no rc wr) (sm_rs sm_IS sm_UO sm_UO (sm_kBk P T M ph) (some (.int (nI (sm_gbG P T M M.1 0 S 0).2))))) (sm_Xx D (sm_w6 D ad P S T L M C cp ph fo ne no rc wr) (fun w => ∃ (cp' : sm_Cp), w = sm_w6 D ad P (if sm_kBk P T M ph = 0 then (sm_gbG P T M M.1 0 S 0).1 else S) T L (if sm_kBk P T M ph = 0 then (0, M.2) else M) C (cp') (if sm_kBk P T M ph = 0 then 98 else ph) fo ne no rc wr) (sm_rs sm_IS sm_UO sm_UO (sm_kBk P T M ph) (some (.int (nI (sm_gbG P T M M.1 0 S 0).2))))) ([.ref (ad 0)] : List Value).toArray s 1 6 (sm_ad (sm_w6 D ad P S T L M C cp ph fo ne no rc wr))) (F0 m 48 ls []) from K _ 0 0 S cp_2 _ _ ls rfl (by omega) (rfl) hP hD hS (lv_sub hl [3, 2, 1, 0] rfl)
      intro n
      induction n using Nat.strongRecOn with
      | ind n ih =>
        intro i q r t H locs ls hn hi hR hP hD hS hl
        refine lv_iload_n hx hb dX6_goBack_48 rfl (lv_at hl 3 rfl) ?_
        refine lv_iload_n hx hb dX6_goBack_49 rfl (lv_at hl 1 rfl) ?_
        refine lv_icmp_ge (tgt := 77) hx hb dX6_goBack_50 (by decide) (fun c_4 => ?_) (fun c_4 => ?_)
        · have c_4 := sm_Nnl (a := i) (b := M.1) (sm_nl c_4) (by omega) (by omega)
          refine lv_aload_n hx hb dX6_goBack_77 rfl (lv_at hl 0 rfl) ?_
          refine sm_gt (ci := 6) (C := RX6) (T := TX6) (N := 12) hx hb hts inlX6 hown hK hP 0 rfl rfl 4 (by decide) wf_RX6_37 rfl dX6_goBack_78 ?_
          refine sm_cVC (rest := []) hC hK hP hD hS hZ (c_X1_clear_g D ad P r T L M C t ph fo ne no rc wr ) qyX1_clear wl_RX6_150 ⟨Nat.le_of_ble_eq_true rfl, Nat.le_of_ble_eq_true rfl⟩ 18 rfl rfl rfl hl.1 rfl (Nat.le_of_ble_eq_true rfl) dX6_goBack_81 ⟨Nat.le_of_ble_eq_true rfl, Nat.le_of_ble_eq_true rfl⟩ (fun w1 H locs hB hP hD hS => ?_)
          subst hB
          refine lv_aload_n hx hb dX6_goBack_84 rfl (lv_at hl 0 rfl) ?_
          refine lv_bipush (v := 98) hx hb dX6_goBack_85 (by decide) ?_
          refine sm_pt (ci := 6) (C := RX6) (T := TX6) (N := 12) hx hb hts inlX6 tyX6 tyX6_ok nmX6 hown hK hP hD hS 0 rfl rfl 7 (by decide) wf_RX6_54 rfl (by decide) rfl (Nat.le_of_ble_eq_true rfl) dX6_goBack_87 (fun H locs hP hD hS => ?_)
          have hP : va_P D.1 sm_cl (sm_w6 D ad P r T L (0, M.2) C t 98 fo ne no rc wr) H := hP
          have hD : va_D (sm_ad (sm_w6 D ad P S T L M C cp ph fo ne no rc wr)) (sm_w6 D ad P r T L (0, M.2) C t 98 fo ne no rc wr) := hD
          refine lv_iload_n hx hb dX6_goBack_90 rfl (lv_at hl 2 rfl) ?_
          exact sm_retX hC hP hD hS (by rw [show M.1 - i = 0 by omega] at hR; have h1 : r = _ := congrArg Prod.fst hR; have h2 : q = _ := congrArg Prod.snd hR; simp [sm_kBk, sm_rs, h2, c_1, c_3]) rfl (by exact ⟨t, by rw [show M.1 - i = 0 by omega] at hR; have h1 : r = _ := congrArg Prod.fst hR; have h2 : q = _ := congrArg Prod.snd hR; simp [sm_kBk, h1, c_1, c_3]⟩) (Nat.le_of_ble_eq_true rfl) (Nat.le_of_ble_eq_true rfl) dX6_goBack_91
        · have c_4 := sm_Nlt (a := i) (b := M.1) (sm_nle c_4) (by omega) (by omega)
          refine lv_aload_n hx hb dX6_goBack_53 rfl (lv_at hl 0 rfl) ?_
          refine lv_aload_n hx hb dX6_goBack_54 rfl (lv_at hl 0 rfl) ?_
          refine sm_gt (ci := 6) (C := RX6) (T := TX6) (N := 12) hx hb hts inlX6 hown hK hP 0 rfl rfl 4 (by decide) wf_RX6_37 rfl dX6_goBack_55 ?_
          refine lv_iload_n hx hb dX6_goBack_58 rfl (lv_at hl 3 rfl) ?_
          refine sm_cVPr (rest := [.ref (ad 0)]) hC hK hP (c_X1_key_g D ad P r T L M C t ph fo ne no rc wr i (by first | omega | exact hMk _)) qyX1_key wl_RX6_143 ⟨Nat.le_of_ble_eq_true rfl, Nat.le_of_ble_eq_true rfl⟩ 18 rfl rfl rfl hl.1 rfl (Nat.le_of_ble_eq_true rfl) dX6_goBack_59 ⟨Nat.le_of_ble_eq_true rfl, Nat.le_of_ble_eq_true rfl⟩ ?_
          refine sm_cVCr (rest := []) hC hK hP hD hS hZ (c_X6_comeBack D ad P r T L M C t ph fo ne no rc wr (M.2.1 i) (by first | omega | exact hMk _) hP6) qyX6_comeBack wl_RX6_146 ⟨Nat.le_of_ble_eq_true rfl, Nat.le_of_ble_eq_true rfl⟩ 0 rfl rfl rfl hl.1 rfl (Nat.le_of_ble_eq_true rfl) dX6_goBack_62 ⟨Nat.le_of_ble_eq_true rfl, Nat.le_of_ble_eq_true rfl⟩ (fun w1 H locs hB hP hD hS => ?_)
          obtain ⟨cp_5, rfl⟩ := hB
          refine lv_if_eq (tgt := 71) hx hb dX6_goBack_65 (by decide) (fun c_6 => ?_) (fun c_6 => ?_)
          · have c_6 := sm_b0 c_6
            refine lv_iinc (v := nI (i + 1)) (lv' := [(3, .int (nI (i + 1))), (0, .ref (ad 0)), (1, .int (nI M.1)), (2, .int (nI q))]) hx hb dX6_goBack_71 hl (k := 3) rfl (nI_1 i) (by decide) rfl (fun ls hl => ?_)
            refine lv_goto (tgt := 48) hx hb dX6_goBack_74 (by decide) ?_
            exact ih _ (by omega) (i + 1) q (sm_cbS P T r (M.2.1 i)) cp_5 _ _ ls rfl (by omega) (by rw [sm_gbS (by omega), if_neg (by rw [c_6]; decide)] at hR; exact hR) hP hD hS (lv_sub hl [1, 2, 3, 0] rfl)
          · have c_6 := sm_b1 c_6
            refine lv_iinc (v := nI (q + 1)) (lv' := [(2, .int (nI (q + 1))), (0, .ref (ad 0)), (1, .int (nI M.1)), (3, .int (nI i))]) hx hb dX6_goBack_68 hl (k := 2) rfl (nI_1 q) (by decide) rfl (fun ls hl => ?_)
            refine lv_iinc (v := nI (i + 1)) (lv' := [(3, .int (nI (i + 1))), (2, .int (nI (q + 1))), (0, .ref (ad 0)), (1, .int (nI M.1))]) hx hb dX6_goBack_71 hl (k := 3) rfl (nI_1 i) (by decide) rfl (fun ls hl => ?_)
            refine lv_goto (tgt := 48) hx hb dX6_goBack_74 (by decide) ?_
            exact ih _ (by omega) (i + 1) (q + 1) (sm_cbS P T r (M.2.1 i)) cp_5 _ _ ls rfl (by omega) (by rw [sm_gbS (by omega), if_pos c_6] at hR; exact hR) hP hD hS (lv_sub hl [2, 3, 1, 0] rfl)
    · have c_3 := sm_b0 c_3
      exact sm_throw hlt hC htab hK hZ hP hD hS (by simp [sm_kBk, sm_rs, c_1, c_3]) (by exact ⟨cp_2, by simp [sm_kBk, c_1, c_3]⟩) hl.1 sm_xUO (List.mem_of_getElem? (i := 5) rfl) dX6_goBack_26 dX6_goBack_29 dX6_goBack_30 dX6_goBack_32 dX6_goBack_35 ⟨Nat.lt_of_lt_of_le (by decide) (Nat.le_of_ble_eq_true (rfl : Nat.ble 6 _ = true)), Nat.le_of_ble_eq_true rfl, Nat.le_of_ble_eq_true rfl, Nat.le_of_ble_eq_true rfl⟩ (Nat.le_of_ble_eq_true rfl) (Nat.le_of_ble_eq_true rfl)
  · have c_1_ := c_1
    exact sm_throw hlt hC htab hK hZ hP hD hS (by simp [sm_kBk, sm_rs, c_1]) (by exact ⟨cp, by simp [sm_kBk, c_1]⟩) hl.1 sm_xIS (List.mem_of_getElem? (i := 4) rfl) dX6_goBack_9 dX6_goBack_12 dX6_goBack_13 dX6_goBack_15 dX6_goBack_18 ⟨Nat.lt_of_lt_of_le (by decide) (Nat.le_of_ble_eq_true (rfl : Nat.ble 6 _ = true)), Nat.le_of_ble_eq_true rfl, Nat.le_of_ble_eq_true rfl, Nat.le_of_ble_eq_true rfl⟩ (Nat.le_of_ble_eq_true rfl) (Nat.le_of_ble_eq_true rfl)

set_option maxHeartbeats 1000000 in
set_option maxRecDepth 100000 in
theorem c_X6_write_i (hlt : l.stackTraces = false) (x a b : Int32) (hbk : sm_isKey x = false) : sm_MX l yX6_write cX6_write 6 (some .boolean) 6 113 [.ref (ad 0), .int x, .int a, .int b] D (sm_w6 D ad P S T L M C cp ph fo ne no rc wr) (fun w => w = sm_w6 D ad P S T L M C cp ph fo ne no rc wr) (.inl sm_IA) := by
  refine sm_metX (own := RX6) (by decide) rfl (Nat.le_of_ble_eq_true rfl) ?_
  intro p e s m below meth c ls hC htab hv hl
  obtain ⟨hx, hb, hml, hr, hown, hlk, hts⟩ := id hC
  obtain ⟨⟨hP, hK⟩, hD, hZ⟩ := hv
  have hS : va_S (sm_ad (sm_w6 D ad P S T L M C cp ph fo ne no rc wr)) s.heap s.heap [] := va_S.rf
  have hl : lv_has ls 6 [(0, .ref (ad 0)), (1, .int x), (2, .int a), (3, .int b)] := hl
  refine lv_aload_n hx hb dX6_write_0 rfl (lv_at hl 0 rfl) ?_
  refine sm_cVPr (rest := []) hC hK hP (c_X6_isTargetLive D ad P S T L M C cp ph fo ne no rc wr ) qyX6_isTargetLive wl_RX6_153 ⟨Nat.le_of_ble_eq_true rfl, Nat.le_of_ble_eq_true rfl⟩ 0 rfl rfl rfl hl.1 rfl (Nat.le_of_ble_eq_true rfl) dX6_write_1 ⟨Nat.le_of_ble_eq_true rfl, Nat.le_of_ble_eq_true rfl⟩ ?_
  refine lv_if_eq (tgt := 13) hx hb dX6_write_4 (by decide) (fun c_1 => ?_) (fun c_1 => ?_)
  · have c_1 := sm_b0 c_1
    refine lv_bipush (v := 99) hx hb dX6_write_13 (by decide) ?_
    refine lv_istore (lv' := [(4, .int 99), (0, .ref (ad 0)), (1, .int x), (2, .int a), (3, .int b)]) hx hb dX6_write_15 hl (by decide) rfl (fun ls hl => ?_)
    refine lv_iload_n hx hb dX6_write_17 rfl (lv_at hl 2 rfl) ?_
    refine sm_cSPr (rest := []) hC hK hP (c_X6_isKey_i D ad P S T L M C cp ph fo ne no rc wr x) qyX6_isKey wl_RX6_156 ⟨Nat.le_of_ble_eq_true rfl, Nat.le_of_ble_eq_true rfl⟩ rfl hl.1 rfl (Nat.le_of_ble_eq_true rfl) dX6_write_18 ⟨Nat.le_of_ble_eq_true rfl, Nat.le_of_ble_eq_true rfl⟩ ?_
    refine lv_if_eq (tgt := 42) hx hb dX6_write_21 (by decide) (fun _ => ?_) (fun h => absurd h (by rw [hbk]; decide))
    exact sm_throw hlt hC htab hK hZ hP hD hS rfl (by exact rfl) hl.1 sm_xIA (List.mem_of_getElem? (i := 6) rfl) dX6_write_42 dX6_write_45 dX6_write_46 dX6_write_48 dX6_write_51 ⟨Nat.lt_of_lt_of_le (by decide) (Nat.le_of_ble_eq_true (rfl : Nat.ble 6 _ = true)), Nat.le_of_ble_eq_true rfl, Nat.le_of_ble_eq_true rfl, Nat.le_of_ble_eq_true rfl⟩ (Nat.le_of_ble_eq_true rfl) (Nat.le_of_ble_eq_true rfl)
  · have c_1 := sm_b1 c_1
    refine lv_sipush (v := 999) hx hb dX6_write_7 (by decide) ?_
    refine lv_goto (tgt := 15) hx hb dX6_write_10 (by decide) ?_
    refine lv_istore (lv' := [(4, .int 999), (0, .ref (ad 0)), (1, .int x), (2, .int a), (3, .int b)]) hx hb dX6_write_15 hl (by decide) rfl (fun ls hl => ?_)
    refine lv_iload_n hx hb dX6_write_17 rfl (lv_at hl 2 rfl) ?_
    refine sm_cSPr (rest := []) hC hK hP (c_X6_isKey_i D ad P S T L M C cp ph fo ne no rc wr x) qyX6_isKey wl_RX6_156 ⟨Nat.le_of_ble_eq_true rfl, Nat.le_of_ble_eq_true rfl⟩ rfl hl.1 rfl (Nat.le_of_ble_eq_true rfl) dX6_write_18 ⟨Nat.le_of_ble_eq_true rfl, Nat.le_of_ble_eq_true rfl⟩ ?_
    refine lv_if_eq (tgt := 42) hx hb dX6_write_21 (by decide) (fun _ => ?_) (fun h => absurd h (by rw [hbk]; decide))
    exact sm_throw hlt hC htab hK hZ hP hD hS rfl (by exact rfl) hl.1 sm_xIA (List.mem_of_getElem? (i := 6) rfl) dX6_write_42 dX6_write_45 dX6_write_46 dX6_write_48 dX6_write_51 ⟨Nat.lt_of_lt_of_le (by decide) (Nat.le_of_ble_eq_true (rfl : Nat.ble 6 _ = true)), Nat.le_of_ble_eq_true rfl, Nat.le_of_ble_eq_true rfl, Nat.le_of_ble_eq_true rfl⟩ (Nat.le_of_ble_eq_true rfl) (Nat.le_of_ble_eq_true rfl)

set_option maxHeartbeats 1000000 in
set_option maxRecDepth 100000 in
theorem c_X6_write (hlt : l.stackTraces = false) (k : Nat) (hk : k < 40) (a b : Int32) (hfo : fo ≤ L.1) (hL : L.1 ≤ 120) (hLk : ∀ i, L.2.1 i < 40) (hM : M.1 ≤ 120) (hP6 : P.1 ≤ 6) : sm_MX l yX6_write cX6_write 6 (some .boolean) 6 113 [.ref (ad 0), .int (nI k), .int a, .int b] D (sm_w6 D ad P S T L M C cp ph fo ne no rc wr) (fun w => ∃ (cp' : sm_Cp), w = sm_w6 D ad P (if sm_kWr ph L M a b = 0 then (if ph = 116 then S else sm_putS S k a b) else S) (if sm_kWr ph L M a b = 0 then (if ph = 116 then sm_entT T k a b (nI L.1) else if ph = 98 then sm_fo1 P (sm_appL L k false a b) T fo else T) else T) (if sm_kWr ph L M a b = 0 then (if ph = 116 then L else if ph = 105 then L else sm_appL L k false a b) else L) (if sm_kWr ph L M a b = 0 then (if ph = 116 then sm_appL M k false a b else M) else M) C (cp') ph (if sm_kWr ph L M a b = 0 then (if ph = 98 then fo + 1 else fo) else fo) ne no rc wr) (sm_rs sm_IA sm_IS sm_IS (sm_kWr ph L M a b) (some (.int (sm_b (sm_live ph T S k))))) := by
  refine sm_metX (own := RX6) (by decide) rfl (Nat.le_of_ble_eq_true rfl) ?_
  intro p e s m below meth c ls hC htab hv hl
  obtain ⟨hx, hb, hml, hr, hown, hlk, hts⟩ := id hC
  obtain ⟨⟨hP, hK⟩, hD, hZ⟩ := hv
  have hS : va_S (sm_ad (sm_w6 D ad P S T L M C cp ph fo ne no rc wr)) s.heap s.heap [] := va_S.rf
  have hl : lv_has ls 6 [(0, .ref (ad 0)), (1, .int (nI k)), (2, .int a), (3, .int b)] := hl
  refine lv_aload_n hx hb dX6_write_0 rfl (lv_at hl 0 rfl) ?_
  refine sm_cVPr (rest := []) hC hK hP (c_X6_isTargetLive D ad P S T L M C cp ph fo ne no rc wr ) qyX6_isTargetLive wl_RX6_153 ⟨Nat.le_of_ble_eq_true rfl, Nat.le_of_ble_eq_true rfl⟩ 0 rfl rfl rfl hl.1 rfl (Nat.le_of_ble_eq_true rfl) dX6_write_1 ⟨Nat.le_of_ble_eq_true rfl, Nat.le_of_ble_eq_true rfl⟩ ?_
  refine lv_if_eq (tgt := 13) hx hb dX6_write_4 (by decide) (fun c_1 => ?_) (fun c_1 => ?_)
  · have c_1 := sm_b0 c_1
    refine lv_bipush (v := 99) hx hb dX6_write_13 (by decide) ?_
    refine lv_istore (lv' := [(4, .int 99), (0, .ref (ad 0)), (1, .int (nI k)), (2, .int a), (3, .int b)]) hx hb dX6_write_15 hl (by decide) rfl (fun ls hl => ?_)
    refine lv_iload_n hx hb dX6_write_17 rfl (lv_at hl 2 rfl) ?_
    refine sm_cSPr (rest := []) hC hK hP (c_X6_isKey D ad P S T L M C cp ph fo ne no rc wr k (by omega)) qyX6_isKey wl_RX6_156 ⟨Nat.le_of_ble_eq_true rfl, Nat.le_of_ble_eq_true rfl⟩ rfl hl.1 rfl (Nat.le_of_ble_eq_true rfl) dX6_write_18 ⟨Nat.le_of_ble_eq_true rfl, Nat.le_of_ble_eq_true rfl⟩ ?_
    refine lv_if_eq (tgt := 42) hx hb dX6_write_21 (by decide) (fun h => absurd h (by decide)) (fun _ => ?_)
    refine lv_iload_n hx hb dX6_write_24 rfl (lv_at hl 3 rfl) ?_
    refine lv_iload hx hb dX6_write_25 (lv_at hl 0 rfl) ?_
    refine sm_cSPr (rest := []) hC hK hP (c_X6_isWithin D ad P S T L M C cp ph fo ne no rc wr a 99) qyX6_isWithin wl_RX6_159 ⟨Nat.le_of_ble_eq_true rfl, Nat.le_of_ble_eq_true rfl⟩ rfl hl.1 rfl (Nat.le_of_ble_eq_true rfl) dX6_write_27 ⟨Nat.le_of_ble_eq_true rfl, Nat.le_of_ble_eq_true rfl⟩ ?_
    refine lv_if_eq (tgt := 42) hx hb dX6_write_30 (by decide) (fun c_2 => ?_) (fun c_2 => ?_)
    · have c_2 := sm_b0 c_2
      exact sm_throw hlt hC htab hK hZ hP hD hS (by simp [sm_kWr, sm_lim, sm_rs, c_1, c_2]) (by exact ⟨cp, by simp [sm_kWr, sm_lim, sm_rs, c_1, c_2]⟩) hl.1 sm_xIA (List.mem_of_getElem? (i := 6) rfl) dX6_write_42 dX6_write_45 dX6_write_46 dX6_write_48 dX6_write_51 ⟨Nat.lt_of_lt_of_le (by decide) (Nat.le_of_ble_eq_true (rfl : Nat.ble 6 _ = true)), Nat.le_of_ble_eq_true rfl, Nat.le_of_ble_eq_true rfl, Nat.le_of_ble_eq_true rfl⟩ (Nat.le_of_ble_eq_true rfl) (Nat.le_of_ble_eq_true rfl)
    · have c_2 := sm_b1 c_2
      refine lv_iload_n hx hb dX6_write_33 rfl (lv_at hl 4 rfl) ?_
      refine lv_iload hx hb dX6_write_34 (lv_at hl 0 rfl) ?_
      refine sm_cSPr (rest := []) hC hK hP (c_X6_isWithin D ad P S T L M C cp ph fo ne no rc wr b 99) qyX6_isWithin wl_RX6_159 ⟨Nat.le_of_ble_eq_true rfl, Nat.le_of_ble_eq_true rfl⟩ rfl hl.1 rfl (Nat.le_of_ble_eq_true rfl) dX6_write_36 ⟨Nat.le_of_ble_eq_true rfl, Nat.le_of_ble_eq_true rfl⟩ ?_
      refine lv_if_ne (tgt := 52) hx hb dX6_write_39 (by decide) (fun c_3 => ?_) (fun c_3 => ?_)
      · have c_3 := sm_b1 c_3
        refine lv_aload_n hx hb dX6_write_52 rfl (lv_at hl 1 rfl) ?_
        refine sm_gt (ci := 6) (C := RX6) (T := TX6) (N := 12) hx hb hts inlX6 hown hK hP 0 rfl rfl 7 (by decide) wf_RX6_54 rfl dX6_write_53 ?_
        refine lv_bipush (v := 100) hx hb dX6_write_56 (by decide) ?_
        refine lv_icmp_eq (tgt := 68) hx hb dX6_write_58 (by decide) (fun c_4 => ?_) (fun c_4 => ?_)
        · have c_4_ := c_4
          exact sm_throw hlt hC htab hK hZ hP hD hS (by subst c_4; simp [sm_kWr, sm_lim, sm_rs, c_1, c_2, c_3]) (by exact ⟨cp, by subst c_4; simp [sm_kWr, sm_lim, sm_rs, c_1, c_2, c_3]⟩) hl.1 sm_xIS (List.mem_of_getElem? (i := 7) rfl) dX6_write_68 dX6_write_71 dX6_write_72 dX6_write_74 dX6_write_77 ⟨Nat.lt_of_lt_of_le (by decide) (Nat.le_of_ble_eq_true (rfl : Nat.ble 6 _ = true)), Nat.le_of_ble_eq_true rfl, Nat.le_of_ble_eq_true rfl, Nat.le_of_ble_eq_true rfl⟩ (Nat.le_of_ble_eq_true rfl) (Nat.le_of_ble_eq_true rfl)
        · have c_4_ := c_4
          refine lv_aload_n hx hb dX6_write_61 rfl (lv_at hl 1 rfl) ?_
          refine sm_cVPr (rest := []) hC hK hP (c_X6_isLogFull D ad P S T L M C cp ph fo ne no rc wr hL hM) qyX6_isLogFull wl_RX6_164 ⟨Nat.le_of_ble_eq_true rfl, Nat.le_of_ble_eq_true rfl⟩ 0 rfl rfl rfl hl.1 rfl (Nat.le_of_ble_eq_true rfl) dX6_write_62 ⟨Nat.le_of_ble_eq_true rfl, Nat.le_of_ble_eq_true rfl⟩ ?_
          refine lv_if_eq (tgt := 78) hx hb dX6_write_65 (by decide) (fun c_5 => ?_) (fun c_5 => ?_)
          · have c_5 := sm_b0 c_5
            refine lv_aload_n hx hb dX6_write_78 rfl (lv_at hl 1 rfl) ?_
            refine lv_iload_n hx hb dX6_write_79 rfl (lv_at hl 2 rfl) ?_
            refine sm_cVPr (rest := []) hC hK hP (c_X6_isLive D ad P S T L M C cp ph fo ne no rc wr k (by omega)) qyX6_isLive wl_RX6_169 ⟨Nat.le_of_ble_eq_true rfl, Nat.le_of_ble_eq_true rfl⟩ 0 rfl rfl rfl hl.1 rfl (Nat.le_of_ble_eq_true rfl) dX6_write_80 ⟨Nat.le_of_ble_eq_true rfl, Nat.le_of_ble_eq_true rfl⟩ ?_
            refine lv_istore (lv' := [(5, .int (sm_b (sm_live ph T S k))), (4, .int 99), (0, .ref (ad 0)), (1, .int (nI k)), (2, .int a), (3, .int b)]) hx hb dX6_write_83 hl (by decide) rfl (fun ls hl => ?_)
            refine lv_aload_n hx hb dX6_write_85 rfl (lv_at hl 2 rfl) ?_
            refine sm_gt (ci := 6) (C := RX6) (T := TX6) (N := 12) hx hb hts inlX6 hown hK hP 0 rfl rfl 7 (by decide) wf_RX6_54 rfl dX6_write_86 ?_
            refine lv_bipush (v := 116) hx hb dX6_write_89 (by decide) ?_
            refine lv_icmp_ne (tgt := 124) hx hb dX6_write_91 (by decide) (fun c_6 => ?_) (fun c_6 => ?_)
            · have c_6_ := c_6
              refine lv_aload_n hx hb dX6_write_124 rfl (lv_at hl 2 rfl) ?_
              refine sm_gt (ci := 6) (C := RX6) (T := TX6) (N := 12) hx hb hts inlX6 hown hK hP 0 rfl rfl 1 (by decide) wf_RX6_19 rfl dX6_write_125 ?_
              refine lv_iload_n hx hb dX6_write_128 rfl (lv_at hl 3 rfl) ?_
              refine lv_iload_n hx hb dX6_write_129 rfl (lv_at hl 4 rfl) ?_
              refine lv_iload_n hx hb dX6_write_130 rfl (lv_at hl 5 rfl) ?_
              refine sm_cVC (rest := []) hC hK hP hD hS hZ (c_X3_put_s D ad P S T L M C cp ph fo ne no rc wr k (by omega) a b) qyX3_put wl_RX6_180 ⟨Nat.le_of_ble_eq_true rfl, Nat.le_of_ble_eq_true rfl⟩ 4 rfl rfl rfl hl.1 rfl (Nat.le_of_ble_eq_true rfl) dX6_write_131 ⟨Nat.le_of_ble_eq_true rfl, Nat.le_of_ble_eq_true rfl⟩ (fun w1 H locs hB hP hD hS => ?_)
              subst hB
              refine lv_aload_n hx hb dX6_write_134 rfl (lv_at hl 2 rfl) ?_
              refine sm_gt (ci := 6) (C := RX6) (T := TX6) (N := 12) hx hb hts inlX6 hown hK hP 0 rfl rfl 7 (by decide) wf_RX6_54 rfl dX6_write_135 ?_
              refine lv_bipush (v := 105) hx hb dX6_write_138 (by decide) ?_
              refine lv_icmp_eq (tgt := 153) hx hb dX6_write_140 (by decide) (fun c_7 => ?_) (fun c_7 => ?_)
              · have c_7_ := c_7
                refine lv_aload_n hx hb dX6_write_153 rfl (lv_at hl 2 rfl) ?_
                refine sm_gt (ci := 6) (C := RX6) (T := TX6) (N := 12) hx hb hts inlX6 hown hK hP 0 rfl rfl 7 (by decide) wf_RX6_54 rfl dX6_write_154 ?_
                refine lv_bipush (v := 98) hx hb dX6_write_157 (by decide) ?_
                refine lv_icmp_ne (tgt := 166) hx hb dX6_write_159 (by decide) (fun _ => ?_) (fun h => absurd h (by rw [c_7]; decide))
                refine lv_iload hx hb dX6_write_166 (lv_at hl 0 rfl) ?_
                exact sm_retX hC hP hD hS (by subst c_7; simp [sm_kWr, sm_lim, sm_rs, c_1, c_2, c_3, c_4, c_5, c_6]) (sm_nb _) (by exact ⟨cp, by subst c_7; simp [sm_kWr, sm_lim, sm_rs, c_1, c_2, c_3, c_4, c_5, c_6]⟩) (Nat.le_of_ble_eq_true rfl) (Nat.le_of_ble_eq_true rfl) dX6_write_168
              · have c_7_ := c_7
                have hL1 := sm_lfL c_5 c_7 c_6
                refine lv_aload_n hx hb dX6_write_143 rfl (lv_at hl 2 rfl) ?_
                refine sm_gt (ci := 6) (C := RX6) (T := TX6) (N := 12) hx hb hts inlX6 hown hK hP 0 rfl rfl 3 (by decide) wf_RX6_33 rfl dX6_write_144 ?_
                refine lv_iload_n hx hb dX6_write_147 rfl (lv_at hl 3 rfl) ?_
                refine lv_iload_n hx hb dX6_write_148 rfl (lv_at hl 4 rfl) ?_
                refine lv_iload_n hx hb dX6_write_149 rfl (lv_at hl 5 rfl) ?_
                refine sm_cVC (rest := []) hC hK hP hD hS hZ (c_X1_appendRow_f D ad P (sm_putS S k a b) T L M C cp ph fo ne no rc wr k a b hL1) qyX1_appendRow wl_RX6_176 ⟨Nat.le_of_ble_eq_true rfl, Nat.le_of_ble_eq_true rfl⟩ 13 rfl rfl rfl hl.1 rfl (Nat.le_of_ble_eq_true rfl) dX6_write_150 ⟨Nat.le_of_ble_eq_true rfl, Nat.le_of_ble_eq_true rfl⟩ (fun w1 H locs hB hP hD hS => ?_)
                subst hB
                refine lv_aload_n hx hb dX6_write_153 rfl (lv_at hl 2 rfl) ?_
                refine sm_gt (ci := 6) (C := RX6) (T := TX6) (N := 12) hx hb hts inlX6 hown hK hP 0 rfl rfl 7 (by decide) wf_RX6_54 rfl dX6_write_154 ?_
                refine lv_bipush (v := 98) hx hb dX6_write_157 (by decide) ?_
                refine lv_icmp_ne (tgt := 166) hx hb dX6_write_159 (by decide) (fun c_8 => ?_) (fun c_8 => ?_)
                · have c_8_ := c_8
                  refine lv_iload hx hb dX6_write_166 (lv_at hl 0 rfl) ?_
                  exact sm_retX hC hP hD hS (by simp [sm_kWr, sm_lim, sm_rs, c_1, c_2, c_3, c_4, c_5, c_6, c_7, c_8]) (sm_nb _) (by exact ⟨cp, by simp [sm_kWr, sm_lim, sm_rs, c_1, c_2, c_3, c_4, c_5, c_6, c_7, c_8]⟩) (Nat.le_of_ble_eq_true rfl) (Nat.le_of_ble_eq_true rfl) dX6_write_168
                · have c_8_ := c_8
                  refine lv_aload_n hx hb dX6_write_162 rfl (lv_at hl 2 rfl) ?_
                  refine sm_cVC (rest := []) hC hK hP hD hS hZ (c_X6_followNext D ad P (sm_putS S k a b) T (sm_appL L k false a b) M C cp ph fo ne no rc wr (by show fo < L.1 + 1; omega) (by show L.1 + 1 ≤ 120; omega) (sm_appk hLk hk) hP6) qyX6_followNext wl_RX6_183 ⟨Nat.le_of_ble_eq_true rfl, Nat.le_of_ble_eq_true rfl⟩ 0 rfl rfl rfl hl.1 rfl (Nat.le_of_ble_eq_true rfl) dX6_write_163 ⟨Nat.le_of_ble_eq_true rfl, Nat.le_of_ble_eq_true rfl⟩ (fun w1 H locs hB hP hD hS => ?_)
                  obtain ⟨cp_9, rfl⟩ := hB
                  refine lv_iload hx hb dX6_write_166 (lv_at hl 0 rfl) ?_
                  exact sm_retX hC hP hD hS (by subst c_8; simp [sm_kWr, sm_lim, sm_rs, c_1, c_2, c_3, c_4, c_5, c_6, c_7]) (sm_nb _) (by exact ⟨cp_9, by subst c_8; simp [sm_kWr, sm_lim, sm_rs, c_1, c_2, c_3, c_4, c_5, c_6, c_7]⟩) (Nat.le_of_ble_eq_true rfl) (Nat.le_of_ble_eq_true rfl) dX6_write_168
            · have c_6_ := c_6
              have hM1 := sm_lfM c_5 c_6
              refine lv_aload_n hx hb dX6_write_94 rfl (lv_at hl 2 rfl) ?_
              refine sm_gt (ci := 6) (C := RX6) (T := TX6) (N := 12) hx hb hts inlX6 hown hK hP 0 rfl rfl 2 (by decide) wf_RX6_26 rfl dX6_write_95 ?_
              refine lv_iload_n hx hb dX6_write_98 rfl (lv_at hl 3 rfl) ?_
              refine lv_iload_n hx hb dX6_write_99 rfl (lv_at hl 4 rfl) ?_
              refine lv_iload_n hx hb dX6_write_100 rfl (lv_at hl 5 rfl) ?_
              refine lv_aload_n hx hb dX6_write_101 rfl (lv_at hl 2 rfl) ?_
              refine sm_gt (ci := 6) (C := RX6) (T := TX6) (N := 12) hx hb hts inlX6 hown hK hP 0 rfl rfl 3 (by decide) wf_RX6_33 rfl dX6_write_102 ?_
              refine sm_cVPr (rest := [.int b, .int a, .int (nI k), .ref (ad 8)]) hC hK hP (c_X1_size_f D ad P S T L M C cp ph fo ne no rc wr ) qyX1_size wl_RX6_142 ⟨Nat.le_of_ble_eq_true rfl, Nat.le_of_ble_eq_true rfl⟩ 13 rfl rfl rfl hl.1 rfl (Nat.le_of_ble_eq_true rfl) dX6_write_105 ⟨Nat.le_of_ble_eq_true rfl, Nat.le_of_ble_eq_true rfl⟩ ?_
              refine sm_cVC (rest := []) hC hK hP hD hS hZ (c_X5_putEntry D ad P S T L M C cp ph fo ne no rc wr k (by omega) a b (nI L.1)) qyX5_putEntry wl_RX6_172 ⟨Nat.le_of_ble_eq_true rfl, Nat.le_of_ble_eq_true rfl⟩ 8 rfl rfl rfl hl.1 rfl (Nat.le_of_ble_eq_true rfl) dX6_write_108 ⟨Nat.le_of_ble_eq_true rfl, Nat.le_of_ble_eq_true rfl⟩ (fun w1 H locs hB hP hD hS => ?_)
              subst hB
              refine lv_aload_n hx hb dX6_write_111 rfl (lv_at hl 2 rfl) ?_
              refine sm_gt (ci := 6) (C := RX6) (T := TX6) (N := 12) hx hb hts inlX6 hown hK hP 0 rfl rfl 4 (by decide) wf_RX6_37 rfl dX6_write_112 ?_
              refine lv_iload_n hx hb dX6_write_115 rfl (lv_at hl 3 rfl) ?_
              refine lv_iload_n hx hb dX6_write_116 rfl (lv_at hl 4 rfl) ?_
              refine lv_iload_n hx hb dX6_write_117 rfl (lv_at hl 5 rfl) ?_
              refine sm_cVC (rest := []) hC hK hP hD hS hZ (c_X1_appendRow_g D ad P S (sm_entT T k a b (nI L.1)) L M C cp ph fo ne no rc wr k a b hM1) qyX1_appendRow wl_RX6_176 ⟨Nat.le_of_ble_eq_true rfl, Nat.le_of_ble_eq_true rfl⟩ 18 rfl rfl rfl hl.1 rfl (Nat.le_of_ble_eq_true rfl) dX6_write_118 ⟨Nat.le_of_ble_eq_true rfl, Nat.le_of_ble_eq_true rfl⟩ (fun w1 H locs hB hP hD hS => ?_)
              subst hB
              refine lv_goto (tgt := 166) hx hb dX6_write_121 (by decide) ?_
              refine lv_iload hx hb dX6_write_166 (lv_at hl 0 rfl) ?_
              exact sm_retX hC hP hD hS (by subst c_6; simp [sm_kWr, sm_lim, sm_rs, c_1, c_2, c_3, c_4, c_5]) (sm_nb _) (by exact ⟨cp, by subst c_6; simp [sm_kWr, sm_lim, sm_rs, c_1, c_2, c_3, c_4, c_5]⟩) (Nat.le_of_ble_eq_true rfl) (Nat.le_of_ble_eq_true rfl) dX6_write_168
          · have c_5 := sm_b1 c_5
            exact sm_throw hlt hC htab hK hZ hP hD hS (by simp [sm_kWr, sm_lim, sm_rs, c_1, c_2, c_3, c_4, c_5]) (by exact ⟨cp, by simp [sm_kWr, sm_lim, sm_rs, c_1, c_2, c_3, c_4, c_5]⟩) hl.1 sm_xIS (List.mem_of_getElem? (i := 7) rfl) dX6_write_68 dX6_write_71 dX6_write_72 dX6_write_74 dX6_write_77 ⟨Nat.lt_of_lt_of_le (by decide) (Nat.le_of_ble_eq_true (rfl : Nat.ble 6 _ = true)), Nat.le_of_ble_eq_true rfl, Nat.le_of_ble_eq_true rfl, Nat.le_of_ble_eq_true rfl⟩ (Nat.le_of_ble_eq_true rfl) (Nat.le_of_ble_eq_true rfl)
      · have c_3 := sm_b0 c_3
        exact sm_throw hlt hC htab hK hZ hP hD hS (by simp [sm_kWr, sm_lim, sm_rs, c_1, c_2, c_3]) (by exact ⟨cp, by simp [sm_kWr, sm_lim, sm_rs, c_1, c_2, c_3]⟩) hl.1 sm_xIA (List.mem_of_getElem? (i := 6) rfl) dX6_write_42 dX6_write_45 dX6_write_46 dX6_write_48 dX6_write_51 ⟨Nat.lt_of_lt_of_le (by decide) (Nat.le_of_ble_eq_true (rfl : Nat.ble 6 _ = true)), Nat.le_of_ble_eq_true rfl, Nat.le_of_ble_eq_true rfl, Nat.le_of_ble_eq_true rfl⟩ (Nat.le_of_ble_eq_true rfl) (Nat.le_of_ble_eq_true rfl)
  · have c_1 := sm_b1 c_1
    refine lv_sipush (v := 999) hx hb dX6_write_7 (by decide) ?_
    refine lv_goto (tgt := 15) hx hb dX6_write_10 (by decide) ?_
    refine lv_istore (lv' := [(4, .int 999), (0, .ref (ad 0)), (1, .int (nI k)), (2, .int a), (3, .int b)]) hx hb dX6_write_15 hl (by decide) rfl (fun ls hl => ?_)
    refine lv_iload_n hx hb dX6_write_17 rfl (lv_at hl 2 rfl) ?_
    refine sm_cSPr (rest := []) hC hK hP (c_X6_isKey D ad P S T L M C cp ph fo ne no rc wr k (by omega)) qyX6_isKey wl_RX6_156 ⟨Nat.le_of_ble_eq_true rfl, Nat.le_of_ble_eq_true rfl⟩ rfl hl.1 rfl (Nat.le_of_ble_eq_true rfl) dX6_write_18 ⟨Nat.le_of_ble_eq_true rfl, Nat.le_of_ble_eq_true rfl⟩ ?_
    refine lv_if_eq (tgt := 42) hx hb dX6_write_21 (by decide) (fun h => absurd h (by decide)) (fun _ => ?_)
    refine lv_iload_n hx hb dX6_write_24 rfl (lv_at hl 3 rfl) ?_
    refine lv_iload hx hb dX6_write_25 (lv_at hl 0 rfl) ?_
    refine sm_cSPr (rest := []) hC hK hP (c_X6_isWithin D ad P S T L M C cp ph fo ne no rc wr a 999) qyX6_isWithin wl_RX6_159 ⟨Nat.le_of_ble_eq_true rfl, Nat.le_of_ble_eq_true rfl⟩ rfl hl.1 rfl (Nat.le_of_ble_eq_true rfl) dX6_write_27 ⟨Nat.le_of_ble_eq_true rfl, Nat.le_of_ble_eq_true rfl⟩ ?_
    refine lv_if_eq (tgt := 42) hx hb dX6_write_30 (by decide) (fun c_10 => ?_) (fun c_10 => ?_)
    · have c_10 := sm_b0 c_10
      exact sm_throw hlt hC htab hK hZ hP hD hS (by simp [sm_kWr, sm_lim, sm_rs, c_1, c_10]) (by exact ⟨cp, by simp [sm_kWr, sm_lim, sm_rs, c_1, c_10]⟩) hl.1 sm_xIA (List.mem_of_getElem? (i := 6) rfl) dX6_write_42 dX6_write_45 dX6_write_46 dX6_write_48 dX6_write_51 ⟨Nat.lt_of_lt_of_le (by decide) (Nat.le_of_ble_eq_true (rfl : Nat.ble 6 _ = true)), Nat.le_of_ble_eq_true rfl, Nat.le_of_ble_eq_true rfl, Nat.le_of_ble_eq_true rfl⟩ (Nat.le_of_ble_eq_true rfl) (Nat.le_of_ble_eq_true rfl)
    · have c_10 := sm_b1 c_10
      refine lv_iload_n hx hb dX6_write_33 rfl (lv_at hl 4 rfl) ?_
      refine lv_iload hx hb dX6_write_34 (lv_at hl 0 rfl) ?_
      refine sm_cSPr (rest := []) hC hK hP (c_X6_isWithin D ad P S T L M C cp ph fo ne no rc wr b 999) qyX6_isWithin wl_RX6_159 ⟨Nat.le_of_ble_eq_true rfl, Nat.le_of_ble_eq_true rfl⟩ rfl hl.1 rfl (Nat.le_of_ble_eq_true rfl) dX6_write_36 ⟨Nat.le_of_ble_eq_true rfl, Nat.le_of_ble_eq_true rfl⟩ ?_
      refine lv_if_ne (tgt := 52) hx hb dX6_write_39 (by decide) (fun c_11 => ?_) (fun c_11 => ?_)
      · have c_11 := sm_b1 c_11
        refine lv_aload_n hx hb dX6_write_52 rfl (lv_at hl 1 rfl) ?_
        refine sm_gt (ci := 6) (C := RX6) (T := TX6) (N := 12) hx hb hts inlX6 hown hK hP 0 rfl rfl 7 (by decide) wf_RX6_54 rfl dX6_write_53 ?_
        refine lv_bipush (v := 100) hx hb dX6_write_56 (by decide) ?_
        refine lv_icmp_eq (tgt := 68) hx hb dX6_write_58 (by decide) (fun c_12 => ?_) (fun c_12 => ?_)
        · have c_12_ := c_12
          exact sm_throw hlt hC htab hK hZ hP hD hS (by subst c_12; simp [sm_kWr, sm_lim, sm_rs, c_1, c_10, c_11]) (by exact ⟨cp, by subst c_12; simp [sm_kWr, sm_lim, sm_rs, c_1, c_10, c_11]⟩) hl.1 sm_xIS (List.mem_of_getElem? (i := 7) rfl) dX6_write_68 dX6_write_71 dX6_write_72 dX6_write_74 dX6_write_77 ⟨Nat.lt_of_lt_of_le (by decide) (Nat.le_of_ble_eq_true (rfl : Nat.ble 6 _ = true)), Nat.le_of_ble_eq_true rfl, Nat.le_of_ble_eq_true rfl, Nat.le_of_ble_eq_true rfl⟩ (Nat.le_of_ble_eq_true rfl) (Nat.le_of_ble_eq_true rfl)
        · have c_12_ := c_12
          refine lv_aload_n hx hb dX6_write_61 rfl (lv_at hl 1 rfl) ?_
          refine sm_cVPr (rest := []) hC hK hP (c_X6_isLogFull D ad P S T L M C cp ph fo ne no rc wr hL hM) qyX6_isLogFull wl_RX6_164 ⟨Nat.le_of_ble_eq_true rfl, Nat.le_of_ble_eq_true rfl⟩ 0 rfl rfl rfl hl.1 rfl (Nat.le_of_ble_eq_true rfl) dX6_write_62 ⟨Nat.le_of_ble_eq_true rfl, Nat.le_of_ble_eq_true rfl⟩ ?_
          refine lv_if_eq (tgt := 78) hx hb dX6_write_65 (by decide) (fun c_13 => ?_) (fun c_13 => ?_)
          · have c_13 := sm_b0 c_13
            refine lv_aload_n hx hb dX6_write_78 rfl (lv_at hl 1 rfl) ?_
            refine lv_iload_n hx hb dX6_write_79 rfl (lv_at hl 2 rfl) ?_
            refine sm_cVPr (rest := []) hC hK hP (c_X6_isLive D ad P S T L M C cp ph fo ne no rc wr k (by omega)) qyX6_isLive wl_RX6_169 ⟨Nat.le_of_ble_eq_true rfl, Nat.le_of_ble_eq_true rfl⟩ 0 rfl rfl rfl hl.1 rfl (Nat.le_of_ble_eq_true rfl) dX6_write_80 ⟨Nat.le_of_ble_eq_true rfl, Nat.le_of_ble_eq_true rfl⟩ ?_
            refine lv_istore (lv' := [(5, .int (sm_b (sm_live ph T S k))), (4, .int 999), (0, .ref (ad 0)), (1, .int (nI k)), (2, .int a), (3, .int b)]) hx hb dX6_write_83 hl (by decide) rfl (fun ls hl => ?_)
            refine lv_aload_n hx hb dX6_write_85 rfl (lv_at hl 2 rfl) ?_
            refine sm_gt (ci := 6) (C := RX6) (T := TX6) (N := 12) hx hb hts inlX6 hown hK hP 0 rfl rfl 7 (by decide) wf_RX6_54 rfl dX6_write_86 ?_
            refine lv_bipush (v := 116) hx hb dX6_write_89 (by decide) ?_
            refine lv_icmp_ne (tgt := 124) hx hb dX6_write_91 (by decide) (fun c_14 => ?_) (fun c_14 => ?_)
            · have c_14_ := c_14
              refine lv_aload_n hx hb dX6_write_124 rfl (lv_at hl 2 rfl) ?_
              refine sm_gt (ci := 6) (C := RX6) (T := TX6) (N := 12) hx hb hts inlX6 hown hK hP 0 rfl rfl 1 (by decide) wf_RX6_19 rfl dX6_write_125 ?_
              refine lv_iload_n hx hb dX6_write_128 rfl (lv_at hl 3 rfl) ?_
              refine lv_iload_n hx hb dX6_write_129 rfl (lv_at hl 4 rfl) ?_
              refine lv_iload_n hx hb dX6_write_130 rfl (lv_at hl 5 rfl) ?_
              refine sm_cVC (rest := []) hC hK hP hD hS hZ (c_X3_put_s D ad P S T L M C cp ph fo ne no rc wr k (by omega) a b) qyX3_put wl_RX6_180 ⟨Nat.le_of_ble_eq_true rfl, Nat.le_of_ble_eq_true rfl⟩ 4 rfl rfl rfl hl.1 rfl (Nat.le_of_ble_eq_true rfl) dX6_write_131 ⟨Nat.le_of_ble_eq_true rfl, Nat.le_of_ble_eq_true rfl⟩ (fun w1 H locs hB hP hD hS => ?_)
              subst hB
              refine lv_aload_n hx hb dX6_write_134 rfl (lv_at hl 2 rfl) ?_
              refine sm_gt (ci := 6) (C := RX6) (T := TX6) (N := 12) hx hb hts inlX6 hown hK hP 0 rfl rfl 7 (by decide) wf_RX6_54 rfl dX6_write_135 ?_
              refine lv_bipush (v := 105) hx hb dX6_write_138 (by decide) ?_
              refine lv_icmp_eq (tgt := 153) hx hb dX6_write_140 (by decide) (fun c_15 => ?_) (fun c_15 => ?_)
              · have c_15_ := c_15
                refine lv_aload_n hx hb dX6_write_153 rfl (lv_at hl 2 rfl) ?_
                refine sm_gt (ci := 6) (C := RX6) (T := TX6) (N := 12) hx hb hts inlX6 hown hK hP 0 rfl rfl 7 (by decide) wf_RX6_54 rfl dX6_write_154 ?_
                refine lv_bipush (v := 98) hx hb dX6_write_157 (by decide) ?_
                refine lv_icmp_ne (tgt := 166) hx hb dX6_write_159 (by decide) (fun _ => ?_) (fun h => absurd h (by rw [c_15]; decide))
                refine lv_iload hx hb dX6_write_166 (lv_at hl 0 rfl) ?_
                exact sm_retX hC hP hD hS (by subst c_15; simp [sm_kWr, sm_lim, sm_rs, c_1, c_10, c_11, c_12, c_13, c_14]) (sm_nb _) (by exact ⟨cp, by subst c_15; simp [sm_kWr, sm_lim, sm_rs, c_1, c_10, c_11, c_12, c_13, c_14]⟩) (Nat.le_of_ble_eq_true rfl) (Nat.le_of_ble_eq_true rfl) dX6_write_168
              · have c_15_ := c_15
                have hL1 := sm_lfL c_13 c_15 c_14
                refine lv_aload_n hx hb dX6_write_143 rfl (lv_at hl 2 rfl) ?_
                refine sm_gt (ci := 6) (C := RX6) (T := TX6) (N := 12) hx hb hts inlX6 hown hK hP 0 rfl rfl 3 (by decide) wf_RX6_33 rfl dX6_write_144 ?_
                refine lv_iload_n hx hb dX6_write_147 rfl (lv_at hl 3 rfl) ?_
                refine lv_iload_n hx hb dX6_write_148 rfl (lv_at hl 4 rfl) ?_
                refine lv_iload_n hx hb dX6_write_149 rfl (lv_at hl 5 rfl) ?_
                refine sm_cVC (rest := []) hC hK hP hD hS hZ (c_X1_appendRow_f D ad P (sm_putS S k a b) T L M C cp ph fo ne no rc wr k a b hL1) qyX1_appendRow wl_RX6_176 ⟨Nat.le_of_ble_eq_true rfl, Nat.le_of_ble_eq_true rfl⟩ 13 rfl rfl rfl hl.1 rfl (Nat.le_of_ble_eq_true rfl) dX6_write_150 ⟨Nat.le_of_ble_eq_true rfl, Nat.le_of_ble_eq_true rfl⟩ (fun w1 H locs hB hP hD hS => ?_)
                subst hB
                refine lv_aload_n hx hb dX6_write_153 rfl (lv_at hl 2 rfl) ?_
                refine sm_gt (ci := 6) (C := RX6) (T := TX6) (N := 12) hx hb hts inlX6 hown hK hP 0 rfl rfl 7 (by decide) wf_RX6_54 rfl dX6_write_154 ?_
                refine lv_bipush (v := 98) hx hb dX6_write_157 (by decide) ?_
                refine lv_icmp_ne (tgt := 166) hx hb dX6_write_159 (by decide) (fun c_16 => ?_) (fun c_16 => ?_)
                · have c_16_ := c_16
                  refine lv_iload hx hb dX6_write_166 (lv_at hl 0 rfl) ?_
                  exact sm_retX hC hP hD hS (by simp [sm_kWr, sm_lim, sm_rs, c_1, c_10, c_11, c_12, c_13, c_14, c_15, c_16]) (sm_nb _) (by exact ⟨cp, by simp [sm_kWr, sm_lim, sm_rs, c_1, c_10, c_11, c_12, c_13, c_14, c_15, c_16]⟩) (Nat.le_of_ble_eq_true rfl) (Nat.le_of_ble_eq_true rfl) dX6_write_168
                · have c_16_ := c_16
                  refine lv_aload_n hx hb dX6_write_162 rfl (lv_at hl 2 rfl) ?_
                  refine sm_cVC (rest := []) hC hK hP hD hS hZ (c_X6_followNext D ad P (sm_putS S k a b) T (sm_appL L k false a b) M C cp ph fo ne no rc wr (by show fo < L.1 + 1; omega) (by show L.1 + 1 ≤ 120; omega) (sm_appk hLk hk) hP6) qyX6_followNext wl_RX6_183 ⟨Nat.le_of_ble_eq_true rfl, Nat.le_of_ble_eq_true rfl⟩ 0 rfl rfl rfl hl.1 rfl (Nat.le_of_ble_eq_true rfl) dX6_write_163 ⟨Nat.le_of_ble_eq_true rfl, Nat.le_of_ble_eq_true rfl⟩ (fun w1 H locs hB hP hD hS => ?_)
                  obtain ⟨cp_17, rfl⟩ := hB
                  refine lv_iload hx hb dX6_write_166 (lv_at hl 0 rfl) ?_
                  exact sm_retX hC hP hD hS (by subst c_16; simp [sm_kWr, sm_lim, sm_rs, c_1, c_10, c_11, c_12, c_13, c_14, c_15]) (sm_nb _) (by exact ⟨cp_17, by subst c_16; simp [sm_kWr, sm_lim, sm_rs, c_1, c_10, c_11, c_12, c_13, c_14, c_15]⟩) (Nat.le_of_ble_eq_true rfl) (Nat.le_of_ble_eq_true rfl) dX6_write_168
            · have c_14_ := c_14
              have hM1 := sm_lfM c_13 c_14
              refine lv_aload_n hx hb dX6_write_94 rfl (lv_at hl 2 rfl) ?_
              refine sm_gt (ci := 6) (C := RX6) (T := TX6) (N := 12) hx hb hts inlX6 hown hK hP 0 rfl rfl 2 (by decide) wf_RX6_26 rfl dX6_write_95 ?_
              refine lv_iload_n hx hb dX6_write_98 rfl (lv_at hl 3 rfl) ?_
              refine lv_iload_n hx hb dX6_write_99 rfl (lv_at hl 4 rfl) ?_
              refine lv_iload_n hx hb dX6_write_100 rfl (lv_at hl 5 rfl) ?_
              refine lv_aload_n hx hb dX6_write_101 rfl (lv_at hl 2 rfl) ?_
              refine sm_gt (ci := 6) (C := RX6) (T := TX6) (N := 12) hx hb hts inlX6 hown hK hP 0 rfl rfl 3 (by decide) wf_RX6_33 rfl dX6_write_102 ?_
              refine sm_cVPr (rest := [.int b, .int a, .int (nI k), .ref (ad 8)]) hC hK hP (c_X1_size_f D ad P S T L M C cp ph fo ne no rc wr ) qyX1_size wl_RX6_142 ⟨Nat.le_of_ble_eq_true rfl, Nat.le_of_ble_eq_true rfl⟩ 13 rfl rfl rfl hl.1 rfl (Nat.le_of_ble_eq_true rfl) dX6_write_105 ⟨Nat.le_of_ble_eq_true rfl, Nat.le_of_ble_eq_true rfl⟩ ?_
              refine sm_cVC (rest := []) hC hK hP hD hS hZ (c_X5_putEntry D ad P S T L M C cp ph fo ne no rc wr k (by omega) a b (nI L.1)) qyX5_putEntry wl_RX6_172 ⟨Nat.le_of_ble_eq_true rfl, Nat.le_of_ble_eq_true rfl⟩ 8 rfl rfl rfl hl.1 rfl (Nat.le_of_ble_eq_true rfl) dX6_write_108 ⟨Nat.le_of_ble_eq_true rfl, Nat.le_of_ble_eq_true rfl⟩ (fun w1 H locs hB hP hD hS => ?_)
              subst hB
              refine lv_aload_n hx hb dX6_write_111 rfl (lv_at hl 2 rfl) ?_
              refine sm_gt (ci := 6) (C := RX6) (T := TX6) (N := 12) hx hb hts inlX6 hown hK hP 0 rfl rfl 4 (by decide) wf_RX6_37 rfl dX6_write_112 ?_
              refine lv_iload_n hx hb dX6_write_115 rfl (lv_at hl 3 rfl) ?_
              refine lv_iload_n hx hb dX6_write_116 rfl (lv_at hl 4 rfl) ?_
              refine lv_iload_n hx hb dX6_write_117 rfl (lv_at hl 5 rfl) ?_
              refine sm_cVC (rest := []) hC hK hP hD hS hZ (c_X1_appendRow_g D ad P S (sm_entT T k a b (nI L.1)) L M C cp ph fo ne no rc wr k a b hM1) qyX1_appendRow wl_RX6_176 ⟨Nat.le_of_ble_eq_true rfl, Nat.le_of_ble_eq_true rfl⟩ 18 rfl rfl rfl hl.1 rfl (Nat.le_of_ble_eq_true rfl) dX6_write_118 ⟨Nat.le_of_ble_eq_true rfl, Nat.le_of_ble_eq_true rfl⟩ (fun w1 H locs hB hP hD hS => ?_)
              subst hB
              refine lv_goto (tgt := 166) hx hb dX6_write_121 (by decide) ?_
              refine lv_iload hx hb dX6_write_166 (lv_at hl 0 rfl) ?_
              exact sm_retX hC hP hD hS (by subst c_14; simp [sm_kWr, sm_lim, sm_rs, c_1, c_10, c_11, c_12, c_13]) (sm_nb _) (by exact ⟨cp, by subst c_14; simp [sm_kWr, sm_lim, sm_rs, c_1, c_10, c_11, c_12, c_13]⟩) (Nat.le_of_ble_eq_true rfl) (Nat.le_of_ble_eq_true rfl) dX6_write_168
          · have c_13 := sm_b1 c_13
            exact sm_throw hlt hC htab hK hZ hP hD hS (by simp [sm_kWr, sm_lim, sm_rs, c_1, c_10, c_11, c_12, c_13]) (by exact ⟨cp, by simp [sm_kWr, sm_lim, sm_rs, c_1, c_10, c_11, c_12, c_13]⟩) hl.1 sm_xIS (List.mem_of_getElem? (i := 7) rfl) dX6_write_68 dX6_write_71 dX6_write_72 dX6_write_74 dX6_write_77 ⟨Nat.lt_of_lt_of_le (by decide) (Nat.le_of_ble_eq_true (rfl : Nat.ble 6 _ = true)), Nat.le_of_ble_eq_true rfl, Nat.le_of_ble_eq_true rfl, Nat.le_of_ble_eq_true rfl⟩ (Nat.le_of_ble_eq_true rfl) (Nat.le_of_ble_eq_true rfl)
      · have c_11 := sm_b0 c_11
        exact sm_throw hlt hC htab hK hZ hP hD hS (by simp [sm_kWr, sm_lim, sm_rs, c_1, c_10, c_11]) (by exact ⟨cp, by simp [sm_kWr, sm_lim, sm_rs, c_1, c_10, c_11]⟩) hl.1 sm_xIA (List.mem_of_getElem? (i := 6) rfl) dX6_write_42 dX6_write_45 dX6_write_46 dX6_write_48 dX6_write_51 ⟨Nat.lt_of_lt_of_le (by decide) (Nat.le_of_ble_eq_true (rfl : Nat.ble 6 _ = true)), Nat.le_of_ble_eq_true rfl, Nat.le_of_ble_eq_true rfl, Nat.le_of_ble_eq_true rfl⟩ (Nat.le_of_ble_eq_true rfl) (Nat.le_of_ble_eq_true rfl)

set_option maxHeartbeats 1000000 in
set_option maxRecDepth 100000 in
theorem c_X6_delete_i (hlt : l.stackTraces = false) (x : Int32) (hbk : sm_isKey x = false) : sm_MX l yX6_delete cX6_delete 2 (some .boolean) 7 113 [.ref (ad 0), .int x] D (sm_w6 D ad P S T L M C cp ph fo ne no rc wr) (fun w => w = sm_w6 D ad P S T L M C cp ph fo ne no rc wr) (.inl sm_IA) := by
  refine sm_metX (own := RX6) (by decide) rfl (Nat.le_of_ble_eq_true rfl) ?_
  intro p e s m below meth c ls hC htab hv hl
  obtain ⟨hx, hb, hml, hr, hown, hlk, hts⟩ := id hC
  obtain ⟨⟨hP, hK⟩, hD, hZ⟩ := hv
  have hS : va_S (sm_ad (sm_w6 D ad P S T L M C cp ph fo ne no rc wr)) s.heap s.heap [] := va_S.rf
  have hl : lv_has ls 2 [(0, .ref (ad 0)), (1, .int x)] := hl
  refine lv_iload_n hx hb dX6_delete_0 rfl (lv_at hl 1 rfl) ?_
  refine sm_cSX (rest := []) hC hK hP hD hS hZ (c_X6_checkKey_i D ad P S T L M C cp ph fo ne no rc wr hlt x hbk) qyX6_checkKey wl_RX6_186 ⟨Nat.le_of_ble_eq_true rfl, Nat.le_of_ble_eq_true rfl⟩ rfl hl.1 rfl (Nat.le_of_ble_eq_true rfl) dX6_delete_1 ⟨Nat.le_of_ble_eq_true rfl, Nat.le_of_ble_eq_true rfl⟩ (fun E ce q9 w1 H locs hr hB hP hD hS h1 h2 h3 => ?_) (fun ov w1 H locs hr hB hP hD hS => nomatch hr)
  subst hB
  cases hr
  exact sm_thru hC htab hP hD hS rfl (by exact rfl) h1 h2 h3 (Nat.le_of_ble_eq_true rfl) (Nat.le_of_ble_eq_true rfl)

set_option maxHeartbeats 1000000 in
set_option maxRecDepth 100000 in
theorem c_X6_delete (hlt : l.stackTraces = false) (k : Nat) (hk : k < 40) (hfo : fo ≤ L.1) (hL : L.1 ≤ 120) (hLk : ∀ i, L.2.1 i < 40) (hM : M.1 ≤ 120) (hP6 : P.1 ≤ 6) : sm_MX l yX6_delete cX6_delete 2 (some .boolean) 7 113 [.ref (ad 0), .int (nI k)] D (sm_w6 D ad P S T L M C cp ph fo ne no rc wr) (fun w => ∃ (cp' : sm_Cp), w = sm_w6 D ad P (if sm_kDl ph T S L M k = 0 ∧ sm_live ph T S k = true then (if ph = 116 then S else sm_rmS S k) else S) (if sm_kDl ph T S L M k = 0 ∧ sm_live ph T S k = true then (if ph = 116 then sm_hldT T k 3 (nI L.1) else if ph = 98 then sm_fo1 P (sm_appL L k true 0 0) T fo else T) else T) (if sm_kDl ph T S L M k = 0 ∧ sm_live ph T S k = true then (if ph = 116 then L else if ph = 105 then L else sm_appL L k true 0 0) else L) (if sm_kDl ph T S L M k = 0 ∧ sm_live ph T S k = true then (if ph = 116 then sm_appL M k true 0 0 else M) else M) C (cp') ph (if sm_kDl ph T S L M k = 0 ∧ sm_live ph T S k = true then (if ph = 98 then fo + 1 else fo) else fo) ne no rc wr) (sm_rs sm_IA sm_IS sm_IS (sm_kDl ph T S L M k) (some (.int (sm_b (sm_live ph T S k))))) := by
  refine sm_metX (own := RX6) (by decide) rfl (Nat.le_of_ble_eq_true rfl) ?_
  intro p e s m below meth c ls hC htab hv hl
  obtain ⟨hx, hb, hml, hr, hown, hlk, hts⟩ := id hC
  obtain ⟨⟨hP, hK⟩, hD, hZ⟩ := hv
  have hS : va_S (sm_ad (sm_w6 D ad P S T L M C cp ph fo ne no rc wr)) s.heap s.heap [] := va_S.rf
  have hl : lv_has ls 2 [(0, .ref (ad 0)), (1, .int (nI k))] := hl
  refine lv_iload_n hx hb dX6_delete_0 rfl (lv_at hl 1 rfl) ?_
  refine sm_cSP (rest := []) hC hK hP (c_X6_checkKey D ad P S T L M C cp ph fo ne no rc wr k (by omega)) qyX6_checkKey wl_RX6_186 ⟨Nat.le_of_ble_eq_true rfl, Nat.le_of_ble_eq_true rfl⟩ rfl hl.1 rfl (Nat.le_of_ble_eq_true rfl) dX6_delete_1 ⟨Nat.le_of_ble_eq_true rfl, Nat.le_of_ble_eq_true rfl⟩ ?_
  refine lv_aload_n hx hb dX6_delete_4 rfl (lv_at hl 0 rfl) ?_
  refine sm_gt (ci := 6) (C := RX6) (T := TX6) (N := 12) hx hb hts inlX6 hown hK hP 0 rfl rfl 7 (by decide) wf_RX6_54 rfl dX6_delete_5 ?_
  refine lv_bipush (v := 100) hx hb dX6_delete_8 (by decide) ?_
  refine lv_icmp_ne (tgt := 23) hx hb dX6_delete_10 (by decide) (fun c_1 => ?_) (fun c_1 => ?_)
  · have c_1_ := c_1
    refine lv_aload_n hx hb dX6_delete_23 rfl (lv_at hl 0 rfl) ?_
    refine lv_iload_n hx hb dX6_delete_24 rfl (lv_at hl 1 rfl) ?_
    refine sm_cVPr (rest := []) hC hK hP (c_X6_isLive D ad P S T L M C cp ph fo ne no rc wr k (by omega)) qyX6_isLive wl_RX6_169 ⟨Nat.le_of_ble_eq_true rfl, Nat.le_of_ble_eq_true rfl⟩ 0 rfl rfl rfl hl.1 rfl (Nat.le_of_ble_eq_true rfl) dX6_delete_25 ⟨Nat.le_of_ble_eq_true rfl, Nat.le_of_ble_eq_true rfl⟩ ?_
    refine lv_if_ne (tgt := 33) hx hb dX6_delete_28 (by decide) (fun c_2 => ?_) (fun c_2 => ?_)
    · have c_2 := sm_b1 c_2
      refine lv_aload_n hx hb dX6_delete_33 rfl (lv_at hl 0 rfl) ?_
      refine sm_cVPr (rest := []) hC hK hP (c_X6_isLogFull D ad P S T L M C cp ph fo ne no rc wr hL hM) qyX6_isLogFull wl_RX6_164 ⟨Nat.le_of_ble_eq_true rfl, Nat.le_of_ble_eq_true rfl⟩ 0 rfl rfl rfl hl.1 rfl (Nat.le_of_ble_eq_true rfl) dX6_delete_34 ⟨Nat.le_of_ble_eq_true rfl, Nat.le_of_ble_eq_true rfl⟩ ?_
      refine lv_if_eq (tgt := 50) hx hb dX6_delete_37 (by decide) (fun c_3 => ?_) (fun c_3 => ?_)
      · have c_3 := sm_b0 c_3
        refine lv_aload_n hx hb dX6_delete_50 rfl (lv_at hl 0 rfl) ?_
        refine sm_gt (ci := 6) (C := RX6) (T := TX6) (N := 12) hx hb hts inlX6 hown hK hP 0 rfl rfl 7 (by decide) wf_RX6_54 rfl dX6_delete_51 ?_
        refine lv_bipush (v := 116) hx hb dX6_delete_54 (by decide) ?_
        refine lv_icmp_ne (tgt := 85) hx hb dX6_delete_56 (by decide) (fun c_4 => ?_) (fun c_4 => ?_)
        · have c_4_ := c_4
          refine lv_aload_n hx hb dX6_delete_85 rfl (lv_at hl 0 rfl) ?_
          refine sm_gt (ci := 6) (C := RX6) (T := TX6) (N := 12) hx hb hts inlX6 hown hK hP 0 rfl rfl 1 (by decide) wf_RX6_19 rfl dX6_delete_86 ?_
          refine lv_iload_n hx hb dX6_delete_89 rfl (lv_at hl 1 rfl) ?_
          refine sm_cVC (rest := []) hC hK hP hD hS hZ (c_X3_remove_s D ad P S T L M C cp ph fo ne no rc wr k (by omega)) qyX3_remove wl_RX6_201 ⟨Nat.le_of_ble_eq_true rfl, Nat.le_of_ble_eq_true rfl⟩ 4 rfl rfl rfl hl.1 rfl (Nat.le_of_ble_eq_true rfl) dX6_delete_90 ⟨Nat.le_of_ble_eq_true rfl, Nat.le_of_ble_eq_true rfl⟩ (fun w1 H locs hB hP hD hS => ?_)
          subst hB
          refine lv_aload_n hx hb dX6_delete_93 rfl (lv_at hl 0 rfl) ?_
          refine sm_gt (ci := 6) (C := RX6) (T := TX6) (N := 12) hx hb hts inlX6 hown hK hP 0 rfl rfl 7 (by decide) wf_RX6_54 rfl dX6_delete_94 ?_
          refine lv_bipush (v := 105) hx hb dX6_delete_97 (by decide) ?_
          refine lv_icmp_eq (tgt := 110) hx hb dX6_delete_99 (by decide) (fun c_5 => ?_) (fun c_5 => ?_)
          · have c_5_ := c_5
            refine lv_aload_n hx hb dX6_delete_110 rfl (lv_at hl 0 rfl) ?_
            refine sm_gt (ci := 6) (C := RX6) (T := TX6) (N := 12) hx hb hts inlX6 hown hK hP 0 rfl rfl 7 (by decide) wf_RX6_54 rfl dX6_delete_111 ?_
            refine lv_bipush (v := 98) hx hb dX6_delete_114 (by decide) ?_
            refine lv_icmp_ne (tgt := 123) hx hb dX6_delete_116 (by decide) (fun _ => ?_) (fun h => absurd h (by rw [c_5]; decide))
            refine lv_iconst (v := 1) hx hb dX6_delete_123 (by decide) ?_
            exact sm_retX hC hP hD hS (by subst c_5; simp [sm_kDl, sm_rs, sm_b, c_1, c_2, c_3, c_4]) (by decide) (by exact ⟨cp, by subst c_5; simp [sm_kDl, sm_rs, c_1, c_2, c_3, c_4]⟩) (Nat.le_of_ble_eq_true rfl) (Nat.le_of_ble_eq_true rfl) dX6_delete_124
          · have c_5_ := c_5
            have hL1 := sm_lfL c_3 c_5 c_4
            refine lv_aload_n hx hb dX6_delete_102 rfl (lv_at hl 0 rfl) ?_
            refine sm_gt (ci := 6) (C := RX6) (T := TX6) (N := 12) hx hb hts inlX6 hown hK hP 0 rfl rfl 3 (by decide) wf_RX6_33 rfl dX6_delete_103 ?_
            refine lv_iload_n hx hb dX6_delete_106 rfl (lv_at hl 1 rfl) ?_
            refine sm_cVC (rest := []) hC hK hP hD hS hZ (c_X1_appendDeletion_f D ad P (sm_rmS S k) T L M C cp ph fo ne no rc wr k hL1) qyX1_appendDeletion wl_RX6_198 ⟨Nat.le_of_ble_eq_true rfl, Nat.le_of_ble_eq_true rfl⟩ 13 rfl rfl rfl hl.1 rfl (Nat.le_of_ble_eq_true rfl) dX6_delete_107 ⟨Nat.le_of_ble_eq_true rfl, Nat.le_of_ble_eq_true rfl⟩ (fun w1 H locs hB hP hD hS => ?_)
            subst hB
            refine lv_aload_n hx hb dX6_delete_110 rfl (lv_at hl 0 rfl) ?_
            refine sm_gt (ci := 6) (C := RX6) (T := TX6) (N := 12) hx hb hts inlX6 hown hK hP 0 rfl rfl 7 (by decide) wf_RX6_54 rfl dX6_delete_111 ?_
            refine lv_bipush (v := 98) hx hb dX6_delete_114 (by decide) ?_
            refine lv_icmp_ne (tgt := 123) hx hb dX6_delete_116 (by decide) (fun c_6 => ?_) (fun c_6 => ?_)
            · have c_6_ := c_6
              refine lv_iconst (v := 1) hx hb dX6_delete_123 (by decide) ?_
              exact sm_retX hC hP hD hS (by simp [sm_kDl, sm_rs, sm_b, c_1, c_2, c_3, c_4, c_5, c_6]) (by decide) (by exact ⟨cp, by simp [sm_kDl, sm_rs, c_1, c_2, c_3, c_4, c_5, c_6]⟩) (Nat.le_of_ble_eq_true rfl) (Nat.le_of_ble_eq_true rfl) dX6_delete_124
            · have c_6_ := c_6
              refine lv_aload_n hx hb dX6_delete_119 rfl (lv_at hl 0 rfl) ?_
              refine sm_cVC (rest := []) hC hK hP hD hS hZ (c_X6_followNext D ad P (sm_rmS S k) T (sm_appL L k true 0 0) M C cp ph fo ne no rc wr (by show fo < L.1 + 1; omega) (by show L.1 + 1 ≤ 120; omega) (sm_appk hLk hk) hP6) qyX6_followNext wl_RX6_183 ⟨Nat.le_of_ble_eq_true rfl, Nat.le_of_ble_eq_true rfl⟩ 0 rfl rfl rfl hl.1 rfl (Nat.le_of_ble_eq_true rfl) dX6_delete_120 ⟨Nat.le_of_ble_eq_true rfl, Nat.le_of_ble_eq_true rfl⟩ (fun w1 H locs hB hP hD hS => ?_)
              obtain ⟨cp_7, rfl⟩ := hB
              refine lv_iconst (v := 1) hx hb dX6_delete_123 (by decide) ?_
              exact sm_retX hC hP hD hS (by subst c_6; simp [sm_kDl, sm_rs, sm_b, c_1, c_2, c_3, c_4, c_5]) (by decide) (by exact ⟨cp_7, by subst c_6; simp [sm_kDl, sm_rs, c_1, c_2, c_3, c_4, c_5]⟩) (Nat.le_of_ble_eq_true rfl) (Nat.le_of_ble_eq_true rfl) dX6_delete_124
        · have c_4_ := c_4
          have hM1 := sm_lfM c_3 c_4
          refine lv_aload_n hx hb dX6_delete_59 rfl (lv_at hl 0 rfl) ?_
          refine sm_gt (ci := 6) (C := RX6) (T := TX6) (N := 12) hx hb hts inlX6 hown hK hP 0 rfl rfl 2 (by decide) wf_RX6_26 rfl dX6_delete_60 ?_
          refine lv_iload_n hx hb dX6_delete_63 rfl (lv_at hl 1 rfl) ?_
          refine lv_aload_n hx hb dX6_delete_64 rfl (lv_at hl 0 rfl) ?_
          refine sm_gt (ci := 6) (C := RX6) (T := TX6) (N := 12) hx hb hts inlX6 hown hK hP 0 rfl rfl 3 (by decide) wf_RX6_33 rfl dX6_delete_65 ?_
          refine sm_cVPr (rest := [.int (nI k), .ref (ad 8)]) hC hK hP (c_X1_size_f D ad P S T L M C cp ph fo ne no rc wr ) qyX1_size wl_RX6_142 ⟨Nat.le_of_ble_eq_true rfl, Nat.le_of_ble_eq_true rfl⟩ 13 rfl rfl rfl hl.1 rfl (Nat.le_of_ble_eq_true rfl) dX6_delete_68 ⟨Nat.le_of_ble_eq_true rfl, Nat.le_of_ble_eq_true rfl⟩ ?_
          refine sm_cVC (rest := []) hC hK hP hD hS hZ (c_X5_putTrace D ad P S T L M C cp ph fo ne no rc wr k (by omega) (nI L.1)) qyX5_putTrace wl_RX6_194 ⟨Nat.le_of_ble_eq_true rfl, Nat.le_of_ble_eq_true rfl⟩ 8 rfl rfl rfl hl.1 rfl (Nat.le_of_ble_eq_true rfl) dX6_delete_71 ⟨Nat.le_of_ble_eq_true rfl, Nat.le_of_ble_eq_true rfl⟩ (fun w1 H locs hB hP hD hS => ?_)
          subst hB
          refine lv_aload_n hx hb dX6_delete_74 rfl (lv_at hl 0 rfl) ?_
          refine sm_gt (ci := 6) (C := RX6) (T := TX6) (N := 12) hx hb hts inlX6 hown hK hP 0 rfl rfl 4 (by decide) wf_RX6_37 rfl dX6_delete_75 ?_
          refine lv_iload_n hx hb dX6_delete_78 rfl (lv_at hl 1 rfl) ?_
          refine sm_cVC (rest := []) hC hK hP hD hS hZ (c_X1_appendDeletion_g D ad P S (sm_hldT T k 3 (nI L.1)) L M C cp ph fo ne no rc wr k hM1) qyX1_appendDeletion wl_RX6_198 ⟨Nat.le_of_ble_eq_true rfl, Nat.le_of_ble_eq_true rfl⟩ 18 rfl rfl rfl hl.1 rfl (Nat.le_of_ble_eq_true rfl) dX6_delete_79 ⟨Nat.le_of_ble_eq_true rfl, Nat.le_of_ble_eq_true rfl⟩ (fun w1 H locs hB hP hD hS => ?_)
          subst hB
          refine lv_goto (tgt := 123) hx hb dX6_delete_82 (by decide) ?_
          refine lv_iconst (v := 1) hx hb dX6_delete_123 (by decide) ?_
          exact sm_retX hC hP hD hS (by subst c_4; simp [sm_kDl, sm_rs, sm_b, c_1, c_2, c_3]) (by decide) (by exact ⟨cp, by subst c_4; simp [sm_kDl, sm_rs, c_1, c_2, c_3]⟩) (Nat.le_of_ble_eq_true rfl) (Nat.le_of_ble_eq_true rfl) dX6_delete_124
      · have c_3 := sm_b1 c_3
        exact sm_throw hlt hC htab hK hZ hP hD hS (by simp [sm_kDl, sm_rs, sm_b, c_1, c_2, c_3]) (by exact ⟨cp, by simp [sm_kDl, sm_rs, c_1, c_2, c_3]⟩) hl.1 sm_xIS (List.mem_of_getElem? (i := 9) rfl) dX6_delete_40 dX6_delete_43 dX6_delete_44 dX6_delete_46 dX6_delete_49 ⟨Nat.lt_of_lt_of_le (by decide) (Nat.le_of_ble_eq_true (rfl : Nat.ble 6 _ = true)), Nat.le_of_ble_eq_true rfl, Nat.le_of_ble_eq_true rfl, Nat.le_of_ble_eq_true rfl⟩ (Nat.le_of_ble_eq_true rfl) (Nat.le_of_ble_eq_true rfl)
    · have c_2 := sm_b0 c_2
      refine lv_iconst (v := 0) hx hb dX6_delete_31 (by decide) ?_
      exact sm_retX hC hP hD hS (by simp [sm_kDl, sm_rs, sm_b, c_1, c_2]) (by decide) (by exact ⟨cp, by simp [sm_kDl, sm_rs, c_1, c_2]⟩) (Nat.le_of_ble_eq_true rfl) (Nat.le_of_ble_eq_true rfl) dX6_delete_32
  · have c_1_ := c_1
    exact sm_throw hlt hC htab hK hZ hP hD hS (by subst c_1; simp [sm_kDl, sm_rs, sm_b]) (by exact ⟨cp, by subst c_1; simp [sm_kDl, sm_rs]⟩) hl.1 sm_xIS (List.mem_of_getElem? (i := 8) rfl) dX6_delete_13 dX6_delete_16 dX6_delete_17 dX6_delete_19 dX6_delete_22 ⟨Nat.lt_of_lt_of_le (by decide) (Nat.le_of_ble_eq_true (rfl : Nat.ble 6 _ = true)), Nat.le_of_ble_eq_true rfl, Nat.le_of_ble_eq_true rfl, Nat.le_of_ble_eq_true rfl⟩ (Nat.le_of_ble_eq_true rfl) (Nat.le_of_ble_eq_true rfl)

set_option maxHeartbeats 1000000 in
set_option maxRecDepth 100000 in
theorem c_X6_read_i (hlt : l.stackTraces = false) (x : Int32) (z : Bool) (hbk : sm_isKey x = false) : sm_MX l yX6_read cX6_read 3 (some .int) 7 102 [.ref (ad 0), .int x, .int (sm_b z)] D (sm_w6 D ad P S T L M C cp ph fo ne no rc wr) (fun w => w = sm_w6 D ad P S T L M C cp ph fo ne no rc wr) (.inl sm_IA) := by
  refine sm_metX (own := RX6) (by decide) rfl (Nat.le_of_ble_eq_true rfl) ?_
  intro p e s m below meth c ls hC htab hv hl
  obtain ⟨hx, hb, hml, hr, hown, hlk, hts⟩ := id hC
  obtain ⟨⟨hP, hK⟩, hD, hZ⟩ := hv
  have hS : va_S (sm_ad (sm_w6 D ad P S T L M C cp ph fo ne no rc wr)) s.heap s.heap [] := va_S.rf
  have hl : lv_has ls 3 [(0, .ref (ad 0)), (1, .int x), (2, .int (sm_b z))] := hl
  refine lv_iload_n hx hb dX6_read_0 rfl (lv_at hl 1 rfl) ?_
  refine sm_cSX (rest := []) hC hK hP hD hS hZ (c_X6_checkKey_i D ad P S T L M C cp ph fo ne no rc wr hlt x hbk) qyX6_checkKey wl_RX6_186 ⟨Nat.le_of_ble_eq_true rfl, Nat.le_of_ble_eq_true rfl⟩ rfl hl.1 rfl (Nat.le_of_ble_eq_true rfl) dX6_read_1 ⟨Nat.le_of_ble_eq_true rfl, Nat.le_of_ble_eq_true rfl⟩ (fun E ce q9 w1 H locs hr hB hP hD hS h1 h2 h3 => ?_) (fun ov w1 H locs hr hB hP hD hS => nomatch hr)
  subst hB
  cases hr
  exact sm_thru hC htab hP hD hS rfl (by exact rfl) h1 h2 h3 (Nat.le_of_ble_eq_true rfl) (Nat.le_of_ble_eq_true rfl)

set_option maxHeartbeats 1000000 in
set_option maxRecDepth 100000 in
theorem c_X6_read (hlt : l.stackTraces = false) (k : Nat) (hk : k < 40) (z : Bool) : sm_MX l yX6_read cX6_read 3 (some .int) 7 102 [.ref (ad 0), .int (nI k), .int (sm_b z)] D (sm_w6 D ad P S T L M C cp ph fo ne no rc wr) (fun w => w = sm_w6 D ad P S T L M C cp ph fo ne no rc wr) (sm_rs sm_IA sm_NS sm_NS (sm_k2 (sm_live ph T S k)) (some (.int (sm_rdF ph T S k z)))) := by
  refine sm_metX (own := RX6) (by decide) rfl (Nat.le_of_ble_eq_true rfl) ?_
  intro p e s m below meth c ls hC htab hv hl
  obtain ⟨hx, hb, hml, hr, hown, hlk, hts⟩ := id hC
  obtain ⟨⟨hP, hK⟩, hD, hZ⟩ := hv
  have hS : va_S (sm_ad (sm_w6 D ad P S T L M C cp ph fo ne no rc wr)) s.heap s.heap [] := va_S.rf
  have hl : lv_has ls 3 [(0, .ref (ad 0)), (1, .int (nI k)), (2, .int (sm_b z))] := hl
  refine lv_iload_n hx hb dX6_read_0 rfl (lv_at hl 1 rfl) ?_
  refine sm_cSP (rest := []) hC hK hP (c_X6_checkKey D ad P S T L M C cp ph fo ne no rc wr k (by omega)) qyX6_checkKey wl_RX6_186 ⟨Nat.le_of_ble_eq_true rfl, Nat.le_of_ble_eq_true rfl⟩ rfl hl.1 rfl (Nat.le_of_ble_eq_true rfl) dX6_read_1 ⟨Nat.le_of_ble_eq_true rfl, Nat.le_of_ble_eq_true rfl⟩ ?_
  refine lv_aload_n hx hb dX6_read_4 rfl (lv_at hl 0 rfl) ?_
  refine lv_iload_n hx hb dX6_read_5 rfl (lv_at hl 1 rfl) ?_
  refine sm_cVPr (rest := []) hC hK hP (c_X6_isLive D ad P S T L M C cp ph fo ne no rc wr k (by omega)) qyX6_isLive wl_RX6_169 ⟨Nat.le_of_ble_eq_true rfl, Nat.le_of_ble_eq_true rfl⟩ 0 rfl rfl rfl hl.1 rfl (Nat.le_of_ble_eq_true rfl) dX6_read_6 ⟨Nat.le_of_ble_eq_true rfl, Nat.le_of_ble_eq_true rfl⟩ ?_
  refine lv_if_ne (tgt := 22) hx hb dX6_read_9 (by decide) (fun c_1 => ?_) (fun c_1 => ?_)
  · have c_1 := sm_b1 c_1
    refine lv_aload_n hx hb dX6_read_22 rfl (lv_at hl 0 rfl) ?_
    refine sm_cVPr (rest := []) hC hK hP (c_X6_isTargetLive D ad P S T L M C cp ph fo ne no rc wr ) qyX6_isTargetLive wl_RX6_153 ⟨Nat.le_of_ble_eq_true rfl, Nat.le_of_ble_eq_true rfl⟩ 0 rfl rfl rfl hl.1 rfl (Nat.le_of_ble_eq_true rfl) dX6_read_23 ⟨Nat.le_of_ble_eq_true rfl, Nat.le_of_ble_eq_true rfl⟩ ?_
    refine lv_if_eq (tgt := 41) hx hb dX6_read_26 (by decide) (fun c_2 => ?_) (fun c_2 => ?_)
    · have c_2 := sm_b0 c_2
      refine lv_aload_n hx hb dX6_read_41 rfl (lv_at hl 0 rfl) ?_
      refine sm_gt (ci := 6) (C := RX6) (T := TX6) (N := 12) hx hb hts inlX6 hown hK hP 0 rfl rfl 1 (by decide) wf_RX6_19 rfl dX6_read_42 ?_
      refine lv_iload_n hx hb dX6_read_45 rfl (lv_at hl 1 rfl) ?_
      refine lv_iload_n hx hb dX6_read_46 rfl (lv_at hl 2 rfl) ?_
      refine sm_cVPr (rest := []) hC hK hP (c_X3_number_s D ad P S T L M C cp ph fo ne no rc wr k (by omega) z) qyX3_number wl_RX6_213 ⟨Nat.le_of_ble_eq_true rfl, Nat.le_of_ble_eq_true rfl⟩ 4 rfl rfl rfl hl.1 rfl (Nat.le_of_ble_eq_true rfl) dX6_read_47 ⟨Nat.le_of_ble_eq_true rfl, Nat.le_of_ble_eq_true rfl⟩ ?_
      exact sm_retX hC hP hD hS (by simp [sm_k2, sm_rs, sm_rdF, c_1, c_2]) rfl (by exact rfl) (Nat.le_of_ble_eq_true rfl) (Nat.le_of_ble_eq_true rfl) dX6_read_50
    · have c_2 := sm_b1 c_2
      refine lv_aload_n hx hb dX6_read_29 rfl (lv_at hl 0 rfl) ?_
      refine sm_gt (ci := 6) (C := RX6) (T := TX6) (N := 12) hx hb hts inlX6 hown hK hP 0 rfl rfl 2 (by decide) wf_RX6_26 rfl dX6_read_30 ?_
      refine lv_iload_n hx hb dX6_read_33 rfl (lv_at hl 1 rfl) ?_
      refine lv_iload_n hx hb dX6_read_34 rfl (lv_at hl 2 rfl) ?_
      refine sm_cVPr (rest := []) hC hK hP (c_X5_number D ad P S T L M C cp ph fo ne no rc wr k (by omega) z) qyX5_number wl_RX6_209 ⟨Nat.le_of_ble_eq_true rfl, Nat.le_of_ble_eq_true rfl⟩ 8 rfl rfl rfl hl.1 rfl (Nat.le_of_ble_eq_true rfl) dX6_read_35 ⟨Nat.le_of_ble_eq_true rfl, Nat.le_of_ble_eq_true rfl⟩ ?_
      refine lv_goto (tgt := 50) hx hb dX6_read_38 (by decide) ?_
      exact sm_retX hC hP hD hS (by simp [sm_k2, sm_rs, sm_rdF, c_1, c_2]) rfl (by exact rfl) (Nat.le_of_ble_eq_true rfl) (Nat.le_of_ble_eq_true rfl) dX6_read_50
  · have c_1 := sm_b0 c_1
    exact sm_throw hlt hC htab hK hZ hP hD hS (by simp [sm_k2, sm_rs, sm_rdF, c_1]) (by exact rfl) hl.1 sm_xNS (List.mem_of_getElem? (i := 10) rfl) dX6_read_12 dX6_read_15 dX6_read_16 dX6_read_18 dX6_read_21 ⟨Nat.lt_of_lt_of_le (by decide) (Nat.le_of_ble_eq_true (rfl : Nat.ble 6 _ = true)), Nat.le_of_ble_eq_true rfl, Nat.le_of_ble_eq_true rfl, Nat.le_of_ble_eq_true rfl⟩ (Nat.le_of_ble_eq_true rfl) (Nat.le_of_ble_eq_true rfl)

set_option maxHeartbeats 1000000 in
set_option maxRecDepth 100000 in
theorem c_X6_nextNumber (hlt : l.stackTraces = false)  : sm_MX l yX6_nextNumber cX6_nextNumber 1 (some .int) 6 82 [.ref (ad 0)] D (sm_w6 D ad P S T L M C cp ph fo ne no rc wr) (fun w => w = sm_w6 D ad P S T L M C cp ph fo (if sm_kNx ph = 0 then (if ph = 116 then ne else ne + 2) else ne) (if sm_kNx ph = 0 then (if ph = 116 then no + 2 else no) else no) rc wr) (sm_rs sm_IS sm_IS sm_IS (sm_kNx ph) (some (.int (nI (if ph = 116 then no + 2 - 2 else ne + 2 - 2))))) := by
  refine sm_metX (own := RX6) (by decide) rfl (Nat.le_of_ble_eq_true rfl) ?_
  intro p e s m below meth c ls hC htab hv hl
  obtain ⟨hx, hb, hml, hr, hown, hlk, hts⟩ := id hC
  obtain ⟨⟨hP, hK⟩, hD, hZ⟩ := hv
  have hS : va_S (sm_ad (sm_w6 D ad P S T L M C cp ph fo ne no rc wr)) s.heap s.heap [] := va_S.rf
  have hl : lv_has ls 1 [(0, .ref (ad 0))] := hl
  refine lv_aload_n hx hb dX6_nextNumber_0 rfl (lv_at hl 0 rfl) ?_
  refine sm_gt (ci := 6) (C := RX6) (T := TX6) (N := 12) hx hb hts inlX6 hown hK hP 0 rfl rfl 7 (by decide) wf_RX6_54 rfl dX6_nextNumber_1 ?_
  refine lv_bipush (v := 100) hx hb dX6_nextNumber_4 (by decide) ?_
  refine lv_icmp_ne (tgt := 19) hx hb dX6_nextNumber_6 (by decide) (fun c_1 => ?_) (fun c_1 => ?_)
  · have c_1_ := c_1
    refine lv_aload_n hx hb dX6_nextNumber_19 rfl (lv_at hl 0 rfl) ?_
    refine sm_gt (ci := 6) (C := RX6) (T := TX6) (N := 12) hx hb hts inlX6 hown hK hP 0 rfl rfl 7 (by decide) wf_RX6_54 rfl dX6_nextNumber_20 ?_
    refine lv_bipush (v := 116) hx hb dX6_nextNumber_23 (by decide) ?_
    refine lv_icmp_ne (tgt := 45) hx hb dX6_nextNumber_25 (by decide) (fun c_2 => ?_) (fun c_2 => ?_)
    · have c_2_ := c_2
      refine lv_aload_n hx hb dX6_nextNumber_45 rfl (lv_at hl 0 rfl) ?_
      refine lv_dup hx hb dX6_nextNumber_46 rfl ?_
      refine sm_gt (ci := 6) (C := RX6) (T := TX6) (N := 12) hx hb hts inlX6 hown hK hP 0 rfl rfl 9 (by decide) wf_RX6_62 rfl dX6_nextNumber_47 ?_
      refine lv_iconst (v := 2) hx hb dX6_nextNumber_50 (by decide) ?_
      refine lv_iadd hx hb dX6_nextNumber_51 ?_
      refine sm_re (y := nI (ne + 2)) (nI_add ne 2) ?_
      refine sm_pt (ci := 6) (C := RX6) (T := TX6) (N := 12) hx hb hts inlX6 tyX6 tyX6_ok nmX6 hown hK hP hD hS 0 rfl rfl 9 (by decide) wf_RX6_62 rfl rfl rfl (Nat.le_of_ble_eq_true rfl) dX6_nextNumber_52 (fun H locs hP hD hS => ?_)
      have hP : va_P D.1 sm_cl (sm_w6 D ad P S T L M C cp ph fo (ne + 2) no rc wr) H := hP
      have hD : va_D (sm_ad (sm_w6 D ad P S T L M C cp ph fo ne no rc wr)) (sm_w6 D ad P S T L M C cp ph fo (ne + 2) no rc wr) := hD
      refine lv_aload_n hx hb dX6_nextNumber_55 rfl (lv_at hl 0 rfl) ?_
      refine sm_gt (ci := 6) (C := RX6) (T := TX6) (N := 12) hx hb hts inlX6 hown hK hP 0 rfl rfl 9 (by decide) wf_RX6_62 rfl dX6_nextNumber_56 ?_
      refine lv_iconst (v := 2) hx hb dX6_nextNumber_59 (by decide) ?_
      refine lv_isub hx hb dX6_nextNumber_60 ?_
      refine sm_re (y := nI ((ne + 2) - 2)) (pk_sub (a := (ne + 2)) (b := 2) (by omega)) ?_
      exact sm_retX hC hP hD hS (by simp [sm_kNx, sm_rs, c_1, c_2]) rfl (by simp [sm_kNx, c_1, c_2]) (Nat.le_of_ble_eq_true rfl) (Nat.le_of_ble_eq_true rfl) dX6_nextNumber_61
    · have c_2_ := c_2
      refine lv_aload_n hx hb dX6_nextNumber_28 rfl (lv_at hl 0 rfl) ?_
      refine lv_dup hx hb dX6_nextNumber_29 rfl ?_
      refine sm_gt (ci := 6) (C := RX6) (T := TX6) (N := 12) hx hb hts inlX6 hown hK hP 0 rfl rfl 10 (by decide) wf_RX6_65 rfl dX6_nextNumber_30 ?_
      refine lv_iconst (v := 2) hx hb dX6_nextNumber_33 (by decide) ?_
      refine lv_iadd hx hb dX6_nextNumber_34 ?_
      refine sm_re (y := nI (no + 2)) (nI_add no 2) ?_
      refine sm_pt (ci := 6) (C := RX6) (T := TX6) (N := 12) hx hb hts inlX6 tyX6 tyX6_ok nmX6 hown hK hP hD hS 0 rfl rfl 10 (by decide) wf_RX6_65 rfl rfl rfl (Nat.le_of_ble_eq_true rfl) dX6_nextNumber_35 (fun H locs hP hD hS => ?_)
      have hP : va_P D.1 sm_cl (sm_w6 D ad P S T L M C cp ph fo ne (no + 2) rc wr) H := hP
      have hD : va_D (sm_ad (sm_w6 D ad P S T L M C cp ph fo ne no rc wr)) (sm_w6 D ad P S T L M C cp ph fo ne (no + 2) rc wr) := hD
      refine lv_aload_n hx hb dX6_nextNumber_38 rfl (lv_at hl 0 rfl) ?_
      refine sm_gt (ci := 6) (C := RX6) (T := TX6) (N := 12) hx hb hts inlX6 hown hK hP 0 rfl rfl 10 (by decide) wf_RX6_65 rfl dX6_nextNumber_39 ?_
      refine lv_iconst (v := 2) hx hb dX6_nextNumber_42 (by decide) ?_
      refine lv_isub hx hb dX6_nextNumber_43 ?_
      refine sm_re (y := nI ((no + 2) - 2)) (pk_sub (a := (no + 2)) (b := 2) (by omega)) ?_
      exact sm_retX hC hP hD hS (by subst c_2; simp [sm_kNx, sm_rs, c_1]) rfl (by subst c_2; simp [sm_kNx, c_1]) (Nat.le_of_ble_eq_true rfl) (Nat.le_of_ble_eq_true rfl) dX6_nextNumber_44
  · have c_1_ := c_1
    exact sm_throw hlt hC htab hK hZ hP hD hS (by subst c_1; simp [sm_kNx, sm_rs]) (by subst c_1; simp [sm_kNx]) hl.1 sm_xIS (List.mem_of_getElem? (i := 11) rfl) dX6_nextNumber_9 dX6_nextNumber_12 dX6_nextNumber_13 dX6_nextNumber_15 dX6_nextNumber_18 ⟨Nat.lt_of_lt_of_le (by decide) (Nat.le_of_ble_eq_true (rfl : Nat.ble 6 _ = true)), Nat.le_of_ble_eq_true rfl, Nat.le_of_ble_eq_true rfl, Nat.le_of_ble_eq_true rfl⟩ (Nat.le_of_ble_eq_true rfl) (Nat.le_of_ble_eq_true rfl)

set_option maxHeartbeats 1000000 in
set_option maxRecDepth 100000 in
theorem c_X6_readPart_i (hlt : l.stackTraces = false) (x : Int32) (hbk : sm_bt 1 40 x = false) : sm_MX l yX6_readPart cX6_readPart 2 (some .int) 6 82 [.ref (ad 0), .int x] D (sm_w6 D ad P S T L M C cp ph fo ne no rc wr) (fun w => w = sm_w6 D ad P S T L M C cp ph fo ne no rc wr) (.inl sm_IA) := by
  refine sm_metX (own := RX6) (by decide) rfl (Nat.le_of_ble_eq_true rfl) ?_
  intro p e s m below meth c ls hC htab hv hl
  obtain ⟨hx, hb, hml, hr, hown, hlk, hts⟩ := id hC
  obtain ⟨⟨hP, hK⟩, hD, hZ⟩ := hv
  have hS : va_S (sm_ad (sm_w6 D ad P S T L M C cp ph fo ne no rc wr)) s.heap s.heap [] := va_S.rf
  have hl : lv_has ls 2 [(0, .ref (ad 0)), (1, .int x)] := hl
  refine lv_iload_n hx hb dX6_readPart_0 rfl (lv_at hl 1 rfl) ?_
  refine lv_iconst (v := 1) hx hb dX6_readPart_1 (by decide) ?_
  refine lv_icmp_lt (tgt := 11) hx hb dX6_readPart_2 (by decide) (fun c_1 => ?_) (fun c_1 => ?_)
  · have c_1_ := c_1
    exact sm_throw hlt hC htab hK hZ hP hD hS rfl (by exact rfl) hl.1 sm_xIA (List.mem_of_getElem? (i := 12) rfl) dX6_readPart_11 dX6_readPart_14 dX6_readPart_15 dX6_readPart_17 dX6_readPart_20 ⟨Nat.lt_of_lt_of_le (by decide) (Nat.le_of_ble_eq_true (rfl : Nat.ble 6 _ = true)), Nat.le_of_ble_eq_true rfl, Nat.le_of_ble_eq_true rfl, Nat.le_of_ble_eq_true rfl⟩ (Nat.le_of_ble_eq_true rfl) (Nat.le_of_ble_eq_true rfl)
  · have c_1_ := c_1
    refine lv_iload_n hx hb dX6_readPart_5 rfl (lv_at hl 1 rfl) ?_
    refine lv_bipush (v := 40) hx hb dX6_readPart_6 (by decide) ?_
    refine lv_icmp_le (tgt := 21) hx hb dX6_readPart_8 (by decide) (fun c_2 => ?_) (fun c_2 => ?_)
    · have c_2 := sm_nl c_2
      exact absurd hbk (by simp [sm_bt, c_1, c_2])
    · have c_2 := sm_nle c_2
      exact sm_throw hlt hC htab hK hZ hP hD hS rfl (by exact rfl) hl.1 sm_xIA (List.mem_of_getElem? (i := 12) rfl) dX6_readPart_11 dX6_readPart_14 dX6_readPart_15 dX6_readPart_17 dX6_readPart_20 ⟨Nat.lt_of_lt_of_le (by decide) (Nat.le_of_ble_eq_true (rfl : Nat.ble 6 _ = true)), Nat.le_of_ble_eq_true rfl, Nat.le_of_ble_eq_true rfl, Nat.le_of_ble_eq_true rfl⟩ (Nat.le_of_ble_eq_true rfl) (Nat.le_of_ble_eq_true rfl)

set_option maxHeartbeats 1000000 in
set_option maxRecDepth 100000 in
theorem c_X6_readPart (hlt : l.stackTraces = false) (k : Nat) (hk1 : ¬ k < 1) (hk2 : ¬ 40 < k) (hC40 : C.2.2.2.2.2.2.2 ≤ 40) (hcx : C.2.2.2.2.2.1 ≤ C.2.2.2.2.2.2.2) (hwt : C.2.2.2.2.2.2.1 ≤ 40) : sm_MX l yX6_readPart cX6_readPart 2 (some .int) 6 82 [.ref (ad 0), .int (nI k)] D (sm_w6 D ad P S T L M C cp ph fo ne no rc wr) (fun w => w = sm_w6 D ad P S T L M (if sm_kRP ph C = 0 then sm_takeC S C k (nI L.1) else C) cp ph fo ne no rc wr) (sm_rs sm_IA sm_IS sm_IS (sm_kRP ph C) (some (.int (nI C.2.2.2.2.2.1)))) := by
  refine sm_metX (own := RX6) (by decide) rfl (Nat.le_of_ble_eq_true rfl) ?_
  intro p e s m below meth c ls hC htab hv hl
  obtain ⟨hx, hb, hml, hr, hown, hlk, hts⟩ := id hC
  obtain ⟨⟨hP, hK⟩, hD, hZ⟩ := hv
  have hS : va_S (sm_ad (sm_w6 D ad P S T L M C cp ph fo ne no rc wr)) s.heap s.heap [] := va_S.rf
  have hl : lv_has ls 2 [(0, .ref (ad 0)), (1, .int (nI k))] := hl
  refine lv_iload_n hx hb dX6_readPart_0 rfl (lv_at hl 1 rfl) ?_
  refine lv_iconst (v := 1) hx hb dX6_readPart_1 (by decide) ?_
  refine lv_icmp_lt (tgt := 11) hx hb dX6_readPart_2 (by decide) (fun h => absurd h ((sm_pNnl (a := k) (b := 1) hk1 (by omega) (by omega)))) (fun _ => ?_)
  refine lv_iload_n hx hb dX6_readPart_5 rfl (lv_at hl 1 rfl) ?_
  refine lv_bipush (v := 40) hx hb dX6_readPart_6 (by decide) ?_
  refine lv_icmp_le (tgt := 21) hx hb dX6_readPart_8 (by decide) (fun _ => ?_) (fun h => absurd (Int32.not_lt.mp (sm_pNnl (a := 40) (b := k) hk2 (by omega) (by omega))) h)
  refine lv_aload_n hx hb dX6_readPart_21 rfl (lv_at hl 0 rfl) ?_
  refine sm_gt (ci := 6) (C := RX6) (T := TX6) (N := 12) hx hb hts inlX6 hown hK hP 0 rfl rfl 7 (by decide) wf_RX6_54 rfl dX6_readPart_22 ?_
  refine lv_bipush (v := 99) hx hb dX6_readPart_25 (by decide) ?_
  refine lv_icmp_ne (tgt := 52) hx hb dX6_readPart_27 (by decide) (fun c_1 => ?_) (fun c_1 => ?_)
  · have c_1_ := c_1
    exact sm_throw hlt hC htab hK hZ hP hD hS (by simp [sm_kRP, sm_rs, c_1]) (by simp [sm_kRP, c_1]) hl.1 sm_xIS (List.mem_of_getElem? (i := 13) rfl) dX6_readPart_52 dX6_readPart_55 dX6_readPart_56 dX6_readPart_58 dX6_readPart_61 ⟨Nat.lt_of_lt_of_le (by decide) (Nat.le_of_ble_eq_true (rfl : Nat.ble 6 _ = true)), Nat.le_of_ble_eq_true rfl, Nat.le_of_ble_eq_true rfl, Nat.le_of_ble_eq_true rfl⟩ (Nat.le_of_ble_eq_true rfl) (Nat.le_of_ble_eq_true rfl)
  · have c_1_ := c_1
    refine lv_aload_n hx hb dX6_readPart_30 rfl (lv_at hl 0 rfl) ?_
    refine sm_gt (ci := 6) (C := RX6) (T := TX6) (N := 12) hx hb hts inlX6 hown hK hP 0 rfl rfl 5 (by decide) wf_RX6_43 rfl dX6_readPart_31 ?_
    refine sm_cVPr (rest := []) hC hK hP (c_X2_keysLeft D ad P S T L M C cp ph fo ne no rc wr hC40) qyX2_keysLeft wl_RX6_106 ⟨Nat.le_of_ble_eq_true rfl, Nat.le_of_ble_eq_true rfl⟩ 23 rfl rfl rfl hl.1 rfl (Nat.le_of_ble_eq_true rfl) dX6_readPart_34 ⟨Nat.le_of_ble_eq_true rfl, Nat.le_of_ble_eq_true rfl⟩ ?_
    refine lv_if_eq (tgt := 52) hx hb dX6_readPart_37 (by decide) (fun c_2 => ?_) (fun c_2 => ?_)
    · have c_2 := sm_Neq (a := 40 - C.2.2.2.2.2.2.2) (b := 0) c_2 (by omega) (by omega)
      exact sm_throw hlt hC htab hK hZ hP hD hS (by subst c_1; simp [sm_kRP, sm_rs, c_2]) (by subst c_1; simp [sm_kRP, c_2]) hl.1 sm_xIS (List.mem_of_getElem? (i := 13) rfl) dX6_readPart_52 dX6_readPart_55 dX6_readPart_56 dX6_readPart_58 dX6_readPart_61 ⟨Nat.lt_of_lt_of_le (by decide) (Nat.le_of_ble_eq_true (rfl : Nat.ble 6 _ = true)), Nat.le_of_ble_eq_true rfl, Nat.le_of_ble_eq_true rfl, Nat.le_of_ble_eq_true rfl⟩ (Nat.le_of_ble_eq_true rfl) (Nat.le_of_ble_eq_true rfl)
    · have c_2 := sm_Nne (a := 40 - C.2.2.2.2.2.2.2) (b := 0) c_2 (by omega) (by omega)
      refine lv_aload_n hx hb dX6_readPart_40 rfl (lv_at hl 0 rfl) ?_
      refine sm_gt (ci := 6) (C := RX6) (T := TX6) (N := 12) hx hb hts inlX6 hown hK hP 0 rfl rfl 5 (by decide) wf_RX6_43 rfl dX6_readPart_41 ?_
      refine sm_cVPr (rest := []) hC hK hP (c_X2_waiting D ad P S T L M C cp ph fo ne no rc wr ) qyX2_waiting wl_RX6_109 ⟨Nat.le_of_ble_eq_true rfl, Nat.le_of_ble_eq_true rfl⟩ 23 rfl rfl rfl hl.1 rfl (Nat.le_of_ble_eq_true rfl) dX6_readPart_44 ⟨Nat.le_of_ble_eq_true rfl, Nat.le_of_ble_eq_true rfl⟩ ?_
      refine lv_bipush (v := 8) hx hb dX6_readPart_47 (by decide) ?_
      refine lv_icmp_lt (tgt := 62) hx hb dX6_readPart_49 (by decide) (fun c_3 => ?_) (fun c_3 => ?_)
      · have c_3 := sm_Nlt (a := C.2.2.2.2.2.2.1) (b := 8) (c_3) (by omega) (by omega)
        refine lv_aload_n hx hb dX6_readPart_62 rfl (lv_at hl 0 rfl) ?_
        refine sm_gt (ci := 6) (C := RX6) (T := TX6) (N := 12) hx hb hts inlX6 hown hK hP 0 rfl rfl 5 (by decide) wf_RX6_43 rfl dX6_readPart_63 ?_
        refine lv_aload_n hx hb dX6_readPart_66 rfl (lv_at hl 0 rfl) ?_
        refine sm_gt (ci := 6) (C := RX6) (T := TX6) (N := 12) hx hb hts inlX6 hown hK hP 0 rfl rfl 1 (by decide) wf_RX6_19 rfl dX6_readPart_67 ?_
        refine lv_iload_n hx hb dX6_readPart_70 rfl (lv_at hl 1 rfl) ?_
        refine lv_aload_n hx hb dX6_readPart_71 rfl (lv_at hl 0 rfl) ?_
        refine sm_gt (ci := 6) (C := RX6) (T := TX6) (N := 12) hx hb hts inlX6 hown hK hP 0 rfl rfl 3 (by decide) wf_RX6_33 rfl dX6_readPart_72 ?_
        refine sm_cVPr (rest := [.int (nI k), .ref (ad 4), .ref (ad 23)]) hC hK hP (c_X1_size_f D ad P S T L M C cp ph fo ne no rc wr ) qyX1_size wl_RX6_142 ⟨Nat.le_of_ble_eq_true rfl, Nat.le_of_ble_eq_true rfl⟩ 13 rfl rfl rfl hl.1 rfl (Nat.le_of_ble_eq_true rfl) dX6_readPart_75 ⟨Nat.le_of_ble_eq_true rfl, Nat.le_of_ble_eq_true rfl⟩ ?_
        refine sm_cVCr (rest := []) hC hK hP hD hS hZ (c_X2_take D ad P S T L M C cp ph fo ne no rc wr k (nI L.1) (by omega) hC40 (by omega)) qyX2_take wl_RX6_220 ⟨Nat.le_of_ble_eq_true rfl, Nat.le_of_ble_eq_true rfl⟩ 23 rfl rfl rfl hl.1 rfl (Nat.le_of_ble_eq_true rfl) dX6_readPart_78 ⟨Nat.le_of_ble_eq_true rfl, Nat.le_of_ble_eq_true rfl⟩ (fun w1 H locs hB hP hD hS => ?_)
        subst hB
        exact sm_retX hC hP hD hS (by subst c_1; simp [sm_kRP, sm_rs, c_2, c_3]) rfl (by subst c_1; simp [sm_kRP, c_2, c_3]) (Nat.le_of_ble_eq_true rfl) (Nat.le_of_ble_eq_true rfl) dX6_readPart_81
      · have c_3 := sm_Nnl (a := C.2.2.2.2.2.2.1) (b := 8) (c_3) (by omega) (by omega)
        exact sm_throw hlt hC htab hK hZ hP hD hS (by subst c_1; simp [sm_kRP, sm_rs, c_2, c_3]) (by subst c_1; simp [sm_kRP, c_2, c_3]) hl.1 sm_xIS (List.mem_of_getElem? (i := 13) rfl) dX6_readPart_52 dX6_readPart_55 dX6_readPart_56 dX6_readPart_58 dX6_readPart_61 ⟨Nat.lt_of_lt_of_le (by decide) (Nat.le_of_ble_eq_true (rfl : Nat.ble 6 _ = true)), Nat.le_of_ble_eq_true rfl, Nat.le_of_ble_eq_true rfl, Nat.le_of_ble_eq_true rfl⟩ (Nat.le_of_ble_eq_true rfl) (Nat.le_of_ble_eq_true rfl)

set_option maxHeartbeats 1000000 in
set_option maxRecDepth 100000 in
theorem c_X6_follow_i (hlt : l.stackTraces = false) (x : Int32) (hbk : sm_bt 1 120 x = false) : sm_MX l yX6_follow cX6_follow 2 (some .int) 6 136 [.ref (ad 0), .int x] D (sm_w6 D ad P S T L M C cp ph fo ne no rc wr) (fun w => w = sm_w6 D ad P S T L M C cp ph fo ne no rc wr) (.inl sm_IA) := by
  refine sm_metX (own := RX6) (by decide) rfl (Nat.le_of_ble_eq_true rfl) ?_
  intro p e s m below meth c ls hC htab hv hl
  obtain ⟨hx, hb, hml, hr, hown, hlk, hts⟩ := id hC
  obtain ⟨⟨hP, hK⟩, hD, hZ⟩ := hv
  have hS : va_S (sm_ad (sm_w6 D ad P S T L M C cp ph fo ne no rc wr)) s.heap s.heap [] := va_S.rf
  have hl : lv_has ls 2 [(0, .ref (ad 0)), (1, .int x)] := hl
  refine lv_iload_n hx hb dX6_follow_0 rfl (lv_at hl 1 rfl) ?_
  refine lv_iconst (v := 1) hx hb dX6_follow_1 (by decide) ?_
  refine lv_icmp_lt (tgt := 11) hx hb dX6_follow_2 (by decide) (fun c_1 => ?_) (fun c_1 => ?_)
  · have c_1_ := c_1
    exact sm_throw hlt hC htab hK hZ hP hD hS rfl (by exact rfl) hl.1 sm_xIA (List.mem_of_getElem? (i := 15) rfl) dX6_follow_11 dX6_follow_14 dX6_follow_15 dX6_follow_17 dX6_follow_20 ⟨Nat.lt_of_lt_of_le (by decide) (Nat.le_of_ble_eq_true (rfl : Nat.ble 6 _ = true)), Nat.le_of_ble_eq_true rfl, Nat.le_of_ble_eq_true rfl, Nat.le_of_ble_eq_true rfl⟩ (Nat.le_of_ble_eq_true rfl) (Nat.le_of_ble_eq_true rfl)
  · have c_1_ := c_1
    refine lv_iload_n hx hb dX6_follow_5 rfl (lv_at hl 1 rfl) ?_
    refine lv_bipush (v := 120) hx hb dX6_follow_6 (by decide) ?_
    refine lv_icmp_le (tgt := 21) hx hb dX6_follow_8 (by decide) (fun c_2 => ?_) (fun c_2 => ?_)
    · have c_2 := sm_nl c_2
      exact absurd hbk (by simp [sm_bt, c_1, c_2])
    · have c_2 := sm_nle c_2
      exact sm_throw hlt hC htab hK hZ hP hD hS rfl (by exact rfl) hl.1 sm_xIA (List.mem_of_getElem? (i := 15) rfl) dX6_follow_11 dX6_follow_14 dX6_follow_15 dX6_follow_17 dX6_follow_20 ⟨Nat.lt_of_lt_of_le (by decide) (Nat.le_of_ble_eq_true (rfl : Nat.ble 6 _ = true)), Nat.le_of_ble_eq_true rfl, Nat.le_of_ble_eq_true rfl, Nat.le_of_ble_eq_true rfl⟩ (Nat.le_of_ble_eq_true rfl) (Nat.le_of_ble_eq_true rfl)

set_option maxHeartbeats 1000000 in
set_option maxRecDepth 100000 in
theorem c_X6_follow (hlt : l.stackTraces = false) (k : Nat) (hk1 : ¬ k < 1) (hk2 : ¬ 120 < k) (hfo : fo ≤ L.1) (hL : L.1 ≤ 120) (hLk : ∀ i, L.2.1 i < 40) (hP6 : P.1 ≤ 6) : sm_MX l yX6_follow cX6_follow 2 (some .int) 6 136 [.ref (ad 0), .int (nI k)] D (sm_w6 D ad P S T L M C cp ph fo ne no rc wr) (fun w => ∃ (cp' : sm_Cp), w = sm_w6 D ad P S (if sm_kFl ph = 0 then sm_foG P L (min k (L.1 - fo)) T fo else T) L M C (cp') ph (if sm_kFl ph = 0 then fo + min k (L.1 - fo) else fo) ne no rc wr) (sm_rs sm_IA sm_IS sm_IS (sm_kFl ph) (some (.int (nI (min k (L.1 - fo)))))) := by
  refine sm_metX (own := RX6) (by decide) rfl (Nat.le_of_ble_eq_true rfl) ?_
  intro p e s m below meth c ls hC htab hv hl
  obtain ⟨hx, hb, hml, hr, hown, hlk, hts⟩ := id hC
  obtain ⟨⟨hP, hK⟩, hD, hZ⟩ := hv
  have hS : va_S (sm_ad (sm_w6 D ad P S T L M C cp ph fo ne no rc wr)) s.heap s.heap [] := va_S.rf
  have hl : lv_has ls 2 [(0, .ref (ad 0)), (1, .int (nI k))] := hl
  refine lv_iload_n hx hb dX6_follow_0 rfl (lv_at hl 1 rfl) ?_
  refine lv_iconst (v := 1) hx hb dX6_follow_1 (by decide) ?_
  refine lv_icmp_lt (tgt := 11) hx hb dX6_follow_2 (by decide) (fun h => absurd h ((sm_pNnl (a := k) (b := 1) hk1 (by omega) (by omega)))) (fun _ => ?_)
  refine lv_iload_n hx hb dX6_follow_5 rfl (lv_at hl 1 rfl) ?_
  refine lv_bipush (v := 120) hx hb dX6_follow_6 (by decide) ?_
  refine lv_icmp_le (tgt := 21) hx hb dX6_follow_8 (by decide) (fun _ => ?_) (fun h => absurd (Int32.not_lt.mp (sm_pNnl (a := 120) (b := k) hk2 (by omega) (by omega))) h)
  refine lv_aload_n hx hb dX6_follow_21 rfl (lv_at hl 0 rfl) ?_
  refine sm_gt (ci := 6) (C := RX6) (T := TX6) (N := 12) hx hb hts inlX6 hown hK hP 0 rfl rfl 7 (by decide) wf_RX6_54 rfl dX6_follow_22 ?_
  refine lv_bipush (v := 99) hx hb dX6_follow_25 (by decide) ?_
  refine lv_icmp_eq (tgt := 40) hx hb dX6_follow_27 (by decide) (fun c_1 => ?_) (fun c_1 => ?_)
  · have c_1_ := c_1
    refine lv_aload_n hx hb dX6_follow_40 rfl (lv_at hl 0 rfl) ?_
    refine lv_iload_n hx hb dX6_follow_41 rfl (lv_at hl 1 rfl) ?_
    refine sm_cVCr (rest := []) hC hK hP hD hS hZ (c_X6_followUpTo D ad P S T L M C cp ph fo ne no rc wr k (by omega) (by omega) hL hLk hP6) qyX6_followUpTo wl_RX6_117 ⟨Nat.le_of_ble_eq_true rfl, Nat.le_of_ble_eq_true rfl⟩ 0 rfl rfl rfl hl.1 rfl (Nat.le_of_ble_eq_true rfl) dX6_follow_42 ⟨Nat.le_of_ble_eq_true rfl, Nat.le_of_ble_eq_true rfl⟩ (fun w1 H locs hB hP hD hS => ?_)
    obtain ⟨cp_2, rfl⟩ := hB
    exact sm_retX hC hP hD hS (by subst c_1; simp [sm_kFl, sm_rs]) rfl (by exact ⟨cp_2, by subst c_1; simp [sm_kFl]⟩) (Nat.le_of_ble_eq_true rfl) (Nat.le_of_ble_eq_true rfl) dX6_follow_45
  · have c_1_ := c_1
    exact sm_throw hlt hC htab hK hZ hP hD hS (by simp [sm_kFl, sm_rs, c_1]) (by exact ⟨cp, by simp [sm_kFl, c_1]⟩) hl.1 sm_xIS (List.mem_of_getElem? (i := 0) rfl) dX6_follow_30 dX6_follow_33 dX6_follow_34 dX6_follow_36 dX6_follow_39 ⟨Nat.lt_of_lt_of_le (by decide) (Nat.le_of_ble_eq_true (rfl : Nat.ble 6 _ = true)), Nat.le_of_ble_eq_true rfl, Nat.le_of_ble_eq_true rfl, Nat.le_of_ble_eq_true rfl⟩ (Nat.le_of_ble_eq_true rfl) (Nat.le_of_ble_eq_true rfl)

set_option maxHeartbeats 1000000 in
set_option maxRecDepth 100000 in
theorem c_X6_putDown_i (hlt : l.stackTraces = false) (x : Int32) (hbk : sm_isKey x = false) : sm_MX l yX6_putDown cX6_putDown 6 (some .int) 6 90 [.ref (ad 0), .int x] D (sm_w6 D ad P S T L M C cp ph fo ne no rc wr) (fun w => w = sm_w6 D ad P S T L M C cp ph fo ne no rc wr) (.inl sm_IO) := by
  refine sm_metX (own := RX6) (by decide) rfl (Nat.le_of_ble_eq_true rfl) ?_
  intro p e s m below meth c ls hC htab hv hl
  obtain ⟨hx, hb, hml, hr, hown, hlk, hts⟩ := id hC
  obtain ⟨⟨hP, hK⟩, hD, hZ⟩ := hv
  have hS : va_S (sm_ad (sm_w6 D ad P S T L M C cp ph fo ne no rc wr)) s.heap s.heap [] := va_S.rf
  have hl : lv_has ls 6 [(0, .ref (ad 0)), (1, .int x)] := hl
  refine lv_aload_n hx hb dX6_putDown_0 rfl (lv_at hl 0 rfl) ?_
  refine sm_gt (ci := 6) (C := RX6) (T := TX6) (N := 12) hx hb hts inlX6 hown hK hP 0 rfl rfl 5 (by decide) wf_RX6_43 rfl dX6_putDown_1 ?_
  refine lv_iload_n hx hb dX6_putDown_4 rfl (lv_at hl 1 rfl) ?_
  refine sm_cVPr (rest := []) hC hK hP (c_X2_isWaiting_i D ad P S T L M C cp ph fo ne no rc wr x hbk) qyX2_isWaiting wl_RX6_224 ⟨Nat.le_of_ble_eq_true rfl, Nat.le_of_ble_eq_true rfl⟩ 23 rfl rfl rfl hl.1 rfl (Nat.le_of_ble_eq_true rfl) dX6_putDown_5 ⟨Nat.le_of_ble_eq_true rfl, Nat.le_of_ble_eq_true rfl⟩ ?_
  refine lv_if_ne (tgt := 21) hx hb dX6_putDown_8 (by decide) (fun h => absurd h (by decide)) (fun _ => ?_)
  exact sm_throw hlt hC htab hK hZ hP hD hS rfl (by exact rfl) hl.1 sm_xIO (List.mem_of_getElem? (i := 14) rfl) dX6_putDown_11 dX6_putDown_14 dX6_putDown_15 dX6_putDown_17 dX6_putDown_20 ⟨Nat.lt_of_lt_of_le (by decide) (Nat.le_of_ble_eq_true (rfl : Nat.ble 6 _ = true)), Nat.le_of_ble_eq_true rfl, Nat.le_of_ble_eq_true rfl, Nat.le_of_ble_eq_true rfl⟩ (Nat.le_of_ble_eq_true rfl) (Nat.le_of_ble_eq_true rfl)

set_option maxHeartbeats 1000000 in
set_option maxRecDepth 100000 in
theorem c_X6_putDown (hlt : l.stackTraces = false) (k : Nat) (hk : k < 40) (hle : C.2.1 k ≤ C.2.2.1 k) (hen : C.2.2.1 k ≤ 40) (hw1 : C.2.2.2.2.1 k = true → 1 ≤ C.2.2.2.2.2.2.1) (hP6 : P.1 ≤ 6) : sm_MX l yX6_putDown cX6_putDown 6 (some .int) 6 90 [.ref (ad 0), .int (nI k)] D (sm_w6 D ad P S T L M C cp ph fo ne no rc wr) (fun w => ∃ (cp' : sm_Cp), w = sm_w6 D ad P S (if C.2.2.2.2.1 k = true then (sm_pdG P C (C.2.2.2.1 k) (C.2.2.1 k - C.2.1 k) (C.2.1 k) T 0).1 else T) L M (if C.2.2.2.2.1 k = true then sm_finC C k else C) (cp') ph fo ne no rc wr) (sm_rs sm_IO sm_IO sm_IO (sm_k1 (C.2.2.2.2.1 k)) (some (.int (nI (sm_pdG P C (C.2.2.2.1 k) (C.2.2.1 k - C.2.1 k) (C.2.1 k) T 0).2)))) := by
  refine sm_metX (own := RX6) (by decide) rfl (Nat.le_of_ble_eq_true rfl) ?_
  intro p e s m below meth c ls hC htab hv hl
  obtain ⟨hx, hb, hml, hr, hown, hlk, hts⟩ := id hC
  obtain ⟨⟨hP, hK⟩, hD, hZ⟩ := hv
  have hS : va_S (sm_ad (sm_w6 D ad P S T L M C cp ph fo ne no rc wr)) s.heap s.heap [] := va_S.rf
  have hl : lv_has ls 6 [(0, .ref (ad 0)), (1, .int (nI k))] := hl
  refine lv_aload_n hx hb dX6_putDown_0 rfl (lv_at hl 0 rfl) ?_
  refine sm_gt (ci := 6) (C := RX6) (T := TX6) (N := 12) hx hb hts inlX6 hown hK hP 0 rfl rfl 5 (by decide) wf_RX6_43 rfl dX6_putDown_1 ?_
  refine lv_iload_n hx hb dX6_putDown_4 rfl (lv_at hl 1 rfl) ?_
  refine sm_cVPr (rest := []) hC hK hP (c_X2_isWaiting D ad P S T L M C cp ph fo ne no rc wr k (by omega)) qyX2_isWaiting wl_RX6_224 ⟨Nat.le_of_ble_eq_true rfl, Nat.le_of_ble_eq_true rfl⟩ 23 rfl rfl rfl hl.1 rfl (Nat.le_of_ble_eq_true rfl) dX6_putDown_5 ⟨Nat.le_of_ble_eq_true rfl, Nat.le_of_ble_eq_true rfl⟩ ?_
  refine lv_if_ne (tgt := 21) hx hb dX6_putDown_8 (by decide) (fun c_1 => ?_) (fun c_1 => ?_)
  · have c_1 := sm_b1 c_1
    refine lv_aload_n hx hb dX6_putDown_21 rfl (lv_at hl 0 rfl) ?_
    refine sm_gt (ci := 6) (C := RX6) (T := TX6) (N := 12) hx hb hts inlX6 hown hK hP 0 rfl rfl 5 (by decide) wf_RX6_43 rfl dX6_putDown_22 ?_
    refine lv_iload_n hx hb dX6_putDown_25 rfl (lv_at hl 1 rfl) ?_
    refine sm_cVPr (rest := []) hC hK hP (c_X2_stampOf D ad P S T L M C cp ph fo ne no rc wr k (by omega)) qyX2_stampOf wl_RX6_232 ⟨Nat.le_of_ble_eq_true rfl, Nat.le_of_ble_eq_true rfl⟩ 23 rfl rfl rfl hl.1 rfl (Nat.le_of_ble_eq_true rfl) dX6_putDown_26 ⟨Nat.le_of_ble_eq_true rfl, Nat.le_of_ble_eq_true rfl⟩ ?_
    refine lv_istore_n (lv' := [(2, .int (C.2.2.2.1 k)), (0, .ref (ad 0)), (1, .int (nI k))]) hx hb dX6_putDown_29 rfl hl (by decide) rfl (fun ls hl => ?_)
    refine lv_aload_n hx hb dX6_putDown_30 rfl (lv_at hl 1 rfl) ?_
    refine sm_gt (ci := 6) (C := RX6) (T := TX6) (N := 12) hx hb hts inlX6 hown hK hP 0 rfl rfl 5 (by decide) wf_RX6_43 rfl dX6_putDown_31 ?_
    refine lv_iload_n hx hb dX6_putDown_34 rfl (lv_at hl 2 rfl) ?_
    refine sm_cVPr (rest := []) hC hK hP (c_X2_endOf D ad P S T L M C cp ph fo ne no rc wr k (by omega)) qyX2_endOf wl_RX6_235 ⟨Nat.le_of_ble_eq_true rfl, Nat.le_of_ble_eq_true rfl⟩ 23 rfl rfl rfl hl.1 rfl (Nat.le_of_ble_eq_true rfl) dX6_putDown_35 ⟨Nat.le_of_ble_eq_true rfl, Nat.le_of_ble_eq_true rfl⟩ ?_
    refine lv_istore_n (lv' := [(3, .int (nI (C.2.2.1 k))), (2, .int (C.2.2.2.1 k)), (0, .ref (ad 0)), (1, .int (nI k))]) hx hb dX6_putDown_38 rfl hl (by decide) rfl (fun ls hl => ?_)
    refine lv_iconst (v := 0) hx hb dX6_putDown_39 (by decide) ?_
    refine lv_istore (lv' := [(4, .int 0), (3, .int (nI (C.2.2.1 k))), (2, .int (C.2.2.2.1 k)), (0, .ref (ad 0)), (1, .int (nI k))]) hx hb dX6_putDown_40 hl (by decide) rfl (fun ls hl => ?_)
    refine lv_aload_n hx hb dX6_putDown_42 rfl (lv_at hl 3 rfl) ?_
    refine sm_gt (ci := 6) (C := RX6) (T := TX6) (N := 12) hx hb hts inlX6 hown hK hP 0 rfl rfl 5 (by decide) wf_RX6_43 rfl dX6_putDown_43 ?_
    refine lv_iload_n hx hb dX6_putDown_46 rfl (lv_at hl 4 rfl) ?_
    refine sm_cVPr (rest := []) hC hK hP (c_X2_lowOf D ad P S T L M C cp ph fo ne no rc wr k (by omega)) qyX2_lowOf wl_RX6_238 ⟨Nat.le_of_ble_eq_true rfl, Nat.le_of_ble_eq_true rfl⟩ 23 rfl rfl rfl hl.1 rfl (Nat.le_of_ble_eq_true rfl) dX6_putDown_47 ⟨Nat.le_of_ble_eq_true rfl, Nat.le_of_ble_eq_true rfl⟩ ?_
    refine lv_istore (lv' := [(5, .int (nI (C.2.1 k))), (4, .int 0), (3, .int (nI (C.2.2.1 k))), (2, .int (C.2.2.2.1 k)), (0, .ref (ad 0)), (1, .int (nI k))]) hx hb dX6_putDown_50 hl (by decide) rfl (fun ls hl => ?_)
    suffices K : ∀ (n : Nat) (i : Nat) (t : sm_Tg) (q : Nat) (r : sm_Cp) (H : Heap) (locs : List Loc) (ls : Array Slot), C.2.2.1 k - i = n → (C.2.1 k ≤ i) → (i ≤ C.2.2.1 k) → (sm_pdG P C (C.2.2.2.1 k) (C.2.2.1 k - i) i t q = sm_pdG P C (C.2.2.2.1 k) (C.2.2.1 k - C.2.1 k) (C.2.1 k) T 0) → va_P D.1 sm_cl (sm_w6 D ad P S t L M C r ph fo ne no rc wr) H → va_D (sm_ad (sm_w6 D ad P S T L M C cp ph fo ne no rc wr)) (sm_w6 D ad P S t L M C r ph fo ne no rc wr) → va_S (sm_ad (sm_w6 D ad P S T L M C cp ph fo ne no rc wr)) s.heap H locs → lv_has ls 6 [(0, .ref (ad 0)), (1, .int (nI k)), (2, .int (C.2.2.2.1 k)), (3, .int (nI (C.2.2.1 k))), (4, .int (nI q)), (5, .int (nI i))] → W p l e ({ frames := 6, cells := 1, slots := 6, locals := 90 } : Room) s m ([.ref (ad 0), .int (nI k)] : List Value).toArray below meth c H locs 0 0 (vx_MQ below (sm_Qx D (sm_w6 D ad P S T L M C cp ph fo ne no rc wr) (fun w => ∃ (cp' : sm_Cp), w = sm_w6 D ad P S (if C.2.2.2.2.1 k = true then (sm_pdG P C (C.2.2.2.1 k) (C.2.2.1 k - C.2.1 k) (C.2.1 k) T 0).1 else T) L M (if C.2.2.2.2.1 k = true then sm_finC C k else C) (cp') ph fo ne no rc wr) (sm_rs sm_IO sm_IO sm_IO (sm_k1 (C.2.2.2.2.1 k)) (some (.int (nI (sm_pdG P C (C.2.2.2.1 k) (C.2.2.1 k - C.2.1 k) (C.2.1 k) T 0).2))))) (sm_Xx D (sm_w6 D ad P S T L M C cp ph fo ne no rc wr) (fun w => ∃ (cp' : sm_Cp), w = sm_w6 D ad P S (if C.2.2.2.2.1 k = true then (sm_pdG P C (C.2.2.2.1 k) (C.2.2.1 k - C.2.1 k) (C.2.1 k) T 0).1 else T) L M (if C.2.2.2.2.1 k = true then sm_finC C k else C) (cp') ph fo ne no rc wr) (sm_rs sm_IO sm_IO sm_IO (sm_k1 (C.2.2.2.2.1 k)) (some (.int (nI (sm_pdG P C (C.2.2.2.1 k) (C.2.2.1 k - C.2.1 k) (C.2.1 k) T 0).2))))) ([.ref (ad 0), .int (nI k)] : List Value).toArray s 1 6 (sm_ad (sm_w6 D ad P S T L M C cp ph fo ne no rc wr))) (F0 m 52 ls []) from K _ (C.2.1 k) T 0 cp _ _ ls rfl (by omega) (by omega) (rfl) hP hD hS (lv_sub hl [4, 5, 3, 2, 1, 0] rfl)
    intro n
    induction n using Nat.strongRecOn with
    | ind n ih =>
      intro i t q r H locs ls hn hi1 hi2 hR hP hD hS hl
      refine lv_iload hx hb dX6_putDown_52 (lv_at hl 5 rfl) ?_
      refine lv_iload_n hx hb dX6_putDown_54 rfl (lv_at hl 3 rfl) ?_
      refine lv_icmp_ge (tgt := 109) hx hb dX6_putDown_55 (by decide) (fun c_2 => ?_) (fun c_2 => ?_)
      · have c_2 := sm_Nnl (a := i) (b := C.2.2.1 k) (sm_nl c_2) (by omega) (by omega)
        refine lv_aload_n hx hb dX6_putDown_109 rfl (lv_at hl 0 rfl) ?_
        refine sm_gt (ci := 6) (C := RX6) (T := TX6) (N := 12) hx hb hts inlX6 hown hK hP 0 rfl rfl 5 (by decide) wf_RX6_43 rfl dX6_putDown_110 ?_
        refine lv_iload_n hx hb dX6_putDown_113 rfl (lv_at hl 1 rfl) ?_
        refine sm_cVC (rest := []) hC hK hP hD hS hZ (c_X2_finish D ad P S t L M C r ph fo ne no rc wr k (by omega) c_1 (hw1 c_1)) qyX2_finish wl_RX6_249 ⟨Nat.le_of_ble_eq_true rfl, Nat.le_of_ble_eq_true rfl⟩ 23 rfl rfl rfl hl.1 rfl (Nat.le_of_ble_eq_true rfl) dX6_putDown_114 ⟨Nat.le_of_ble_eq_true rfl, Nat.le_of_ble_eq_true rfl⟩ (fun w1 H locs hB hP hD hS => ?_)
        subst hB
        refine lv_iload hx hb dX6_putDown_117 (lv_at hl 4 rfl) ?_
        exact sm_retX hC hP hD hS (by rw [show C.2.2.1 k - i = 0 by omega] at hR; have h1 : t = _ := congrArg Prod.fst hR; have h2 : q = _ := congrArg Prod.snd hR; simp [sm_k1, sm_rs, h2, c_1]) rfl (by exact ⟨r, by rw [show C.2.2.1 k - i = 0 by omega] at hR; have h1 : t = _ := congrArg Prod.fst hR; have h2 : q = _ := congrArg Prod.snd hR; simp [h1, c_1]⟩) (Nat.le_of_ble_eq_true rfl) (Nat.le_of_ble_eq_true rfl) dX6_putDown_119
      · have c_2 := sm_Nlt (a := i) (b := C.2.2.1 k) (sm_nle c_2) (by omega) (by omega)
        refine lv_aload_n hx hb dX6_putDown_58 rfl (lv_at hl 0 rfl) ?_
        refine sm_gt (ci := 6) (C := RX6) (T := TX6) (N := 12) hx hb hts inlX6 hown hK hP 0 rfl rfl 5 (by decide) wf_RX6_43 rfl dX6_putDown_59 ?_
        refine lv_iload hx hb dX6_putDown_62 (lv_at hl 5 rfl) ?_
        refine sm_cVPr (rest := []) hC hK hP (c_X2_hasRow D ad P S t L M C r ph fo ne no rc wr i (by omega)) qyX2_hasRow wl_RX6_241 ⟨Nat.le_of_ble_eq_true rfl, Nat.le_of_ble_eq_true rfl⟩ 23 rfl rfl rfl hl.1 rfl (Nat.le_of_ble_eq_true rfl) dX6_putDown_64 ⟨Nat.le_of_ble_eq_true rfl, Nat.le_of_ble_eq_true rfl⟩ ?_
        refine lv_if_eq (tgt := 103) hx hb dX6_putDown_67 (by decide) (fun c_3 => ?_) (fun c_3 => ?_)
        · have c_3 := sm_b0 c_3
          refine lv_iinc (v := nI (i + 1)) (lv' := [(5, .int (nI (i + 1))), (0, .ref (ad 0)), (1, .int (nI k)), (2, .int (C.2.2.2.1 k)), (3, .int (nI (C.2.2.1 k))), (4, .int (nI q))]) hx hb dX6_putDown_103 hl (k := 5) rfl (nI_1 i) (by decide) rfl (fun ls hl => ?_)
          refine lv_goto (tgt := 52) hx hb dX6_putDown_106 (by decide) ?_
          exact ih _ (by omega) (i + 1) t q r _ _ ls rfl (by omega) (by omega) (by rw [sm_pdS (by omega), if_neg (by rw [c_3]; decide)] at hR; exact hR) hP hD hS (lv_sub hl [1, 2, 3, 4, 5, 0] rfl)
        · have c_3 := sm_b1 c_3
          refine lv_aload_n hx hb dX6_putDown_70 rfl (lv_at hl 0 rfl) ?_
          refine lv_iload hx hb dX6_putDown_71 (lv_at hl 5 rfl) ?_
          refine lv_aload_n hx hb dX6_putDown_73 rfl (lv_at hl 0 rfl) ?_
          refine sm_gt (ci := 6) (C := RX6) (T := TX6) (N := 12) hx hb hts inlX6 hown hK hP 0 rfl rfl 5 (by decide) wf_RX6_43 rfl dX6_putDown_74 ?_
          refine lv_iload hx hb dX6_putDown_77 (lv_at hl 5 rfl) ?_
          refine lv_iconst (v := 0) hx hb dX6_putDown_79 (by decide) ?_
          refine sm_cVPr (rest := [.int (nI i), .ref (ad 0)]) hC hK hP (c_X2_number D ad P S t L M C r ph fo ne no rc wr i (by omega) false) qyX2_number wl_RX6_244 ⟨Nat.le_of_ble_eq_true rfl, Nat.le_of_ble_eq_true rfl⟩ 23 rfl rfl rfl hl.1 rfl (Nat.le_of_ble_eq_true rfl) dX6_putDown_80 ⟨Nat.le_of_ble_eq_true rfl, Nat.le_of_ble_eq_true rfl⟩ ?_
          refine sm_re (y := C.1.2.1 i) rfl ?_
          refine lv_aload_n hx hb dX6_putDown_83 rfl (lv_at hl 0 rfl) ?_
          refine sm_gt (ci := 6) (C := RX6) (T := TX6) (N := 12) hx hb hts inlX6 hown hK hP 0 rfl rfl 5 (by decide) wf_RX6_43 rfl dX6_putDown_84 ?_
          refine lv_iload hx hb dX6_putDown_87 (lv_at hl 5 rfl) ?_
          refine lv_iconst (v := 1) hx hb dX6_putDown_89 (by decide) ?_
          refine sm_cVPr (rest := [.int (C.1.2.1 i), .int (nI i), .ref (ad 0)]) hC hK hP (c_X2_number D ad P S t L M C r ph fo ne no rc wr i (by omega) true) qyX2_number wl_RX6_244 ⟨Nat.le_of_ble_eq_true rfl, Nat.le_of_ble_eq_true rfl⟩ 23 rfl rfl rfl hl.1 rfl (Nat.le_of_ble_eq_true rfl) dX6_putDown_90 ⟨Nat.le_of_ble_eq_true rfl, Nat.le_of_ble_eq_true rfl⟩ ?_
          refine sm_re (y := C.1.2.2 i) rfl ?_
          refine lv_iload_n hx hb dX6_putDown_93 rfl (lv_at hl 2 rfl) ?_
          refine sm_cVCr (rest := []) hC hK hP hD hS hZ (c_X6_putRowDown D ad P S t L M C r ph fo ne no rc wr i (by omega) (C.1.2.1 i) (C.1.2.2 i) (C.2.2.2.1 k) hP6) qyX6_putRowDown wl_RX6_245 ⟨Nat.le_of_ble_eq_true rfl, Nat.le_of_ble_eq_true rfl⟩ 0 rfl rfl rfl hl.1 rfl (Nat.le_of_ble_eq_true rfl) dX6_putDown_94 ⟨Nat.le_of_ble_eq_true rfl, Nat.le_of_ble_eq_true rfl⟩ (fun w1 H locs hB hP hD hS => ?_)
          obtain ⟨cp_4, rfl⟩ := hB
          refine lv_if_eq (tgt := 103) hx hb dX6_putDown_97 (by decide) (fun c_5 => ?_) (fun c_5 => ?_)
          · have c_5 := sm_b0 c_5
            refine lv_iinc (v := nI (i + 1)) (lv' := [(5, .int (nI (i + 1))), (0, .ref (ad 0)), (1, .int (nI k)), (2, .int (C.2.2.2.1 k)), (3, .int (nI (C.2.2.1 k))), (4, .int (nI q))]) hx hb dX6_putDown_103 hl (k := 5) rfl (nI_1 i) (by decide) rfl (fun ls hl => ?_)
            refine lv_goto (tgt := 52) hx hb dX6_putDown_106 (by decide) ?_
            exact ih _ (by omega) (i + 1) (sm_prd P t i (C.1.2.1 i) (C.1.2.2 i) (C.2.2.2.1 k)) q cp_4 _ _ ls rfl (by omega) (by omega) (by rw [sm_pdS (by omega), if_pos c_3, if_neg (by rw [c_5]; decide)] at hR; exact hR) hP hD hS (lv_sub hl [1, 2, 3, 4, 5, 0] rfl)
          · have c_5 := sm_b1 c_5
            refine lv_iinc (v := nI (q + 1)) (lv' := [(4, .int (nI (q + 1))), (0, .ref (ad 0)), (1, .int (nI k)), (2, .int (C.2.2.2.1 k)), (3, .int (nI (C.2.2.1 k))), (5, .int (nI i))]) hx hb dX6_putDown_100 hl (k := 4) rfl (nI_1 q) (by decide) rfl (fun ls hl => ?_)
            refine lv_iinc (v := nI (i + 1)) (lv' := [(5, .int (nI (i + 1))), (4, .int (nI (q + 1))), (0, .ref (ad 0)), (1, .int (nI k)), (2, .int (C.2.2.2.1 k)), (3, .int (nI (C.2.2.1 k)))]) hx hb dX6_putDown_103 hl (k := 5) rfl (nI_1 i) (by decide) rfl (fun ls hl => ?_)
            refine lv_goto (tgt := 52) hx hb dX6_putDown_106 (by decide) ?_
            exact ih _ (by omega) (i + 1) (sm_prd P t i (C.1.2.1 i) (C.1.2.2 i) (C.2.2.2.1 k)) (q + 1) cp_4 _ _ ls rfl (by omega) (by omega) (by rw [sm_pdS (by omega), if_pos c_3, if_pos c_5] at hR; exact hR) hP hD hS (lv_sub hl [2, 3, 4, 5, 1, 0] rfl)
  · have c_1 := sm_b0 c_1
    exact sm_throw hlt hC htab hK hZ hP hD hS (by simp [sm_k1, sm_rs, c_1]) (by exact ⟨cp, by simp [c_1]⟩) hl.1 sm_xIO (List.mem_of_getElem? (i := 14) rfl) dX6_putDown_11 dX6_putDown_14 dX6_putDown_15 dX6_putDown_17 dX6_putDown_20 ⟨Nat.lt_of_lt_of_le (by decide) (Nat.le_of_ble_eq_true (rfl : Nat.ble 6 _ = true)), Nat.le_of_ble_eq_true rfl, Nat.le_of_ble_eq_true rfl, Nat.le_of_ble_eq_true rfl⟩ (Nat.le_of_ble_eq_true rfl) (Nat.le_of_ble_eq_true rfl)

set_option maxHeartbeats 1000000 in
set_option maxRecDepth 100000 in
theorem c_X6_state_i (hlt : l.stackTraces = false) (x : Int32) (hbk : sm_isKey x = false) : sm_MX l yX6_state cX6_state 2 (some .char) 7 102 [.ref (ad 0), .int x] D (sm_w6 D ad P S T L M C cp ph fo ne no rc wr) (fun w => w = sm_w6 D ad P S T L M C cp ph fo ne no rc wr) (.inl sm_IA) := by
  refine sm_metX (own := RX6) (by decide) rfl (Nat.le_of_ble_eq_true rfl) ?_
  intro p e s m below meth c ls hC htab hv hl
  obtain ⟨hx, hb, hml, hr, hown, hlk, hts⟩ := id hC
  obtain ⟨⟨hP, hK⟩, hD, hZ⟩ := hv
  have hS : va_S (sm_ad (sm_w6 D ad P S T L M C cp ph fo ne no rc wr)) s.heap s.heap [] := va_S.rf
  have hl : lv_has ls 2 [(0, .ref (ad 0)), (1, .int x)] := hl
  refine lv_iload_n hx hb dX6_state_0 rfl (lv_at hl 1 rfl) ?_
  refine sm_cSX (rest := []) hC hK hP hD hS hZ (c_X6_checkKey_i D ad P S T L M C cp ph fo ne no rc wr hlt x hbk) qyX6_checkKey wl_RX6_186 ⟨Nat.le_of_ble_eq_true rfl, Nat.le_of_ble_eq_true rfl⟩ rfl hl.1 rfl (Nat.le_of_ble_eq_true rfl) dX6_state_1 ⟨Nat.le_of_ble_eq_true rfl, Nat.le_of_ble_eq_true rfl⟩ (fun E ce q9 w1 H locs hr hB hP hD hS h1 h2 h3 => ?_) (fun ov w1 H locs hr hB hP hD hS => nomatch hr)
  subst hB
  cases hr
  exact sm_thru hC htab hP hD hS rfl (by exact rfl) h1 h2 h3 (Nat.le_of_ble_eq_true rfl) (Nat.le_of_ble_eq_true rfl)

set_option maxHeartbeats 1000000 in
set_option maxRecDepth 100000 in
theorem c_X6_stamp_i (hlt : l.stackTraces = false) (x : Int32) (hbk : sm_isKey x = false) : sm_MX l yX6_stamp cX6_stamp 2 (some .int) 7 102 [.ref (ad 0), .int x] D (sm_w6 D ad P S T L M C cp ph fo ne no rc wr) (fun w => w = sm_w6 D ad P S T L M C cp ph fo ne no rc wr) (.inl sm_IA) := by
  refine sm_metX (own := RX6) (by decide) rfl (Nat.le_of_ble_eq_true rfl) ?_
  intro p e s m below meth c ls hC htab hv hl
  obtain ⟨hx, hb, hml, hr, hown, hlk, hts⟩ := id hC
  obtain ⟨⟨hP, hK⟩, hD, hZ⟩ := hv
  have hS : va_S (sm_ad (sm_w6 D ad P S T L M C cp ph fo ne no rc wr)) s.heap s.heap [] := va_S.rf
  have hl : lv_has ls 2 [(0, .ref (ad 0)), (1, .int x)] := hl
  refine lv_iload_n hx hb dX6_stamp_0 rfl (lv_at hl 1 rfl) ?_
  refine sm_cSX (rest := []) hC hK hP hD hS hZ (c_X6_checkKey_i D ad P S T L M C cp ph fo ne no rc wr hlt x hbk) qyX6_checkKey wl_RX6_186 ⟨Nat.le_of_ble_eq_true rfl, Nat.le_of_ble_eq_true rfl⟩ rfl hl.1 rfl (Nat.le_of_ble_eq_true rfl) dX6_stamp_1 ⟨Nat.le_of_ble_eq_true rfl, Nat.le_of_ble_eq_true rfl⟩ (fun E ce q9 w1 H locs hr hB hP hD hS h1 h2 h3 => ?_) (fun ov w1 H locs hr hB hP hD hS => nomatch hr)
  subst hB
  cases hr
  exact sm_thru hC htab hP hD hS rfl (by exact rfl) h1 h2 h3 (Nat.le_of_ble_eq_true rfl) (Nat.le_of_ble_eq_true rfl)

set_option maxHeartbeats 1000000 in
set_option maxRecDepth 100000 in
theorem c_X6_goal_i (hlt : l.stackTraces = false) (x : Int32) (hbk : sm_isKey x = false) : sm_MX l yX6_goal cX6_goal 2 (some .char) 7 102 [.ref (ad 0), .int x] D (sm_w6 D ad P S T L M C cp ph fo ne no rc wr) (fun w => w = sm_w6 D ad P S T L M C cp ph fo ne no rc wr) (.inl sm_IA) := by
  refine sm_metX (own := RX6) (by decide) rfl (Nat.le_of_ble_eq_true rfl) ?_
  intro p e s m below meth c ls hC htab hv hl
  obtain ⟨hx, hb, hml, hr, hown, hlk, hts⟩ := id hC
  obtain ⟨⟨hP, hK⟩, hD, hZ⟩ := hv
  have hS : va_S (sm_ad (sm_w6 D ad P S T L M C cp ph fo ne no rc wr)) s.heap s.heap [] := va_S.rf
  have hl : lv_has ls 2 [(0, .ref (ad 0)), (1, .int x)] := hl
  refine lv_iload_n hx hb dX6_goal_0 rfl (lv_at hl 1 rfl) ?_
  refine sm_cSX (rest := []) hC hK hP hD hS hZ (c_X6_checkKey_i D ad P S T L M C cp ph fo ne no rc wr hlt x hbk) qyX6_checkKey wl_RX6_186 ⟨Nat.le_of_ble_eq_true rfl, Nat.le_of_ble_eq_true rfl⟩ rfl hl.1 rfl (Nat.le_of_ble_eq_true rfl) dX6_goal_1 ⟨Nat.le_of_ble_eq_true rfl, Nat.le_of_ble_eq_true rfl⟩ (fun E ce q9 w1 H locs hr hB hP hD hS h1 h2 h3 => ?_) (fun ov w1 H locs hr hB hP hD hS => nomatch hr)
  subst hB
  cases hr
  exact sm_thru hC htab hP hD hS rfl (by exact rfl) h1 h2 h3 (Nat.le_of_ble_eq_true rfl) (Nat.le_of_ble_eq_true rfl)

set_option maxHeartbeats 1000000 in
set_option maxRecDepth 100000 in
theorem c_X6_turned_i (hlt : l.stackTraces = false) (x : Int32) (z : Bool) (hbk : sm_isKey x = false) : sm_MX l yX6_turned cX6_turned 3 (some .int) 7 102 [.ref (ad 0), .int x, .int (sm_b z)] D (sm_w6 D ad P S T L M C cp ph fo ne no rc wr) (fun w => w = sm_w6 D ad P S T L M C cp ph fo ne no rc wr) (.inl sm_IA) := by
  refine sm_metX (own := RX6) (by decide) rfl (Nat.le_of_ble_eq_true rfl) ?_
  intro p e s m below meth c ls hC htab hv hl
  obtain ⟨hx, hb, hml, hr, hown, hlk, hts⟩ := id hC
  obtain ⟨⟨hP, hK⟩, hD, hZ⟩ := hv
  have hS : va_S (sm_ad (sm_w6 D ad P S T L M C cp ph fo ne no rc wr)) s.heap s.heap [] := va_S.rf
  have hl : lv_has ls 3 [(0, .ref (ad 0)), (1, .int x), (2, .int (sm_b z))] := hl
  refine lv_iload_n hx hb dX6_turned_0 rfl (lv_at hl 1 rfl) ?_
  refine sm_cSX (rest := []) hC hK hP hD hS hZ (c_X6_checkKey_i D ad P S T L M C cp ph fo ne no rc wr hlt x hbk) qyX6_checkKey wl_RX6_186 ⟨Nat.le_of_ble_eq_true rfl, Nat.le_of_ble_eq_true rfl⟩ rfl hl.1 rfl (Nat.le_of_ble_eq_true rfl) dX6_turned_1 ⟨Nat.le_of_ble_eq_true rfl, Nat.le_of_ble_eq_true rfl⟩ (fun E ce q9 w1 H locs hr hB hP hD hS h1 h2 h3 => ?_) (fun ov w1 H locs hr hB hP hD hS => nomatch hr)
  subst hB
  cases hr
  exact sm_thru hC htab hP hD hS rfl (by exact rfl) h1 h2 h3 (Nat.le_of_ble_eq_true rfl) (Nat.le_of_ble_eq_true rfl)

set_option maxHeartbeats 1000000 in
set_option maxRecDepth 100000 in
theorem c_X6_turnedBack_i (hlt : l.stackTraces = false) (x : Int32) (z : Bool) (hbk : sm_isKey x = false) : sm_MX l yX6_turnedBack cX6_turnedBack 3 (some .int) 7 102 [.ref (ad 0), .int x, .int (sm_b z)] D (sm_w6 D ad P S T L M C cp ph fo ne no rc wr) (fun w => w = sm_w6 D ad P S T L M C cp ph fo ne no rc wr) (.inl sm_IA) := by
  refine sm_metX (own := RX6) (by decide) rfl (Nat.le_of_ble_eq_true rfl) ?_
  intro p e s m below meth c ls hC htab hv hl
  obtain ⟨hx, hb, hml, hr, hown, hlk, hts⟩ := id hC
  obtain ⟨⟨hP, hK⟩, hD, hZ⟩ := hv
  have hS : va_S (sm_ad (sm_w6 D ad P S T L M C cp ph fo ne no rc wr)) s.heap s.heap [] := va_S.rf
  have hl : lv_has ls 3 [(0, .ref (ad 0)), (1, .int x), (2, .int (sm_b z))] := hl
  refine lv_iload_n hx hb dX6_turnedBack_0 rfl (lv_at hl 1 rfl) ?_
  refine sm_cSX (rest := []) hC hK hP hD hS hZ (c_X6_checkKey_i D ad P S T L M C cp ph fo ne no rc wr hlt x hbk) qyX6_checkKey wl_RX6_186 ⟨Nat.le_of_ble_eq_true rfl, Nat.le_of_ble_eq_true rfl⟩ rfl hl.1 rfl (Nat.le_of_ble_eq_true rfl) dX6_turnedBack_1 ⟨Nat.le_of_ble_eq_true rfl, Nat.le_of_ble_eq_true rfl⟩ (fun E ce q9 w1 H locs hr hB hP hD hS h1 h2 h3 => ?_) (fun ov w1 H locs hr hB hP hD hS => nomatch hr)
  subst hB
  cases hr
  exact sm_thru hC htab hP hD hS rfl (by exact rfl) h1 h2 h3 (Nat.le_of_ble_eq_true rfl) (Nat.le_of_ble_eq_true rfl)

set_option maxHeartbeats 1000000 in
set_option maxRecDepth 100000 in
theorem c_X6_state (hlt : l.stackTraces = false) (k : Nat) (hk : k < 40) (hP6 : P.1 ≤ 6) : sm_MX l yX6_state cX6_state 2 (some .char) 7 102 [.ref (ad 0), .int (nI k)] D (sm_w6 D ad P S T L M C cp ph fo ne no rc wr) (fun w => ∃ (cp' : sm_Cp), w = sm_w6 D ad P S T L M C (cp') ph fo ne no rc wr) (.inr (some (.int (sm_stF P S T k)))) := by
  refine sm_metX (own := RX6) (by decide) rfl (Nat.le_of_ble_eq_true rfl) ?_
  intro p e s m below meth c ls hC htab hv hl
  obtain ⟨hx, hb, hml, hr, hown, hlk, hts⟩ := id hC
  obtain ⟨⟨hP, hK⟩, hD, hZ⟩ := hv
  have hS : va_S (sm_ad (sm_w6 D ad P S T L M C cp ph fo ne no rc wr)) s.heap s.heap [] := va_S.rf
  have hl : lv_has ls 2 [(0, .ref (ad 0)), (1, .int (nI k))] := hl
  refine lv_iload_n hx hb dX6_state_0 rfl (lv_at hl 1 rfl) ?_
  refine sm_cSP (rest := []) hC hK hP (c_X6_checkKey D ad P S T L M C cp ph fo ne no rc wr k (by omega)) qyX6_checkKey wl_RX6_186 ⟨Nat.le_of_ble_eq_true rfl, Nat.le_of_ble_eq_true rfl⟩ rfl hl.1 rfl (Nat.le_of_ble_eq_true rfl) dX6_state_1 ⟨Nat.le_of_ble_eq_true rfl, Nat.le_of_ble_eq_true rfl⟩ ?_
  refine lv_aload_n hx hb dX6_state_4 rfl (lv_at hl 0 rfl) ?_
  refine lv_iload_n hx hb dX6_state_5 rfl (lv_at hl 1 rfl) ?_
  refine sm_cVCr (rest := []) hC hK hP hD hS hZ (c_X6_stateOf D ad P S T L M C cp ph fo ne no rc wr k (by omega) hP6) qyX6_stateOf wl_RX6_254 ⟨Nat.le_of_ble_eq_true rfl, Nat.le_of_ble_eq_true rfl⟩ 0 rfl rfl rfl hl.1 rfl (Nat.le_of_ble_eq_true rfl) dX6_state_6 ⟨Nat.le_of_ble_eq_true rfl, Nat.le_of_ble_eq_true rfl⟩ (fun w1 H locs hB hP hD hS => ?_)
  obtain ⟨cp_1, rfl⟩ := hB
  exact sm_retX hC hP hD hS rfl (sm_stN _ _ _ _) (by exact ⟨cp_1, by rfl⟩) (Nat.le_of_ble_eq_true rfl) (Nat.le_of_ble_eq_true rfl) dX6_state_9

set_option maxHeartbeats 1000000 in
set_option maxRecDepth 100000 in
theorem c_X6_stamp (hlt : l.stackTraces = false) (k : Nat) (hk : k < 40) : sm_MX l yX6_stamp cX6_stamp 2 (some .int) 7 102 [.ref (ad 0), .int (nI k)] D (sm_w6 D ad P S T L M C cp ph fo ne no rc wr) (fun w => w = sm_w6 D ad P S T L M C cp ph fo ne no rc wr) (sm_rs sm_IA sm_NS sm_NS (sm_k2 (sm_stmp T k)) (some (.int (T.2.1 k)))) := by
  refine sm_metX (own := RX6) (by decide) rfl (Nat.le_of_ble_eq_true rfl) ?_
  intro p e s m below meth c ls hC htab hv hl
  obtain ⟨hx, hb, hml, hr, hown, hlk, hts⟩ := id hC
  obtain ⟨⟨hP, hK⟩, hD, hZ⟩ := hv
  have hS : va_S (sm_ad (sm_w6 D ad P S T L M C cp ph fo ne no rc wr)) s.heap s.heap [] := va_S.rf
  have hl : lv_has ls 2 [(0, .ref (ad 0)), (1, .int (nI k))] := hl
  refine lv_iload_n hx hb dX6_stamp_0 rfl (lv_at hl 1 rfl) ?_
  refine sm_cSP (rest := []) hC hK hP (c_X6_checkKey D ad P S T L M C cp ph fo ne no rc wr k (by omega)) qyX6_checkKey wl_RX6_186 ⟨Nat.le_of_ble_eq_true rfl, Nat.le_of_ble_eq_true rfl⟩ rfl hl.1 rfl (Nat.le_of_ble_eq_true rfl) dX6_stamp_1 ⟨Nat.le_of_ble_eq_true rfl, Nat.le_of_ble_eq_true rfl⟩ ?_
  refine lv_aload_n hx hb dX6_stamp_4 rfl (lv_at hl 0 rfl) ?_
  refine sm_gt (ci := 6) (C := RX6) (T := TX6) (N := 12) hx hb hts inlX6 hown hK hP 0 rfl rfl 2 (by decide) wf_RX6_26 rfl dX6_stamp_5 ?_
  refine lv_iload_n hx hb dX6_stamp_8 rfl (lv_at hl 1 rfl) ?_
  refine sm_cVPr (rest := []) hC hK hP (c_X5_isStamped D ad P S T L M C cp ph fo ne no rc wr k (by omega)) qyX5_isStamped wl_RX6_258 ⟨Nat.le_of_ble_eq_true rfl, Nat.le_of_ble_eq_true rfl⟩ 8 rfl rfl rfl hl.1 rfl (Nat.le_of_ble_eq_true rfl) dX6_stamp_9 ⟨Nat.le_of_ble_eq_true rfl, Nat.le_of_ble_eq_true rfl⟩ ?_
  refine lv_if_ne (tgt := 26) hx hb dX6_stamp_12 (by decide) (fun c_1 => ?_) (fun c_1 => ?_)
  · have c_1 := sm_b1 c_1
    refine lv_aload_n hx hb dX6_stamp_26 rfl (lv_at hl 0 rfl) ?_
    refine sm_gt (ci := 6) (C := RX6) (T := TX6) (N := 12) hx hb hts inlX6 hown hK hP 0 rfl rfl 2 (by decide) wf_RX6_26 rfl dX6_stamp_27 ?_
    refine lv_iload_n hx hb dX6_stamp_30 rfl (lv_at hl 1 rfl) ?_
    refine sm_cVPr (rest := []) hC hK hP (c_X5_stampOf D ad P S T L M C cp ph fo ne no rc wr k (by omega)) qyX5_stampOf wl_RX6_263 ⟨Nat.le_of_ble_eq_true rfl, Nat.le_of_ble_eq_true rfl⟩ 8 rfl rfl rfl hl.1 rfl (Nat.le_of_ble_eq_true rfl) dX6_stamp_31 ⟨Nat.le_of_ble_eq_true rfl, Nat.le_of_ble_eq_true rfl⟩ ?_
    exact sm_retX hC hP hD hS (by simp [sm_k2, sm_rs, c_1]) rfl (by exact rfl) (Nat.le_of_ble_eq_true rfl) (Nat.le_of_ble_eq_true rfl) dX6_stamp_34
  · have c_1 := sm_b0 c_1
    exact sm_throwW hlt hC htab hK hZ hP hD hS (by simp [sm_k2, sm_rs, c_1]) (by exact rfl) hl.1 sm_xNS (List.mem_of_getElem? (i := 16) rfl) dX6_stamp_15 dX6_stamp_18 dX6_stamp_19 dX6_stamp_22 dX6_stamp_25 ⟨Nat.lt_of_lt_of_le (by decide) (Nat.le_of_ble_eq_true (rfl : Nat.ble 6 _ = true)), Nat.le_of_ble_eq_true rfl, Nat.le_of_ble_eq_true rfl, Nat.le_of_ble_eq_true rfl⟩ (Nat.le_of_ble_eq_true rfl) (Nat.le_of_ble_eq_true rfl)

set_option maxHeartbeats 1000000 in
set_option maxRecDepth 100000 in
theorem c_X6_turned (hlt : l.stackTraces = false) (k : Nat) (hk : k < 40) (z : Bool) (hP6 : P.1 ≤ 6) : sm_MX l yX6_turned cX6_turned 3 (some .int) 7 102 [.ref (ad 0), .int (nI k), .int (sm_b z)] D (sm_w6 D ad P S T L M C cp ph fo ne no rc wr) (fun w => ∃ (cp' : sm_Cp), w = sm_w6 D ad P S T L M C (cp') ph fo ne no rc wr) (sm_rs sm_IA sm_NS sm_UO (sm_k23 (S.1 k) (sm_tn P S k)) (some (.int (sm_pk z (sm_tr P (S.2.1 k, S.2.2 k)).2)))) := by
  refine sm_metX (own := RX6) (by decide) rfl (Nat.le_of_ble_eq_true rfl) ?_
  intro p e s m below meth c ls hC htab hv hl
  obtain ⟨hx, hb, hml, hr, hown, hlk, hts⟩ := id hC
  obtain ⟨⟨hP, hK⟩, hD, hZ⟩ := hv
  have hS : va_S (sm_ad (sm_w6 D ad P S T L M C cp ph fo ne no rc wr)) s.heap s.heap [] := va_S.rf
  have hl : lv_has ls 3 [(0, .ref (ad 0)), (1, .int (nI k)), (2, .int (sm_b z))] := hl
  refine lv_iload_n hx hb dX6_turned_0 rfl (lv_at hl 1 rfl) ?_
  refine sm_cSP (rest := []) hC hK hP (c_X6_checkKey D ad P S T L M C cp ph fo ne no rc wr k (by omega)) qyX6_checkKey wl_RX6_186 ⟨Nat.le_of_ble_eq_true rfl, Nat.le_of_ble_eq_true rfl⟩ rfl hl.1 rfl (Nat.le_of_ble_eq_true rfl) dX6_turned_1 ⟨Nat.le_of_ble_eq_true rfl, Nat.le_of_ble_eq_true rfl⟩ ?_
  refine lv_aload_n hx hb dX6_turned_4 rfl (lv_at hl 0 rfl) ?_
  refine sm_gt (ci := 6) (C := RX6) (T := TX6) (N := 12) hx hb hts inlX6 hown hK hP 0 rfl rfl 1 (by decide) wf_RX6_19 rfl dX6_turned_5 ?_
  refine lv_iload_n hx hb dX6_turned_8 rfl (lv_at hl 1 rfl) ?_
  refine sm_cVPr (rest := []) hC hK hP (c_X3_has_s D ad P S T L M C cp ph fo ne no rc wr k (by omega)) qyX3_has wl_RX6_264 ⟨Nat.le_of_ble_eq_true rfl, Nat.le_of_ble_eq_true rfl⟩ 4 rfl rfl rfl hl.1 rfl (Nat.le_of_ble_eq_true rfl) dX6_turned_9 ⟨Nat.le_of_ble_eq_true rfl, Nat.le_of_ble_eq_true rfl⟩ ?_
  refine lv_if_ne (tgt := 26) hx hb dX6_turned_12 (by decide) (fun c_1 => ?_) (fun c_1 => ?_)
  · have c_1 := sm_b1 c_1
    refine lv_aload_n hx hb dX6_turned_26 rfl (lv_at hl 0 rfl) ?_
    refine lv_iload_n hx hb dX6_turned_27 rfl (lv_at hl 1 rfl) ?_
    refine sm_cVCr (rest := []) hC hK hP hD hS hZ (c_X6_turnRow D ad P S T L M C cp ph fo ne no rc wr k (by omega) hP6) qyX6_turnRow wl_RX6_269 ⟨Nat.le_of_ble_eq_true rfl, Nat.le_of_ble_eq_true rfl⟩ 0 rfl rfl rfl hl.1 rfl (Nat.le_of_ble_eq_true rfl) dX6_turned_28 ⟨Nat.le_of_ble_eq_true rfl, Nat.le_of_ble_eq_true rfl⟩ (fun w1 H locs hB hP hD hS => ?_)
    subst hB
    refine lv_if_ne (tgt := 45) hx hb dX6_turned_31 (by decide) (fun c_2 => ?_) (fun c_2 => ?_)
    · have c_2 := sm_b1 c_2
      refine lv_aload_n hx hb dX6_turned_45 rfl (lv_at hl 0 rfl) ?_
      refine sm_gt (ci := 6) (C := RX6) (T := TX6) (N := 12) hx hb hts inlX6 hown hK hP 0 rfl rfl 6 (by decide) wf_RX6_50 rfl dX6_turned_46 ?_
      refine lv_iload_n hx hb dX6_turned_49 rfl (lv_at hl 2 rfl) ?_
      refine sm_cVPr (rest := []) hC hK hP (c_X0_number D ad P S T L M C (sm_tnc P S k cp) ph fo ne no rc wr z) qyX0_number wl_RX6_274 ⟨Nat.le_of_ble_eq_true rfl, Nat.le_of_ble_eq_true rfl⟩ 32 rfl rfl rfl hl.1 rfl (Nat.le_of_ble_eq_true rfl) dX6_turned_50 ⟨Nat.le_of_ble_eq_true rfl, Nat.le_of_ble_eq_true rfl⟩ ?_
      exact sm_retX hC hP hD hS (by simp [sm_k23, sm_rs, sm_tnc, c_1, c_2]) rfl (by exact ⟨(sm_tnc P S k cp), by rfl⟩) (Nat.le_of_ble_eq_true rfl) (Nat.le_of_ble_eq_true rfl) dX6_turned_53
    · have c_2 := sm_b0 c_2
      exact sm_throwW hlt hC htab hK hZ hP hD hS (by simp [sm_k23, sm_rs, sm_tnc, c_1, c_2]) (by exact ⟨(sm_tnc P S k cp), by rfl⟩) hl.1 sm_xUO (List.mem_of_getElem? (i := 18) rfl) dX6_turned_34 dX6_turned_37 dX6_turned_38 dX6_turned_41 dX6_turned_44 ⟨Nat.lt_of_lt_of_le (by decide) (Nat.le_of_ble_eq_true (rfl : Nat.ble 6 _ = true)), Nat.le_of_ble_eq_true rfl, Nat.le_of_ble_eq_true rfl, Nat.le_of_ble_eq_true rfl⟩ (Nat.le_of_ble_eq_true rfl) (Nat.le_of_ble_eq_true rfl)
  · have c_1 := sm_b0 c_1
    exact sm_throwW hlt hC htab hK hZ hP hD hS (by simp [sm_k23, sm_rs, sm_tnc, c_1]) (by exact ⟨cp, by rfl⟩) hl.1 sm_xNS (List.mem_of_getElem? (i := 17) rfl) dX6_turned_15 dX6_turned_18 dX6_turned_19 dX6_turned_22 dX6_turned_25 ⟨Nat.lt_of_lt_of_le (by decide) (Nat.le_of_ble_eq_true (rfl : Nat.ble 6 _ = true)), Nat.le_of_ble_eq_true rfl, Nat.le_of_ble_eq_true rfl, Nat.le_of_ble_eq_true rfl⟩ (Nat.le_of_ble_eq_true rfl) (Nat.le_of_ble_eq_true rfl)

set_option maxHeartbeats 1000000 in
set_option maxRecDepth 100000 in
theorem c_X6_turnedBack (hlt : l.stackTraces = false) (k : Nat) (hk : k < 40) (z : Bool) (hP6 : P.1 ≤ 6) : sm_MX l yX6_turnedBack cX6_turnedBack 3 (some .int) 7 102 [.ref (ad 0), .int (nI k), .int (sm_b z)] D (sm_w6 D ad P S T L M C cp ph fo ne no rc wr) (fun w => ∃ (cp' : sm_Cp), w = sm_w6 D ad P S T L M C (cp') ph fo ne no rc wr) (sm_rs sm_IA sm_NS sm_UO (sm_k23 (sm_kd T k 1) (sm_tb P T k)) (some (.int (sm_pk z (sm_bk P (T.2.2.1 k, T.2.2.2 k)).2)))) := by
  refine sm_metX (own := RX6) (by decide) rfl (Nat.le_of_ble_eq_true rfl) ?_
  intro p e s m below meth c ls hC htab hv hl
  obtain ⟨hx, hb, hml, hr, hown, hlk, hts⟩ := id hC
  obtain ⟨⟨hP, hK⟩, hD, hZ⟩ := hv
  have hS : va_S (sm_ad (sm_w6 D ad P S T L M C cp ph fo ne no rc wr)) s.heap s.heap [] := va_S.rf
  have hl : lv_has ls 3 [(0, .ref (ad 0)), (1, .int (nI k)), (2, .int (sm_b z))] := hl
  refine lv_iload_n hx hb dX6_turnedBack_0 rfl (lv_at hl 1 rfl) ?_
  refine sm_cSP (rest := []) hC hK hP (c_X6_checkKey D ad P S T L M C cp ph fo ne no rc wr k (by omega)) qyX6_checkKey wl_RX6_186 ⟨Nat.le_of_ble_eq_true rfl, Nat.le_of_ble_eq_true rfl⟩ rfl hl.1 rfl (Nat.le_of_ble_eq_true rfl) dX6_turnedBack_1 ⟨Nat.le_of_ble_eq_true rfl, Nat.le_of_ble_eq_true rfl⟩ ?_
  refine lv_aload_n hx hb dX6_turnedBack_4 rfl (lv_at hl 0 rfl) ?_
  refine sm_gt (ci := 6) (C := RX6) (T := TX6) (N := 12) hx hb hts inlX6 hown hK hP 0 rfl rfl 2 (by decide) wf_RX6_26 rfl dX6_turnedBack_5 ?_
  refine lv_iload_n hx hb dX6_turnedBack_8 rfl (lv_at hl 1 rfl) ?_
  refine sm_cVPr (rest := []) hC hK hP (c_X5_hasEntry D ad P S T L M C cp ph fo ne no rc wr k (by omega)) qyX5_hasEntry wl_RX6_277 ⟨Nat.le_of_ble_eq_true rfl, Nat.le_of_ble_eq_true rfl⟩ 8 rfl rfl rfl hl.1 rfl (Nat.le_of_ble_eq_true rfl) dX6_turnedBack_9 ⟨Nat.le_of_ble_eq_true rfl, Nat.le_of_ble_eq_true rfl⟩ ?_
  refine lv_if_ne (tgt := 26) hx hb dX6_turnedBack_12 (by decide) (fun c_1 => ?_) (fun c_1 => ?_)
  · have c_1 := sm_b1 c_1
    refine lv_aload_n hx hb dX6_turnedBack_26 rfl (lv_at hl 0 rfl) ?_
    refine lv_iload_n hx hb dX6_turnedBack_27 rfl (lv_at hl 1 rfl) ?_
    refine sm_cVCr (rest := []) hC hK hP hD hS hZ (c_X6_turnEntryBack D ad P S T L M C cp ph fo ne no rc wr k (by omega) hP6) qyX6_turnEntryBack wl_RX6_282 ⟨Nat.le_of_ble_eq_true rfl, Nat.le_of_ble_eq_true rfl⟩ 0 rfl rfl rfl hl.1 rfl (Nat.le_of_ble_eq_true rfl) dX6_turnedBack_28 ⟨Nat.le_of_ble_eq_true rfl, Nat.le_of_ble_eq_true rfl⟩ (fun w1 H locs hB hP hD hS => ?_)
    subst hB
    refine lv_if_ne (tgt := 45) hx hb dX6_turnedBack_31 (by decide) (fun c_2 => ?_) (fun c_2 => ?_)
    · have c_2 := sm_b1 c_2
      refine lv_aload_n hx hb dX6_turnedBack_45 rfl (lv_at hl 0 rfl) ?_
      refine sm_gt (ci := 6) (C := RX6) (T := TX6) (N := 12) hx hb hts inlX6 hown hK hP 0 rfl rfl 6 (by decide) wf_RX6_50 rfl dX6_turnedBack_46 ?_
      refine lv_iload_n hx hb dX6_turnedBack_49 rfl (lv_at hl 2 rfl) ?_
      refine sm_cVPr (rest := []) hC hK hP (c_X0_number D ad P S T L M C (sm_tbc P T k cp) ph fo ne no rc wr z) qyX0_number wl_RX6_274 ⟨Nat.le_of_ble_eq_true rfl, Nat.le_of_ble_eq_true rfl⟩ 32 rfl rfl rfl hl.1 rfl (Nat.le_of_ble_eq_true rfl) dX6_turnedBack_50 ⟨Nat.le_of_ble_eq_true rfl, Nat.le_of_ble_eq_true rfl⟩ ?_
      exact sm_retX hC hP hD hS (by simp [sm_k23, sm_rs, sm_tbc, c_1, c_2]) rfl (by exact ⟨(sm_tbc P T k cp), by rfl⟩) (Nat.le_of_ble_eq_true rfl) (Nat.le_of_ble_eq_true rfl) dX6_turnedBack_53
    · have c_2 := sm_b0 c_2
      exact sm_throwW hlt hC htab hK hZ hP hD hS (by simp [sm_k23, sm_rs, sm_tbc, c_1, c_2]) (by exact ⟨(sm_tbc P T k cp), by rfl⟩) hl.1 sm_xUO (List.mem_of_getElem? (i := 20) rfl) dX6_turnedBack_34 dX6_turnedBack_37 dX6_turnedBack_38 dX6_turnedBack_41 dX6_turnedBack_44 ⟨Nat.lt_of_lt_of_le (by decide) (Nat.le_of_ble_eq_true (rfl : Nat.ble 6 _ = true)), Nat.le_of_ble_eq_true rfl, Nat.le_of_ble_eq_true rfl, Nat.le_of_ble_eq_true rfl⟩ (Nat.le_of_ble_eq_true rfl) (Nat.le_of_ble_eq_true rfl)
  · have c_1 := sm_b0 c_1
    exact sm_throwW hlt hC htab hK hZ hP hD hS (by simp [sm_k23, sm_rs, sm_tbc, c_1]) (by exact ⟨cp, by rfl⟩) hl.1 sm_xNS (List.mem_of_getElem? (i := 19) rfl) dX6_turnedBack_15 dX6_turnedBack_18 dX6_turnedBack_19 dX6_turnedBack_22 dX6_turnedBack_25 ⟨Nat.lt_of_lt_of_le (by decide) (Nat.le_of_ble_eq_true (rfl : Nat.ble 6 _ = true)), Nat.le_of_ble_eq_true rfl, Nat.le_of_ble_eq_true rfl, Nat.le_of_ble_eq_true rfl⟩ (Nat.le_of_ble_eq_true rfl) (Nat.le_of_ble_eq_true rfl)

set_option maxHeartbeats 1000000 in
set_option maxRecDepth 100000 in
theorem c_X6_goal (hlt : l.stackTraces = false) (k : Nat) (hk : k < 40) (hP6 : P.1 ≤ 6) : sm_MX l yX6_goal cX6_goal 2 (some .char) 7 102 [.ref (ad 0), .int (nI k)] D (sm_w6 D ad P S T L M C cp ph fo ne no rc wr) (fun w => ∃ (cp' : sm_Cp), w = sm_w6 D ad P S T L M C (cp') ph fo ne no rc wr) (sm_rs sm_IA sm_IS sm_IS (sm_kGl ph) (some (.int (sm_glF P S k)))) := by
  refine sm_metX (own := RX6) (by decide) rfl (Nat.le_of_ble_eq_true rfl) ?_
  intro p e s m below meth c ls hC htab hv hl
  obtain ⟨hx, hb, hml, hr, hown, hlk, hts⟩ := id hC
  obtain ⟨⟨hP, hK⟩, hD, hZ⟩ := hv
  have hS : va_S (sm_ad (sm_w6 D ad P S T L M C cp ph fo ne no rc wr)) s.heap s.heap [] := va_S.rf
  have hl : lv_has ls 2 [(0, .ref (ad 0)), (1, .int (nI k))] := hl
  refine lv_iload_n hx hb dX6_goal_0 rfl (lv_at hl 1 rfl) ?_
  refine sm_cSP (rest := []) hC hK hP (c_X6_checkKey D ad P S T L M C cp ph fo ne no rc wr k (by omega)) qyX6_checkKey wl_RX6_186 ⟨Nat.le_of_ble_eq_true rfl, Nat.le_of_ble_eq_true rfl⟩ rfl hl.1 rfl (Nat.le_of_ble_eq_true rfl) dX6_goal_1 ⟨Nat.le_of_ble_eq_true rfl, Nat.le_of_ble_eq_true rfl⟩ ?_
  refine lv_aload_n hx hb dX6_goal_4 rfl (lv_at hl 0 rfl) ?_
  refine sm_gt (ci := 6) (C := RX6) (T := TX6) (N := 12) hx hb hts inlX6 hown hK hP 0 rfl rfl 7 (by decide) wf_RX6_54 rfl dX6_goal_5 ?_
  refine lv_bipush (v := 99) hx hb dX6_goal_8 (by decide) ?_
  refine lv_icmp_eq (tgt := 33) hx hb dX6_goal_10 (by decide) (fun c_1 => ?_) (fun c_1 => ?_)
  · have c_1_ := c_1
    refine lv_aload_n hx hb dX6_goal_33 rfl (lv_at hl 0 rfl) ?_
    refine sm_gt (ci := 6) (C := RX6) (T := TX6) (N := 12) hx hb hts inlX6 hown hK hP 0 rfl rfl 1 (by decide) wf_RX6_19 rfl dX6_goal_34 ?_
    refine lv_iload_n hx hb dX6_goal_37 rfl (lv_at hl 1 rfl) ?_
    refine sm_cVPr (rest := []) hC hK hP (c_X3_has_s D ad P S T L M C cp ph fo ne no rc wr k (by omega)) qyX3_has wl_RX6_264 ⟨Nat.le_of_ble_eq_true rfl, Nat.le_of_ble_eq_true rfl⟩ 4 rfl rfl rfl hl.1 rfl (Nat.le_of_ble_eq_true rfl) dX6_goal_38 ⟨Nat.le_of_ble_eq_true rfl, Nat.le_of_ble_eq_true rfl⟩ ?_
    refine lv_if_ne (tgt := 47) hx hb dX6_goal_41 (by decide) (fun c_2 => ?_) (fun c_2 => ?_)
    · have c_2 := sm_b1 c_2
      refine lv_aload_n hx hb dX6_goal_47 rfl (lv_at hl 0 rfl) ?_
      refine lv_iload_n hx hb dX6_goal_48 rfl (lv_at hl 1 rfl) ?_
      refine sm_cVCr (rest := []) hC hK hP hD hS hZ (c_X6_turnRow D ad P S T L M C cp ph fo ne no rc wr k (by omega) hP6) qyX6_turnRow wl_RX6_269 ⟨Nat.le_of_ble_eq_true rfl, Nat.le_of_ble_eq_true rfl⟩ 0 rfl rfl rfl hl.1 rfl (Nat.le_of_ble_eq_true rfl) dX6_goal_49 ⟨Nat.le_of_ble_eq_true rfl, Nat.le_of_ble_eq_true rfl⟩ (fun w1 H locs hB hP hD hS => ?_)
      subst hB
      refine lv_if_eq (tgt := 60) hx hb dX6_goal_52 (by decide) (fun c_3 => ?_) (fun c_3 => ?_)
      · have c_3 := sm_b0 c_3
        refine lv_bipush (v := 97) hx hb dX6_goal_60 (by decide) ?_
        exact sm_retX hC hP hD hS (by subst c_1; simp [sm_kGl, sm_glF, sm_rs, c_2, c_3]) (by decide) (by exact ⟨(sm_tnc P S k cp), by rfl⟩) (Nat.le_of_ble_eq_true rfl) (Nat.le_of_ble_eq_true rfl) dX6_goal_62
      · have c_3 := sm_b1 c_3
        refine lv_bipush (v := 101) hx hb dX6_goal_55 (by decide) ?_
        refine lv_goto (tgt := 62) hx hb dX6_goal_57 (by decide) ?_
        exact sm_retX hC hP hD hS (by subst c_1; simp [sm_kGl, sm_glF, sm_rs, c_2, c_3]) (by decide) (by exact ⟨(sm_tnc P S k cp), by rfl⟩) (Nat.le_of_ble_eq_true rfl) (Nat.le_of_ble_eq_true rfl) dX6_goal_62
    · have c_2 := sm_b0 c_2
      refine lv_bipush (v := 110) hx hb dX6_goal_44 (by decide) ?_
      exact sm_retX hC hP hD hS (by subst c_1; simp [sm_kGl, sm_glF, sm_rs, c_2]) (by decide) (by exact ⟨cp, by rfl⟩) (Nat.le_of_ble_eq_true rfl) (Nat.le_of_ble_eq_true rfl) dX6_goal_46
  · have c_1_ := c_1
    refine lv_aload_n hx hb dX6_goal_13 rfl (lv_at hl 0 rfl) ?_
    refine sm_gt (ci := 6) (C := RX6) (T := TX6) (N := 12) hx hb hts inlX6 hown hK hP 0 rfl rfl 7 (by decide) wf_RX6_54 rfl dX6_goal_14 ?_
    refine lv_bipush (v := 98) hx hb dX6_goal_17 (by decide) ?_
    refine lv_icmp_eq (tgt := 33) hx hb dX6_goal_19 (by decide) (fun c_4 => ?_) (fun c_4 => ?_)
    · have c_4_ := c_4
      refine lv_aload_n hx hb dX6_goal_33 rfl (lv_at hl 0 rfl) ?_
      refine sm_gt (ci := 6) (C := RX6) (T := TX6) (N := 12) hx hb hts inlX6 hown hK hP 0 rfl rfl 1 (by decide) wf_RX6_19 rfl dX6_goal_34 ?_
      refine lv_iload_n hx hb dX6_goal_37 rfl (lv_at hl 1 rfl) ?_
      refine sm_cVPr (rest := []) hC hK hP (c_X3_has_s D ad P S T L M C cp ph fo ne no rc wr k (by omega)) qyX3_has wl_RX6_264 ⟨Nat.le_of_ble_eq_true rfl, Nat.le_of_ble_eq_true rfl⟩ 4 rfl rfl rfl hl.1 rfl (Nat.le_of_ble_eq_true rfl) dX6_goal_38 ⟨Nat.le_of_ble_eq_true rfl, Nat.le_of_ble_eq_true rfl⟩ ?_
      refine lv_if_ne (tgt := 47) hx hb dX6_goal_41 (by decide) (fun c_5 => ?_) (fun c_5 => ?_)
      · have c_5 := sm_b1 c_5
        refine lv_aload_n hx hb dX6_goal_47 rfl (lv_at hl 0 rfl) ?_
        refine lv_iload_n hx hb dX6_goal_48 rfl (lv_at hl 1 rfl) ?_
        refine sm_cVCr (rest := []) hC hK hP hD hS hZ (c_X6_turnRow D ad P S T L M C cp ph fo ne no rc wr k (by omega) hP6) qyX6_turnRow wl_RX6_269 ⟨Nat.le_of_ble_eq_true rfl, Nat.le_of_ble_eq_true rfl⟩ 0 rfl rfl rfl hl.1 rfl (Nat.le_of_ble_eq_true rfl) dX6_goal_49 ⟨Nat.le_of_ble_eq_true rfl, Nat.le_of_ble_eq_true rfl⟩ (fun w1 H locs hB hP hD hS => ?_)
        subst hB
        refine lv_if_eq (tgt := 60) hx hb dX6_goal_52 (by decide) (fun c_6 => ?_) (fun c_6 => ?_)
        · have c_6 := sm_b0 c_6
          refine lv_bipush (v := 97) hx hb dX6_goal_60 (by decide) ?_
          exact sm_retX hC hP hD hS (by subst c_4; simp [sm_kGl, sm_glF, sm_rs, c_1, c_5, c_6]) (by decide) (by exact ⟨(sm_tnc P S k cp), by rfl⟩) (Nat.le_of_ble_eq_true rfl) (Nat.le_of_ble_eq_true rfl) dX6_goal_62
        · have c_6 := sm_b1 c_6
          refine lv_bipush (v := 101) hx hb dX6_goal_55 (by decide) ?_
          refine lv_goto (tgt := 62) hx hb dX6_goal_57 (by decide) ?_
          exact sm_retX hC hP hD hS (by subst c_4; simp [sm_kGl, sm_glF, sm_rs, c_1, c_5, c_6]) (by decide) (by exact ⟨(sm_tnc P S k cp), by rfl⟩) (Nat.le_of_ble_eq_true rfl) (Nat.le_of_ble_eq_true rfl) dX6_goal_62
      · have c_5 := sm_b0 c_5
        refine lv_bipush (v := 110) hx hb dX6_goal_44 (by decide) ?_
        exact sm_retX hC hP hD hS (by subst c_4; simp [sm_kGl, sm_glF, sm_rs, c_1, c_5]) (by decide) (by exact ⟨cp, by rfl⟩) (Nat.le_of_ble_eq_true rfl) (Nat.le_of_ble_eq_true rfl) dX6_goal_46
    · have c_4_ := c_4
      exact sm_throwW hlt hC htab hK hZ hP hD hS (by simp [sm_kGl, sm_glF, sm_rs, c_1, c_4]) (by exact ⟨cp, by rfl⟩) hl.1 sm_xIS (List.mem_of_getElem? (i := 22) rfl) dX6_goal_22 dX6_goal_25 dX6_goal_26 dX6_goal_29 dX6_goal_32 ⟨Nat.lt_of_lt_of_le (by decide) (Nat.le_of_ble_eq_true (rfl : Nat.ble 6 _ = true)), Nat.le_of_ble_eq_true rfl, Nat.le_of_ble_eq_true rfl, Nat.le_of_ble_eq_true rfl⟩ (Nat.le_of_ble_eq_true rfl) (Nat.le_of_ble_eq_true rfl)

set_option maxHeartbeats 1000000 in
set_option maxRecDepth 100000 in
theorem c_X6_sum_i (hlt : l.stackTraces = false) (z : Bool) (x y : Int32) (hbk : sm_isRg x y = false) : sm_MX l yX6_sum cX6_sum 4 (some .long) 7 113 [.ref (ad 0), .int (sm_b z), .int x, .int y] D (sm_w6 D ad P S T L M C cp ph fo ne no rc wr) (fun w => w = sm_w6 D ad P S T L M C cp ph fo ne no rc wr) (.inl sm_IA) := by
  refine sm_metX (own := RX6) (by decide) rfl (Nat.le_of_ble_eq_true rfl) ?_
  intro p e s m below meth c ls hC htab hv hl
  obtain ⟨hx, hb, hml, hr, hown, hlk, hts⟩ := id hC
  obtain ⟨⟨hP, hK⟩, hD, hZ⟩ := hv
  have hS : va_S (sm_ad (sm_w6 D ad P S T L M C cp ph fo ne no rc wr)) s.heap s.heap [] := va_S.rf
  have hl : lv_has ls 4 [(0, .ref (ad 0)), (1, .int (sm_b z)), (2, .int x), (3, .int y)] := hl
  refine lv_iload_n hx hb dX6_sum_0 rfl (lv_at hl 2 rfl) ?_
  refine lv_iload_n hx hb dX6_sum_1 rfl (lv_at hl 3 rfl) ?_
  refine sm_cSX (rest := []) hC hK hP hD hS hZ (c_X6_checkRange_i D ad P S T L M C cp ph fo ne no rc wr hlt x y hbk) qyX6_checkRange wl_RX6_287 ⟨Nat.le_of_ble_eq_true rfl, Nat.le_of_ble_eq_true rfl⟩ rfl hl.1 rfl (Nat.le_of_ble_eq_true rfl) dX6_sum_2 ⟨Nat.le_of_ble_eq_true rfl, Nat.le_of_ble_eq_true rfl⟩ (fun E ce q9 w1 H locs hr hB hP hD hS h1 h2 h3 => ?_) (fun ov w1 H locs hr hB hP hD hS => nomatch hr)
  subst hB
  cases hr
  exact sm_thru hC htab hP hD hS rfl (by exact rfl) h1 h2 h3 (Nat.le_of_ble_eq_true rfl) (Nat.le_of_ble_eq_true rfl)

set_option maxHeartbeats 1000000 in
set_option maxRecDepth 100000 in
theorem c_X6_sum (hlt : l.stackTraces = false) (z : Bool) (lo hi : Nat) (hlo : ¬ hi < lo) (hhi : hi < 40) (hP6 : P.1 ≤ 6) : sm_MX l yX6_sum cX6_sum 4 (some .long) 7 113 [.ref (ad 0), .int (sm_b z), .int (nI lo), .int (nI hi)] D (sm_w6 D ad P S T L M C cp ph fo ne no rc wr) (fun w => ∃ (cp' : sm_Cp), w = sm_w6 D ad P S T L M C (cp') ph fo ne no rc wr) (.inr (some (.long (sm_sm z P S T lo hi)))) := by
  refine sm_metX (own := RX6) (by decide) rfl (Nat.le_of_ble_eq_true rfl) ?_
  intro p e s m below meth c ls hC htab hv hl
  obtain ⟨hx, hb, hml, hr, hown, hlk, hts⟩ := id hC
  obtain ⟨⟨hP, hK⟩, hD, hZ⟩ := hv
  have hS : va_S (sm_ad (sm_w6 D ad P S T L M C cp ph fo ne no rc wr)) s.heap s.heap [] := va_S.rf
  have hl : lv_has ls 4 [(0, .ref (ad 0)), (1, .int (sm_b z)), (2, .int (nI lo)), (3, .int (nI hi))] := hl
  refine lv_iload_n hx hb dX6_sum_0 rfl (lv_at hl 2 rfl) ?_
  refine lv_iload_n hx hb dX6_sum_1 rfl (lv_at hl 3 rfl) ?_
  refine sm_cSP (rest := []) hC hK hP (c_X6_checkRange D ad P S T L M C cp ph fo ne no rc wr lo hi (by omega) (by omega) hlo) qyX6_checkRange wl_RX6_287 ⟨Nat.le_of_ble_eq_true rfl, Nat.le_of_ble_eq_true rfl⟩ rfl hl.1 rfl (Nat.le_of_ble_eq_true rfl) dX6_sum_2 ⟨Nat.le_of_ble_eq_true rfl, Nat.le_of_ble_eq_true rfl⟩ ?_
  refine lv_aload_n hx hb dX6_sum_5 rfl (lv_at hl 0 rfl) ?_
  refine lv_iload_n hx hb dX6_sum_6 rfl (lv_at hl 1 rfl) ?_
  refine lv_iload_n hx hb dX6_sum_7 rfl (lv_at hl 2 rfl) ?_
  refine lv_iload_n hx hb dX6_sum_8 rfl (lv_at hl 3 rfl) ?_
  refine sm_cVCr (rest := []) hC hK hP hD hS hZ (c_X6_sumOfRange D ad P S T L M C cp ph fo ne no rc wr z lo hi (by omega) (by omega) hP6) qyX6_sumOfRange wl_RX6_290 ⟨Nat.le_of_ble_eq_true rfl, Nat.le_of_ble_eq_true rfl⟩ 0 rfl rfl rfl hl.1 rfl (Nat.le_of_ble_eq_true rfl) dX6_sum_9 ⟨Nat.le_of_ble_eq_true rfl, Nat.le_of_ble_eq_true rfl⟩ (fun w1 H locs hB hP hD hS => ?_)
  obtain ⟨cp_1, rfl⟩ := hB
  exact sm_lretX hC hP hD hS rfl  (by exact ⟨cp_1, by rfl⟩) (Nat.le_of_ble_eq_true rfl) (Nat.le_of_ble_eq_true rfl) dX6_sum_12

set_option maxHeartbeats 1000000 in
set_option maxRecDepth 100000 in
theorem c_X6_firstUnlike_i (hlt : l.stackTraces = false) (x y : Int32) (hbk : sm_isRg x y = false) : sm_MX l yX6_firstUnlike cX6_firstUnlike 7 (some .int) 7 135 [.ref (ad 0), .int x, .int y] D (sm_w6 D ad P S T L M C cp ph fo ne no rc wr) (fun w => w = sm_w6 D ad P S T L M C cp ph fo ne no rc wr) (.inl sm_IA) := by
  refine sm_metX (own := RX6) (by decide) rfl (Nat.le_of_ble_eq_true rfl) ?_
  intro p e s m below meth c ls hC htab hv hl
  obtain ⟨hx, hb, hml, hr, hown, hlk, hts⟩ := id hC
  obtain ⟨⟨hP, hK⟩, hD, hZ⟩ := hv
  have hS : va_S (sm_ad (sm_w6 D ad P S T L M C cp ph fo ne no rc wr)) s.heap s.heap [] := va_S.rf
  have hl : lv_has ls 7 [(0, .ref (ad 0)), (1, .int x), (2, .int y)] := hl
  refine lv_iload_n hx hb dX6_firstUnlike_0 rfl (lv_at hl 1 rfl) ?_
  refine lv_iload_n hx hb dX6_firstUnlike_1 rfl (lv_at hl 2 rfl) ?_
  refine sm_cSX (rest := []) hC hK hP hD hS hZ (c_X6_checkRange_i D ad P S T L M C cp ph fo ne no rc wr hlt x y hbk) qyX6_checkRange wl_RX6_287 ⟨Nat.le_of_ble_eq_true rfl, Nat.le_of_ble_eq_true rfl⟩ rfl hl.1 rfl (Nat.le_of_ble_eq_true rfl) dX6_firstUnlike_2 ⟨Nat.le_of_ble_eq_true rfl, Nat.le_of_ble_eq_true rfl⟩ (fun E ce q9 w1 H locs hr hB hP hD hS h1 h2 h3 => ?_) (fun ov w1 H locs hr hB hP hD hS => nomatch hr)
  subst hB
  cases hr
  exact sm_thru hC htab hP hD hS rfl (by exact rfl) h1 h2 h3 (Nat.le_of_ble_eq_true rfl) (Nat.le_of_ble_eq_true rfl)

set_option maxHeartbeats 1000000 in
set_option maxRecDepth 100000 in
theorem c_X6_firstUnlike (hlt : l.stackTraces = false) (lo hi : Nat) (hlo : ¬ hi < lo) (hhi : hi < 40) (hP6 : P.1 ≤ 6) : sm_MX l yX6_firstUnlike cX6_firstUnlike 7 (some .int) 7 135 [.ref (ad 0), .int (nI lo), .int (nI hi)] D (sm_w6 D ad P S T L M C cp ph fo ne no rc wr) (fun w => ∃ (cp' : sm_Cp), w = sm_w6 D ad P S T L M C (cp') ph fo ne no (if sm_ss P S T lo hi = true then 1 else (sm_fuG P S T 40 lo hi 1).2) wr) (sm_rs sm_IA sm_NS sm_NS (sm_k2n (sm_ss P S T lo hi)) (some (.int (nI (sm_fuG P S T 40 lo hi 1).1)))) := by
  refine sm_metX (own := RX6) (by decide) rfl (Nat.le_of_ble_eq_true rfl) ?_
  intro p e s m below meth c ls hC htab hv hl
  obtain ⟨hx, hb, hml, hr, hown, hlk, hts⟩ := id hC
  obtain ⟨⟨hP, hK⟩, hD, hZ⟩ := hv
  have hS : va_S (sm_ad (sm_w6 D ad P S T L M C cp ph fo ne no rc wr)) s.heap s.heap [] := va_S.rf
  have hl : lv_has ls 7 [(0, .ref (ad 0)), (1, .int (nI lo)), (2, .int (nI hi))] := hl
  refine lv_iload_n hx hb dX6_firstUnlike_0 rfl (lv_at hl 1 rfl) ?_
  refine lv_iload_n hx hb dX6_firstUnlike_1 rfl (lv_at hl 2 rfl) ?_
  refine sm_cSP (rest := []) hC hK hP (c_X6_checkRange D ad P S T L M C cp ph fo ne no rc wr lo hi (by omega) (by omega) hlo) qyX6_checkRange wl_RX6_287 ⟨Nat.le_of_ble_eq_true rfl, Nat.le_of_ble_eq_true rfl⟩ rfl hl.1 rfl (Nat.le_of_ble_eq_true rfl) dX6_firstUnlike_2 ⟨Nat.le_of_ble_eq_true rfl, Nat.le_of_ble_eq_true rfl⟩ ?_
  refine lv_aload_n hx hb dX6_firstUnlike_5 rfl (lv_at hl 0 rfl) ?_
  refine lv_iconst (v := 1) hx hb dX6_firstUnlike_6 (by decide) ?_
  refine sm_pt (ci := 6) (C := RX6) (T := TX6) (N := 12) hx hb hts inlX6 tyX6 tyX6_ok nmX6 hown hK hP hD hS 0 rfl rfl 11 (by decide) wf_RX6_68 rfl rfl rfl (Nat.le_of_ble_eq_true rfl) dX6_firstUnlike_7 (fun H locs hP hD hS => ?_)
  have hP : va_P D.1 sm_cl (sm_w6 D ad P S T L M C cp ph fo ne no 1 wr) H := hP
  have hD : va_D (sm_ad (sm_w6 D ad P S T L M C cp ph fo ne no rc wr)) (sm_w6 D ad P S T L M C cp ph fo ne no 1 wr) := hD
  refine lv_aload_n hx hb dX6_firstUnlike_10 rfl (lv_at hl 0 rfl) ?_
  refine lv_iload_n hx hb dX6_firstUnlike_11 rfl (lv_at hl 1 rfl) ?_
  refine lv_iload_n hx hb dX6_firstUnlike_12 rfl (lv_at hl 2 rfl) ?_
  refine sm_cVCr (rest := []) hC hK hP hD hS hZ (c_X6_areSumsSame D ad P S T L M C cp ph fo ne no 1 wr lo hi (by omega) (by omega) hP6) qyX6_areSumsSame wl_RX6_126 ⟨Nat.le_of_ble_eq_true rfl, Nat.le_of_ble_eq_true rfl⟩ 0 rfl rfl rfl hl.1 rfl (Nat.le_of_ble_eq_true rfl) dX6_firstUnlike_13 ⟨Nat.le_of_ble_eq_true rfl, Nat.le_of_ble_eq_true rfl⟩ (fun w1 H locs hB hP hD hS => ?_)
  obtain ⟨cp_1, rfl⟩ := hB
  refine lv_if_eq (tgt := 30) hx hb dX6_firstUnlike_16 (by decide) (fun c_2 => ?_) (fun c_2 => ?_)
  · have c_2 := sm_b0 c_2
    refine lv_iload_n hx hb dX6_firstUnlike_30 rfl (lv_at hl 1 rfl) ?_
    refine lv_istore_n (lv' := [(3, .int (nI lo)), (0, .ref (ad 0)), (1, .int (nI lo)), (2, .int (nI hi))]) hx hb dX6_firstUnlike_31 rfl hl (by decide) rfl (fun ls hl => ?_)
    refine lv_iload_n hx hb dX6_firstUnlike_32 rfl (lv_at hl 3 rfl) ?_
    refine lv_istore (lv' := [(4, .int (nI hi)), (3, .int (nI lo)), (0, .ref (ad 0)), (1, .int (nI lo)), (2, .int (nI hi))]) hx hb dX6_firstUnlike_33 hl (by decide) rfl (fun ls hl => ?_)
    refine lv_iconst (v := 0) hx hb dX6_firstUnlike_35 (by decide) ?_
    refine lv_istore (lv' := [(5, .int 0), (4, .int (nI hi)), (3, .int (nI lo)), (0, .ref (ad 0)), (1, .int (nI lo)), (2, .int (nI hi))]) hx hb dX6_firstUnlike_36 hl (by decide) rfl (fun ls hl => ?_)
    suffices K : ∀ (n : Nat) (i : Nat) (l1 : Nat) (h1 : Nat) (q : Nat) (r : sm_Cp) (H : Heap) (locs : List Loc) (ls : Array Slot), 40 - i = n → (l1 ≤ h1) → (h1 < 40) → (i + (h1 - l1) ≤ 39) → (q ≤ 1 + 2 * i) → (sm_fuG P S T (40 - i) l1 h1 q = sm_fuG P S T 40 lo hi 1) → va_P D.1 sm_cl (sm_w6 D ad P S T L M C r ph fo ne no q wr) H → va_D (sm_ad (sm_w6 D ad P S T L M C cp ph fo ne no rc wr)) (sm_w6 D ad P S T L M C r ph fo ne no q wr) → va_S (sm_ad (sm_w6 D ad P S T L M C cp ph fo ne no rc wr)) s.heap H locs → lv_has ls 7 [(0, .ref (ad 0)), (1, .int (nI lo)), (2, .int (nI hi)), (3, .int (nI l1)), (4, .int (nI h1)), (5, .int (nI i))] → W p l e ({ frames := 7, cells := 1, slots := 6, locals := 135 } : Room) s m ([.ref (ad 0), .int (nI lo), .int (nI hi)] : List Value).toArray below meth c H locs 0 0 (vx_MQ below (sm_Qx D (sm_w6 D ad P S T L M C cp ph fo ne no rc wr) (fun w => ∃ (cp' : sm_Cp), w = sm_w6 D ad P S T L M C (cp') ph fo ne no (if sm_ss P S T lo hi = true then 1 else (sm_fuG P S T 40 lo hi 1).2) wr) (sm_rs sm_IA sm_NS sm_NS (sm_k2n (sm_ss P S T lo hi)) (some (.int (nI (sm_fuG P S T 40 lo hi 1).1))))) (sm_Xx D (sm_w6 D ad P S T L M C cp ph fo ne no rc wr) (fun w => ∃ (cp' : sm_Cp), w = sm_w6 D ad P S T L M C (cp') ph fo ne no (if sm_ss P S T lo hi = true then 1 else (sm_fuG P S T 40 lo hi 1).2) wr) (sm_rs sm_IA sm_NS sm_NS (sm_k2n (sm_ss P S T lo hi)) (some (.int (nI (sm_fuG P S T 40 lo hi 1).1))))) ([.ref (ad 0), .int (nI lo), .int (nI hi)] : List Value).toArray s 1 6 (sm_ad (sm_w6 D ad P S T L M C cp ph fo ne no rc wr))) (F0 m 38 ls []) from K _ 0 lo hi 1 cp_1 _ _ ls rfl (by omega) (by omega) (by omega) (by omega) (rfl) hP hD hS (lv_sub hl [3, 4, 5, 2, 1, 0] rfl)
    intro n
    induction n using Nat.strongRecOn with
    | ind n ih =>
      intro i l1 h1 q r H locs ls hn hi1 hi2 hi3 hi4 hR hP hD hS hl
      refine lv_iload hx hb dX6_firstUnlike_38 (lv_at hl 5 rfl) ?_
      refine lv_bipush (v := 40) hx hb dX6_firstUnlike_40 (by decide) ?_
      have h40 : i < 40 := by omega
      refine lv_icmp_ge (tgt := 109) hx hb dX6_firstUnlike_42 (by decide) (fun h => absurd h (Int32.not_le.mpr (sm_pNlt (a := i) (b := 40) h40 (by omega)))) (fun _ => ?_)
      refine lv_iload_n hx hb dX6_firstUnlike_45 rfl (lv_at hl 3 rfl) ?_
      refine lv_iload hx hb dX6_firstUnlike_46 (lv_at hl 4 rfl) ?_
      refine lv_icmp_ge (tgt := 109) hx hb dX6_firstUnlike_48 (by decide) (fun c_3 => ?_) (fun c_3 => ?_)
      · have c_3 := sm_Nnl (a := l1) (b := h1) (sm_nl c_3) (by omega) (by omega)
        refine lv_iload_n hx hb dX6_firstUnlike_109 rfl (lv_at hl 3 rfl) ?_
        exact sm_retX hC hP hD hS (by have h0 := hR; rw [sm_fu0 (by omega)] at h0; have h5 : l1 = _ := congrArg Prod.fst h0; have h6 : q = _ := congrArg Prod.snd h0; simp [sm_k2n, sm_rs, h5, c_2]) rfl (by exact ⟨r, by have h0 := hR; rw [sm_fu0 (by omega)] at h0; have h5 : l1 = _ := congrArg Prod.fst h0; have h6 : q = _ := congrArg Prod.snd h0; simp [h6, c_2]⟩) (Nat.le_of_ble_eq_true rfl) (Nat.le_of_ble_eq_true rfl) dX6_firstUnlike_110
      · have c_3 := sm_Nlt (a := l1) (b := h1) (sm_nle c_3) (by omega) (by omega)
        refine lv_iload_n hx hb dX6_firstUnlike_51 rfl (lv_at hl 3 rfl) ?_
        refine lv_iload hx hb dX6_firstUnlike_52 (lv_at hl 4 rfl) ?_
        refine lv_iload_n hx hb dX6_firstUnlike_54 rfl (lv_at hl 3 rfl) ?_
        refine lv_isub hx hb dX6_firstUnlike_55 ?_
        refine sm_re (y := nI (h1 - l1)) (pk_sub (a := h1) (b := l1) (by omega)) ?_
        refine lv_iconst (v := 2) hx hb dX6_firstUnlike_56 (by decide) ?_
        refine lv_idiv hx hb dX6_firstUnlike_57 (by decide) ?_
        refine sm_re (y := nI ((h1 - l1) / 2)) (pk_div (a := h1 - l1) (d := 2) (by omega) (by decide) (by decide)) ?_
        refine lv_iadd hx hb dX6_firstUnlike_58 ?_
        refine sm_re (y := nI (l1 + (h1 - l1) / 2)) (nI_add l1 ((h1 - l1) / 2)) ?_
        refine lv_istore (lv' := [(6, .int (nI (l1 + (h1 - l1) / 2))), (0, .ref (ad 0)), (1, .int (nI lo)), (2, .int (nI hi)), (3, .int (nI l1)), (4, .int (nI h1)), (5, .int (nI i))]) hx hb dX6_firstUnlike_59 hl (by decide) rfl (fun ls hl => ?_)
        refine lv_aload_n hx hb dX6_firstUnlike_61 rfl (lv_at hl 1 rfl) ?_
        refine lv_dup hx hb dX6_firstUnlike_62 rfl ?_
        refine sm_gt (ci := 6) (C := RX6) (T := TX6) (N := 12) hx hb hts inlX6 hown hK hP 0 rfl rfl 11 (by decide) wf_RX6_68 rfl dX6_firstUnlike_63 ?_
        refine lv_iconst (v := 1) hx hb dX6_firstUnlike_66 (by decide) ?_
        refine lv_iadd hx hb dX6_firstUnlike_67 ?_
        refine sm_re (y := nI (q + 1)) (nI_1 q) ?_
        refine sm_pt (ci := 6) (C := RX6) (T := TX6) (N := 12) hx hb hts inlX6 tyX6 tyX6_ok nmX6 hown hK hP hD hS 0 rfl rfl 11 (by decide) wf_RX6_68 rfl rfl rfl (Nat.le_of_ble_eq_true rfl) dX6_firstUnlike_68 (fun H locs hP hD hS => ?_)
        have hP : va_P D.1 sm_cl (sm_w6 D ad P S T L M C r ph fo ne no (q + 1) wr) H := hP
        have hD : va_D (sm_ad (sm_w6 D ad P S T L M C cp ph fo ne no rc wr)) (sm_w6 D ad P S T L M C r ph fo ne no (q + 1) wr) := hD
        refine lv_aload_n hx hb dX6_firstUnlike_71 rfl (lv_at hl 1 rfl) ?_
        refine lv_iload_n hx hb dX6_firstUnlike_72 rfl (lv_at hl 4 rfl) ?_
        refine lv_iload hx hb dX6_firstUnlike_73 (lv_at hl 0 rfl) ?_
        refine sm_cVCr (rest := []) hC hK hP hD hS hZ (c_X6_areSumsSame D ad P S T L M C r ph fo ne no (q + 1) wr l1 (l1 + (h1 - l1) / 2) (by omega) (by omega) hP6) qyX6_areSumsSame wl_RX6_126 ⟨Nat.le_of_ble_eq_true rfl, Nat.le_of_ble_eq_true rfl⟩ 0 rfl rfl rfl hl.1 rfl (Nat.le_of_ble_eq_true rfl) dX6_firstUnlike_75 ⟨Nat.le_of_ble_eq_true rfl, Nat.le_of_ble_eq_true rfl⟩ (fun w1 H locs hB hP hD hS => ?_)
        obtain ⟨cp_4, rfl⟩ := hB
        refine lv_if_eq (tgt := 99) hx hb dX6_firstUnlike_78 (by decide) (fun c_5 => ?_) (fun c_5 => ?_)
        · have c_5 := sm_b0 c_5
          refine lv_iload hx hb dX6_firstUnlike_99 (lv_at hl 0 rfl) ?_
          refine lv_istore (lv' := [(4, .int (nI (l1 + (h1 - l1) / 2))), (6, .int (nI (l1 + (h1 - l1) / 2))), (0, .ref (ad 0)), (1, .int (nI lo)), (2, .int (nI hi)), (3, .int (nI l1)), (5, .int (nI i))]) hx hb dX6_firstUnlike_101 hl (by decide) rfl (fun ls hl => ?_)
          refine lv_iinc (v := nI (i + 1)) (lv' := [(5, .int (nI (i + 1))), (4, .int (nI (l1 + (h1 - l1) / 2))), (6, .int (nI (l1 + (h1 - l1) / 2))), (0, .ref (ad 0)), (1, .int (nI lo)), (2, .int (nI hi)), (3, .int (nI l1))]) hx hb dX6_firstUnlike_103 hl (k := 6) rfl (nI_1 i) (by decide) rfl (fun ls hl => ?_)
          refine lv_goto (tgt := 38) hx hb dX6_firstUnlike_106 (by decide) ?_
          exact ih _ (by omega) (i + 1) l1 (l1 + (h1 - l1) / 2) (q + 1) cp_4 _ _ ls rfl (by omega) (by omega) (by omega) (by omega) (by rw [sm_fuS (by omega), if_pos c_3, if_neg (by rw [c_5]; decide)] at hR; exact hR) hP hD hS (lv_sub hl [3, 4, 5, 6, 1, 0] rfl)
        · have c_5 := sm_b1 c_5
          refine lv_iload hx hb dX6_firstUnlike_81 (lv_at hl 0 rfl) ?_
          refine lv_iconst (v := 1) hx hb dX6_firstUnlike_83 (by decide) ?_
          refine lv_iadd hx hb dX6_firstUnlike_84 ?_
          refine sm_re (y := nI (l1 + (h1 - l1) / 2 + 1)) (nI_1 (l1 + (h1 - l1) / 2)) ?_
          refine lv_istore_n (lv' := [(3, .int (nI (l1 + (h1 - l1) / 2 + 1))), (6, .int (nI (l1 + (h1 - l1) / 2))), (0, .ref (ad 0)), (1, .int (nI lo)), (2, .int (nI hi)), (4, .int (nI h1)), (5, .int (nI i))]) hx hb dX6_firstUnlike_85 rfl hl (by decide) rfl (fun ls hl => ?_)
          refine lv_aload_n hx hb dX6_firstUnlike_86 rfl (lv_at hl 2 rfl) ?_
          refine lv_dup hx hb dX6_firstUnlike_87 rfl ?_
          refine sm_gt (ci := 6) (C := RX6) (T := TX6) (N := 12) hx hb hts inlX6 hown hK hP 0 rfl rfl 11 (by decide) wf_RX6_68 rfl dX6_firstUnlike_88 ?_
          refine lv_iconst (v := 1) hx hb dX6_firstUnlike_91 (by decide) ?_
          refine lv_iadd hx hb dX6_firstUnlike_92 ?_
          refine sm_re (y := nI ((q + 1) + 1)) (nI_1 (q + 1)) ?_
          refine sm_pt (ci := 6) (C := RX6) (T := TX6) (N := 12) hx hb hts inlX6 tyX6 tyX6_ok nmX6 hown hK hP hD hS 0 rfl rfl 11 (by decide) wf_RX6_68 rfl rfl rfl (Nat.le_of_ble_eq_true rfl) dX6_firstUnlike_93 (fun H locs hP hD hS => ?_)
          have hP : va_P D.1 sm_cl (sm_w6 D ad P S T L M C cp_4 ph fo ne no ((q + 1) + 1) wr) H := hP
          have hD : va_D (sm_ad (sm_w6 D ad P S T L M C cp ph fo ne no rc wr)) (sm_w6 D ad P S T L M C cp_4 ph fo ne no ((q + 1) + 1) wr) := hD
          refine lv_goto (tgt := 103) hx hb dX6_firstUnlike_96 (by decide) ?_
          refine lv_iinc (v := nI (i + 1)) (lv' := [(5, .int (nI (i + 1))), (3, .int (nI (l1 + (h1 - l1) / 2 + 1))), (6, .int (nI (l1 + (h1 - l1) / 2))), (0, .ref (ad 0)), (1, .int (nI lo)), (2, .int (nI hi)), (4, .int (nI h1))]) hx hb dX6_firstUnlike_103 hl (k := 6) rfl (nI_1 i) (by decide) rfl (fun ls hl => ?_)
          refine lv_goto (tgt := 38) hx hb dX6_firstUnlike_106 (by decide) ?_
          exact ih _ (by omega) (i + 1) ((l1 + (h1 - l1) / 2) + 1) h1 (q + 1 + 1) cp_4 _ _ ls rfl (by omega) (by omega) (by omega) (by omega) (by rw [sm_fuS (by omega), if_pos c_3, if_pos c_5] at hR; exact hR) hP hD hS (lv_sub hl [3, 4, 5, 1, 6, 0] rfl)
  · have c_2 := sm_b1 c_2
    exact sm_throwW hlt hC htab hK hZ hP hD hS (by simp [sm_k2n, sm_rs, c_2]) (by exact ⟨cp_1, by simp [c_2]⟩) hl.1 sm_xNS (List.mem_of_getElem? (i := 21) rfl) dX6_firstUnlike_19 dX6_firstUnlike_22 dX6_firstUnlike_23 dX6_firstUnlike_26 dX6_firstUnlike_29 ⟨Nat.lt_of_lt_of_le (by decide) (Nat.le_of_ble_eq_true (rfl : Nat.ble 6 _ = true)), Nat.le_of_ble_eq_true rfl, Nat.le_of_ble_eq_true rfl, Nat.le_of_ble_eq_true rfl⟩ (Nat.le_of_ble_eq_true rfl) (Nat.le_of_ble_eq_true rfl)

set_option maxHeartbeats 1000000 in
set_option maxRecDepth 100000 in
theorem c_X6_isAllMoved (hP6 : P.1 ≤ 6) : sm_MC l yX6_isAllMoved cX6_isAllMoved 2 (some .boolean) 5 110 [.ref (ad 0)] D (sm_w6 D ad P S T L M C cp ph fo ne no rc wr) (fun w => ∃ (cp' : sm_Cp), w = sm_w6 D ad P S T L M C (cp') ph fo ne no rc wr) (some (.int (sm_b (sm_iam P S T)))) := by
  refine sm_met (own := RX6) (by decide) rfl (Nat.le_of_ble_eq_true rfl) ?_
  intro p e s m below meth c ls hC hv hl
  obtain ⟨hx, hb, hml, hr, hown, hlk, hts⟩ := id hC
  obtain ⟨⟨hP, hK⟩, hD, hZ⟩ := hv
  have hS : va_S (sm_ad (sm_w6 D ad P S T L M C cp ph fo ne no rc wr)) s.heap s.heap [] := va_S.rf
  have hl : lv_has ls 2 [(0, .ref (ad 0))] := hl
  have hcn : sm_cnG S.1 40 0 0 ≤ 40 + 0 := sm_cnle _ _ _ _
  have hcm : sm_cnG (fun i => decide (sm_stF P S T i = 101)) 40 0 0 ≤ 40 + 0 := sm_cnle _ _ _ _
  refine lv_aload_n hx hb dX6_isAllMoved_0 rfl (lv_at hl 0 rfl) ?_
  refine sm_gt (ci := 6) (C := RX6) (T := TX6) (N := 12) hx hb hts inlX6 hown hK hP 0 rfl rfl 1 (by decide) wf_RX6_19 rfl dX6_isAllMoved_1 ?_
  refine sm_cVPr (rest := []) hC hK hP (c_X3_count_s D ad P S T L M C cp ph fo ne no rc wr ) qyX3_count wl_RX6_101 ⟨Nat.le_of_ble_eq_true rfl, Nat.le_of_ble_eq_true rfl⟩ 4 rfl rfl rfl hl.1 rfl (Nat.le_of_ble_eq_true rfl) dX6_isAllMoved_4 ⟨Nat.le_of_ble_eq_true rfl, Nat.le_of_ble_eq_true rfl⟩ ?_
  refine lv_istore_n (lv' := [(1, .int (nI (sm_cnG S.1 40 0 0))), (0, .ref (ad 0))]) hx hb dX6_isAllMoved_7 rfl hl (by decide) rfl (fun ls hl => ?_)
  refine lv_iload_n hx hb dX6_isAllMoved_8 rfl (lv_at hl 0 rfl) ?_
  refine lv_if_le (tgt := 24) hx hb dX6_isAllMoved_9 (by decide) (fun c_1 => ?_) (fun c_1 => ?_)
  · have c_1 := sm_Nnl (a := 0) (b := sm_cnG S.1 40 0 0) (sm_nl c_1) (by omega) (by omega)
    refine lv_iconst (v := 0) hx hb dX6_isAllMoved_24 (by decide) ?_
    exact sm_retC hC hP hD hS (by first | rfl | (simp [sm_iam, sm_b, c_1]; done) | (simp [sm_iam, sm_b] at c_1; simp [sm_iam, sm_b, c_1]; done) | (simp_all [sm_iam, sm_b]; done)) (by decide) (by exact ⟨cp, by rfl⟩) dX6_isAllMoved_25
  · have c_1 := sm_Nlt (a := 0) (b := sm_cnG S.1 40 0 0) (sm_nle c_1) (by omega) (by omega)
    refine lv_aload_n hx hb dX6_isAllMoved_12 rfl (lv_at hl 1 rfl) ?_
    refine sm_cVCr (rest := []) hC hK hP hD hS hZ (c_X6_countMoved D ad P S T L M C cp ph fo ne no rc wr hP6) qyX6_countMoved wl_RX6_303 ⟨Nat.le_of_ble_eq_true rfl, Nat.le_of_ble_eq_true rfl⟩ 0 rfl rfl rfl hl.1 rfl (Nat.le_of_ble_eq_true rfl) dX6_isAllMoved_13 ⟨Nat.le_of_ble_eq_true rfl, Nat.le_of_ble_eq_true rfl⟩ (fun w1 H locs hB hP hD hS => ?_)
    obtain ⟨cp_2, rfl⟩ := hB
    refine lv_iload_n hx hb dX6_isAllMoved_16 rfl (lv_at hl 0 rfl) ?_
    refine lv_icmp_ne (tgt := 24) hx hb dX6_isAllMoved_17 (by decide) (fun c_3 => ?_) (fun c_3 => ?_)
    · have c_3 := sm_Nne (a := sm_cnG (fun i => decide (sm_stF P S T i = 101)) 40 0 0) (b := sm_cnG S.1 40 0 0) c_3 (by omega) (by omega)
      refine lv_iconst (v := 0) hx hb dX6_isAllMoved_24 (by decide) ?_
      exact sm_retC hC hP hD hS (by first | rfl | (simp [sm_iam, sm_b, c_1, c_3]; done) | (simp [sm_iam, sm_b] at c_1 c_3; simp [sm_iam, sm_b, c_1, c_3]; done) | (simp_all [sm_iam, sm_b]; done)) (by decide) (by exact ⟨cp_2, by rfl⟩) dX6_isAllMoved_25
    · have c_3 := sm_Neq (a := sm_cnG (fun i => decide (sm_stF P S T i = 101)) 40 0 0) (b := sm_cnG S.1 40 0 0) c_3 (by omega) (by omega)
      refine lv_iconst (v := 1) hx hb dX6_isAllMoved_20 (by decide) ?_
      refine lv_goto (tgt := 25) hx hb dX6_isAllMoved_21 (by decide) ?_
      exact sm_retC hC hP hD hS (by first | rfl | (simp [sm_iam, sm_b, c_1, c_3]; done) | (simp [sm_iam, sm_b] at c_1 c_3; simp [sm_iam, sm_b, c_1, c_3]; done) | (simp_all [sm_iam, sm_b]; done)) (by decide) (by exact ⟨cp_2, by rfl⟩) dX6_isAllMoved_25

end
