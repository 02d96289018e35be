/-! the reference: going back, writing, reading, places of parts -/
section
def sm_mBk (P : sm_Sp) (T : sm_Tg) (nm : Nat → Bool) (ph : Int32) : Int32 := if ph = 116 then (if sm_cMG P T nm 40 0 = true then 0 else 2) else 1
def sm_gMG (P : sm_Sp) (T : sm_Tg) : Nat → Nat → sm_Rw → (Nat → Bool) → Nat → sm_Rw × (Nat → Bool) × Nat
  | 0, _, r, u, q => (r, u, q)
  | n + 1, i, r, u, q => if u i = true then sm_gMG P T n (i + 1) (sm_cbS P T r i) (va_up u i false) (if sm_cbR P T r i = true then q + 1 else q) else sm_gMG P T n (i + 1) r (va_up u i false) q
theorem sm_gMS {P : sm_Sp} {T : sm_Tg} {n i q : Nat} {r : sm_Rw} {u : Nat → Bool} (h : i < n) : sm_gMG P T (n - i) i r u q = if u i = true then sm_gMG P T (n - (i + 1)) (i + 1) (sm_cbS P T r i) (va_up u i false) (if sm_cbR P T r i = true then q + 1 else q) else sm_gMG P T (n - (i + 1)) (i + 1) r (va_up u i false) q := by
  obtain ⟨k, hk⟩ : ∃ k, n - i = k + 1 := ⟨n - i - 1, by omega⟩
  rw [hk, show n - (i + 1) = k by omega]
  rfl
theorem sm_gtb7 {P : sm_Sp} {T : sm_Tg} {u : Nat → Bool} {i : Nat} (h : ∀ j, u j = true → sm_kd T j 1 = true → j < 40 → sm_tb P T j = true) : ∀ j, va_up u i false j = true → sm_kd T j 1 = true → j < 40 → sm_tb P T j = true := by
  intro j h1
  unfold va_up at h1
  split at h1
  · cases h1
  · exact h j h1
theorem sm_cMt' {P : sm_Sp} {T : sm_Tg} {nm : Nat → Bool} : ∀ (n i : Nat), sm_cMG P T nm n i = true → ∀ j, i ≤ j → j < i + n → nm j = true → sm_kd T j 1 = true → sm_tb P T j = true := by
  intro n
  induction n with
  | zero => intro i _ j h1 h2; omega
  | succ n ih =>
    intro i h j h1 h2 h3 h4
    have h : (if nm i = true then (if sm_kd T i 1 = true then (if sm_tb P T i = true then sm_cMG P T nm n (i + 1) else false) else sm_cMG P T nm n (i + 1)) else sm_cMG P T nm n (i + 1)) = true := h
    by_cases e : j = i
    · subst e
      rw [if_pos h3, if_pos h4] at h
      split at h
      · assumption
      · cases h
    · have h7 : sm_cMG P T nm n (i + 1) = true := by
        split at h
        · split at h
          · split at h
            · exact h
            · cases h
          · exact h
        · exact h
      exact ih (i + 1) h7 j (by omega) (by omega) h3 h4
theorem sm_cMt {P : sm_Sp} {T : sm_Tg} {nm : Nat → Bool} (h : sm_cMG P T nm 40 0 = true) : ∀ j, nm j = true → sm_kd T j 1 = true → j < 40 → sm_tb P T j = true := fun j h1 h2 h3 => sm_cMt' 40 0 h j (by omega) (by omega) h1 h2
theorem sm_in_bt (m a : Int32) : sm_in m a = sm_bt (-m) m a := rfl
/-- what the reference's write and delete answer: in 't' the target's entry, else the source's row -/
def sm_liv (ph : Int32) (T : sm_Tg) (S : sm_Rw) (k : Nat) : Bool := if ph = 116 then sm_kd T k 1 else S.1 k
def sm_mDl (ph : Int32) (T : sm_Tg) (S : sm_Rw) (L : sm_Lg) (n2 k : Nat) : Int32 := if ph = 100 then 2 else if sm_liv ph T S k = true then (if sm_lf ph L (n2, L.2) = true then 2 else 0) else 0
def sm_fpG (f : Nat → Int32) : Nat → Nat → Nat
  | 0, _ => 8
  | n + 1, i => if f i < 0 then i else sm_fpG f n (i + 1)
theorem sm_fpS {f : Nat → Int32} {n i : Nat} (h : i < n) : sm_fpG f (n - i) i = if f i < 0 then i else sm_fpG f (n - (i + 1)) (i + 1) := by
  obtain ⟨k, hk⟩ : ∃ k, n - i = k + 1 := ⟨n - i - 1, by omega⟩
  rw [hk, show n - (i + 1) = k by omega]
  rfl
def sm_plG (f : Nat → Int32) (x : Int32) : Nat → Nat → Nat
  | 0, _ => 8
  | n + 1, i => if f i = x then i else sm_plG f x n (i + 1)
theorem sm_plS {f : Nat → Int32} {x : Int32} {n i : Nat} (h : i < n) : sm_plG f x (n - i) i = if f i = x then i else sm_plG f x (n - (i + 1)) (i + 1) := by
  obtain ⟨k, hk⟩ : ∃ k, n - i = k + 1 := ⟨n - i - 1, by omega⟩
  rw [hk, show n - (i + 1) = k by omega]
  rfl
variable {l : Launch} (D : sm_G) (am : Nat → Nat) (P : sm_Sp) (S : sm_Rw) (T : sm_Tg) (L : sm_Lg) (nm : Nat → Bool) (Z : sm_Qt) (cp : sm_Cp) (ph : Int32) (th : Int32) (n2 fo rd np pw ev od rc : Nat) (wr : va_W)
set_option maxHeartbeats 1000000 in
set_option maxRecDepth 100000 in
theorem c_X7_goBack (hn2 : n2 ≤ 120) (hP6 : P.1 ≤ 6) (hOK : ∀ i, i < P.1 → sm_kOK (P.2.1 i) (P.2.2 i)) : sm_MC l yX7_goBack cX7_goBack 3 (some .int) 4 89 [.ref (am 0)] D (sm_w7 D am P S T L nm Z cp ph th n2 fo rd np pw ev od rc wr) (fun w => ∃ (cp' : sm_Cp), w = sm_w7 D am P (if sm_mBk P T nm ph = 0 then (sm_gMG P T 40 0 S nm 0).1 else S) T L (if sm_mBk P T nm ph = 0 then (sm_gMG P T 40 0 S nm 0).2.1 else nm) Z (cp') (if sm_mBk P T nm ph = 0 then 98 else ph) (sm_mBk P T nm ph) (if sm_mBk P T nm ph = 0 then 0 else n2) fo rd np pw ev od rc wr) (some (.int (if sm_mBk P T nm ph = 0 then nI (sm_gMG P T 40 0 S nm 0).2.2 else 0))) := by
  refine sm_met (own := RX7) (by decide) rfl (Nat.le_of_ble_eq_true rfl) ?_
  intro p e s m below meth c ls hC hv hl
  obtain ⟨hx, hb, hml, hr, hown, hlk, hts⟩ := id hC
  obtain ⟨⟨hP, hK⟩, hD, hZ⟩ := hv
  have hS : va_S (sm_ad (sm_w7 D am P S T L nm Z cp ph th n2 fo rd np pw ev od rc wr)) s.heap s.heap [] := va_S.rf
  have hl : lv_has ls 3 [(0, .ref (am 0))] := hl
  refine lv_aload_n hx hb dX7_goBack_0 rfl (lv_at hl 0 rfl) ?_
  refine lv_aload_n hx hb dX7_goBack_1 rfl (lv_at hl 0 rfl) ?_
  refine sm_gt (ci := 7) (C := RX7) (T := TX7) (N := 33) hx hb hts inlX7 hown hK hP 0 rfl rfl 32 (by decide) wf_RX7_109 rfl dX7_goBack_2 ?_
  refine lv_bipush (v := 116) hx hb dX7_goBack_5 (by decide) ?_
  refine lv_icmp_eq (tgt := 14) hx hb dX7_goBack_7 (by decide) (fun c_1 => ?_) (fun c_1 => ?_)
  · have c_1_ := c_1
    refine lv_aload_n hx hb dX7_goBack_14 rfl (lv_at hl 0 rfl) ?_
    refine sm_cVCr (rest := [.ref (am 0)]) hC hK hP hD hS hZ (c_X7_canGoBack D am P S T L nm Z cp ph th n2 fo rd np pw ev od rc wr hP6 hOK) qyX7_canGoBack wl_RX7_177 ⟨Nat.le_of_ble_eq_true rfl, Nat.le_of_ble_eq_true rfl⟩ 0 rfl rfl rfl hl.1 rfl (Nat.le_of_ble_eq_true rfl) dX7_goBack_15 ⟨Nat.le_of_ble_eq_true rfl, Nat.le_of_ble_eq_true rfl⟩ (fun w1 H locs hB hP hD hS => ?_)
    obtain ⟨cp_2, rfl⟩ := hB
    refine lv_if_ne (tgt := 25) hx hb dX7_goBack_18 (by decide) (fun c_3 => ?_) (fun c_3 => ?_)
    · have c_3 := sm_b1 c_3
      refine lv_iconst (v := 0) hx hb dX7_goBack_25 (by decide) ?_
      refine sm_pt (ci := 7) (C := RX7) (T := TX7) (N := 33) hx hb hts inlX7 tyX7 tyX7_ok nmX7 hown hK hP hD hS 0 rfl rfl 19 (by decide) wf_RX7_69 rfl rfl rfl (Nat.le_of_ble_eq_true rfl) dX7_goBack_26 (fun H locs hP hD hS => ?_)
      have hP : va_P D.1 sm_cl (sm_w7 D am P S T L nm Z cp_2 ph 0 n2 fo rd np pw ev od rc wr) H := hP
      have hD : va_D (sm_ad (sm_w7 D am P S T L nm Z cp ph th n2 fo rd np pw ev od rc wr)) (sm_w7 D am P S T L nm Z cp_2 ph 0 n2 fo rd np pw ev od rc wr) := hD
      refine lv_aload_n hx hb dX7_goBack_29 rfl (lv_at hl 0 rfl) ?_
      refine sm_gt (ci := 7) (C := RX7) (T := TX7) (N := 33) hx hb hts inlX7 hown hK hP 0 rfl rfl 19 (by decide) wf_RX7_69 rfl dX7_goBack_30 ?_
      refine lv_if_le (tgt := 38) hx hb dX7_goBack_33 (by decide) (fun _ => ?_) (fun h => absurd h (by decide))
      refine lv_iconst (v := 0) hx hb dX7_goBack_38 (by decide) ?_
      refine lv_istore_n (lv' := [(1, .int 0), (0, .ref (am 0))]) hx hb dX7_goBack_39 rfl hl (by decide) rfl (fun ls hl => ?_)
      refine lv_iconst (v := 0) hx hb dX7_goBack_40 (by decide) ?_
      refine lv_istore_n (lv' := [(2, .int 0), (1, .int 0), (0, .ref (am 0))]) hx hb dX7_goBack_41 rfl hl (by decide) rfl (fun ls hl => ?_)
      have hcm := c_3
      suffices K : ∀ (n : Nat) (i : Nat) (q : Nat) (r : sm_Rw) (u : Nat → Bool) (t : sm_Cp) (H : Heap) (locs : List Loc) (ls : Array Slot), 40 - i = n → (i ≤ 40) → (∀ j, u j = true → sm_kd T j 1 = true → j < 40 → sm_tb P T j = true) → (sm_gMG P T (40 - i) i r u q = sm_gMG P T 40 0 S nm 0) → va_P D.1 sm_cl (sm_w7 D am P r T L u Z t ph 0 n2 fo rd np pw ev od rc wr) H → va_D (sm_ad (sm_w7 D am P S T L nm Z cp ph th n2 fo rd np pw ev od rc wr)) (sm_w7 D am P r T L u Z t ph 0 n2 fo rd np pw ev od rc wr) → va_S (sm_ad (sm_w7 D am P S T L nm Z cp ph th n2 fo rd np pw ev od rc wr)) s.heap H locs → lv_has ls 3 [(0, .ref (am 0)), (1, .int (nI q)), (2, .int (nI i))] → W p l e ({ frames := 4, cells := 0, slots := 0, locals := 89 } : Room) s m ([.ref (am 0)] : List Value).toArray below meth c H locs 0 0 (MQ below (sm_Qc D (sm_w7 D am P S T L nm Z cp ph th n2 fo rd np pw ev od rc wr) (fun w => ∃ (cp' : sm_Cp), w = sm_w7 D am P (if sm_mBk P T nm ph = 0 then (sm_gMG P T 40 0 S nm 0).1 else S) T L (if sm_mBk P T nm ph = 0 then (sm_gMG P T 40 0 S nm 0).2.1 else nm) Z (cp') (if sm_mBk P T nm ph = 0 then 98 else ph) (sm_mBk P T nm ph) (if sm_mBk P T nm ph = 0 then 0 else n2) fo rd np pw ev od rc wr) (some (.int (if sm_mBk P T nm ph = 0 then nI (sm_gMG P T 40 0 S nm 0).2.2 else 0)))) ([.ref (am 0)] : List Value).toArray s 0 0 (sm_ad (sm_w7 D am P S T L nm Z cp ph th n2 fo rd np pw ev od rc wr))) (F0 m 42 ls []) from K _ 0 0 S nm cp_2 _ _ ls rfl (by omega) (sm_cMt hcm) (rfl) hP hD hS (lv_sub hl [2, 1, 0] rfl)
      intro n
      induction n using Nat.strongRecOn with
      | ind n ih =>
        intro i q r u t H locs ls hn hi htq hR hP hD hS hl
        refine lv_iload_n hx hb dX7_goBack_42 rfl (lv_at hl 2 rfl) ?_
        refine lv_bipush (v := 40) hx hb dX7_goBack_43 (by decide) ?_
        refine lv_icmp_ge (tgt := 81) hx hb dX7_goBack_45 (by decide) (fun c_4 => ?_) (fun c_4 => ?_)
        · have c_4 := sm_Nnl (a := i) (b := 40) (sm_nl c_4) (by omega) (by omega)
          refine lv_aload_n hx hb dX7_goBack_81 rfl (lv_at hl 0 rfl) ?_
          refine lv_iconst (v := 0) hx hb dX7_goBack_82 (by decide) ?_
          refine sm_pt (ci := 7) (C := RX7) (T := TX7) (N := 33) hx hb hts inlX7 tyX7 tyX7_ok nmX7 hown hK hP hD hS 0 rfl rfl 23 (by decide) wf_RX7_82 rfl rfl rfl (Nat.le_of_ble_eq_true rfl) dX7_goBack_83 (fun H locs hP hD hS => ?_)
          have hP : va_P D.1 sm_cl (sm_w7 D am P r T L u Z t ph 0 0 fo rd np pw ev od rc wr) H := hP
          have hD : va_D (sm_ad (sm_w7 D am P S T L nm Z cp ph th n2 fo rd np pw ev od rc wr)) (sm_w7 D am P r T L u Z t ph 0 0 fo rd np pw ev od rc wr) := hD
          refine lv_aload_n hx hb dX7_goBack_86 rfl (lv_at hl 0 rfl) ?_
          refine lv_bipush (v := 98) hx hb dX7_goBack_87 (by decide) ?_
          refine sm_pt (ci := 7) (C := RX7) (T := TX7) (N := 33) hx hb hts inlX7 tyX7 tyX7_ok nmX7 hown hK hP hD hS 0 rfl rfl 32 (by decide) wf_RX7_109 rfl (by decide) rfl (Nat.le_of_ble_eq_true rfl) dX7_goBack_89 (fun H locs hP hD hS => ?_)
          have hP : va_P D.1 sm_cl (sm_w7 D am P r T L u Z t 98 0 0 fo rd np pw ev od rc wr) H := hP
          have hD : va_D (sm_ad (sm_w7 D am P S T L nm Z cp ph th n2 fo rd np pw ev od rc wr)) (sm_w7 D am P r T L u Z t 98 0 0 fo rd np pw ev od rc wr) := hD
          refine lv_iload_n hx hb dX7_goBack_92 rfl (lv_at hl 1 rfl) ?_
          exact sm_retC hC hP hD hS (by rw [show 40 - i = 0 by omega] at hR; have h1 : r = _ := congrArg Prod.fst hR; have h2 : u = _ := congrArg (fun z => z.2.1) hR; have h3 : q = _ := congrArg (fun z => z.2.2) hR; simp [sm_mBk, h3, c_1, c_3]) rfl (by exact ⟨t, by rw [show 40 - i = 0 by omega] at hR; have h1 : r = _ := congrArg Prod.fst hR; have h2 : u = _ := congrArg (fun z => z.2.1) hR; have h3 : q = _ := congrArg (fun z => z.2.2) hR; simp [sm_mBk, h1, h2, c_1, c_3]⟩) dX7_goBack_93
        · have c_4 := sm_Nlt (a := i) (b := 40) (sm_nle c_4) (by omega) (by omega)
          refine lv_aload_n hx hb dX7_goBack_48 rfl (lv_at hl 0 rfl) ?_
          refine sm_gt (ci := 7) (C := RX7) (T := TX7) (N := 33) hx hb hts inlX7 hown hK hP 0 rfl rfl 9 (by decide) wf_RX7_39 rfl dX7_goBack_49 ?_
          refine lv_iload_n hx hb dX7_goBack_52 rfl (lv_at hl 2 rfl) ?_
          refine sm_zld hx hb hK hP 10 rfl i rfl (by omega) (by decide) dX7_goBack_53 ?_
          refine lv_if_eq (tgt := 68) hx hb dX7_goBack_54 (by decide) (fun c_5 => ?_) (fun c_5 => ?_)
          · have c_5 := sm_b0 c_5
            refine lv_aload_n hx hb dX7_goBack_68 rfl (lv_at hl 0 rfl) ?_
            refine sm_gt (ci := 7) (C := RX7) (T := TX7) (N := 33) hx hb hts inlX7 hown hK hP 0 rfl rfl 9 (by decide) wf_RX7_39 rfl dX7_goBack_69 ?_
            refine lv_iload_n hx hb dX7_goBack_72 rfl (lv_at hl 2 rfl) ?_
            refine lv_iconst (v := 0) hx hb dX7_goBack_73 (by decide) ?_
            refine sm_zst hx hb hK hP hD hS 10 rfl false rfl i rfl (by omega) (by decide) dX7_goBack_74 (fun H locs hP hD hS => ?_)
            have hP : va_P D.1 sm_cl (sm_w7 D am P r T L (va_up u i false) Z t ph 0 n2 fo rd np pw ev od rc wr) H := hP
            have hD : va_D (sm_ad (sm_w7 D am P S T L nm Z cp ph th n2 fo rd np pw ev od rc wr)) (sm_w7 D am P r T L (va_up u i false) Z t ph 0 n2 fo rd np pw ev od rc wr) := hD
            refine lv_iinc (v := nI (i + 1)) (lv' := [(2, .int (nI (i + 1))), (0, .ref (am 0)), (1, .int (nI q))]) hx hb dX7_goBack_75 hl (k := 2) rfl (nI_1 i) (by decide) rfl (fun ls hl => ?_)
            refine lv_goto (tgt := 42) hx hb dX7_goBack_78 (by decide) ?_
            exact ih _ (by omega) (i + 1) q r (va_up u i false) t _ _ ls rfl (by omega) (sm_gtb7 htq) (by rw [sm_gMS (by omega), if_neg (by rw [c_5]; decide)] at hR; exact hR) hP hD hS (lv_sub hl [1, 2, 0] rfl)
          · have c_5 := sm_b1 c_5
            refine lv_aload_n hx hb dX7_goBack_57 rfl (lv_at hl 0 rfl) ?_
            refine lv_iload_n hx hb dX7_goBack_58 rfl (lv_at hl 2 rfl) ?_
            refine sm_cVCr (rest := []) hC hK hP hD hS hZ (c_X7_goesBack D am P r T L u Z t ph 0 n2 fo rd np pw ev od rc wr i (by omega) (fun z => htq i c_5 z (by omega)) hP6 hOK) qyX7_goesBack wl_RX7_181 ⟨Nat.le_of_ble_eq_true rfl, Nat.le_of_ble_eq_true rfl⟩ 0 rfl rfl rfl hl.1 rfl (Nat.le_of_ble_eq_true rfl) dX7_goBack_59 ⟨Nat.le_of_ble_eq_true rfl, Nat.le_of_ble_eq_true rfl⟩ (fun w1 H locs hB hP hD hS => ?_)
            obtain ⟨cp_6, rfl⟩ := hB
            refine lv_if_eq (tgt := 68) hx hb dX7_goBack_62 (by decide) (fun c_7 => ?_) (fun c_7 => ?_)
            · have c_7 := sm_b0 c_7
              refine lv_aload_n hx hb dX7_goBack_68 rfl (lv_at hl 0 rfl) ?_
              refine sm_gt (ci := 7) (C := RX7) (T := TX7) (N := 33) hx hb hts inlX7 hown hK hP 0 rfl rfl 9 (by decide) wf_RX7_39 rfl dX7_goBack_69 ?_
              refine lv_iload_n hx hb dX7_goBack_72 rfl (lv_at hl 2 rfl) ?_
              refine lv_iconst (v := 0) hx hb dX7_goBack_73 (by decide) ?_
              refine sm_zst hx hb hK hP hD hS 10 rfl false rfl i rfl (by omega) (by decide) dX7_goBack_74 (fun H locs hP hD hS => ?_)
              have hP : va_P D.1 sm_cl (sm_w7 D am P (sm_cbS P T r i) T L (va_up u i false) Z cp_6 ph 0 n2 fo rd np pw ev od rc wr) H := hP
              have hD : va_D (sm_ad (sm_w7 D am P S T L nm Z cp ph th n2 fo rd np pw ev od rc wr)) (sm_w7 D am P (sm_cbS P T r i) T L (va_up u i false) Z cp_6 ph 0 n2 fo rd np pw ev od rc wr) := hD
              refine lv_iinc (v := nI (i + 1)) (lv' := [(2, .int (nI (i + 1))), (0, .ref (am 0)), (1, .int (nI q))]) hx hb dX7_goBack_75 hl (k := 2) rfl (nI_1 i) (by decide) rfl (fun ls hl => ?_)
              refine lv_goto (tgt := 42) hx hb dX7_goBack_78 (by decide) ?_
              exact ih _ (by omega) (i + 1) q (sm_cbS P T r i) (va_up u i false) cp_6 _ _ ls rfl (by omega) (sm_gtb7 htq) (by rw [sm_gMS (by omega), if_pos c_5, if_neg (by rw [c_7]; decide)] at hR; exact hR) hP hD hS (lv_sub hl [1, 2, 0] rfl)
            · have c_7 := sm_b1 c_7
              refine lv_iinc (v := nI (q + 1)) (lv' := [(1, .int (nI (q + 1))), (0, .ref (am 0)), (2, .int (nI i))]) hx hb dX7_goBack_65 hl (k := 1) rfl (nI_1 q) (by decide) rfl (fun ls hl => ?_)
              refine lv_aload_n hx hb dX7_goBack_68 rfl (lv_at hl 1 rfl) ?_
              refine sm_gt (ci := 7) (C := RX7) (T := TX7) (N := 33) hx hb hts inlX7 hown hK hP 0 rfl rfl 9 (by decide) wf_RX7_39 rfl dX7_goBack_69 ?_
              refine lv_iload_n hx hb dX7_goBack_72 rfl (lv_at hl 2 rfl) ?_
              refine lv_iconst (v := 0) hx hb dX7_goBack_73 (by decide) ?_
              refine sm_zst hx hb hK hP hD hS 10 rfl false rfl i rfl (by omega) (by decide) dX7_goBack_74 (fun H locs hP hD hS => ?_)
              have hP : va_P D.1 sm_cl (sm_w7 D am P (sm_cbS P T r i) T L (va_up u i false) Z cp_6 ph 0 n2 fo rd np pw ev od rc wr) H := hP
              have hD : va_D (sm_ad (sm_w7 D am P S T L nm Z cp ph th n2 fo rd np pw ev od rc wr)) (sm_w7 D am P (sm_cbS P T r i) T L (va_up u i false) Z cp_6 ph 0 n2 fo rd np pw ev od rc wr) := hD
              refine lv_iinc (v := nI (i + 1)) (lv' := [(2, .int (nI (i + 1))), (1, .int (nI (q + 1))), (0, .ref (am 0))]) hx hb dX7_goBack_75 hl (k := 2) rfl (nI_1 i) (by decide) rfl (fun ls hl => ?_)
              refine lv_goto (tgt := 42) hx hb dX7_goBack_78 (by decide) ?_
              exact ih _ (by omega) (i + 1) (q + 1) (sm_cbS P T r i) (va_up u i false) cp_6 _ _ ls rfl (by omega) (sm_gtb7 htq) (by rw [sm_gMS (by omega), if_pos c_5, if_pos c_7] at hR; exact hR) hP hD hS (lv_sub hl [2, 1, 0] rfl)
    · have c_3 := sm_b0 c_3
      refine lv_iconst (v := 2) hx hb dX7_goBack_21 (by decide) ?_
      refine lv_goto (tgt := 26) hx hb dX7_goBack_22 (by decide) ?_
      refine sm_pt (ci := 7) (C := RX7) (T := TX7) (N := 33) hx hb hts inlX7 tyX7 tyX7_ok nmX7 hown hK hP hD hS 0 rfl rfl 19 (by decide) wf_RX7_69 rfl rfl rfl (Nat.le_of_ble_eq_true rfl) dX7_goBack_26 (fun H locs hP hD hS => ?_)
      have hP : va_P D.1 sm_cl (sm_w7 D am P S T L nm Z cp_2 ph 2 n2 fo rd np pw ev od rc wr) H := hP
      have hD : va_D (sm_ad (sm_w7 D am P S T L nm Z cp ph th n2 fo rd np pw ev od rc wr)) (sm_w7 D am P S T L nm Z cp_2 ph 2 n2 fo rd np pw ev od rc wr) := hD
      refine lv_aload_n hx hb dX7_goBack_29 rfl (lv_at hl 0 rfl) ?_
      refine sm_gt (ci := 7) (C := RX7) (T := TX7) (N := 33) hx hb hts inlX7 hown hK hP 0 rfl rfl 19 (by decide) wf_RX7_69 rfl dX7_goBack_30 ?_
      refine lv_if_le (tgt := 38) hx hb dX7_goBack_33 (by decide) (fun h => absurd h (by decide)) (fun _ => ?_)
      refine lv_iconst (v := 0) hx hb dX7_goBack_36 (by decide) ?_
      exact sm_retC hC hP hD hS (by subst c_1; simp [sm_k1, sm_mBk, c_3]) rfl (by exact ⟨cp_2, by subst c_1; simp [sm_k1, sm_mBk, c_3]⟩) dX7_goBack_37
  · have c_1_ := c_1
    refine lv_iconst (v := 1) hx hb dX7_goBack_10 (by decide) ?_
    refine lv_goto (tgt := 26) hx hb dX7_goBack_11 (by decide) ?_
    refine sm_pt (ci := 7) (C := RX7) (T := TX7) (N := 33) hx hb hts inlX7 tyX7 tyX7_ok nmX7 hown hK hP hD hS 0 rfl rfl 19 (by decide) wf_RX7_69 rfl rfl rfl (Nat.le_of_ble_eq_true rfl) dX7_goBack_26 (fun H locs hP hD hS => ?_)
    have hP : va_P D.1 sm_cl (sm_w7 D am P S T L nm Z cp ph 1 n2 fo rd np pw ev od rc wr) H := hP
    have hD : va_D (sm_ad (sm_w7 D am P S T L nm Z cp ph th n2 fo rd np pw ev od rc wr)) (sm_w7 D am P S T L nm Z cp ph 1 n2 fo rd np pw ev od rc wr) := hD
    refine lv_aload_n hx hb dX7_goBack_29 rfl (lv_at hl 0 rfl) ?_
    refine sm_gt (ci := 7) (C := RX7) (T := TX7) (N := 33) hx hb hts inlX7 hown hK hP 0 rfl rfl 19 (by decide) wf_RX7_69 rfl dX7_goBack_30 ?_
    refine lv_if_le (tgt := 38) hx hb dX7_goBack_33 (by decide) (fun h => absurd h (by decide)) (fun _ => ?_)
    refine lv_iconst (v := 0) hx hb dX7_goBack_36 (by decide) ?_
    exact sm_retC hC hP hD hS (by simp [sm_k1, sm_mBk, c_1]) rfl (by exact ⟨cp, by simp [sm_k1, sm_mBk, c_1]⟩) dX7_goBack_37

set_option maxHeartbeats 1000000 in
set_option maxRecDepth 100000 in
theorem c_X7_isLogFull (hL : L.1 ≤ 120) (hn2 : n2 ≤ 120) : sm_MP l yX7_isLogFull cX7_isLogFull 1 (some .boolean) 0 0 [.ref (am 0)] D (sm_w7 D am P S T L nm Z cp ph th n2 fo rd np pw ev od rc wr) (some (.int (sm_b (sm_lf ph L (n2, L.2))))) := by
  refine sm_met (own := RX7) (by decide) rfl (Nat.le_of_ble_eq_true rfl) ?_
  intro p e s m below meth c ls hC hv hl
  obtain ⟨hx, hb, hml, hr, hown, hlk, hts⟩ := id hC
  obtain ⟨hP, hK⟩ := hv
  have hl : lv_has ls 1 [(0, .ref (am 0))] := hl
  refine lv_aload_n hx hb dX7_isLogFull_0 rfl (lv_at hl 0 rfl) ?_
  refine sm_gt (ci := 7) (C := RX7) (T := TX7) (N := 33) hx hb hts inlX7 hown hK hP 0 rfl rfl 32 (by decide) wf_RX7_109 rfl dX7_isLogFull_1 ?_
  refine lv_bipush (v := 116) hx hb dX7_isLogFull_4 (by decide) ?_
  refine lv_icmp_ne (tgt := 26) hx hb dX7_isLogFull_6 (by decide) (fun c_1 => ?_) (fun c_1 => ?_)
  · have c_1_ := c_1
    refine lv_aload_n hx hb dX7_isLogFull_26 rfl (lv_at hl 0 rfl) ?_
    refine sm_gt (ci := 7) (C := RX7) (T := TX7) (N := 33) hx hb hts inlX7 hown hK hP 0 rfl rfl 32 (by decide) wf_RX7_109 rfl dX7_isLogFull_27 ?_
    refine lv_bipush (v := 105) hx hb dX7_isLogFull_30 (by decide) ?_
    refine lv_icmp_eq (tgt := 48) hx hb dX7_isLogFull_32 (by decide) (fun c_2 => ?_) (fun c_2 => ?_)
    · have c_2_ := c_2
      refine lv_iconst (v := 0) hx hb dX7_isLogFull_48 (by decide) ?_
      exact sm_retP hC (by subst c_2; simp [sm_lf, sm_full, sm_b, c_1]) (by decide) dX7_isLogFull_49
    · have c_2_ := c_2
      refine lv_aload_n hx hb dX7_isLogFull_35 rfl (lv_at hl 0 rfl) ?_
      refine sm_gt (ci := 7) (C := RX7) (T := TX7) (N := 33) hx hb hts inlX7 hown hK hP 0 rfl rfl 21 (by decide) wf_RX7_76 rfl dX7_isLogFull_36 ?_
      refine lv_bipush (v := 120) hx hb dX7_isLogFull_39 (by decide) ?_
      refine lv_icmp_ne (tgt := 48) hx hb dX7_isLogFull_41 (by decide) (fun c_3 => ?_) (fun c_3 => ?_)
      · have c_3 := sm_Nne (a := L.1) (b := 120) c_3 (by omega) (by omega)
        refine lv_iconst (v := 0) hx hb dX7_isLogFull_48 (by decide) ?_
        exact sm_retP hC (by have hx : L.1 < 120 := (by omega); simp [sm_lf, sm_full, sm_b, c_1, c_2, c_3, hx]) (by decide) dX7_isLogFull_49
      · have c_3 := sm_Neq (a := L.1) (b := 120) c_3 (by omega) (by omega)
        refine lv_iconst (v := 1) hx hb dX7_isLogFull_44 (by decide) ?_
        refine lv_goto (tgt := 49) hx hb dX7_isLogFull_45 (by decide) ?_
        exact sm_retP hC (by simp [sm_lf, sm_full, sm_b, c_1, c_2, c_3]) (by decide) dX7_isLogFull_49
  · have c_1_ := c_1
    refine lv_aload_n hx hb dX7_isLogFull_9 rfl (lv_at hl 0 rfl) ?_
    refine sm_gt (ci := 7) (C := RX7) (T := TX7) (N := 33) hx hb hts inlX7 hown hK hP 0 rfl rfl 23 (by decide) wf_RX7_82 rfl dX7_isLogFull_10 ?_
    refine lv_bipush (v := 120) hx hb dX7_isLogFull_13 (by decide) ?_
    refine lv_icmp_ne (tgt := 22) hx hb dX7_isLogFull_15 (by decide) (fun c_4 => ?_) (fun c_4 => ?_)
    · have c_4 := sm_Nne (a := n2) (b := 120) c_4 (by omega) (by omega)
      refine lv_iconst (v := 0) hx hb dX7_isLogFull_22 (by decide) ?_
      refine lv_goto (tgt := 49) hx hb dX7_isLogFull_23 (by decide) ?_
      exact sm_retP hC (by have hx : n2 < 120 := (by omega); subst c_1; simp [sm_lf, sm_full, sm_b, c_4, hx]) (by decide) dX7_isLogFull_49
    · have c_4 := sm_Neq (a := n2) (b := 120) c_4 (by omega) (by omega)
      refine lv_iconst (v := 1) hx hb dX7_isLogFull_18 (by decide) ?_
      refine lv_goto (tgt := 49) hx hb dX7_isLogFull_19 (by decide) ?_
      exact sm_retP hC (by subst c_1; simp [sm_lf, sm_full, sm_b, c_4]) (by decide) dX7_isLogFull_49

set_option maxHeartbeats 1000000 in
set_option maxRecDepth 100000 in
theorem c_X7_names (k : Nat) (hk : k < 40) : sm_MC l yX7_names cX7_names 2 none 0 0 [.ref (am 0), .int (nI k)] D (sm_w7 D am P S T L nm Z cp ph th n2 fo rd np pw ev od rc wr) (fun w => w = sm_w7 D am P S T L (va_up nm k true) Z cp ph th (n2 + 1) fo rd np pw ev od rc wr) none := by
  refine sm_met (own := RX7) (by decide) rfl (Nat.le_of_ble_eq_true rfl) ?_
  intro p e s m below meth c ls hC hv hl
  obtain ⟨hx, hb, hml, hr, hown, hlk, hts⟩ := id hC
  obtain ⟨⟨hP, hK⟩, hD, hZ⟩ := hv
  have hS : va_S (sm_ad (sm_w7 D am P S T L nm Z cp ph th n2 fo rd np pw ev od rc wr)) s.heap s.heap [] := va_S.rf
  have hl : lv_has ls 2 [(0, .ref (am 0)), (1, .int (nI k))] := hl
  refine lv_aload_n hx hb dX7_names_0 rfl (lv_at hl 0 rfl) ?_
  refine sm_gt (ci := 7) (C := RX7) (T := TX7) (N := 33) hx hb hts inlX7 hown hK hP 0 rfl rfl 9 (by decide) wf_RX7_39 rfl dX7_names_1 ?_
  refine lv_iload_n hx hb dX7_names_4 rfl (lv_at hl 1 rfl) ?_
  refine lv_iconst (v := 1) hx hb dX7_names_5 (by decide) ?_
  refine sm_zst hx hb hK hP hD hS 10 rfl true rfl k rfl (by omega) (by decide) dX7_names_6 (fun H locs hP hD hS => ?_)
  have hP : va_P D.1 sm_cl (sm_w7 D am P S T L (va_up nm k true) Z cp ph th n2 fo rd np pw ev od rc wr) H := hP
  have hD : va_D (sm_ad (sm_w7 D am P S T L nm Z cp ph th n2 fo rd np pw ev od rc wr)) (sm_w7 D am P S T L (va_up nm k true) Z cp ph th n2 fo rd np pw ev od rc wr) := hD
  refine lv_aload_n hx hb dX7_names_7 rfl (lv_at hl 0 rfl) ?_
  refine lv_dup hx hb dX7_names_8 rfl ?_
  refine sm_gt (ci := 7) (C := RX7) (T := TX7) (N := 33) hx hb hts inlX7 hown hK hP 0 rfl rfl 23 (by decide) wf_RX7_82 rfl dX7_names_9 ?_
  refine lv_iconst (v := 1) hx hb dX7_names_12 (by decide) ?_
  refine lv_iadd hx hb dX7_names_13 ?_
  refine sm_re (y := nI (n2 + 1)) (nI_1 n2) ?_
  refine sm_pt (ci := 7) (C := RX7) (T := TX7) (N := 33) hx hb hts inlX7 tyX7 tyX7_ok nmX7 hown hK hP hD hS 0 rfl rfl 23 (by decide) wf_RX7_82 rfl rfl rfl (Nat.le_of_ble_eq_true rfl) dX7_names_14 (fun H locs hP hD hS => ?_)
  have hP : va_P D.1 sm_cl (sm_w7 D am P S T L (va_up nm k true) Z cp ph th (n2 + 1) fo rd np pw ev od rc wr) H := hP
  have hD : va_D (sm_ad (sm_w7 D am P S T L nm Z cp ph th n2 fo rd np pw ev od rc wr)) (sm_w7 D am P S T L (va_up nm k true) Z cp ph th (n2 + 1) fo rd np pw ev od rc wr) := hD
  exact sm_vretC hC hP hD hS rfl  (by exact rfl) dX7_names_17

set_option maxHeartbeats 1000000 in
set_option maxRecDepth 100000 in
theorem c_X7_writesTarget (k : Nat) (hk : k < 40) (a b : Int32) : sm_MC l yX7_writesTarget cX7_writesTarget 5 (some .boolean) 1 23 [.ref (am 0), .int (nI k), .int a, .int b] D (sm_w7 D am P S T L nm Z cp ph th n2 fo rd np pw ev od rc wr) (fun w => w = sm_w7 D am P S (sm_entT T k a b (nI L.1)) L (va_up nm k true) Z cp ph th (n2 + 1) fo rd np pw ev od rc wr) (some (.int (sm_b (sm_kd T k 1)))) := by
  refine sm_met (own := RX7) (by decide) rfl (Nat.le_of_ble_eq_true rfl) ?_
  intro p e s m below meth c ls hC hv hl
  obtain ⟨hx, hb, hml, hr, hown, hlk, hts⟩ := id hC
  obtain ⟨⟨hP, hK⟩, hD, hZ⟩ := hv
  have hS : va_S (sm_ad (sm_w7 D am P S T L nm Z cp ph th n2 fo rd np pw ev od rc wr)) s.heap s.heap [] := va_S.rf
  have hl : lv_has ls 5 [(0, .ref (am 0)), (1, .int (nI k)), (2, .int a), (3, .int b)] := hl
  refine lv_aload_n hx hb dX7_writesTarget_0 rfl (lv_at hl 0 rfl) ?_
  refine sm_gt (ci := 7) (C := RX7) (T := TX7) (N := 33) hx hb hts inlX7 hown hK hP 0 rfl rfl 1 (by decide) wf_RX7_13 rfl dX7_writesTarget_1 ?_
  refine lv_iload_n hx hb dX7_writesTarget_4 rfl (lv_at hl 1 rfl) ?_
  refine sm_cld hx hb hK hP 2 rfl k rfl (by omega) (by decide) dX7_writesTarget_5 ?_
  refine lv_bipush (v := 101) hx hb dX7_writesTarget_6 (by decide) ?_
  refine lv_icmp_ne (tgt := 15) hx hb dX7_writesTarget_8 (by decide) (fun c_1 => ?_) (fun c_1 => ?_)
  · have c_1 := sm_hcF1 c_1
    refine lv_iconst (v := 0) hx hb dX7_writesTarget_15 (by decide) ?_
    refine lv_istore (lv' := [(4, .int 0), (0, .ref (am 0)), (1, .int (nI k)), (2, .int a), (3, .int b)]) hx hb dX7_writesTarget_16 hl (by decide) rfl (fun ls hl => ?_)
    refine lv_aload_n hx hb dX7_writesTarget_18 rfl (lv_at hl 1 rfl) ?_
    refine lv_iload_n hx hb dX7_writesTarget_19 rfl (lv_at hl 2 rfl) ?_
    refine sm_cVC (rest := []) hC hK hP hD hS hZ (c_X7_names D am P S T L nm Z cp ph th n2 fo rd np pw ev od rc wr k (by omega)) qyX7_names wl_RX7_200 ⟨Nat.le_of_ble_eq_true rfl, Nat.le_of_ble_eq_true rfl⟩ 0 rfl rfl rfl hl.1 rfl (Nat.le_of_ble_eq_true rfl) dX7_writesTarget_20 ⟨Nat.le_of_ble_eq_true rfl, Nat.le_of_ble_eq_true rfl⟩ (fun w1 H locs hB hP hD hS => ?_)
    subst hB
    refine lv_aload_n hx hb dX7_writesTarget_23 rfl (lv_at hl 1 rfl) ?_
    refine lv_iload_n hx hb dX7_writesTarget_24 rfl (lv_at hl 2 rfl) ?_
    refine lv_bipush (v := 101) hx hb dX7_writesTarget_25 (by decide) ?_
    refine sm_re (y := sm_hc 1) (by decide) ?_
    refine lv_aload_n hx hb dX7_writesTarget_27 rfl (lv_at hl 1 rfl) ?_
    refine sm_gt (ci := 7) (C := RX7) (T := TX7) (N := 33) hx hb hts inlX7 hown hK hP 0 rfl rfl 21 (by decide) wf_RX7_76 rfl dX7_writesTarget_28 ?_
    refine sm_cVC (rest := []) hC hK hP hD hS hZ (c_X7_holds D am P S T L (va_up nm k true) Z cp ph th (n2 + 1) fo rd np pw ev od rc wr k (by omega) 1 (nI L.1)) qyX7_holds wl_RX7_143 ⟨Nat.le_of_ble_eq_true rfl, Nat.le_of_ble_eq_true rfl⟩ 0 rfl rfl rfl hl.1 rfl (Nat.le_of_ble_eq_true rfl) dX7_writesTarget_31 ⟨Nat.le_of_ble_eq_true rfl, Nat.le_of_ble_eq_true rfl⟩ (fun w1 H locs hB hP hD hS => ?_)
    subst hB
    refine lv_aload_n hx hb dX7_writesTarget_34 rfl (lv_at hl 1 rfl) ?_
    refine sm_gt (ci := 7) (C := RX7) (T := TX7) (N := 33) hx hb hts inlX7 hown hK hP 0 rfl rfl 5 (by decide) wf_RX7_26 rfl dX7_writesTarget_35 ?_
    refine lv_iload_n hx hb dX7_writesTarget_38 rfl (lv_at hl 2 rfl) ?_
    refine lv_iload_n hx hb dX7_writesTarget_39 rfl (lv_at hl 3 rfl) ?_
    refine sm_ist hx hb hK hP hD hS 6 rfl k rfl (by omega) (by decide) dX7_writesTarget_40 (fun H locs hP hD hS => ?_)
    have hP : va_P D.1 sm_cl (sm_w7 D am P S ((sm_hldT T k 1 (nI L.1)).1, ((sm_hldT T k 1 (nI L.1)).2).1, va_up ((((sm_hldT T k 1 (nI L.1)).2).2).1) k a, (((sm_hldT T k 1 (nI L.1)).2).2).2) L (va_up nm k true) Z cp ph th (n2 + 1) fo rd np pw ev od rc wr) H := hP
    have hD : va_D (sm_ad (sm_w7 D am P S T L nm Z cp ph th n2 fo rd np pw ev od rc wr)) (sm_w7 D am P S ((sm_hldT T k 1 (nI L.1)).1, ((sm_hldT T k 1 (nI L.1)).2).1, va_up ((((sm_hldT T k 1 (nI L.1)).2).2).1) k a, (((sm_hldT T k 1 (nI L.1)).2).2).2) L (va_up nm k true) Z cp ph th (n2 + 1) fo rd np pw ev od rc wr) := hD
    refine lv_aload_n hx hb dX7_writesTarget_41 rfl (lv_at hl 1 rfl) ?_
    refine sm_gt (ci := 7) (C := RX7) (T := TX7) (N := 33) hx hb hts inlX7 hown hK hP 0 rfl rfl 6 (by decide) wf_RX7_29 rfl dX7_writesTarget_42 ?_
    refine lv_iload_n hx hb dX7_writesTarget_45 rfl (lv_at hl 2 rfl) ?_
    refine lv_iload_n hx hb dX7_writesTarget_46 rfl (lv_at hl 4 rfl) ?_
    refine sm_ist hx hb hK hP hD hS 7 rfl k rfl (by omega) (by decide) dX7_writesTarget_47 (fun H locs hP hD hS => ?_)
    have hP : va_P D.1 sm_cl (sm_w7 D am P S ((sm_hldT T k 1 (nI L.1)).1, ((sm_hldT T k 1 (nI L.1)).2).1, va_up ((((sm_hldT T k 1 (nI L.1)).2).2).1) k a, va_up ((((sm_hldT T k 1 (nI L.1)).2).2).2) k b) L (va_up nm k true) Z cp ph th (n2 + 1) fo rd np pw ev od rc wr) H := hP
    have hD : va_D (sm_ad (sm_w7 D am P S T L nm Z cp ph th n2 fo rd np pw ev od rc wr)) (sm_w7 D am P S ((sm_hldT T k 1 (nI L.1)).1, ((sm_hldT T k 1 (nI L.1)).2).1, va_up ((((sm_hldT T k 1 (nI L.1)).2).2).1) k a, va_up ((((sm_hldT T k 1 (nI L.1)).2).2).2) k b) L (va_up nm k true) Z cp ph th (n2 + 1) fo rd np pw ev od rc wr) := hD
    refine lv_iload hx hb dX7_writesTarget_48 (lv_at hl 0 rfl) ?_
    exact sm_retC hC hP hD hS (by simp [sm_k1, sm_b, c_1]) (by decide) (by exact rfl) dX7_writesTarget_50
  · have c_1 := sm_hcT1 c_1
    refine lv_iconst (v := 1) hx hb dX7_writesTarget_11 (by decide) ?_
    refine lv_goto (tgt := 16) hx hb dX7_writesTarget_12 (by decide) ?_
    refine lv_istore (lv' := [(4, .int 1), (0, .ref (am 0)), (1, .int (nI k)), (2, .int a), (3, .int b)]) hx hb dX7_writesTarget_16 hl (by decide) rfl (fun ls hl => ?_)
    refine lv_aload_n hx hb dX7_writesTarget_18 rfl (lv_at hl 1 rfl) ?_
    refine lv_iload_n hx hb dX7_writesTarget_19 rfl (lv_at hl 2 rfl) ?_
    refine sm_cVC (rest := []) hC hK hP hD hS hZ (c_X7_names D am P S T L nm Z cp ph th n2 fo rd np pw ev od rc wr k (by omega)) qyX7_names wl_RX7_200 ⟨Nat.le_of_ble_eq_true rfl, Nat.le_of_ble_eq_true rfl⟩ 0 rfl rfl rfl hl.1 rfl (Nat.le_of_ble_eq_true rfl) dX7_writesTarget_20 ⟨Nat.le_of_ble_eq_true rfl, Nat.le_of_ble_eq_true rfl⟩ (fun w1 H locs hB hP hD hS => ?_)
    subst hB
    refine lv_aload_n hx hb dX7_writesTarget_23 rfl (lv_at hl 1 rfl) ?_
    refine lv_iload_n hx hb dX7_writesTarget_24 rfl (lv_at hl 2 rfl) ?_
    refine lv_bipush (v := 101) hx hb dX7_writesTarget_25 (by decide) ?_
    refine sm_re (y := sm_hc 1) (by decide) ?_
    refine lv_aload_n hx hb dX7_writesTarget_27 rfl (lv_at hl 1 rfl) ?_
    refine sm_gt (ci := 7) (C := RX7) (T := TX7) (N := 33) hx hb hts inlX7 hown hK hP 0 rfl rfl 21 (by decide) wf_RX7_76 rfl dX7_writesTarget_28 ?_
    refine sm_cVC (rest := []) hC hK hP hD hS hZ (c_X7_holds D am P S T L (va_up nm k true) Z cp ph th (n2 + 1) fo rd np pw ev od rc wr k (by omega) 1 (nI L.1)) qyX7_holds wl_RX7_143 ⟨Nat.le_of_ble_eq_true rfl, Nat.le_of_ble_eq_true rfl⟩ 0 rfl rfl rfl hl.1 rfl (Nat.le_of_ble_eq_true rfl) dX7_writesTarget_31 ⟨Nat.le_of_ble_eq_true rfl, Nat.le_of_ble_eq_true rfl⟩ (fun w1 H locs hB hP hD hS => ?_)
    subst hB
    refine lv_aload_n hx hb dX7_writesTarget_34 rfl (lv_at hl 1 rfl) ?_
    refine sm_gt (ci := 7) (C := RX7) (T := TX7) (N := 33) hx hb hts inlX7 hown hK hP 0 rfl rfl 5 (by decide) wf_RX7_26 rfl dX7_writesTarget_35 ?_
    refine lv_iload_n hx hb dX7_writesTarget_38 rfl (lv_at hl 2 rfl) ?_
    refine lv_iload_n hx hb dX7_writesTarget_39 rfl (lv_at hl 3 rfl) ?_
    refine sm_ist hx hb hK hP hD hS 6 rfl k rfl (by omega) (by decide) dX7_writesTarget_40 (fun H locs hP hD hS => ?_)
    have hP : va_P D.1 sm_cl (sm_w7 D am P S ((sm_hldT T k 1 (nI L.1)).1, ((sm_hldT T k 1 (nI L.1)).2).1, va_up ((((sm_hldT T k 1 (nI L.1)).2).2).1) k a, (((sm_hldT T k 1 (nI L.1)).2).2).2) L (va_up nm k true) Z cp ph th (n2 + 1) fo rd np pw ev od rc wr) H := hP
    have hD : va_D (sm_ad (sm_w7 D am P S T L nm Z cp ph th n2 fo rd np pw ev od rc wr)) (sm_w7 D am P S ((sm_hldT T k 1 (nI L.1)).1, ((sm_hldT T k 1 (nI L.1)).2).1, va_up ((((sm_hldT T k 1 (nI L.1)).2).2).1) k a, (((sm_hldT T k 1 (nI L.1)).2).2).2) L (va_up nm k true) Z cp ph th (n2 + 1) fo rd np pw ev od rc wr) := hD
    refine lv_aload_n hx hb dX7_writesTarget_41 rfl (lv_at hl 1 rfl) ?_
    refine sm_gt (ci := 7) (C := RX7) (T := TX7) (N := 33) hx hb hts inlX7 hown hK hP 0 rfl rfl 6 (by decide) wf_RX7_29 rfl dX7_writesTarget_42 ?_
    refine lv_iload_n hx hb dX7_writesTarget_45 rfl (lv_at hl 2 rfl) ?_
    refine lv_iload_n hx hb dX7_writesTarget_46 rfl (lv_at hl 4 rfl) ?_
    refine sm_ist hx hb hK hP hD hS 7 rfl k rfl (by omega) (by decide) dX7_writesTarget_47 (fun H locs hP hD hS => ?_)
    have hP : va_P D.1 sm_cl (sm_w7 D am P S ((sm_hldT T k 1 (nI L.1)).1, ((sm_hldT T k 1 (nI L.1)).2).1, va_up ((((sm_hldT T k 1 (nI L.1)).2).2).1) k a, va_up ((((sm_hldT T k 1 (nI L.1)).2).2).2) k b) L (va_up nm k true) Z cp ph th (n2 + 1) fo rd np pw ev od rc wr) H := hP
    have hD : va_D (sm_ad (sm_w7 D am P S T L nm Z cp ph th n2 fo rd np pw ev od rc wr)) (sm_w7 D am P S ((sm_hldT T k 1 (nI L.1)).1, ((sm_hldT T k 1 (nI L.1)).2).1, va_up ((((sm_hldT T k 1 (nI L.1)).2).2).1) k a, va_up ((((sm_hldT T k 1 (nI L.1)).2).2).2) k b) L (va_up nm k true) Z cp ph th (n2 + 1) fo rd np pw ev od rc wr) := hD
    refine lv_iload hx hb dX7_writesTarget_48 (lv_at hl 0 rfl) ?_
    exact sm_retC hC hP hD hS (by simp [sm_k1, sm_b, c_1]) (by decide) (by exact rfl) dX7_writesTarget_50

set_option maxHeartbeats 1000000 in
set_option maxRecDepth 100000 in
theorem c_X7_write_i (x a b : Int32) (hbk : sm_isKey x = false) : sm_MC l yX7_write cX7_write 6 (some .boolean) 6 136 [.ref (am 0), .int x, .int a, .int b] D (sm_w7 D am P S T L nm Z cp ph th n2 fo rd np pw ev od rc wr) (fun w => w = sm_w7 D am P S T L nm Z cp ph 1 n2 fo rd np pw ev od rc wr) (some (.int (sm_b false))) := by
  refine sm_met (own := RX7) (by decide) rfl (Nat.le_of_ble_eq_true rfl) ?_
  intro p e s m below meth c ls hC hv hl
  obtain ⟨hx, hb, hml, hr, hown, hlk, hts⟩ := id hC
  obtain ⟨⟨hP, hK⟩, hD, hZ⟩ := hv
  have hS : va_S (sm_ad (sm_w7 D am P S T L nm Z cp ph th n2 fo rd np pw ev od rc wr)) s.heap s.heap [] := va_S.rf
  have hl : lv_has ls 6 [(0, .ref (am 0)), (1, .int x), (2, .int a), (3, .int b)] := hl
  refine lv_aload_n hx hb dX7_write_0 rfl (lv_at hl 0 rfl) ?_
  refine sm_cVPr (rest := []) hC hK hP (c_X7_isByTarget D am P S T L nm Z cp ph th n2 fo rd np pw ev od rc wr ) qyX7_isByTarget wl_RX7_184 ⟨Nat.le_of_ble_eq_true rfl, Nat.le_of_ble_eq_true rfl⟩ 0 rfl rfl rfl hl.1 rfl (Nat.le_of_ble_eq_true rfl) dX7_write_1 ⟨Nat.le_of_ble_eq_true rfl, Nat.le_of_ble_eq_true rfl⟩ ?_
  refine lv_if_eq (tgt := 13) hx hb dX7_write_4 (by decide) (fun c_1 => ?_) (fun c_1 => ?_)
  · have c_1 := sm_b0 c_1
    refine lv_bipush (v := 99) hx hb dX7_write_13 (by decide) ?_
    refine lv_istore (lv' := [(4, .int 99), (0, .ref (am 0)), (1, .int x), (2, .int a), (3, .int b)]) hx hb dX7_write_15 hl (by decide) rfl (fun ls hl => ?_)
    refine lv_aload_n hx hb dX7_write_17 rfl (lv_at hl 1 rfl) ?_
    refine lv_iload_n hx hb dX7_write_18 rfl (lv_at hl 2 rfl) ?_
    refine sm_cSPr (rest := [.ref (am 0)]) hC hK hP (c_X7_isKey_i D am P S T L nm Z cp ph th n2 fo rd np pw ev od rc wr x) qyX7_isKey wl_RX7_187 ⟨Nat.le_of_ble_eq_true rfl, Nat.le_of_ble_eq_true rfl⟩ rfl hl.1 rfl (Nat.le_of_ble_eq_true rfl) dX7_write_19 ⟨Nat.le_of_ble_eq_true rfl, Nat.le_of_ble_eq_true rfl⟩ ?_
    refine sm_re (y := sm_b false) (congrArg sm_b hbk) ?_
    refine lv_if_eq (tgt := 49) hx hb dX7_write_22 (by decide) (fun _ => ?_) (fun h => absurd h (by decide))
    refine lv_iconst (v := 1) hx hb dX7_write_49 (by decide) ?_
    refine lv_goto (tgt := 74) hx hb dX7_write_50 (by decide) ?_
    refine sm_pt (ci := 7) (C := RX7) (T := TX7) (N := 33) hx hb hts inlX7 tyX7 tyX7_ok nmX7 hown hK hP hD hS 0 rfl rfl 19 (by decide) wf_RX7_69 rfl rfl rfl (Nat.le_of_ble_eq_true rfl) dX7_write_74 (fun H locs hP hD hS => ?_)
    have hP : va_P D.1 sm_cl (sm_w7 D am P S T L nm Z cp ph 1 n2 fo rd np pw ev od rc wr) H := hP
    have hD : va_D (sm_ad (sm_w7 D am P S T L nm Z cp ph th n2 fo rd np pw ev od rc wr)) (sm_w7 D am P S T L nm Z cp ph 1 n2 fo rd np pw ev od rc wr) := hD
    refine lv_aload_n hx hb dX7_write_77 rfl (lv_at hl 1 rfl) ?_
    refine sm_gt (ci := 7) (C := RX7) (T := TX7) (N := 33) hx hb hts inlX7 hown hK hP 0 rfl rfl 19 (by decide) wf_RX7_69 rfl dX7_write_78 ?_
    refine lv_if_le (tgt := 86) hx hb dX7_write_81 (by decide) (fun h => absurd h (by decide)) (fun _ => ?_)
    refine lv_iconst (v := 0) hx hb dX7_write_84 (by decide) ?_
    exact sm_retC hC hP hD hS (rfl) (by decide) (by exact rfl) dX7_write_85
  · have c_1 := sm_b1 c_1
    refine lv_sipush (v := 999) hx hb dX7_write_7 (by decide) ?_
    refine lv_goto (tgt := 15) hx hb dX7_write_10 (by decide) ?_
    refine lv_istore (lv' := [(4, .int 999), (0, .ref (am 0)), (1, .int x), (2, .int a), (3, .int b)]) hx hb dX7_write_15 hl (by decide) rfl (fun ls hl => ?_)
    refine lv_aload_n hx hb dX7_write_17 rfl (lv_at hl 1 rfl) ?_
    refine lv_iload_n hx hb dX7_write_18 rfl (lv_at hl 2 rfl) ?_
    refine sm_cSPr (rest := [.ref (am 0)]) hC hK hP (c_X7_isKey_i D am P S T L nm Z cp ph th n2 fo rd np pw ev od rc wr x) qyX7_isKey wl_RX7_187 ⟨Nat.le_of_ble_eq_true rfl, Nat.le_of_ble_eq_true rfl⟩ rfl hl.1 rfl (Nat.le_of_ble_eq_true rfl) dX7_write_19 ⟨Nat.le_of_ble_eq_true rfl, Nat.le_of_ble_eq_true rfl⟩ ?_
    refine sm_re (y := sm_b false) (congrArg sm_b hbk) ?_
    refine lv_if_eq (tgt := 49) hx hb dX7_write_22 (by decide) (fun _ => ?_) (fun h => absurd h (by decide))
    refine lv_iconst (v := 1) hx hb dX7_write_49 (by decide) ?_
    refine lv_goto (tgt := 74) hx hb dX7_write_50 (by decide) ?_
    refine sm_pt (ci := 7) (C := RX7) (T := TX7) (N := 33) hx hb hts inlX7 tyX7 tyX7_ok nmX7 hown hK hP hD hS 0 rfl rfl 19 (by decide) wf_RX7_69 rfl rfl rfl (Nat.le_of_ble_eq_true rfl) dX7_write_74 (fun H locs hP hD hS => ?_)
    have hP : va_P D.1 sm_cl (sm_w7 D am P S T L nm Z cp ph 1 n2 fo rd np pw ev od rc wr) H := hP
    have hD : va_D (sm_ad (sm_w7 D am P S T L nm Z cp ph th n2 fo rd np pw ev od rc wr)) (sm_w7 D am P S T L nm Z cp ph 1 n2 fo rd np pw ev od rc wr) := hD
    refine lv_aload_n hx hb dX7_write_77 rfl (lv_at hl 1 rfl) ?_
    refine sm_gt (ci := 7) (C := RX7) (T := TX7) (N := 33) hx hb hts inlX7 hown hK hP 0 rfl rfl 19 (by decide) wf_RX7_69 rfl dX7_write_78 ?_
    refine lv_if_le (tgt := 86) hx hb dX7_write_81 (by decide) (fun h => absurd h (by decide)) (fun _ => ?_)
    refine lv_iconst (v := 0) hx hb dX7_write_84 (by decide) ?_
    exact sm_retC hC hP hD hS (rfl) (by decide) (by exact rfl) dX7_write_85

set_option maxHeartbeats 1000000 in
set_option maxRecDepth 100000 in
theorem c_X7_write (k : Nat) (hk : k < 40) (a b : Int32) (hfo : fo ≤ L.1) (hn2 : n2 ≤ 120) (hL : L.1 ≤ 120) (hLk : ∀ i, L.2.1 i < 40) (hP6 : P.1 ≤ 6) (hOK : ∀ i, i < P.1 → sm_kOK (P.2.1 i) (P.2.2 i)) (hTk : ∀ k, sm_kv (T.1 k)) : sm_MC l yX7_write cX7_write 6 (some .boolean) 6 136 [.ref (am 0), .int (nI k), .int a, .int b] D (sm_w7 D am P S T L nm Z cp ph th n2 fo rd np pw ev od rc wr) (fun w => ∃ (cp' : sm_Cp), w = sm_w7 D am P (if sm_kWr ph L (n2, L.2) a b = 0 then (if ph = 116 then S else sm_putS S k a b) else S) (if sm_kWr ph L (n2, L.2) a b = 0 then (if ph = 116 then sm_entT T k a b (nI L.1) else if ph = 98 then sm_fM1 P (sm_appL L k false a b) T fo else T) else T) (if sm_kWr ph L (n2, L.2) a b = 0 then (if ph = 116 then L else if ph = 105 then L else sm_appL L k false a b) else L) (if sm_kWr ph L (n2, L.2) a b = 0 then (if ph = 116 then va_up nm k true else nm) else nm) Z (cp') ph (sm_kWr ph L (n2, L.2) a b) (if sm_kWr ph L (n2, L.2) a b = 0 then (if ph = 116 then n2 + 1 else n2) else n2) (if sm_kWr ph L (n2, L.2) a b = 0 then (if ph = 98 then fo + 1 else fo) else fo) rd np pw ev od rc wr) (some (.int (sm_b (if sm_kWr ph L (n2, L.2) a b = 0 then sm_liv ph T S k else false)))) := by
  refine sm_met (own := RX7) (by decide) rfl (Nat.le_of_ble_eq_true rfl) ?_
  intro p e s m below meth c ls hC hv hl
  obtain ⟨hx, hb, hml, hr, hown, hlk, hts⟩ := id hC
  obtain ⟨⟨hP, hK⟩, hD, hZ⟩ := hv
  have hS : va_S (sm_ad (sm_w7 D am P S T L nm Z cp ph th n2 fo rd np pw ev od rc wr)) s.heap s.heap [] := va_S.rf
  have hl : lv_has ls 6 [(0, .ref (am 0)), (1, .int (nI k)), (2, .int a), (3, .int b)] := hl
  refine lv_aload_n hx hb dX7_write_0 rfl (lv_at hl 0 rfl) ?_
  refine sm_cVPr (rest := []) hC hK hP (c_X7_isByTarget D am P S T L nm Z cp ph th n2 fo rd np pw ev od rc wr ) qyX7_isByTarget wl_RX7_184 ⟨Nat.le_of_ble_eq_true rfl, Nat.le_of_ble_eq_true rfl⟩ 0 rfl rfl rfl hl.1 rfl (Nat.le_of_ble_eq_true rfl) dX7_write_1 ⟨Nat.le_of_ble_eq_true rfl, Nat.le_of_ble_eq_true rfl⟩ ?_
  refine lv_if_eq (tgt := 13) hx hb dX7_write_4 (by decide) (fun c_1 => ?_) (fun c_1 => ?_)
  · have c_1 := sm_b0 c_1
    refine lv_bipush (v := 99) hx hb dX7_write_13 (by decide) ?_
    refine lv_istore (lv' := [(4, .int 99), (0, .ref (am 0)), (1, .int (nI k)), (2, .int a), (3, .int b)]) hx hb dX7_write_15 hl (by decide) rfl (fun ls hl => ?_)
    refine lv_aload_n hx hb dX7_write_17 rfl (lv_at hl 1 rfl) ?_
    refine lv_iload_n hx hb dX7_write_18 rfl (lv_at hl 2 rfl) ?_
    refine sm_cSPr (rest := [.ref (am 0)]) hC hK hP (c_X7_isKey D am P S T L nm Z cp ph th n2 fo rd np pw ev od rc wr k (by omega)) qyX7_isKey wl_RX7_187 ⟨Nat.le_of_ble_eq_true rfl, Nat.le_of_ble_eq_true rfl⟩ rfl hl.1 rfl (Nat.le_of_ble_eq_true rfl) dX7_write_19 ⟨Nat.le_of_ble_eq_true rfl, Nat.le_of_ble_eq_true rfl⟩ ?_
    refine lv_if_eq (tgt := 49) hx hb dX7_write_22 (by decide) (fun h => absurd h (by decide)) (fun _ => ?_)
    refine lv_iload_n hx hb dX7_write_25 rfl (lv_at hl 3 rfl) ?_
    refine lv_iload hx hb dX7_write_26 (lv_at hl 0 rfl) ?_
    refine lv_ineg hx hb dX7_write_28 ?_
    refine lv_iload hx hb dX7_write_29 (lv_at hl 0 rfl) ?_
    refine sm_cSPr (rest := [.ref (am 0)]) hC hK hP (c_X7_in D am P S T L nm Z cp ph th n2 fo rd np pw ev od rc wr a (-99) 99) qyX7_in wl_RX7_113 ⟨Nat.le_of_ble_eq_true rfl, Nat.le_of_ble_eq_true rfl⟩ rfl hl.1 rfl (Nat.le_of_ble_eq_true rfl) dX7_write_31 ⟨Nat.le_of_ble_eq_true rfl, Nat.le_of_ble_eq_true rfl⟩ ?_
    refine lv_if_eq (tgt := 49) hx hb dX7_write_34 (by decide) (fun c_2 => ?_) (fun c_2 => ?_)
    · have c_2 := sm_b0 c_2
      refine lv_iconst (v := 1) hx hb dX7_write_49 (by decide) ?_
      refine lv_goto (tgt := 74) hx hb dX7_write_50 (by decide) ?_
      refine sm_pt (ci := 7) (C := RX7) (T := TX7) (N := 33) hx hb hts inlX7 tyX7 tyX7_ok nmX7 hown hK hP hD hS 0 rfl rfl 19 (by decide) wf_RX7_69 rfl rfl rfl (Nat.le_of_ble_eq_true rfl) dX7_write_74 (fun H locs hP hD hS => ?_)
      have hP : va_P D.1 sm_cl (sm_w7 D am P S T L nm Z cp ph 1 n2 fo rd np pw ev od rc wr) H := hP
      have hD : va_D (sm_ad (sm_w7 D am P S T L nm Z cp ph th n2 fo rd np pw ev od rc wr)) (sm_w7 D am P S T L nm Z cp ph 1 n2 fo rd np pw ev od rc wr) := hD
      refine lv_aload_n hx hb dX7_write_77 rfl (lv_at hl 1 rfl) ?_
      refine sm_gt (ci := 7) (C := RX7) (T := TX7) (N := 33) hx hb hts inlX7 hown hK hP 0 rfl rfl 19 (by decide) wf_RX7_69 rfl dX7_write_78 ?_
      refine lv_if_le (tgt := 86) hx hb dX7_write_81 (by decide) (fun h => absurd h (by decide)) (fun _ => ?_)
      refine lv_iconst (v := 0) hx hb dX7_write_84 (by decide) ?_
      exact sm_retC hC hP hD hS (by simp [sm_k1, sm_liv, sm_kWr, sm_lim, sm_in_bt, sm_b, sm_putS, c_1, c_2]) (by decide) (by exact ⟨cp, by simp [sm_k1, sm_kWr, sm_lim, sm_in_bt, sm_b, sm_putS, c_1, c_2]⟩) dX7_write_85
    · have c_2 := sm_b1 c_2
      refine lv_iload_n hx hb dX7_write_37 rfl (lv_at hl 4 rfl) ?_
      refine lv_iload hx hb dX7_write_38 (lv_at hl 0 rfl) ?_
      refine lv_ineg hx hb dX7_write_40 ?_
      refine lv_iload hx hb dX7_write_41 (lv_at hl 0 rfl) ?_
      refine sm_cSPr (rest := [.ref (am 0)]) hC hK hP (c_X7_in D am P S T L nm Z cp ph th n2 fo rd np pw ev od rc wr b (-99) 99) qyX7_in wl_RX7_113 ⟨Nat.le_of_ble_eq_true rfl, Nat.le_of_ble_eq_true rfl⟩ rfl hl.1 rfl (Nat.le_of_ble_eq_true rfl) dX7_write_43 ⟨Nat.le_of_ble_eq_true rfl, Nat.le_of_ble_eq_true rfl⟩ ?_
      refine lv_if_ne (tgt := 53) hx hb dX7_write_46 (by decide) (fun c_3 => ?_) (fun c_3 => ?_)
      · have c_3 := sm_b1 c_3
        refine lv_aload_n hx hb dX7_write_53 rfl (lv_at hl 1 rfl) ?_
        refine sm_gt (ci := 7) (C := RX7) (T := TX7) (N := 33) hx hb hts inlX7 hown hK hP 0 rfl rfl 32 (by decide) wf_RX7_109 rfl dX7_write_54 ?_
        refine lv_bipush (v := 100) hx hb dX7_write_57 (by decide) ?_
        refine lv_icmp_eq (tgt := 69) hx hb dX7_write_59 (by decide) (fun c_4 => ?_) (fun c_4 => ?_)
        · have c_4_ := c_4
          refine lv_iconst (v := 2) hx hb dX7_write_69 (by decide) ?_
          refine lv_goto (tgt := 74) hx hb dX7_write_70 (by decide) ?_
          refine sm_pt (ci := 7) (C := RX7) (T := TX7) (N := 33) hx hb hts inlX7 tyX7 tyX7_ok nmX7 hown hK hP hD hS 0 rfl rfl 19 (by decide) wf_RX7_69 rfl rfl rfl (Nat.le_of_ble_eq_true rfl) dX7_write_74 (fun H locs hP hD hS => ?_)
          have hP : va_P D.1 sm_cl (sm_w7 D am P S T L nm Z cp ph 2 n2 fo rd np pw ev od rc wr) H := hP
          have hD : va_D (sm_ad (sm_w7 D am P S T L nm Z cp ph th n2 fo rd np pw ev od rc wr)) (sm_w7 D am P S T L nm Z cp ph 2 n2 fo rd np pw ev od rc wr) := hD
          refine lv_aload_n hx hb dX7_write_77 rfl (lv_at hl 1 rfl) ?_
          refine sm_gt (ci := 7) (C := RX7) (T := TX7) (N := 33) hx hb hts inlX7 hown hK hP 0 rfl rfl 19 (by decide) wf_RX7_69 rfl dX7_write_78 ?_
          refine lv_if_le (tgt := 86) hx hb dX7_write_81 (by decide) (fun h => absurd h (by decide)) (fun _ => ?_)
          refine lv_iconst (v := 0) hx hb dX7_write_84 (by decide) ?_
          exact sm_retC hC hP hD hS (by subst c_4; simp [sm_k1, sm_liv, sm_kWr, sm_lim, sm_in_bt, sm_b, sm_putS, c_1, c_2, c_3]) (by decide) (by exact ⟨cp, by subst c_4; simp [sm_k1, sm_kWr, sm_lim, sm_in_bt, sm_b, sm_putS, c_1, c_2, c_3]⟩) dX7_write_85
        · have c_4_ := c_4
          refine lv_aload_n hx hb dX7_write_62 rfl (lv_at hl 1 rfl) ?_
          refine sm_cVPr (rest := [.ref (am 0)]) hC hK hP (c_X7_isLogFull D am P S T L nm Z cp ph th n2 fo rd np pw ev od rc wr hL hn2) qyX7_isLogFull wl_RX7_190 ⟨Nat.le_of_ble_eq_true rfl, Nat.le_of_ble_eq_true rfl⟩ 0 rfl rfl rfl hl.1 rfl (Nat.le_of_ble_eq_true rfl) dX7_write_63 ⟨Nat.le_of_ble_eq_true rfl, Nat.le_of_ble_eq_true rfl⟩ ?_
          refine lv_if_eq (tgt := 73) hx hb dX7_write_66 (by decide) (fun c_5 => ?_) (fun c_5 => ?_)
          · have c_5 := sm_b0 c_5
            refine lv_iconst (v := 0) hx hb dX7_write_73 (by decide) ?_
            refine sm_pt (ci := 7) (C := RX7) (T := TX7) (N := 33) hx hb hts inlX7 tyX7 tyX7_ok nmX7 hown hK hP hD hS 0 rfl rfl 19 (by decide) wf_RX7_69 rfl rfl rfl (Nat.le_of_ble_eq_true rfl) dX7_write_74 (fun H locs hP hD hS => ?_)
            have hP : va_P D.1 sm_cl (sm_w7 D am P S T L nm Z cp ph 0 n2 fo rd np pw ev od rc wr) H := hP
            have hD : va_D (sm_ad (sm_w7 D am P S T L nm Z cp ph th n2 fo rd np pw ev od rc wr)) (sm_w7 D am P S T L nm Z cp ph 0 n2 fo rd np pw ev od rc wr) := hD
            refine lv_aload_n hx hb dX7_write_77 rfl (lv_at hl 1 rfl) ?_
            refine sm_gt (ci := 7) (C := RX7) (T := TX7) (N := 33) hx hb hts inlX7 hown hK hP 0 rfl rfl 19 (by decide) wf_RX7_69 rfl dX7_write_78 ?_
            refine lv_if_le (tgt := 86) hx hb dX7_write_81 (by decide) (fun _ => ?_) (fun h => absurd h (by decide))
            refine lv_aload_n hx hb dX7_write_86 rfl (lv_at hl 1 rfl) ?_
            refine sm_gt (ci := 7) (C := RX7) (T := TX7) (N := 33) hx hb hts inlX7 hown hK hP 0 rfl rfl 32 (by decide) wf_RX7_109 rfl dX7_write_87 ?_
            refine lv_bipush (v := 116) hx hb dX7_write_90 (by decide) ?_
            refine lv_icmp_ne (tgt := 103) hx hb dX7_write_92 (by decide) (fun c_6 => ?_) (fun c_6 => ?_)
            · have c_6_ := c_6
              refine lv_aload_n hx hb dX7_write_103 rfl (lv_at hl 1 rfl) ?_
              refine sm_gt (ci := 7) (C := RX7) (T := TX7) (N := 33) hx hb hts inlX7 hown hK hP 0 rfl rfl 8 (by decide) wf_RX7_35 rfl dX7_write_104 ?_
              refine lv_iload_n hx hb dX7_write_107 rfl (lv_at hl 2 rfl) ?_
              refine sm_zld hx hb hK hP 9 rfl k rfl (by omega) (by decide) dX7_write_108 ?_
              refine lv_istore (lv' := [(5, .int (sm_b (S.1 k))), (4, .int 99), (0, .ref (am 0)), (1, .int (nI k)), (2, .int a), (3, .int b)]) hx hb dX7_write_109 hl (by decide) rfl (fun ls hl => ?_)
              refine lv_aload_n hx hb dX7_write_111 rfl (lv_at hl 2 rfl) ?_
              refine sm_gt (ci := 7) (C := RX7) (T := TX7) (N := 33) hx hb hts inlX7 hown hK hP 0 rfl rfl 8 (by decide) wf_RX7_35 rfl dX7_write_112 ?_
              refine lv_iload_n hx hb dX7_write_115 rfl (lv_at hl 3 rfl) ?_
              refine lv_iconst (v := 1) hx hb dX7_write_116 (by decide) ?_
              refine sm_zst hx hb hK hP hD hS 9 rfl true rfl k rfl (by omega) (by decide) dX7_write_117 (fun H locs hP hD hS => ?_)
              have hP : va_P D.1 sm_cl (sm_w7 D am P (va_up S.1 k true, S.2) T L nm Z cp ph 0 n2 fo rd np pw ev od rc wr) H := hP
              have hD : va_D (sm_ad (sm_w7 D am P S T L nm Z cp ph th n2 fo rd np pw ev od rc wr)) (sm_w7 D am P (va_up S.1 k true, S.2) T L nm Z cp ph 0 n2 fo rd np pw ev od rc wr) := hD
              refine lv_aload_n hx hb dX7_write_118 rfl (lv_at hl 2 rfl) ?_
              refine sm_gt (ci := 7) (C := RX7) (T := TX7) (N := 33) hx hb hts inlX7 hown hK hP 0 rfl rfl 3 (by decide) wf_RX7_20 rfl dX7_write_119 ?_
              refine lv_iload_n hx hb dX7_write_122 rfl (lv_at hl 3 rfl) ?_
              refine lv_iload_n hx hb dX7_write_123 rfl (lv_at hl 4 rfl) ?_
              refine sm_ist hx hb hK hP hD hS 4 rfl k rfl (by omega) (by decide) dX7_write_124 (fun H locs hP hD hS => ?_)
              have hP : va_P D.1 sm_cl (sm_w7 D am P (va_up S.1 k true, va_up S.2.1 k a, S.2.2) T L nm Z cp ph 0 n2 fo rd np pw ev od rc wr) H := hP
              have hD : va_D (sm_ad (sm_w7 D am P S T L nm Z cp ph th n2 fo rd np pw ev od rc wr)) (sm_w7 D am P (va_up S.1 k true, va_up S.2.1 k a, S.2.2) T L nm Z cp ph 0 n2 fo rd np pw ev od rc wr) := hD
              refine lv_aload_n hx hb dX7_write_125 rfl (lv_at hl 2 rfl) ?_
              refine sm_gt (ci := 7) (C := RX7) (T := TX7) (N := 33) hx hb hts inlX7 hown hK hP 0 rfl rfl 4 (by decide) wf_RX7_23 rfl dX7_write_126 ?_
              refine lv_iload_n hx hb dX7_write_129 rfl (lv_at hl 3 rfl) ?_
              refine lv_iload_n hx hb dX7_write_130 rfl (lv_at hl 5 rfl) ?_
              refine sm_ist hx hb hK hP hD hS 5 rfl k rfl (by omega) (by decide) dX7_write_131 (fun H locs hP hD hS => ?_)
              have hP : va_P D.1 sm_cl (sm_w7 D am P (va_up S.1 k true, va_up S.2.1 k a, va_up S.2.2 k b) T L nm Z cp ph 0 n2 fo rd np pw ev od rc wr) H := hP
              have hD : va_D (sm_ad (sm_w7 D am P S T L nm Z cp ph th n2 fo rd np pw ev od rc wr)) (sm_w7 D am P (va_up S.1 k true, va_up S.2.1 k a, va_up S.2.2 k b) T L nm Z cp ph 0 n2 fo rd np pw ev od rc wr) := hD
              refine lv_aload_n hx hb dX7_write_132 rfl (lv_at hl 2 rfl) ?_
              refine lv_iload_n hx hb dX7_write_133 rfl (lv_at hl 3 rfl) ?_
              refine lv_iconst (v := 0) hx hb dX7_write_134 (by decide) ?_
              refine lv_iload_n hx hb dX7_write_135 rfl (lv_at hl 4 rfl) ?_
              refine lv_iload_n hx hb dX7_write_136 rfl (lv_at hl 5 rfl) ?_
              refine sm_cVC (rest := []) hC hK hP hD hS hZ (c_X7_logs D am P (va_up S.1 k true, va_up S.2.1 k a, va_up S.2.2 k b) T L nm Z cp ph 0 n2 fo rd np pw ev od rc wr k (by omega) false a b (fun z => sm_lfL c_5 z c_6) hfo hL hLk hP6 hOK hTk) qyX7_logs wl_RX7_196 ⟨Nat.le_of_ble_eq_true rfl, Nat.le_of_ble_eq_true rfl⟩ 0 rfl rfl rfl hl.1 rfl (Nat.le_of_ble_eq_true rfl) dX7_write_137 ⟨Nat.le_of_ble_eq_true rfl, Nat.le_of_ble_eq_true rfl⟩ (fun w1 H locs hB hP hD hS => ?_)
              obtain ⟨cp_7, rfl⟩ := hB
              refine lv_iload hx hb dX7_write_140 (lv_at hl 0 rfl) ?_
              exact sm_retC hC hP hD hS (by simp [sm_k1, sm_liv, sm_kWr, sm_lim, sm_in_bt, sm_b, sm_putS, c_1, c_2, c_3, c_4, c_5, c_6]) (sm_nb _) (by exact ⟨cp_7, by simp [sm_k1, sm_kWr, sm_lim, sm_in_bt, sm_b, sm_putS, c_1, c_2, c_3, c_4, c_5, c_6]⟩) dX7_write_142
            · have c_6_ := c_6
              refine lv_aload_n hx hb dX7_write_95 rfl (lv_at hl 1 rfl) ?_
              refine lv_iload_n hx hb dX7_write_96 rfl (lv_at hl 2 rfl) ?_
              refine lv_iload_n hx hb dX7_write_97 rfl (lv_at hl 3 rfl) ?_
              refine lv_iload_n hx hb dX7_write_98 rfl (lv_at hl 4 rfl) ?_
              refine sm_cVCr (rest := []) hC hK hP hD hS hZ (c_X7_writesTarget D am P S T L nm Z cp ph 0 n2 fo rd np pw ev od rc wr k (by omega) a b) qyX7_writesTarget wl_RX7_193 ⟨Nat.le_of_ble_eq_true rfl, Nat.le_of_ble_eq_true rfl⟩ 0 rfl rfl rfl hl.1 rfl (Nat.le_of_ble_eq_true rfl) dX7_write_99 ⟨Nat.le_of_ble_eq_true rfl, Nat.le_of_ble_eq_true rfl⟩ (fun w1 H locs hB hP hD hS => ?_)
              subst hB
              exact sm_retC hC hP hD hS (by subst c_6; simp [sm_k1, sm_liv, sm_kWr, sm_lim, sm_in_bt, sm_b, sm_putS, c_1, c_2, c_3, c_4, c_5]) (sm_nb _) (by exact ⟨cp, by subst c_6; simp [sm_k1, sm_kWr, sm_lim, sm_in_bt, sm_b, sm_putS, c_1, c_2, c_3, c_4, c_5]⟩) dX7_write_102
          · have c_5 := sm_b1 c_5
            refine lv_iconst (v := 2) hx hb dX7_write_69 (by decide) ?_
            refine lv_goto (tgt := 74) hx hb dX7_write_70 (by decide) ?_
            refine sm_pt (ci := 7) (C := RX7) (T := TX7) (N := 33) hx hb hts inlX7 tyX7 tyX7_ok nmX7 hown hK hP hD hS 0 rfl rfl 19 (by decide) wf_RX7_69 rfl rfl rfl (Nat.le_of_ble_eq_true rfl) dX7_write_74 (fun H locs hP hD hS => ?_)
            have hP : va_P D.1 sm_cl (sm_w7 D am P S T L nm Z cp ph 2 n2 fo rd np pw ev od rc wr) H := hP
            have hD : va_D (sm_ad (sm_w7 D am P S T L nm Z cp ph th n2 fo rd np pw ev od rc wr)) (sm_w7 D am P S T L nm Z cp ph 2 n2 fo rd np pw ev od rc wr) := hD
            refine lv_aload_n hx hb dX7_write_77 rfl (lv_at hl 1 rfl) ?_
            refine sm_gt (ci := 7) (C := RX7) (T := TX7) (N := 33) hx hb hts inlX7 hown hK hP 0 rfl rfl 19 (by decide) wf_RX7_69 rfl dX7_write_78 ?_
            refine lv_if_le (tgt := 86) hx hb dX7_write_81 (by decide) (fun h => absurd h (by decide)) (fun _ => ?_)
            refine lv_iconst (v := 0) hx hb dX7_write_84 (by decide) ?_
            exact sm_retC hC hP hD hS (by simp [sm_k1, sm_liv, sm_kWr, sm_lim, sm_in_bt, sm_b, sm_putS, c_1, c_2, c_3, c_4, c_5]) (by decide) (by exact ⟨cp, by simp [sm_k1, sm_kWr, sm_lim, sm_in_bt, sm_b, sm_putS, c_1, c_2, c_3, c_4, c_5]⟩) dX7_write_85
      · have c_3 := sm_b0 c_3
        refine lv_iconst (v := 1) hx hb dX7_write_49 (by decide) ?_
        refine lv_goto (tgt := 74) hx hb dX7_write_50 (by decide) ?_
        refine sm_pt (ci := 7) (C := RX7) (T := TX7) (N := 33) hx hb hts inlX7 tyX7 tyX7_ok nmX7 hown hK hP hD hS 0 rfl rfl 19 (by decide) wf_RX7_69 rfl rfl rfl (Nat.le_of_ble_eq_true rfl) dX7_write_74 (fun H locs hP hD hS => ?_)
        have hP : va_P D.1 sm_cl (sm_w7 D am P S T L nm Z cp ph 1 n2 fo rd np pw ev od rc wr) H := hP
        have hD : va_D (sm_ad (sm_w7 D am P S T L nm Z cp ph th n2 fo rd np pw ev od rc wr)) (sm_w7 D am P S T L nm Z cp ph 1 n2 fo rd np pw ev od rc wr) := hD
        refine lv_aload_n hx hb dX7_write_77 rfl (lv_at hl 1 rfl) ?_
        refine sm_gt (ci := 7) (C := RX7) (T := TX7) (N := 33) hx hb hts inlX7 hown hK hP 0 rfl rfl 19 (by decide) wf_RX7_69 rfl dX7_write_78 ?_
        refine lv_if_le (tgt := 86) hx hb dX7_write_81 (by decide) (fun h => absurd h (by decide)) (fun _ => ?_)
        refine lv_iconst (v := 0) hx hb dX7_write_84 (by decide) ?_
        exact sm_retC hC hP hD hS (by simp [sm_k1, sm_liv, sm_kWr, sm_lim, sm_in_bt, sm_b, sm_putS, c_1, c_2, c_3]) (by decide) (by exact ⟨cp, by simp [sm_k1, sm_kWr, sm_lim, sm_in_bt, sm_b, sm_putS, c_1, c_2, c_3]⟩) dX7_write_85
  · have c_1 := sm_b1 c_1
    refine lv_sipush (v := 999) hx hb dX7_write_7 (by decide) ?_
    refine lv_goto (tgt := 15) hx hb dX7_write_10 (by decide) ?_
    refine lv_istore (lv' := [(4, .int 999), (0, .ref (am 0)), (1, .int (nI k)), (2, .int a), (3, .int b)]) hx hb dX7_write_15 hl (by decide) rfl (fun ls hl => ?_)
    refine lv_aload_n hx hb dX7_write_17 rfl (lv_at hl 1 rfl) ?_
    refine lv_iload_n hx hb dX7_write_18 rfl (lv_at hl 2 rfl) ?_
    refine sm_cSPr (rest := [.ref (am 0)]) hC hK hP (c_X7_isKey D am P S T L nm Z cp ph th n2 fo rd np pw ev od rc wr k (by omega)) qyX7_isKey wl_RX7_187 ⟨Nat.le_of_ble_eq_true rfl, Nat.le_of_ble_eq_true rfl⟩ rfl hl.1 rfl (Nat.le_of_ble_eq_true rfl) dX7_write_19 ⟨Nat.le_of_ble_eq_true rfl, Nat.le_of_ble_eq_true rfl⟩ ?_
    refine lv_if_eq (tgt := 49) hx hb dX7_write_22 (by decide) (fun h => absurd h (by decide)) (fun _ => ?_)
    refine lv_iload_n hx hb dX7_write_25 rfl (lv_at hl 3 rfl) ?_
    refine lv_iload hx hb dX7_write_26 (lv_at hl 0 rfl) ?_
    refine lv_ineg hx hb dX7_write_28 ?_
    refine lv_iload hx hb dX7_write_29 (lv_at hl 0 rfl) ?_
    refine sm_cSPr (rest := [.ref (am 0)]) hC hK hP (c_X7_in D am P S T L nm Z cp ph th n2 fo rd np pw ev od rc wr a (-999) 999) qyX7_in wl_RX7_113 ⟨Nat.le_of_ble_eq_true rfl, Nat.le_of_ble_eq_true rfl⟩ rfl hl.1 rfl (Nat.le_of_ble_eq_true rfl) dX7_write_31 ⟨Nat.le_of_ble_eq_true rfl, Nat.le_of_ble_eq_true rfl⟩ ?_
    refine lv_if_eq (tgt := 49) hx hb dX7_write_34 (by decide) (fun c_8 => ?_) (fun c_8 => ?_)
    · have c_8 := sm_b0 c_8
      refine lv_iconst (v := 1) hx hb dX7_write_49 (by decide) ?_
      refine lv_goto (tgt := 74) hx hb dX7_write_50 (by decide) ?_
      refine sm_pt (ci := 7) (C := RX7) (T := TX7) (N := 33) hx hb hts inlX7 tyX7 tyX7_ok nmX7 hown hK hP hD hS 0 rfl rfl 19 (by decide) wf_RX7_69 rfl rfl rfl (Nat.le_of_ble_eq_true rfl) dX7_write_74 (fun H locs hP hD hS => ?_)
      have hP : va_P D.1 sm_cl (sm_w7 D am P S T L nm Z cp ph 1 n2 fo rd np pw ev od rc wr) H := hP
      have hD : va_D (sm_ad (sm_w7 D am P S T L nm Z cp ph th n2 fo rd np pw ev od rc wr)) (sm_w7 D am P S T L nm Z cp ph 1 n2 fo rd np pw ev od rc wr) := hD
      refine lv_aload_n hx hb dX7_write_77 rfl (lv_at hl 1 rfl) ?_
      refine sm_gt (ci := 7) (C := RX7) (T := TX7) (N := 33) hx hb hts inlX7 hown hK hP 0 rfl rfl 19 (by decide) wf_RX7_69 rfl dX7_write_78 ?_
      refine lv_if_le (tgt := 86) hx hb dX7_write_81 (by decide) (fun h => absurd h (by decide)) (fun _ => ?_)
      refine lv_iconst (v := 0) hx hb dX7_write_84 (by decide) ?_
      exact sm_retC hC hP hD hS (by simp [sm_k1, sm_liv, sm_kWr, sm_lim, sm_in_bt, sm_b, sm_putS, c_1, c_8]) (by decide) (by exact ⟨cp, by simp [sm_k1, sm_kWr, sm_lim, sm_in_bt, sm_b, sm_putS, c_1, c_8]⟩) dX7_write_85
    · have c_8 := sm_b1 c_8
      refine lv_iload_n hx hb dX7_write_37 rfl (lv_at hl 4 rfl) ?_
      refine lv_iload hx hb dX7_write_38 (lv_at hl 0 rfl) ?_
      refine lv_ineg hx hb dX7_write_40 ?_
      refine lv_iload hx hb dX7_write_41 (lv_at hl 0 rfl) ?_
      refine sm_cSPr (rest := [.ref (am 0)]) hC hK hP (c_X7_in D am P S T L nm Z cp ph th n2 fo rd np pw ev od rc wr b (-999) 999) qyX7_in wl_RX7_113 ⟨Nat.le_of_ble_eq_true rfl, Nat.le_of_ble_eq_true rfl⟩ rfl hl.1 rfl (Nat.le_of_ble_eq_true rfl) dX7_write_43 ⟨Nat.le_of_ble_eq_true rfl, Nat.le_of_ble_eq_true rfl⟩ ?_
      refine lv_if_ne (tgt := 53) hx hb dX7_write_46 (by decide) (fun c_9 => ?_) (fun c_9 => ?_)
      · have c_9 := sm_b1 c_9
        refine lv_aload_n hx hb dX7_write_53 rfl (lv_at hl 1 rfl) ?_
        refine sm_gt (ci := 7) (C := RX7) (T := TX7) (N := 33) hx hb hts inlX7 hown hK hP 0 rfl rfl 32 (by decide) wf_RX7_109 rfl dX7_write_54 ?_
        refine lv_bipush (v := 100) hx hb dX7_write_57 (by decide) ?_
        refine lv_icmp_eq (tgt := 69) hx hb dX7_write_59 (by decide) (fun c_10 => ?_) (fun c_10 => ?_)
        · have c_10_ := c_10
          refine lv_iconst (v := 2) hx hb dX7_write_69 (by decide) ?_
          refine lv_goto (tgt := 74) hx hb dX7_write_70 (by decide) ?_
          refine sm_pt (ci := 7) (C := RX7) (T := TX7) (N := 33) hx hb hts inlX7 tyX7 tyX7_ok nmX7 hown hK hP hD hS 0 rfl rfl 19 (by decide) wf_RX7_69 rfl rfl rfl (Nat.le_of_ble_eq_true rfl) dX7_write_74 (fun H locs hP hD hS => ?_)
          have hP : va_P D.1 sm_cl (sm_w7 D am P S T L nm Z cp ph 2 n2 fo rd np pw ev od rc wr) H := hP
          have hD : va_D (sm_ad (sm_w7 D am P S T L nm Z cp ph th n2 fo rd np pw ev od rc wr)) (sm_w7 D am P S T L nm Z cp ph 2 n2 fo rd np pw ev od rc wr) := hD
          refine lv_aload_n hx hb dX7_write_77 rfl (lv_at hl 1 rfl) ?_
          refine sm_gt (ci := 7) (C := RX7) (T := TX7) (N := 33) hx hb hts inlX7 hown hK hP 0 rfl rfl 19 (by decide) wf_RX7_69 rfl dX7_write_78 ?_
          refine lv_if_le (tgt := 86) hx hb dX7_write_81 (by decide) (fun h => absurd h (by decide)) (fun _ => ?_)
          refine lv_iconst (v := 0) hx hb dX7_write_84 (by decide) ?_
          exact sm_retC hC hP hD hS (by subst c_10; simp [sm_k1, sm_liv, sm_kWr, sm_lim, sm_in_bt, sm_b, sm_putS, c_1, c_8, c_9]) (by decide) (by exact ⟨cp, by subst c_10; simp [sm_k1, sm_kWr, sm_lim, sm_in_bt, sm_b, sm_putS, c_1, c_8, c_9]⟩) dX7_write_85
        · have c_10_ := c_10
          refine lv_aload_n hx hb dX7_write_62 rfl (lv_at hl 1 rfl) ?_
          refine sm_cVPr (rest := [.ref (am 0)]) hC hK hP (c_X7_isLogFull D am P S T L nm Z cp ph th n2 fo rd np pw ev od rc wr hL hn2) qyX7_isLogFull wl_RX7_190 ⟨Nat.le_of_ble_eq_true rfl, Nat.le_of_ble_eq_true rfl⟩ 0 rfl rfl rfl hl.1 rfl (Nat.le_of_ble_eq_true rfl) dX7_write_63 ⟨Nat.le_of_ble_eq_true rfl, Nat.le_of_ble_eq_true rfl⟩ ?_
          refine lv_if_eq (tgt := 73) hx hb dX7_write_66 (by decide) (fun c_11 => ?_) (fun c_11 => ?_)
          · have c_11 := sm_b0 c_11
            refine lv_iconst (v := 0) hx hb dX7_write_73 (by decide) ?_
            refine sm_pt (ci := 7) (C := RX7) (T := TX7) (N := 33) hx hb hts inlX7 tyX7 tyX7_ok nmX7 hown hK hP hD hS 0 rfl rfl 19 (by decide) wf_RX7_69 rfl rfl rfl (Nat.le_of_ble_eq_true rfl) dX7_write_74 (fun H locs hP hD hS => ?_)
            have hP : va_P D.1 sm_cl (sm_w7 D am P S T L nm Z cp ph 0 n2 fo rd np pw ev od rc wr) H := hP
            have hD : va_D (sm_ad (sm_w7 D am P S T L nm Z cp ph th n2 fo rd np pw ev od rc wr)) (sm_w7 D am P S T L nm Z cp ph 0 n2 fo rd np pw ev od rc wr) := hD
            refine lv_aload_n hx hb dX7_write_77 rfl (lv_at hl 1 rfl) ?_
            refine sm_gt (ci := 7) (C := RX7) (T := TX7) (N := 33) hx hb hts inlX7 hown hK hP 0 rfl rfl 19 (by decide) wf_RX7_69 rfl dX7_write_78 ?_
            refine lv_if_le (tgt := 86) hx hb dX7_write_81 (by decide) (fun _ => ?_) (fun h => absurd h (by decide))
            refine lv_aload_n hx hb dX7_write_86 rfl (lv_at hl 1 rfl) ?_
            refine sm_gt (ci := 7) (C := RX7) (T := TX7) (N := 33) hx hb hts inlX7 hown hK hP 0 rfl rfl 32 (by decide) wf_RX7_109 rfl dX7_write_87 ?_
            refine lv_bipush (v := 116) hx hb dX7_write_90 (by decide) ?_
            refine lv_icmp_ne (tgt := 103) hx hb dX7_write_92 (by decide) (fun c_12 => ?_) (fun c_12 => ?_)
            · have c_12_ := c_12
              refine lv_aload_n hx hb dX7_write_103 rfl (lv_at hl 1 rfl) ?_
              refine sm_gt (ci := 7) (C := RX7) (T := TX7) (N := 33) hx hb hts inlX7 hown hK hP 0 rfl rfl 8 (by decide) wf_RX7_35 rfl dX7_write_104 ?_
              refine lv_iload_n hx hb dX7_write_107 rfl (lv_at hl 2 rfl) ?_
              refine sm_zld hx hb hK hP 9 rfl k rfl (by omega) (by decide) dX7_write_108 ?_
              refine lv_istore (lv' := [(5, .int (sm_b (S.1 k))), (4, .int 999), (0, .ref (am 0)), (1, .int (nI k)), (2, .int a), (3, .int b)]) hx hb dX7_write_109 hl (by decide) rfl (fun ls hl => ?_)
              refine lv_aload_n hx hb dX7_write_111 rfl (lv_at hl 2 rfl) ?_
              refine sm_gt (ci := 7) (C := RX7) (T := TX7) (N := 33) hx hb hts inlX7 hown hK hP 0 rfl rfl 8 (by decide) wf_RX7_35 rfl dX7_write_112 ?_
              refine lv_iload_n hx hb dX7_write_115 rfl (lv_at hl 3 rfl) ?_
              refine lv_iconst (v := 1) hx hb dX7_write_116 (by decide) ?_
              refine sm_zst hx hb hK hP hD hS 9 rfl true rfl k rfl (by omega) (by decide) dX7_write_117 (fun H locs hP hD hS => ?_)
              have hP : va_P D.1 sm_cl (sm_w7 D am P (va_up S.1 k true, S.2) T L nm Z cp ph 0 n2 fo rd np pw ev od rc wr) H := hP
              have hD : va_D (sm_ad (sm_w7 D am P S T L nm Z cp ph th n2 fo rd np pw ev od rc wr)) (sm_w7 D am P (va_up S.1 k true, S.2) T L nm Z cp ph 0 n2 fo rd np pw ev od rc wr) := hD
              refine lv_aload_n hx hb dX7_write_118 rfl (lv_at hl 2 rfl) ?_
              refine sm_gt (ci := 7) (C := RX7) (T := TX7) (N := 33) hx hb hts inlX7 hown hK hP 0 rfl rfl 3 (by decide) wf_RX7_20 rfl dX7_write_119 ?_
              refine lv_iload_n hx hb dX7_write_122 rfl (lv_at hl 3 rfl) ?_
              refine lv_iload_n hx hb dX7_write_123 rfl (lv_at hl 4 rfl) ?_
              refine sm_ist hx hb hK hP hD hS 4 rfl k rfl (by omega) (by decide) dX7_write_124 (fun H locs hP hD hS => ?_)
              have hP : va_P D.1 sm_cl (sm_w7 D am P (va_up S.1 k true, va_up S.2.1 k a, S.2.2) T L nm Z cp ph 0 n2 fo rd np pw ev od rc wr) H := hP
              have hD : va_D (sm_ad (sm_w7 D am P S T L nm Z cp ph th n2 fo rd np pw ev od rc wr)) (sm_w7 D am P (va_up S.1 k true, va_up S.2.1 k a, S.2.2) T L nm Z cp ph 0 n2 fo rd np pw ev od rc wr) := hD
              refine lv_aload_n hx hb dX7_write_125 rfl (lv_at hl 2 rfl) ?_
              refine sm_gt (ci := 7) (C := RX7) (T := TX7) (N := 33) hx hb hts inlX7 hown hK hP 0 rfl rfl 4 (by decide) wf_RX7_23 rfl dX7_write_126 ?_
              refine lv_iload_n hx hb dX7_write_129 rfl (lv_at hl 3 rfl) ?_
              refine lv_iload_n hx hb dX7_write_130 rfl (lv_at hl 5 rfl) ?_
              refine sm_ist hx hb hK hP hD hS 5 rfl k rfl (by omega) (by decide) dX7_write_131 (fun H locs hP hD hS => ?_)
              have hP : va_P D.1 sm_cl (sm_w7 D am P (va_up S.1 k true, va_up S.2.1 k a, va_up S.2.2 k b) T L nm Z cp ph 0 n2 fo rd np pw ev od rc wr) H := hP
              have hD : va_D (sm_ad (sm_w7 D am P S T L nm Z cp ph th n2 fo rd np pw ev od rc wr)) (sm_w7 D am P (va_up S.1 k true, va_up S.2.1 k a, va_up S.2.2 k b) T L nm Z cp ph 0 n2 fo rd np pw ev od rc wr) := hD
              refine lv_aload_n hx hb dX7_write_132 rfl (lv_at hl 2 rfl) ?_
              refine lv_iload_n hx hb dX7_write_133 rfl (lv_at hl 3 rfl) ?_
              refine lv_iconst (v := 0) hx hb dX7_write_134 (by decide) ?_
              refine lv_iload_n hx hb dX7_write_135 rfl (lv_at hl 4 rfl) ?_
              refine lv_iload_n hx hb dX7_write_136 rfl (lv_at hl 5 rfl) ?_
              refine sm_cVC (rest := []) hC hK hP hD hS hZ (c_X7_logs D am P (va_up S.1 k true, va_up S.2.1 k a, va_up S.2.2 k b) T L nm Z cp ph 0 n2 fo rd np pw ev od rc wr k (by omega) false a b (fun z => sm_lfL c_11 z c_12) hfo hL hLk hP6 hOK hTk) qyX7_logs wl_RX7_196 ⟨Nat.le_of_ble_eq_true rfl, Nat.le_of_ble_eq_true rfl⟩ 0 rfl rfl rfl hl.1 rfl (Nat.le_of_ble_eq_true rfl) dX7_write_137 ⟨Nat.le_of_ble_eq_true rfl, Nat.le_of_ble_eq_true rfl⟩ (fun w1 H locs hB hP hD hS => ?_)
              obtain ⟨cp_13, rfl⟩ := hB
              refine lv_iload hx hb dX7_write_140 (lv_at hl 0 rfl) ?_
              exact sm_retC hC hP hD hS (by simp [sm_k1, sm_liv, sm_kWr, sm_lim, sm_in_bt, sm_b, sm_putS, c_1, c_8, c_9, c_10, c_11, c_12]) (sm_nb _) (by exact ⟨cp_13, by simp [sm_k1, sm_kWr, sm_lim, sm_in_bt, sm_b, sm_putS, c_1, c_8, c_9, c_10, c_11, c_12]⟩) dX7_write_142
            · have c_12_ := c_12
              refine lv_aload_n hx hb dX7_write_95 rfl (lv_at hl 1 rfl) ?_
              refine lv_iload_n hx hb dX7_write_96 rfl (lv_at hl 2 rfl) ?_
              refine lv_iload_n hx hb dX7_write_97 rfl (lv_at hl 3 rfl) ?_
              refine lv_iload_n hx hb dX7_write_98 rfl (lv_at hl 4 rfl) ?_
              refine sm_cVCr (rest := []) hC hK hP hD hS hZ (c_X7_writesTarget D am P S T L nm Z cp ph 0 n2 fo rd np pw ev od rc wr k (by omega) a b) qyX7_writesTarget wl_RX7_193 ⟨Nat.le_of_ble_eq_true rfl, Nat.le_of_ble_eq_true rfl⟩ 0 rfl rfl rfl hl.1 rfl (Nat.le_of_ble_eq_true rfl) dX7_write_99 ⟨Nat.le_of_ble_eq_true rfl, Nat.le_of_ble_eq_true rfl⟩ (fun w1 H locs hB hP hD hS => ?_)
              subst hB
              exact sm_retC hC hP hD hS (by subst c_12; simp [sm_k1, sm_liv, sm_kWr, sm_lim, sm_in_bt, sm_b, sm_putS, c_1, c_8, c_9, c_10, c_11]) (sm_nb _) (by exact ⟨cp, by subst c_12; simp [sm_k1, sm_kWr, sm_lim, sm_in_bt, sm_b, sm_putS, c_1, c_8, c_9, c_10, c_11]⟩) dX7_write_102
          · have c_11 := sm_b1 c_11
            refine lv_iconst (v := 2) hx hb dX7_write_69 (by decide) ?_
            refine lv_goto (tgt := 74) hx hb dX7_write_70 (by decide) ?_
            refine sm_pt (ci := 7) (C := RX7) (T := TX7) (N := 33) hx hb hts inlX7 tyX7 tyX7_ok nmX7 hown hK hP hD hS 0 rfl rfl 19 (by decide) wf_RX7_69 rfl rfl rfl (Nat.le_of_ble_eq_true rfl) dX7_write_74 (fun H locs hP hD hS => ?_)
            have hP : va_P D.1 sm_cl (sm_w7 D am P S T L nm Z cp ph 2 n2 fo rd np pw ev od rc wr) H := hP
            have hD : va_D (sm_ad (sm_w7 D am P S T L nm Z cp ph th n2 fo rd np pw ev od rc wr)) (sm_w7 D am P S T L nm Z cp ph 2 n2 fo rd np pw ev od rc wr) := hD
            refine lv_aload_n hx hb dX7_write_77 rfl (lv_at hl 1 rfl) ?_
            refine sm_gt (ci := 7) (C := RX7) (T := TX7) (N := 33) hx hb hts inlX7 hown hK hP 0 rfl rfl 19 (by decide) wf_RX7_69 rfl dX7_write_78 ?_
            refine lv_if_le (tgt := 86) hx hb dX7_write_81 (by decide) (fun h => absurd h (by decide)) (fun _ => ?_)
            refine lv_iconst (v := 0) hx hb dX7_write_84 (by decide) ?_
            exact sm_retC hC hP hD hS (by simp [sm_k1, sm_liv, sm_kWr, sm_lim, sm_in_bt, sm_b, sm_putS, c_1, c_8, c_9, c_10, c_11]) (by decide) (by exact ⟨cp, by simp [sm_k1, sm_kWr, sm_lim, sm_in_bt, sm_b, sm_putS, c_1, c_8, c_9, c_10, c_11]⟩) dX7_write_85
      · have c_9 := sm_b0 c_9
        refine lv_iconst (v := 1) hx hb dX7_write_49 (by decide) ?_
        refine lv_goto (tgt := 74) hx hb dX7_write_50 (by decide) ?_
        refine sm_pt (ci := 7) (C := RX7) (T := TX7) (N := 33) hx hb hts inlX7 tyX7 tyX7_ok nmX7 hown hK hP hD hS 0 rfl rfl 19 (by decide) wf_RX7_69 rfl rfl rfl (Nat.le_of_ble_eq_true rfl) dX7_write_74 (fun H locs hP hD hS => ?_)
        have hP : va_P D.1 sm_cl (sm_w7 D am P S T L nm Z cp ph 1 n2 fo rd np pw ev od rc wr) H := hP
        have hD : va_D (sm_ad (sm_w7 D am P S T L nm Z cp ph th n2 fo rd np pw ev od rc wr)) (sm_w7 D am P S T L nm Z cp ph 1 n2 fo rd np pw ev od rc wr) := hD
        refine lv_aload_n hx hb dX7_write_77 rfl (lv_at hl 1 rfl) ?_
        refine sm_gt (ci := 7) (C := RX7) (T := TX7) (N := 33) hx hb hts inlX7 hown hK hP 0 rfl rfl 19 (by decide) wf_RX7_69 rfl dX7_write_78 ?_
        refine lv_if_le (tgt := 86) hx hb dX7_write_81 (by decide) (fun h => absurd h (by decide)) (fun _ => ?_)
        refine lv_iconst (v := 0) hx hb dX7_write_84 (by decide) ?_
        exact sm_retC hC hP hD hS (by simp [sm_k1, sm_liv, sm_kWr, sm_lim, sm_in_bt, sm_b, sm_putS, c_1, c_8, c_9]) (by decide) (by exact ⟨cp, by simp [sm_k1, sm_kWr, sm_lim, sm_in_bt, sm_b, sm_putS, c_1, c_8, c_9]⟩) dX7_write_85

set_option maxHeartbeats 1000000 in
set_option maxRecDepth 100000 in
theorem c_X7_delete_i (x : Int32) (hbk : sm_isKey x = false) : sm_MC l yX7_delete cX7_delete 3 (some .boolean) 6 136 [.ref (am 0), .int x] D (sm_w7 D am P S T L nm Z cp ph th n2 fo rd np pw ev od rc wr) (fun w => w = sm_w7 D am P S T L nm Z cp ph 1 n2 fo rd np pw ev od rc wr) (some (.int (sm_b false))) := by
  refine sm_met (own := RX7) (by decide) rfl (Nat.le_of_ble_eq_true rfl) ?_
  intro p e s m below meth c ls hC hv hl
  obtain ⟨hx, hb, hml, hr, hown, hlk, hts⟩ := id hC
  obtain ⟨⟨hP, hK⟩, hD, hZ⟩ := hv
  have hS : va_S (sm_ad (sm_w7 D am P S T L nm Z cp ph th n2 fo rd np pw ev od rc wr)) s.heap s.heap [] := va_S.rf
  have hl : lv_has ls 3 [(0, .ref (am 0)), (1, .int x)] := hl
  refine lv_aload_n hx hb dX7_delete_0 rfl (lv_at hl 0 rfl) ?_
  refine lv_iload_n hx hb dX7_delete_1 rfl (lv_at hl 1 rfl) ?_
  refine sm_cSPr (rest := [.ref (am 0)]) hC hK hP (c_X7_isKey_i D am P S T L nm Z cp ph th n2 fo rd np pw ev od rc wr x) qyX7_isKey wl_RX7_187 ⟨Nat.le_of_ble_eq_true rfl, Nat.le_of_ble_eq_true rfl⟩ rfl hl.1 rfl (Nat.le_of_ble_eq_true rfl) dX7_delete_2 ⟨Nat.le_of_ble_eq_true rfl, Nat.le_of_ble_eq_true rfl⟩ ?_
  refine sm_re (y := sm_b false) (congrArg sm_b hbk) ?_
  refine lv_if_ne (tgt := 12) hx hb dX7_delete_5 (by decide) (fun h => absurd h (by decide)) (fun _ => ?_)
  refine lv_iconst (v := 1) hx hb dX7_delete_8 (by decide) ?_
  refine lv_goto (tgt := 26) hx hb dX7_delete_9 (by decide) ?_
  refine sm_pt (ci := 7) (C := RX7) (T := TX7) (N := 33) hx hb hts inlX7 tyX7 tyX7_ok nmX7 hown hK hP hD hS 0 rfl rfl 19 (by decide) wf_RX7_69 rfl rfl rfl (Nat.le_of_ble_eq_true rfl) dX7_delete_26 (fun H locs hP hD hS => ?_)
  have hP : va_P D.1 sm_cl (sm_w7 D am P S T L nm Z cp ph 1 n2 fo rd np pw ev od rc wr) H := hP
  have hD : va_D (sm_ad (sm_w7 D am P S T L nm Z cp ph th n2 fo rd np pw ev od rc wr)) (sm_w7 D am P S T L nm Z cp ph 1 n2 fo rd np pw ev od rc wr) := hD
  refine lv_aload_n hx hb dX7_delete_29 rfl (lv_at hl 0 rfl) ?_
  refine sm_gt (ci := 7) (C := RX7) (T := TX7) (N := 33) hx hb hts inlX7 hown hK hP 0 rfl rfl 19 (by decide) wf_RX7_69 rfl dX7_delete_30 ?_
  refine lv_if_le (tgt := 38) hx hb dX7_delete_33 (by decide) (fun h => absurd h (by decide)) (fun _ => ?_)
  refine lv_iconst (v := 0) hx hb dX7_delete_36 (by decide) ?_
  exact sm_retC hC hP hD hS (rfl) (by decide) (by exact rfl) dX7_delete_37

set_option maxHeartbeats 1000000 in
set_option maxRecDepth 100000 in
theorem c_X7_delete (k : Nat) (hk : k < 40) (hfo : fo ≤ L.1) (hn2 : n2 ≤ 120) (hL : L.1 ≤ 120) (hLk : ∀ i, L.2.1 i < 40) (hP6 : P.1 ≤ 6) (hOK : ∀ i, i < P.1 → sm_kOK (P.2.1 i) (P.2.2 i)) (hTk : ∀ k, sm_kv (T.1 k)) : sm_MC l yX7_delete cX7_delete 3 (some .boolean) 6 136 [.ref (am 0), .int (nI k)] D (sm_w7 D am P S T L nm Z cp ph th n2 fo rd np pw ev od rc wr) (fun w => ∃ (cp' : sm_Cp), w = sm_w7 D am P (if sm_mDl ph T S L n2 k = 0 ∧ sm_liv ph T S k = true then (if ph = 116 then S else sm_rmS S k) else S) (if sm_mDl ph T S L n2 k = 0 ∧ sm_liv ph T S k = true then (if ph = 116 then sm_hldT T k 3 (nI L.1) else if ph = 98 then sm_fM1 P (sm_appL L k true 0 0) T fo else T) else T) (if sm_mDl ph T S L n2 k = 0 ∧ sm_liv ph T S k = true then (if ph = 116 then L else if ph = 105 then L else sm_appL L k true 0 0) else L) (if sm_mDl ph T S L n2 k = 0 ∧ sm_liv ph T S k = true then (if ph = 116 then va_up nm k true else nm) else nm) Z (cp') ph (sm_mDl ph T S L n2 k) (if sm_mDl ph T S L n2 k = 0 ∧ sm_liv ph T S k = true then (if ph = 116 then n2 + 1 else n2) else n2) (if sm_mDl ph T S L n2 k = 0 ∧ sm_liv ph T S k = true then (if ph = 98 then fo + 1 else fo) else fo) rd np pw ev od rc wr) (some (.int (sm_b (if sm_mDl ph T S L n2 k = 0 then sm_liv ph T S k else false)))) := by
  refine sm_met (own := RX7) (by decide) rfl (Nat.le_of_ble_eq_true rfl) ?_
  intro p e s m below meth c ls hC hv hl
  obtain ⟨hx, hb, hml, hr, hown, hlk, hts⟩ := id hC
  obtain ⟨⟨hP, hK⟩, hD, hZ⟩ := hv
  have hS : va_S (sm_ad (sm_w7 D am P S T L nm Z cp ph th n2 fo rd np pw ev od rc wr)) s.heap s.heap [] := va_S.rf
  have hl : lv_has ls 3 [(0, .ref (am 0)), (1, .int (nI k))] := hl
  refine lv_aload_n hx hb dX7_delete_0 rfl (lv_at hl 0 rfl) ?_
  refine lv_iload_n hx hb dX7_delete_1 rfl (lv_at hl 1 rfl) ?_
  refine sm_cSPr (rest := [.ref (am 0)]) hC hK hP (c_X7_isKey D am P S T L nm Z cp ph th n2 fo rd np pw ev od rc wr k (by omega)) qyX7_isKey wl_RX7_187 ⟨Nat.le_of_ble_eq_true rfl, Nat.le_of_ble_eq_true rfl⟩ rfl hl.1 rfl (Nat.le_of_ble_eq_true rfl) dX7_delete_2 ⟨Nat.le_of_ble_eq_true rfl, Nat.le_of_ble_eq_true rfl⟩ ?_
  refine lv_if_ne (tgt := 12) hx hb dX7_delete_5 (by decide) (fun _ => ?_) (fun h => absurd h (by decide))
  refine lv_aload_n hx hb dX7_delete_12 rfl (lv_at hl 0 rfl) ?_
  refine sm_gt (ci := 7) (C := RX7) (T := TX7) (N := 33) hx hb hts inlX7 hown hK hP 0 rfl rfl 32 (by decide) wf_RX7_109 rfl dX7_delete_13 ?_
  refine lv_bipush (v := 100) hx hb dX7_delete_16 (by decide) ?_
  refine lv_icmp_ne (tgt := 25) hx hb dX7_delete_18 (by decide) (fun c_1 => ?_) (fun c_1 => ?_)
  · have c_1_ := c_1
    refine lv_iconst (v := 0) hx hb dX7_delete_25 (by decide) ?_
    refine sm_pt (ci := 7) (C := RX7) (T := TX7) (N := 33) hx hb hts inlX7 tyX7 tyX7_ok nmX7 hown hK hP hD hS 0 rfl rfl 19 (by decide) wf_RX7_69 rfl rfl rfl (Nat.le_of_ble_eq_true rfl) dX7_delete_26 (fun H locs hP hD hS => ?_)
    have hP : va_P D.1 sm_cl (sm_w7 D am P S T L nm Z cp ph 0 n2 fo rd np pw ev od rc wr) H := hP
    have hD : va_D (sm_ad (sm_w7 D am P S T L nm Z cp ph th n2 fo rd np pw ev od rc wr)) (sm_w7 D am P S T L nm Z cp ph 0 n2 fo rd np pw ev od rc wr) := hD
    refine lv_aload_n hx hb dX7_delete_29 rfl (lv_at hl 0 rfl) ?_
    refine sm_gt (ci := 7) (C := RX7) (T := TX7) (N := 33) hx hb hts inlX7 hown hK hP 0 rfl rfl 19 (by decide) wf_RX7_69 rfl dX7_delete_30 ?_
    refine lv_if_le (tgt := 38) hx hb dX7_delete_33 (by decide) (fun _ => ?_) (fun h => absurd h (by decide))
    refine lv_aload_n hx hb dX7_delete_38 rfl (lv_at hl 0 rfl) ?_
    refine sm_gt (ci := 7) (C := RX7) (T := TX7) (N := 33) hx hb hts inlX7 hown hK hP 0 rfl rfl 32 (by decide) wf_RX7_109 rfl dX7_delete_39 ?_
    refine lv_bipush (v := 116) hx hb dX7_delete_42 (by decide) ?_
    refine lv_icmp_ne (tgt := 66) hx hb dX7_delete_44 (by decide) (fun c_2 => ?_) (fun c_2 => ?_)
    · have c_2_ := c_2
      refine lv_aload_n hx hb dX7_delete_66 rfl (lv_at hl 0 rfl) ?_
      refine sm_gt (ci := 7) (C := RX7) (T := TX7) (N := 33) hx hb hts inlX7 hown hK hP 0 rfl rfl 8 (by decide) wf_RX7_35 rfl dX7_delete_67 ?_
      refine lv_iload_n hx hb dX7_delete_70 rfl (lv_at hl 1 rfl) ?_
      refine sm_zld hx hb hK hP 9 rfl k rfl (by omega) (by decide) dX7_delete_71 ?_
      refine lv_istore_n (lv' := [(2, .int (sm_b (S.1 k))), (0, .ref (am 0)), (1, .int (nI k))]) hx hb dX7_delete_72 rfl hl (by decide) rfl (fun ls hl => ?_)
      refine lv_iload_n hx hb dX7_delete_73 rfl (lv_at hl 0 rfl) ?_
      refine lv_if_ne (tgt := 79) hx hb dX7_delete_74 (by decide) (fun c_3 => ?_) (fun c_3 => ?_)
      · have c_3 := sm_b1 c_3
        refine lv_aload_n hx hb dX7_delete_79 rfl (lv_at hl 1 rfl) ?_
        refine lv_aload_n hx hb dX7_delete_80 rfl (lv_at hl 1 rfl) ?_
        refine sm_cVPr (rest := [.ref (am 0)]) hC hK hP (c_X7_isLogFull D am P S T L nm Z cp ph 0 n2 fo rd np pw ev od rc wr hL hn2) qyX7_isLogFull wl_RX7_190 ⟨Nat.le_of_ble_eq_true rfl, Nat.le_of_ble_eq_true rfl⟩ 0 rfl rfl rfl hl.1 rfl (Nat.le_of_ble_eq_true rfl) dX7_delete_81 ⟨Nat.le_of_ble_eq_true rfl, Nat.le_of_ble_eq_true rfl⟩ ?_
        refine lv_if_eq (tgt := 91) hx hb dX7_delete_84 (by decide) (fun c_4 => ?_) (fun c_4 => ?_)
        · have c_4 := sm_b0 c_4
          refine lv_iconst (v := 0) hx hb dX7_delete_91 (by decide) ?_
          refine sm_pt (ci := 7) (C := RX7) (T := TX7) (N := 33) hx hb hts inlX7 tyX7 tyX7_ok nmX7 hown hK hP hD hS 0 rfl rfl 19 (by decide) wf_RX7_69 rfl rfl rfl (Nat.le_of_ble_eq_true rfl) dX7_delete_92 (fun H locs hP hD hS => ?_)
          have hP : va_P D.1 sm_cl (sm_w7 D am P S T L nm Z cp ph 0 n2 fo rd np pw ev od rc wr) H := hP
          have hD : va_D (sm_ad (sm_w7 D am P S T L nm Z cp ph th n2 fo rd np pw ev od rc wr)) (sm_w7 D am P S T L nm Z cp ph 0 n2 fo rd np pw ev od rc wr) := hD
          refine lv_aload_n hx hb dX7_delete_95 rfl (lv_at hl 1 rfl) ?_
          refine sm_gt (ci := 7) (C := RX7) (T := TX7) (N := 33) hx hb hts inlX7 hown hK hP 0 rfl rfl 19 (by decide) wf_RX7_69 rfl dX7_delete_96 ?_
          refine lv_if_le (tgt := 104) hx hb dX7_delete_99 (by decide) (fun _ => ?_) (fun h => absurd h (by decide))
          refine lv_aload_n hx hb dX7_delete_104 rfl (lv_at hl 1 rfl) ?_
          refine sm_gt (ci := 7) (C := RX7) (T := TX7) (N := 33) hx hb hts inlX7 hown hK hP 0 rfl rfl 32 (by decide) wf_RX7_109 rfl dX7_delete_105 ?_
          refine lv_bipush (v := 116) hx hb dX7_delete_108 (by decide) ?_
          refine lv_icmp_ne (tgt := 131) hx hb dX7_delete_110 (by decide) (fun _ => ?_) (fun h => absurd h c_2)
          refine lv_aload_n hx hb dX7_delete_131 rfl (lv_at hl 1 rfl) ?_
          refine sm_gt (ci := 7) (C := RX7) (T := TX7) (N := 33) hx hb hts inlX7 hown hK hP 0 rfl rfl 8 (by decide) wf_RX7_35 rfl dX7_delete_132 ?_
          refine lv_iload_n hx hb dX7_delete_135 rfl (lv_at hl 2 rfl) ?_
          refine lv_iconst (v := 0) hx hb dX7_delete_136 (by decide) ?_
          refine sm_zst hx hb hK hP hD hS 9 rfl false rfl k rfl (by omega) (by decide) dX7_delete_137 (fun H locs hP hD hS => ?_)
          have hP : va_P D.1 sm_cl (sm_w7 D am P (va_up S.1 k false, S.2) T L nm Z cp ph 0 n2 fo rd np pw ev od rc wr) H := hP
          have hD : va_D (sm_ad (sm_w7 D am P S T L nm Z cp ph th n2 fo rd np pw ev od rc wr)) (sm_w7 D am P (va_up S.1 k false, S.2) T L nm Z cp ph 0 n2 fo rd np pw ev od rc wr) := hD
          refine lv_aload_n hx hb dX7_delete_138 rfl (lv_at hl 1 rfl) ?_
          refine lv_iload_n hx hb dX7_delete_139 rfl (lv_at hl 2 rfl) ?_
          refine lv_iconst (v := 1) hx hb dX7_delete_140 (by decide) ?_
          refine lv_iconst (v := 0) hx hb dX7_delete_141 (by decide) ?_
          refine lv_iconst (v := 0) hx hb dX7_delete_142 (by decide) ?_
          refine sm_cVC (rest := []) hC hK hP hD hS hZ (c_X7_logs D am P (va_up S.1 k false, S.2) T L nm Z cp ph 0 n2 fo rd np pw ev od rc wr k (by omega) true 0 0 (fun z => sm_lfL c_4 z c_2) hfo hL hLk hP6 hOK hTk) qyX7_logs wl_RX7_196 ⟨Nat.le_of_ble_eq_true rfl, Nat.le_of_ble_eq_true rfl⟩ 0 rfl rfl rfl hl.1 rfl (Nat.le_of_ble_eq_true rfl) dX7_delete_143 ⟨Nat.le_of_ble_eq_true rfl, Nat.le_of_ble_eq_true rfl⟩ (fun w1 H locs hB hP hD hS => ?_)
          obtain ⟨cp_5, rfl⟩ := hB
          refine lv_iconst (v := 1) hx hb dX7_delete_146 (by decide) ?_
          exact sm_retC hC hP hD hS (by simp [sm_k1, sm_mDl, sm_liv, sm_b, sm_rmS, sm_hldT, c_1, c_2, c_3, c_4]) (by decide) (by exact ⟨cp_5, by simp [sm_k1, sm_mDl, sm_liv, sm_b, sm_rmS, sm_hldT, c_1, c_2, c_3, c_4]⟩) dX7_delete_147
        · have c_4 := sm_b1 c_4
          refine lv_iconst (v := 2) hx hb dX7_delete_87 (by decide) ?_
          refine lv_goto (tgt := 92) hx hb dX7_delete_88 (by decide) ?_
          refine sm_pt (ci := 7) (C := RX7) (T := TX7) (N := 33) hx hb hts inlX7 tyX7 tyX7_ok nmX7 hown hK hP hD hS 0 rfl rfl 19 (by decide) wf_RX7_69 rfl rfl rfl (Nat.le_of_ble_eq_true rfl) dX7_delete_92 (fun H locs hP hD hS => ?_)
          have hP : va_P D.1 sm_cl (sm_w7 D am P S T L nm Z cp ph 2 n2 fo rd np pw ev od rc wr) H := hP
          have hD : va_D (sm_ad (sm_w7 D am P S T L nm Z cp ph th n2 fo rd np pw ev od rc wr)) (sm_w7 D am P S T L nm Z cp ph 2 n2 fo rd np pw ev od rc wr) := hD
          refine lv_aload_n hx hb dX7_delete_95 rfl (lv_at hl 1 rfl) ?_
          refine sm_gt (ci := 7) (C := RX7) (T := TX7) (N := 33) hx hb hts inlX7 hown hK hP 0 rfl rfl 19 (by decide) wf_RX7_69 rfl dX7_delete_96 ?_
          refine lv_if_le (tgt := 104) hx hb dX7_delete_99 (by decide) (fun h => absurd h (by decide)) (fun _ => ?_)
          refine lv_iconst (v := 0) hx hb dX7_delete_102 (by decide) ?_
          exact sm_retC hC hP hD hS (by simp [sm_k1, sm_mDl, sm_liv, sm_b, sm_rmS, sm_hldT, c_1, c_2, c_3, c_4]) (by decide) (by exact ⟨cp, by simp [sm_k1, sm_mDl, sm_liv, sm_b, sm_rmS, sm_hldT, c_1, c_2, c_3, c_4]⟩) dX7_delete_103
      · have c_3 := sm_b0 c_3
        refine lv_iconst (v := 0) hx hb dX7_delete_77 (by decide) ?_
        exact sm_retC hC hP hD hS (by simp [sm_k1, sm_mDl, sm_liv, sm_b, sm_rmS, sm_hldT, c_1, c_2, c_3]) (by decide) (by exact ⟨cp, by simp [sm_k1, sm_mDl, sm_liv, sm_b, sm_rmS, sm_hldT, c_1, c_2, c_3]⟩) dX7_delete_78
    · have c_2_ := c_2
      refine lv_aload_n hx hb dX7_delete_47 rfl (lv_at hl 0 rfl) ?_
      refine sm_gt (ci := 7) (C := RX7) (T := TX7) (N := 33) hx hb hts inlX7 hown hK hP 0 rfl rfl 1 (by decide) wf_RX7_13 rfl dX7_delete_48 ?_
      refine lv_iload_n hx hb dX7_delete_51 rfl (lv_at hl 1 rfl) ?_
      refine sm_cld hx hb hK hP 2 rfl k rfl (by omega) (by decide) dX7_delete_52 ?_
      refine lv_bipush (v := 101) hx hb dX7_delete_53 (by decide) ?_
      refine lv_icmp_ne (tgt := 62) hx hb dX7_delete_55 (by decide) (fun c_6 => ?_) (fun c_6 => ?_)
      · have c_6 := sm_hcF1 c_6
        refine lv_iconst (v := 0) hx hb dX7_delete_62 (by decide) ?_
        refine lv_goto (tgt := 72) hx hb dX7_delete_63 (by decide) ?_
        refine lv_istore_n (lv' := [(2, .int 0), (0, .ref (am 0)), (1, .int (nI k))]) hx hb dX7_delete_72 rfl hl (by decide) rfl (fun ls hl => ?_)
        refine lv_iload_n hx hb dX7_delete_73 rfl (lv_at hl 0 rfl) ?_
        refine lv_if_ne (tgt := 79) hx hb dX7_delete_74 (by decide) (fun h => absurd h (by decide)) (fun _ => ?_)
        refine lv_iconst (v := 0) hx hb dX7_delete_77 (by decide) ?_
        exact sm_retC hC hP hD hS (by subst c_2; simp [sm_k1, sm_mDl, sm_liv, sm_b, sm_rmS, sm_hldT, c_1, c_6]) (by decide) (by exact ⟨cp, by subst c_2; simp [sm_k1, sm_mDl, sm_liv, sm_b, sm_rmS, sm_hldT, c_1, c_6]⟩) dX7_delete_78
      · have c_6 := sm_hcT1 c_6
        refine lv_iconst (v := 1) hx hb dX7_delete_58 (by decide) ?_
        refine lv_goto (tgt := 72) hx hb dX7_delete_59 (by decide) ?_
        refine lv_istore_n (lv' := [(2, .int 1), (0, .ref (am 0)), (1, .int (nI k))]) hx hb dX7_delete_72 rfl hl (by decide) rfl (fun ls hl => ?_)
        refine lv_iload_n hx hb dX7_delete_73 rfl (lv_at hl 0 rfl) ?_
        refine lv_if_ne (tgt := 79) hx hb dX7_delete_74 (by decide) (fun _ => ?_) (fun h => absurd h (by decide))
        refine lv_aload_n hx hb dX7_delete_79 rfl (lv_at hl 1 rfl) ?_
        refine lv_aload_n hx hb dX7_delete_80 rfl (lv_at hl 1 rfl) ?_
        refine sm_cVPr (rest := [.ref (am 0)]) hC hK hP (c_X7_isLogFull D am P S T L nm Z cp ph 0 n2 fo rd np pw ev od rc wr hL hn2) qyX7_isLogFull wl_RX7_190 ⟨Nat.le_of_ble_eq_true rfl, Nat.le_of_ble_eq_true rfl⟩ 0 rfl rfl rfl hl.1 rfl (Nat.le_of_ble_eq_true rfl) dX7_delete_81 ⟨Nat.le_of_ble_eq_true rfl, Nat.le_of_ble_eq_true rfl⟩ ?_
        refine lv_if_eq (tgt := 91) hx hb dX7_delete_84 (by decide) (fun c_7 => ?_) (fun c_7 => ?_)
        · have c_7 := sm_b0 c_7
          refine lv_iconst (v := 0) hx hb dX7_delete_91 (by decide) ?_
          refine sm_pt (ci := 7) (C := RX7) (T := TX7) (N := 33) hx hb hts inlX7 tyX7 tyX7_ok nmX7 hown hK hP hD hS 0 rfl rfl 19 (by decide) wf_RX7_69 rfl rfl rfl (Nat.le_of_ble_eq_true rfl) dX7_delete_92 (fun H locs hP hD hS => ?_)
          have hP : va_P D.1 sm_cl (sm_w7 D am P S T L nm Z cp ph 0 n2 fo rd np pw ev od rc wr) H := hP
          have hD : va_D (sm_ad (sm_w7 D am P S T L nm Z cp ph th n2 fo rd np pw ev od rc wr)) (sm_w7 D am P S T L nm Z cp ph 0 n2 fo rd np pw ev od rc wr) := hD
          refine lv_aload_n hx hb dX7_delete_95 rfl (lv_at hl 1 rfl) ?_
          refine sm_gt (ci := 7) (C := RX7) (T := TX7) (N := 33) hx hb hts inlX7 hown hK hP 0 rfl rfl 19 (by decide) wf_RX7_69 rfl dX7_delete_96 ?_
          refine lv_if_le (tgt := 104) hx hb dX7_delete_99 (by decide) (fun _ => ?_) (fun h => absurd h (by decide))
          refine lv_aload_n hx hb dX7_delete_104 rfl (lv_at hl 1 rfl) ?_
          refine sm_gt (ci := 7) (C := RX7) (T := TX7) (N := 33) hx hb hts inlX7 hown hK hP 0 rfl rfl 32 (by decide) wf_RX7_109 rfl dX7_delete_105 ?_
          refine lv_bipush (v := 116) hx hb dX7_delete_108 (by decide) ?_
          refine lv_icmp_ne (tgt := 131) hx hb dX7_delete_110 (by decide) (fun h => absurd c_2 h) (fun _ => ?_)
          refine lv_aload_n hx hb dX7_delete_113 rfl (lv_at hl 1 rfl) ?_
          refine lv_iload_n hx hb dX7_delete_114 rfl (lv_at hl 2 rfl) ?_
          refine sm_cVC (rest := []) hC hK hP hD hS hZ (c_X7_names D am P S T L nm Z cp ph 0 n2 fo rd np pw ev od rc wr k (by omega)) qyX7_names wl_RX7_200 ⟨Nat.le_of_ble_eq_true rfl, Nat.le_of_ble_eq_true rfl⟩ 0 rfl rfl rfl hl.1 rfl (Nat.le_of_ble_eq_true rfl) dX7_delete_115 ⟨Nat.le_of_ble_eq_true rfl, Nat.le_of_ble_eq_true rfl⟩ (fun w1 H locs hB hP hD hS => ?_)
          subst hB
          refine lv_aload_n hx hb dX7_delete_118 rfl (lv_at hl 1 rfl) ?_
          refine lv_iload_n hx hb dX7_delete_119 rfl (lv_at hl 2 rfl) ?_
          refine lv_bipush (v := 116) hx hb dX7_delete_120 (by decide) ?_
          refine sm_re (y := sm_hc 3) (by decide) ?_
          refine lv_aload_n hx hb dX7_delete_122 rfl (lv_at hl 1 rfl) ?_
          refine sm_gt (ci := 7) (C := RX7) (T := TX7) (N := 33) hx hb hts inlX7 hown hK hP 0 rfl rfl 21 (by decide) wf_RX7_76 rfl dX7_delete_123 ?_
          refine sm_cVC (rest := []) hC hK hP hD hS hZ (c_X7_holds D am P S T L (va_up nm k true) Z cp ph 0 (n2 + 1) fo rd np pw ev od rc wr k (by omega) 3 (nI L.1)) qyX7_holds wl_RX7_143 ⟨Nat.le_of_ble_eq_true rfl, Nat.le_of_ble_eq_true rfl⟩ 0 rfl rfl rfl hl.1 rfl (Nat.le_of_ble_eq_true rfl) dX7_delete_126 ⟨Nat.le_of_ble_eq_true rfl, Nat.le_of_ble_eq_true rfl⟩ (fun w1 H locs hB hP hD hS => ?_)
          subst hB
          refine lv_iconst (v := 1) hx hb dX7_delete_129 (by decide) ?_
          exact sm_retC hC hP hD hS (by subst c_2; simp [sm_k1, sm_mDl, sm_liv, sm_b, sm_rmS, sm_hldT, c_1, c_6, c_7]) (by decide) (by exact ⟨cp, by subst c_2; simp [sm_k1, sm_mDl, sm_liv, sm_b, sm_rmS, sm_hldT, c_1, c_6, c_7]⟩) dX7_delete_130
        · have c_7 := sm_b1 c_7
          refine lv_iconst (v := 2) hx hb dX7_delete_87 (by decide) ?_
          refine lv_goto (tgt := 92) hx hb dX7_delete_88 (by decide) ?_
          refine sm_pt (ci := 7) (C := RX7) (T := TX7) (N := 33) hx hb hts inlX7 tyX7 tyX7_ok nmX7 hown hK hP hD hS 0 rfl rfl 19 (by decide) wf_RX7_69 rfl rfl rfl (Nat.le_of_ble_eq_true rfl) dX7_delete_92 (fun H locs hP hD hS => ?_)
          have hP : va_P D.1 sm_cl (sm_w7 D am P S T L nm Z cp ph 2 n2 fo rd np pw ev od rc wr) H := hP
          have hD : va_D (sm_ad (sm_w7 D am P S T L nm Z cp ph th n2 fo rd np pw ev od rc wr)) (sm_w7 D am P S T L nm Z cp ph 2 n2 fo rd np pw ev od rc wr) := hD
          refine lv_aload_n hx hb dX7_delete_95 rfl (lv_at hl 1 rfl) ?_
          refine sm_gt (ci := 7) (C := RX7) (T := TX7) (N := 33) hx hb hts inlX7 hown hK hP 0 rfl rfl 19 (by decide) wf_RX7_69 rfl dX7_delete_96 ?_
          refine lv_if_le (tgt := 104) hx hb dX7_delete_99 (by decide) (fun h => absurd h (by decide)) (fun _ => ?_)
          refine lv_iconst (v := 0) hx hb dX7_delete_102 (by decide) ?_
          exact sm_retC hC hP hD hS (by subst c_2; simp [sm_k1, sm_mDl, sm_liv, sm_b, sm_rmS, sm_hldT, c_1, c_6, c_7]) (by decide) (by exact ⟨cp, by subst c_2; simp [sm_k1, sm_mDl, sm_liv, sm_b, sm_rmS, sm_hldT, c_1, c_6, c_7]⟩) dX7_delete_103
  · have c_1_ := c_1
    refine lv_iconst (v := 2) hx hb dX7_delete_21 (by decide) ?_
    refine lv_goto (tgt := 26) hx hb dX7_delete_22 (by decide) ?_
    refine sm_pt (ci := 7) (C := RX7) (T := TX7) (N := 33) hx hb hts inlX7 tyX7 tyX7_ok nmX7 hown hK hP hD hS 0 rfl rfl 19 (by decide) wf_RX7_69 rfl rfl rfl (Nat.le_of_ble_eq_true rfl) dX7_delete_26 (fun H locs hP hD hS => ?_)
    have hP : va_P D.1 sm_cl (sm_w7 D am P S T L nm Z cp ph 2 n2 fo rd np pw ev od rc wr) H := hP
    have hD : va_D (sm_ad (sm_w7 D am P S T L nm Z cp ph th n2 fo rd np pw ev od rc wr)) (sm_w7 D am P S T L nm Z cp ph 2 n2 fo rd np pw ev od rc wr) := hD
    refine lv_aload_n hx hb dX7_delete_29 rfl (lv_at hl 0 rfl) ?_
    refine sm_gt (ci := 7) (C := RX7) (T := TX7) (N := 33) hx hb hts inlX7 hown hK hP 0 rfl rfl 19 (by decide) wf_RX7_69 rfl dX7_delete_30 ?_
    refine lv_if_le (tgt := 38) hx hb dX7_delete_33 (by decide) (fun h => absurd h (by decide)) (fun _ => ?_)
    refine lv_iconst (v := 0) hx hb dX7_delete_36 (by decide) ?_
    exact sm_retC hC hP hD hS (by subst c_1; simp [sm_k1, sm_mDl, sm_liv, sm_b, sm_rmS, sm_hldT]) (by decide) (by exact ⟨cp, by subst c_1; simp [sm_k1, sm_mDl, sm_liv, sm_b, sm_rmS, sm_hldT]⟩) dX7_delete_37

set_option maxHeartbeats 1000000 in
set_option maxRecDepth 100000 in
theorem c_X7_read_i (x : Int32) (z : Bool) (hbk : sm_isKey x = false) : sm_MC l yX7_read cX7_read 3 (some .int) 2 42 [.ref (am 0), .int x, .int (sm_b z)] D (sm_w7 D am P S T L nm Z cp ph th n2 fo rd np pw ev od rc wr) (fun w => w = sm_w7 D am P S T L nm Z cp ph 1 n2 fo rd np pw ev od rc wr) (some (.int 0)) := by
  refine sm_met (own := RX7) (by decide) rfl (Nat.le_of_ble_eq_true rfl) ?_
  intro p e s m below meth c ls hC hv hl
  obtain ⟨hx, hb, hml, hr, hown, hlk, hts⟩ := id hC
  obtain ⟨⟨hP, hK⟩, hD, hZ⟩ := hv
  have hS : va_S (sm_ad (sm_w7 D am P S T L nm Z cp ph th n2 fo rd np pw ev od rc wr)) s.heap s.heap [] := va_S.rf
  have hl : lv_has ls 3 [(0, .ref (am 0)), (1, .int x), (2, .int (sm_b z))] := hl
  refine lv_aload_n hx hb dX7_read_0 rfl (lv_at hl 0 rfl) ?_
  refine lv_iload_n hx hb dX7_read_1 rfl (lv_at hl 1 rfl) ?_
  refine sm_cSPr (rest := [.ref (am 0)]) hC hK hP (c_X7_isKey_i D am P S T L nm Z cp ph th n2 fo rd np pw ev od rc wr x) qyX7_isKey wl_RX7_187 ⟨Nat.le_of_ble_eq_true rfl, Nat.le_of_ble_eq_true rfl⟩ rfl hl.1 rfl (Nat.le_of_ble_eq_true rfl) dX7_read_2 ⟨Nat.le_of_ble_eq_true rfl, Nat.le_of_ble_eq_true rfl⟩ ?_
  refine sm_re (y := sm_b false) (congrArg sm_b hbk) ?_
  refine lv_if_ne (tgt := 12) hx hb dX7_read_5 (by decide) (fun h => absurd h (by decide)) (fun _ => ?_)
  refine lv_iconst (v := 1) hx hb dX7_read_8 (by decide) ?_
  refine lv_goto (tgt := 47) hx hb dX7_read_9 (by decide) ?_
  refine sm_pt (ci := 7) (C := RX7) (T := TX7) (N := 33) hx hb hts inlX7 tyX7 tyX7_ok nmX7 hown hK hP hD hS 0 rfl rfl 19 (by decide) wf_RX7_69 rfl rfl rfl (Nat.le_of_ble_eq_true rfl) dX7_read_47 (fun H locs hP hD hS => ?_)
  have hP : va_P D.1 sm_cl (sm_w7 D am P S T L nm Z cp ph 1 n2 fo rd np pw ev od rc wr) H := hP
  have hD : va_D (sm_ad (sm_w7 D am P S T L nm Z cp ph th n2 fo rd np pw ev od rc wr)) (sm_w7 D am P S T L nm Z cp ph 1 n2 fo rd np pw ev od rc wr) := hD
  refine lv_aload_n hx hb dX7_read_50 rfl (lv_at hl 0 rfl) ?_
  refine sm_gt (ci := 7) (C := RX7) (T := TX7) (N := 33) hx hb hts inlX7 hown hK hP 0 rfl rfl 19 (by decide) wf_RX7_69 rfl dX7_read_51 ?_
  refine lv_if_le (tgt := 59) hx hb dX7_read_54 (by decide) (fun h => absurd h (by decide)) (fun _ => ?_)
  refine lv_iconst (v := 0) hx hb dX7_read_57 (by decide) ?_
  exact sm_retC hC hP hD hS (rfl) rfl (by exact rfl) dX7_read_58

set_option maxHeartbeats 1000000 in
set_option maxRecDepth 100000 in
theorem c_X7_read (k : Nat) (hk : k < 40) (z : Bool) : sm_MC l yX7_read cX7_read 3 (some .int) 2 42 [.ref (am 0), .int (nI k), .int (sm_b z)] D (sm_w7 D am P S T L nm Z cp ph th n2 fo rd np pw ev od rc wr) (fun w => w = sm_w7 D am P S T L nm Z cp ph (sm_k2 (sm_live ph T S k)) n2 fo rd np pw ev od rc wr) (some (.int (if sm_k2 (sm_live ph T S k) = 0 then sm_rdF ph T S k z else 0))) := by
  refine sm_met (own := RX7) (by decide) rfl (Nat.le_of_ble_eq_true rfl) ?_
  intro p e s m below meth c ls hC hv hl
  obtain ⟨hx, hb, hml, hr, hown, hlk, hts⟩ := id hC
  obtain ⟨⟨hP, hK⟩, hD, hZ⟩ := hv
  have hS : va_S (sm_ad (sm_w7 D am P S T L nm Z cp ph th n2 fo rd np pw ev od rc wr)) s.heap s.heap [] := va_S.rf
  have hl : lv_has ls 3 [(0, .ref (am 0)), (1, .int (nI k)), (2, .int (sm_b z))] := hl
  refine lv_aload_n hx hb dX7_read_0 rfl (lv_at hl 0 rfl) ?_
  refine lv_iload_n hx hb dX7_read_1 rfl (lv_at hl 1 rfl) ?_
  refine sm_cSPr (rest := [.ref (am 0)]) hC hK hP (c_X7_isKey D am P S T L nm Z cp ph th n2 fo rd np pw ev od rc wr k (by omega)) qyX7_isKey wl_RX7_187 ⟨Nat.le_of_ble_eq_true rfl, Nat.le_of_ble_eq_true rfl⟩ rfl hl.1 rfl (Nat.le_of_ble_eq_true rfl) dX7_read_2 ⟨Nat.le_of_ble_eq_true rfl, Nat.le_of_ble_eq_true rfl⟩ ?_
  refine lv_if_ne (tgt := 12) hx hb dX7_read_5 (by decide) (fun _ => ?_) (fun h => absurd h (by decide))
  refine lv_aload_n hx hb dX7_read_12 rfl (lv_at hl 0 rfl) ?_
  refine sm_cVPr (rest := [.ref (am 0)]) hC hK hP (c_X7_isByTarget D am P S T L nm Z cp ph th n2 fo rd np pw ev od rc wr ) qyX7_isByTarget wl_RX7_184 ⟨Nat.le_of_ble_eq_true rfl, Nat.le_of_ble_eq_true rfl⟩ 0 rfl rfl rfl hl.1 rfl (Nat.le_of_ble_eq_true rfl) dX7_read_13 ⟨Nat.le_of_ble_eq_true rfl, Nat.le_of_ble_eq_true rfl⟩ ?_
  refine lv_if_eq (tgt := 33) hx hb dX7_read_16 (by decide) (fun c_1 => ?_) (fun c_1 => ?_)
  · have c_1 := sm_b0 c_1
    refine lv_aload_n hx hb dX7_read_33 rfl (lv_at hl 0 rfl) ?_
    refine sm_gt (ci := 7) (C := RX7) (T := TX7) (N := 33) hx hb hts inlX7 hown hK hP 0 rfl rfl 8 (by decide) wf_RX7_35 rfl dX7_read_34 ?_
    refine lv_iload_n hx hb dX7_read_37 rfl (lv_at hl 1 rfl) ?_
    refine sm_zld hx hb hK hP 9 rfl k rfl (by omega) (by decide) dX7_read_38 ?_
    refine lv_if_ne (tgt := 46) hx hb dX7_read_39 (by decide) (fun c_2 => ?_) (fun c_2 => ?_)
    · have c_2 := sm_b1 c_2
      refine lv_iconst (v := 0) hx hb dX7_read_46 (by decide) ?_
      refine sm_pt (ci := 7) (C := RX7) (T := TX7) (N := 33) hx hb hts inlX7 tyX7 tyX7_ok nmX7 hown hK hP hD hS 0 rfl rfl 19 (by decide) wf_RX7_69 rfl rfl rfl (Nat.le_of_ble_eq_true rfl) dX7_read_47 (fun H locs hP hD hS => ?_)
      have hP : va_P D.1 sm_cl (sm_w7 D am P S T L nm Z cp ph 0 n2 fo rd np pw ev od rc wr) H := hP
      have hD : va_D (sm_ad (sm_w7 D am P S T L nm Z cp ph th n2 fo rd np pw ev od rc wr)) (sm_w7 D am P S T L nm Z cp ph 0 n2 fo rd np pw ev od rc wr) := hD
      refine lv_aload_n hx hb dX7_read_50 rfl (lv_at hl 0 rfl) ?_
      refine sm_gt (ci := 7) (C := RX7) (T := TX7) (N := 33) hx hb hts inlX7 hown hK hP 0 rfl rfl 19 (by decide) wf_RX7_69 rfl dX7_read_51 ?_
      refine lv_if_le (tgt := 59) hx hb dX7_read_54 (by decide) (fun _ => ?_) (fun h => absurd h (by decide))
      refine lv_aload_n hx hb dX7_read_59 rfl (lv_at hl 0 rfl) ?_
      refine sm_cVPr (rest := []) hC hK hP (c_X7_isByTarget D am P S T L nm Z cp ph 0 n2 fo rd np pw ev od rc wr ) qyX7_isByTarget wl_RX7_184 ⟨Nat.le_of_ble_eq_true rfl, Nat.le_of_ble_eq_true rfl⟩ 0 rfl rfl rfl hl.1 rfl (Nat.le_of_ble_eq_true rfl) dX7_read_60 ⟨Nat.le_of_ble_eq_true rfl, Nat.le_of_ble_eq_true rfl⟩ ?_
      refine sm_re (y := sm_b false) (congrArg sm_b c_1) ?_
      refine lv_if_eq (tgt := 88) hx hb dX7_read_63 (by decide) (fun _ => ?_) (fun h => absurd h (by decide))
      refine lv_iload_n hx hb dX7_read_88 rfl (lv_at hl 2 rfl) ?_
      refine lv_if_eq (tgt := 101) hx hb dX7_read_89 (by decide) (fun c_3 => ?_) (fun c_3 => ?_)
      · have c_3 := sm_b0 c_3
        refine lv_aload_n hx hb dX7_read_101 rfl (lv_at hl 0 rfl) ?_
        refine sm_gt (ci := 7) (C := RX7) (T := TX7) (N := 33) hx hb hts inlX7 hown hK hP 0 rfl rfl 3 (by decide) wf_RX7_20 rfl dX7_read_102 ?_
        refine lv_iload_n hx hb dX7_read_105 rfl (lv_at hl 1 rfl) ?_
        refine sm_ild hx hb hK hP 4 rfl k rfl (by omega) (by decide) dX7_read_106 ?_
        exact sm_retC hC hP hD hS (by simp [sm_k1, sm_k2, sm_live, sm_rdF, sm_pk, c_1, c_2, c_3]) rfl (by simp [sm_k1, sm_k2, sm_live, c_1, c_2, c_3]) dX7_read_107
      · have c_3 := sm_b1 c_3
        refine lv_aload_n hx hb dX7_read_92 rfl (lv_at hl 0 rfl) ?_
        refine sm_gt (ci := 7) (C := RX7) (T := TX7) (N := 33) hx hb hts inlX7 hown hK hP 0 rfl rfl 4 (by decide) wf_RX7_23 rfl dX7_read_93 ?_
        refine lv_iload_n hx hb dX7_read_96 rfl (lv_at hl 1 rfl) ?_
        refine sm_ild hx hb hK hP 5 rfl k rfl (by omega) (by decide) dX7_read_97 ?_
        refine lv_goto (tgt := 107) hx hb dX7_read_98 (by decide) ?_
        exact sm_retC hC hP hD hS (by simp [sm_k1, sm_k2, sm_live, sm_rdF, sm_pk, c_1, c_2, c_3]) rfl (by simp [sm_k1, sm_k2, sm_live, c_1, c_2, c_3]) dX7_read_107
    · have c_2 := sm_b0 c_2
      refine lv_iconst (v := 2) hx hb dX7_read_42 (by decide) ?_
      refine lv_goto (tgt := 47) hx hb dX7_read_43 (by decide) ?_
      refine sm_pt (ci := 7) (C := RX7) (T := TX7) (N := 33) hx hb hts inlX7 tyX7 tyX7_ok nmX7 hown hK hP hD hS 0 rfl rfl 19 (by decide) wf_RX7_69 rfl rfl rfl (Nat.le_of_ble_eq_true rfl) dX7_read_47 (fun H locs hP hD hS => ?_)
      have hP : va_P D.1 sm_cl (sm_w7 D am P S T L nm Z cp ph 2 n2 fo rd np pw ev od rc wr) H := hP
      have hD : va_D (sm_ad (sm_w7 D am P S T L nm Z cp ph th n2 fo rd np pw ev od rc wr)) (sm_w7 D am P S T L nm Z cp ph 2 n2 fo rd np pw ev od rc wr) := hD
      refine lv_aload_n hx hb dX7_read_50 rfl (lv_at hl 0 rfl) ?_
      refine sm_gt (ci := 7) (C := RX7) (T := TX7) (N := 33) hx hb hts inlX7 hown hK hP 0 rfl rfl 19 (by decide) wf_RX7_69 rfl dX7_read_51 ?_
      refine lv_if_le (tgt := 59) hx hb dX7_read_54 (by decide) (fun h => absurd h (by decide)) (fun _ => ?_)
      refine lv_iconst (v := 0) hx hb dX7_read_57 (by decide) ?_
      exact sm_retC hC hP hD hS (by simp [sm_k1, sm_k2, sm_live, sm_rdF, sm_pk, c_1, c_2]) rfl (by simp [sm_k1, sm_k2, sm_live, c_1, c_2]) dX7_read_58
  · have c_1 := sm_b1 c_1
    refine lv_aload_n hx hb dX7_read_19 rfl (lv_at hl 0 rfl) ?_
    refine sm_gt (ci := 7) (C := RX7) (T := TX7) (N := 33) hx hb hts inlX7 hown hK hP 0 rfl rfl 1 (by decide) wf_RX7_13 rfl dX7_read_20 ?_
    refine lv_iload_n hx hb dX7_read_23 rfl (lv_at hl 1 rfl) ?_
    refine sm_cld hx hb hK hP 2 rfl k rfl (by omega) (by decide) dX7_read_24 ?_
    refine lv_bipush (v := 101) hx hb dX7_read_25 (by decide) ?_
    refine lv_icmp_eq (tgt := 46) hx hb dX7_read_27 (by decide) (fun c_4 => ?_) (fun c_4 => ?_)
    · have c_4 := sm_hcT1 c_4
      refine lv_iconst (v := 0) hx hb dX7_read_46 (by decide) ?_
      refine sm_pt (ci := 7) (C := RX7) (T := TX7) (N := 33) hx hb hts inlX7 tyX7 tyX7_ok nmX7 hown hK hP hD hS 0 rfl rfl 19 (by decide) wf_RX7_69 rfl rfl rfl (Nat.le_of_ble_eq_true rfl) dX7_read_47 (fun H locs hP hD hS => ?_)
      have hP : va_P D.1 sm_cl (sm_w7 D am P S T L nm Z cp ph 0 n2 fo rd np pw ev od rc wr) H := hP
      have hD : va_D (sm_ad (sm_w7 D am P S T L nm Z cp ph th n2 fo rd np pw ev od rc wr)) (sm_w7 D am P S T L nm Z cp ph 0 n2 fo rd np pw ev od rc wr) := hD
      refine lv_aload_n hx hb dX7_read_50 rfl (lv_at hl 0 rfl) ?_
      refine sm_gt (ci := 7) (C := RX7) (T := TX7) (N := 33) hx hb hts inlX7 hown hK hP 0 rfl rfl 19 (by decide) wf_RX7_69 rfl dX7_read_51 ?_
      refine lv_if_le (tgt := 59) hx hb dX7_read_54 (by decide) (fun _ => ?_) (fun h => absurd h (by decide))
      refine lv_aload_n hx hb dX7_read_59 rfl (lv_at hl 0 rfl) ?_
      refine sm_cVPr (rest := []) hC hK hP (c_X7_isByTarget D am P S T L nm Z cp ph 0 n2 fo rd np pw ev od rc wr ) qyX7_isByTarget wl_RX7_184 ⟨Nat.le_of_ble_eq_true rfl, Nat.le_of_ble_eq_true rfl⟩ 0 rfl rfl rfl hl.1 rfl (Nat.le_of_ble_eq_true rfl) dX7_read_60 ⟨Nat.le_of_ble_eq_true rfl, Nat.le_of_ble_eq_true rfl⟩ ?_
      refine sm_re (y := sm_b true) (congrArg sm_b c_1) ?_
      refine lv_if_eq (tgt := 88) hx hb dX7_read_63 (by decide) (fun h => absurd h (by decide)) (fun _ => ?_)
      refine lv_iload_n hx hb dX7_read_66 rfl (lv_at hl 2 rfl) ?_
      refine lv_if_eq (tgt := 79) hx hb dX7_read_67 (by decide) (fun c_5 => ?_) (fun c_5 => ?_)
      · have c_5 := sm_b0 c_5
        refine lv_aload_n hx hb dX7_read_79 rfl (lv_at hl 0 rfl) ?_
        refine sm_gt (ci := 7) (C := RX7) (T := TX7) (N := 33) hx hb hts inlX7 hown hK hP 0 rfl rfl 5 (by decide) wf_RX7_26 rfl dX7_read_80 ?_
        refine lv_iload_n hx hb dX7_read_83 rfl (lv_at hl 1 rfl) ?_
        refine sm_ild hx hb hK hP 6 rfl k rfl (by omega) (by decide) dX7_read_84 ?_
        refine lv_goto (tgt := 107) hx hb dX7_read_85 (by decide) ?_
        exact sm_retC hC hP hD hS (by simp [sm_k1, sm_k2, sm_live, sm_rdF, sm_pk, c_1, c_4, c_5]) rfl (by simp [sm_k1, sm_k2, sm_live, c_1, c_4, c_5]) dX7_read_107
      · have c_5 := sm_b1 c_5
        refine lv_aload_n hx hb dX7_read_70 rfl (lv_at hl 0 rfl) ?_
        refine sm_gt (ci := 7) (C := RX7) (T := TX7) (N := 33) hx hb hts inlX7 hown hK hP 0 rfl rfl 6 (by decide) wf_RX7_29 rfl dX7_read_71 ?_
        refine lv_iload_n hx hb dX7_read_74 rfl (lv_at hl 1 rfl) ?_
        refine sm_ild hx hb hK hP 7 rfl k rfl (by omega) (by decide) dX7_read_75 ?_
        refine lv_goto (tgt := 107) hx hb dX7_read_76 (by decide) ?_
        exact sm_retC hC hP hD hS (by simp [sm_k1, sm_k2, sm_live, sm_rdF, sm_pk, c_1, c_4, c_5]) rfl (by simp [sm_k1, sm_k2, sm_live, c_1, c_4, c_5]) dX7_read_107
    · have c_4 := sm_hcF1 c_4
      refine lv_goto (tgt := 42) hx hb dX7_read_30 (by decide) ?_
      refine lv_iconst (v := 2) hx hb dX7_read_42 (by decide) ?_
      refine lv_goto (tgt := 47) hx hb dX7_read_43 (by decide) ?_
      refine sm_pt (ci := 7) (C := RX7) (T := TX7) (N := 33) hx hb hts inlX7 tyX7 tyX7_ok nmX7 hown hK hP hD hS 0 rfl rfl 19 (by decide) wf_RX7_69 rfl rfl rfl (Nat.le_of_ble_eq_true rfl) dX7_read_47 (fun H locs hP hD hS => ?_)
      have hP : va_P D.1 sm_cl (sm_w7 D am P S T L nm Z cp ph 2 n2 fo rd np pw ev od rc wr) H := hP
      have hD : va_D (sm_ad (sm_w7 D am P S T L nm Z cp ph th n2 fo rd np pw ev od rc wr)) (sm_w7 D am P S T L nm Z cp ph 2 n2 fo rd np pw ev od rc wr) := hD
      refine lv_aload_n hx hb dX7_read_50 rfl (lv_at hl 0 rfl) ?_
      refine sm_gt (ci := 7) (C := RX7) (T := TX7) (N := 33) hx hb hts inlX7 hown hK hP 0 rfl rfl 19 (by decide) wf_RX7_69 rfl dX7_read_51 ?_
      refine lv_if_le (tgt := 59) hx hb dX7_read_54 (by decide) (fun h => absurd h (by decide)) (fun _ => ?_)
      refine lv_iconst (v := 0) hx hb dX7_read_57 (by decide) ?_
      exact sm_retC hC hP hD hS (by simp [sm_k1, sm_k2, sm_live, sm_rdF, sm_pk, c_1, c_4]) rfl (by simp [sm_k1, sm_k2, sm_live, c_1, c_4]) dX7_read_58

set_option maxHeartbeats 1000000 in
set_option maxRecDepth 100000 in
theorem c_X7_nextNumber  : sm_MC l yX7_nextNumber cX7_nextNumber 1 (some .int) 1 21 [.ref (am 0)] D (sm_w7 D am P S T L nm Z cp ph th n2 fo rd np pw ev od rc wr) (fun w => w = sm_w7 D am P S T L nm Z cp ph (sm_kNx ph) n2 fo rd np pw (if sm_kNx ph = 0 then (if ph = 116 then ev else ev + 1) else ev) (if sm_kNx ph = 0 then (if ph = 116 then od + 1 else od) else od) rc wr) (some (.int (if sm_kNx ph = 0 then nI (if ph = 116 then 2 * (od + 1) - 1 else 2 * (ev + 1) - 2) else 0))) := by
  refine sm_met (own := RX7) (by decide) rfl (Nat.le_of_ble_eq_true rfl) ?_
  intro p e s m below meth c ls hC hv hl
  obtain ⟨hx, hb, hml, hr, hown, hlk, hts⟩ := id hC
  obtain ⟨⟨hP, hK⟩, hD, hZ⟩ := hv
  have hS : va_S (sm_ad (sm_w7 D am P S T L nm Z cp ph th n2 fo rd np pw ev od rc wr)) s.heap s.heap [] := va_S.rf
  have hl : lv_has ls 1 [(0, .ref (am 0))] := hl
  refine lv_aload_n hx hb dX7_nextNumber_0 rfl (lv_at hl 0 rfl) ?_
  refine lv_aload_n hx hb dX7_nextNumber_1 rfl (lv_at hl 0 rfl) ?_
  refine sm_gt (ci := 7) (C := RX7) (T := TX7) (N := 33) hx hb hts inlX7 hown hK hP 0 rfl rfl 32 (by decide) wf_RX7_109 rfl dX7_nextNumber_2 ?_
  refine lv_bipush (v := 100) hx hb dX7_nextNumber_5 (by decide) ?_
  refine lv_icmp_eq (tgt := 14) hx hb dX7_nextNumber_7 (by decide) (fun c_1 => ?_) (fun c_1 => ?_)
  · have c_1_ := c_1
    refine lv_iconst (v := 0) hx hb dX7_nextNumber_14 (by decide) ?_
    refine sm_cVCr (rest := []) hC hK hP hD hS hZ (c_X7_checked D am P S T L nm Z cp ph th n2 fo rd np pw ev od rc wr false) qyX7_checked wl_RX7_158 ⟨Nat.le_of_ble_eq_true rfl, Nat.le_of_ble_eq_true rfl⟩ 0 rfl rfl rfl hl.1 rfl (Nat.le_of_ble_eq_true rfl) dX7_nextNumber_15 ⟨Nat.le_of_ble_eq_true rfl, Nat.le_of_ble_eq_true rfl⟩ (fun w1 H locs hB hP hD hS => ?_)
    subst hB
    refine sm_re (y := 1) rfl ?_
    refine lv_if_le (tgt := 23) hx hb dX7_nextNumber_18 (by decide) (fun h => absurd h (by decide)) (fun _ => ?_)
    refine lv_iconst (v := 0) hx hb dX7_nextNumber_21 (by decide) ?_
    exact sm_retC hC hP hD hS (by subst c_1; simp [sm_k1, sm_kNx]) rfl (by subst c_1; simp [sm_k1, sm_kNx]) dX7_nextNumber_22
  · have c_1_ := c_1
    refine lv_iconst (v := 1) hx hb dX7_nextNumber_10 (by decide) ?_
    refine lv_goto (tgt := 15) hx hb dX7_nextNumber_11 (by decide) ?_
    refine sm_cVCr (rest := []) hC hK hP hD hS hZ (c_X7_checked D am P S T L nm Z cp ph th n2 fo rd np pw ev od rc wr true) qyX7_checked wl_RX7_158 ⟨Nat.le_of_ble_eq_true rfl, Nat.le_of_ble_eq_true rfl⟩ 0 rfl rfl rfl hl.1 rfl (Nat.le_of_ble_eq_true rfl) dX7_nextNumber_15 ⟨Nat.le_of_ble_eq_true rfl, Nat.le_of_ble_eq_true rfl⟩ (fun w1 H locs hB hP hD hS => ?_)
    subst hB
    refine sm_re (y := 0) rfl ?_
    refine lv_if_le (tgt := 23) hx hb dX7_nextNumber_18 (by decide) (fun _ => ?_) (fun h => absurd h (by decide))
    refine lv_aload_n hx hb dX7_nextNumber_23 rfl (lv_at hl 0 rfl) ?_
    refine sm_gt (ci := 7) (C := RX7) (T := TX7) (N := 33) hx hb hts inlX7 hown hK hP 0 rfl rfl 32 (by decide) wf_RX7_109 rfl dX7_nextNumber_24 ?_
    refine lv_bipush (v := 116) hx hb dX7_nextNumber_27 (by decide) ?_
    refine lv_icmp_ne (tgt := 51) hx hb dX7_nextNumber_29 (by decide) (fun c_2 => ?_) (fun c_2 => ?_)
    · have c_2_ := c_2
      refine lv_aload_n hx hb dX7_nextNumber_51 rfl (lv_at hl 0 rfl) ?_
      refine lv_dup hx hb dX7_nextNumber_52 rfl ?_
      refine sm_gt (ci := 7) (C := RX7) (T := TX7) (N := 33) hx hb hts inlX7 hown hK hP 0 rfl rfl 27 (by decide) wf_RX7_94 rfl dX7_nextNumber_53 ?_
      refine lv_iconst (v := 1) hx hb dX7_nextNumber_56 (by decide) ?_
      refine lv_iadd hx hb dX7_nextNumber_57 ?_
      refine sm_re (y := nI (ev + 1)) (nI_1 ev) ?_
      refine sm_pt (ci := 7) (C := RX7) (T := TX7) (N := 33) hx hb hts inlX7 tyX7 tyX7_ok nmX7 hown hK hP hD hS 0 rfl rfl 27 (by decide) wf_RX7_94 rfl rfl rfl (Nat.le_of_ble_eq_true rfl) dX7_nextNumber_58 (fun H locs hP hD hS => ?_)
      have hP : va_P D.1 sm_cl (sm_w7 D am P S T L nm Z cp ph 0 n2 fo rd np pw (ev + 1) od rc wr) H := hP
      have hD : va_D (sm_ad (sm_w7 D am P S T L nm Z cp ph th n2 fo rd np pw ev od rc wr)) (sm_w7 D am P S T L nm Z cp ph 0 n2 fo rd np pw (ev + 1) od rc wr) := hD
      refine lv_iconst (v := 2) hx hb dX7_nextNumber_61 (by decide) ?_
      refine lv_aload_n hx hb dX7_nextNumber_62 rfl (lv_at hl 0 rfl) ?_
      refine sm_gt (ci := 7) (C := RX7) (T := TX7) (N := 33) hx hb hts inlX7 hown hK hP 0 rfl rfl 27 (by decide) wf_RX7_94 rfl dX7_nextNumber_63 ?_
      refine lv_imul hx hb dX7_nextNumber_66 ?_
      refine sm_re (y := nI (2 * (ev + 1))) (pk_mul 2 (ev + 1)) ?_
      refine lv_iconst (v := 2) hx hb dX7_nextNumber_67 (by decide) ?_
      refine lv_isub hx hb dX7_nextNumber_68 ?_
      refine sm_re (y := nI (2 * (ev + 1) - 2)) (pk_sub (a := 2 * (ev + 1)) (b := 2) (by omega)) ?_
      exact sm_retC hC hP hD hS (by simp [sm_k1, sm_kNx, c_1, c_2]) rfl (by simp [sm_k1, sm_kNx, c_1, c_2]) dX7_nextNumber_69
    · have c_2_ := c_2
      refine lv_aload_n hx hb dX7_nextNumber_32 rfl (lv_at hl 0 rfl) ?_
      refine lv_dup hx hb dX7_nextNumber_33 rfl ?_
      refine sm_gt (ci := 7) (C := RX7) (T := TX7) (N := 33) hx hb hts inlX7 hown hK hP 0 rfl rfl 28 (by decide) wf_RX7_97 rfl dX7_nextNumber_34 ?_
      refine lv_iconst (v := 1) hx hb dX7_nextNumber_37 (by decide) ?_
      refine lv_iadd hx hb dX7_nextNumber_38 ?_
      refine sm_re (y := nI (od + 1)) (nI_1 od) ?_
      refine sm_pt (ci := 7) (C := RX7) (T := TX7) (N := 33) hx hb hts inlX7 tyX7 tyX7_ok nmX7 hown hK hP hD hS 0 rfl rfl 28 (by decide) wf_RX7_97 rfl rfl rfl (Nat.le_of_ble_eq_true rfl) dX7_nextNumber_39 (fun H locs hP hD hS => ?_)
      have hP : va_P D.1 sm_cl (sm_w7 D am P S T L nm Z cp ph 0 n2 fo rd np pw ev (od + 1) rc wr) H := hP
      have hD : va_D (sm_ad (sm_w7 D am P S T L nm Z cp ph th n2 fo rd np pw ev od rc wr)) (sm_w7 D am P S T L nm Z cp ph 0 n2 fo rd np pw ev (od + 1) rc wr) := hD
      refine lv_iconst (v := 2) hx hb dX7_nextNumber_42 (by decide) ?_
      refine lv_aload_n hx hb dX7_nextNumber_43 rfl (lv_at hl 0 rfl) ?_
      refine sm_gt (ci := 7) (C := RX7) (T := TX7) (N := 33) hx hb hts inlX7 hown hK hP 0 rfl rfl 28 (by decide) wf_RX7_97 rfl dX7_nextNumber_44 ?_
      refine lv_imul hx hb dX7_nextNumber_47 ?_
      refine sm_re (y := nI (2 * (od + 1))) (pk_mul 2 (od + 1)) ?_
      refine lv_iconst (v := 1) hx hb dX7_nextNumber_48 (by decide) ?_
      refine lv_isub hx hb dX7_nextNumber_49 ?_
      refine sm_re (y := nI (2 * (od + 1) - 1)) (pk_sub (a := 2 * (od + 1)) (b := 1) (by omega)) ?_
      exact sm_retC hC hP hD hS (by subst c_2; simp [sm_k1, sm_kNx, c_1]) rfl (by subst c_2; simp [sm_k1, sm_kNx, c_1]) dX7_nextNumber_50

set_option maxHeartbeats 1000000 in
set_option maxRecDepth 100000 in
theorem c_X7_freePart (hfr : sm_fpG Z.1 8 0 < 8) : sm_MP l yX7_freePart cX7_freePart 2 (some .int) 0 0 [.ref (am 0)] D (sm_w7 D am P S T L nm Z cp ph th n2 fo rd np pw ev od rc wr) (some (.int (nI (sm_fpG Z.1 8 0)))) := by
  refine sm_met (own := RX7) (by decide) rfl (Nat.le_of_ble_eq_true rfl) ?_
  intro p e s m below meth c ls hC hv hl
  obtain ⟨hx, hb, hml, hr, hown, hlk, hts⟩ := id hC
  obtain ⟨hP, hK⟩ := hv
  have hl : lv_has ls 2 [(0, .ref (am 0))] := hl
  refine lv_iconst (v := 0) hx hb dX7_freePart_0 (by decide) ?_
  refine lv_istore_n (lv' := [(1, .int 0), (0, .ref (am 0))]) hx hb dX7_freePart_1 rfl hl (by decide) rfl (fun ls hl => ?_)
  suffices K : ∀ (n : Nat) (i : Nat) (ls : Array Slot), 8 - i = n → (i ≤ 8) → (sm_fpG Z.1 (8 - i) i = sm_fpG Z.1 8 0) → lv_has ls 2 [(0, .ref (am 0)), (1, .int (nI i))] → W p l e ({ frames := 0, cells := 0, slots := 0, locals := 0 } : Room) s m ([.ref (am 0)] : List Value).toArray below meth c s.heap [] 0 0 (MQ below (sm_Qp (some (.int (nI (sm_fpG Z.1 8 0))))) ([.ref (am 0)] : List Value).toArray s 0 0 (fun _ => False)) (F0 m 2 ls []) from K _ 0 ls rfl (by omega) (rfl) (lv_sub hl [1, 0] rfl)
  intro n
  induction n using Nat.strongRecOn with
  | ind n ih =>
    intro i ls hn hi hR hl
    refine lv_iload_n hx hb dX7_freePart_2 rfl (lv_at hl 1 rfl) ?_
    refine lv_bipush (v := 8) hx hb dX7_freePart_3 (by decide) ?_
    refine lv_icmp_ge (tgt := 25) hx hb dX7_freePart_5 (by decide) (fun c_1 => ?_) (fun c_1 => ?_)
    · have c_1 := sm_Nnl (a := i) (b := 8) (sm_nl c_1) (by omega) (by omega)
      refine lv_iconst (v := -1) hx hb dX7_freePart_25 (by decide) ?_
      exact sm_retP hC (by exfalso; rw [show 8 - i = 0 by omega] at hR; have hR : 8 = _ := hR; omega) rfl dX7_freePart_26
    · have c_1 := sm_Nlt (a := i) (b := 8) (sm_nle c_1) (by omega) (by omega)
      refine lv_aload_n hx hb dX7_freePart_8 rfl (lv_at hl 0 rfl) ?_
      refine sm_gt (ci := 7) (C := RX7) (T := TX7) (N := 33) hx hb hts inlX7 hown hK hP 0 rfl rfl 13 (by decide) wf_RX7_51 rfl dX7_freePart_9 ?_
      refine lv_iload_n hx hb dX7_freePart_12 rfl (lv_at hl 1 rfl) ?_
      refine sm_ild hx hb hK hP 14 rfl i rfl (by omega) (by decide) dX7_freePart_13 ?_
      refine lv_if_ge (tgt := 19) hx hb dX7_freePart_14 (by decide) (fun c_2 => ?_) (fun c_2 => ?_)
      · have c_2 := sm_nl c_2
        refine lv_iinc (v := nI (i + 1)) (lv' := [(1, .int (nI (i + 1))), (0, .ref (am 0))]) hx hb dX7_freePart_19 hl (k := 1) rfl (nI_1 i) (by decide) rfl (fun ls hl => ?_)
        refine lv_goto (tgt := 2) hx hb dX7_freePart_22 (by decide) ?_
        exact ih _ (by omega) (i + 1) ls rfl (by omega) (by rw [sm_fpS (by omega), if_neg c_2] at hR; exact hR) (lv_sub hl [1, 0] rfl)
      · have c_2 := sm_nle c_2
        refine lv_iload_n hx hb dX7_freePart_17 rfl (lv_at hl 1 rfl) ?_
        exact sm_retP hC (by rw [sm_fpS (by omega), if_pos c_2] at hR; rw [← hR]) rfl dX7_freePart_18

set_option maxHeartbeats 1000000 in
set_option maxRecDepth 100000 in
theorem c_X7_placeOf (x : Int32) (hfd : sm_plG Z.1 x 8 0 < 8) : sm_MP l yX7_placeOf cX7_placeOf 3 (some .int) 0 0 [.ref (am 0), .int x] D (sm_w7 D am P S T L nm Z cp ph th n2 fo rd np pw ev od rc wr) (some (.int (nI (sm_plG Z.1 x 8 0)))) := by
  refine sm_met (own := RX7) (by decide) rfl (Nat.le_of_ble_eq_true rfl) ?_
  intro p e s m below meth c ls hC hv hl
  obtain ⟨hx, hb, hml, hr, hown, hlk, hts⟩ := id hC
  obtain ⟨hP, hK⟩ := hv
  have hl : lv_has ls 3 [(0, .ref (am 0)), (1, .int x)] := hl
  refine lv_iconst (v := 0) hx hb dX7_placeOf_0 (by decide) ?_
  refine lv_istore_n (lv' := [(2, .int 0), (0, .ref (am 0)), (1, .int x)]) hx hb dX7_placeOf_1 rfl hl (by decide) rfl (fun ls hl => ?_)
  suffices K : ∀ (n : Nat) (i : Nat) (ls : Array Slot), 8 - i = n → (i ≤ 8) → (sm_plG Z.1 x (8 - i) i = sm_plG Z.1 x 8 0) → lv_has ls 3 [(0, .ref (am 0)), (1, .int x), (2, .int (nI i))] → W p l e ({ frames := 0, cells := 0, slots := 0, locals := 0 } : Room) s m ([.ref (am 0), .int x] : List Value).toArray below meth c s.heap [] 0 0 (MQ below (sm_Qp (some (.int (nI (sm_plG Z.1 x 8 0))))) ([.ref (am 0), .int x] : List Value).toArray s 0 0 (fun _ => False)) (F0 m 2 ls []) from K _ 0 ls rfl (by omega) (rfl) (lv_sub hl [1, 2, 0] rfl)
  intro n
  induction n using Nat.strongRecOn with
  | ind n ih =>
    intro i ls hn hi hR hl
    refine lv_iload_n hx hb dX7_placeOf_2 rfl (lv_at hl 2 rfl) ?_
    refine lv_bipush (v := 8) hx hb dX7_placeOf_3 (by decide) ?_
    refine lv_icmp_ge (tgt := 26) hx hb dX7_placeOf_5 (by decide) (fun c_1 => ?_) (fun c_1 => ?_)
    · have c_1 := sm_Nnl (a := i) (b := 8) (sm_nl c_1) (by omega) (by omega)
      refine lv_iconst (v := -1) hx hb dX7_placeOf_26 (by decide) ?_
      exact sm_retP hC (by exfalso; rw [show 8 - i = 0 by omega] at hR; have hR : 8 = _ := hR; omega) rfl dX7_placeOf_27
    · have c_1 := sm_Nlt (a := i) (b := 8) (sm_nle c_1) (by omega) (by omega)
      refine lv_aload_n hx hb dX7_placeOf_8 rfl (lv_at hl 0 rfl) ?_
      refine sm_gt (ci := 7) (C := RX7) (T := TX7) (N := 33) hx hb hts inlX7 hown hK hP 0 rfl rfl 13 (by decide) wf_RX7_51 rfl dX7_placeOf_9 ?_
      refine lv_iload_n hx hb dX7_placeOf_12 rfl (lv_at hl 2 rfl) ?_
      refine sm_ild hx hb hK hP 14 rfl i rfl (by omega) (by decide) dX7_placeOf_13 ?_
      refine lv_iload_n hx hb dX7_placeOf_14 rfl (lv_at hl 1 rfl) ?_
      refine lv_icmp_ne (tgt := 20) hx hb dX7_placeOf_15 (by decide) (fun c_2 => ?_) (fun c_2 => ?_)
      · have c_2_ := c_2
        refine lv_iinc (v := nI (i + 1)) (lv' := [(2, .int (nI (i + 1))), (0, .ref (am 0)), (1, .int x)]) hx hb dX7_placeOf_20 hl (k := 2) rfl (nI_1 i) (by decide) rfl (fun ls hl => ?_)
        refine lv_goto (tgt := 2) hx hb dX7_placeOf_23 (by decide) ?_
        exact ih _ (by omega) (i + 1) ls rfl (by omega) (by rw [sm_plS (by omega), if_neg c_2] at hR; exact hR) (lv_sub hl [1, 2, 0] rfl)
      · have c_2_ := c_2
        refine lv_iload_n hx hb dX7_placeOf_18 rfl (lv_at hl 2 rfl) ?_
        exact sm_retP hC (by rw [sm_plS (by omega), if_pos c_2] at hR; rw [← hR]) rfl dX7_placeOf_19

set_option maxHeartbeats 1000000 in
set_option maxRecDepth 100000 in
theorem c_X7_placeOf_i (x : Int32) (hfd : sm_plG Z.1 x 8 0 = 8) : sm_MP l yX7_placeOf cX7_placeOf 3 (some .int) 0 0 [.ref (am 0), .int x] D (sm_w7 D am P S T L nm Z cp ph th n2 fo rd np pw ev od rc wr) (some (.int (-1))) := by
  refine sm_met (own := RX7) (by decide) rfl (Nat.le_of_ble_eq_true rfl) ?_
  intro p e s m below meth c ls hC hv hl
  obtain ⟨hx, hb, hml, hr, hown, hlk, hts⟩ := id hC
  obtain ⟨hP, hK⟩ := hv
  have hl : lv_has ls 3 [(0, .ref (am 0)), (1, .int x)] := hl
  refine lv_iconst (v := 0) hx hb dX7_placeOf_0 (by decide) ?_
  refine lv_istore_n (lv' := [(2, .int 0), (0, .ref (am 0)), (1, .int x)]) hx hb dX7_placeOf_1 rfl hl (by decide) rfl (fun ls hl => ?_)
  suffices K : ∀ (n : Nat) (i : Nat) (ls : Array Slot), 8 - i = n → (i ≤ 8) → (sm_plG Z.1 x (8 - i) i = sm_plG Z.1 x 8 0) → lv_has ls 3 [(0, .ref (am 0)), (1, .int x), (2, .int (nI i))] → W p l e ({ frames := 0, cells := 0, slots := 0, locals := 0 } : Room) s m ([.ref (am 0), .int x] : List Value).toArray below meth c s.heap [] 0 0 (MQ below (sm_Qp (some (.int (-1)))) ([.ref (am 0), .int x] : List Value).toArray s 0 0 (fun _ => False)) (F0 m 2 ls []) from K _ 0 ls rfl (by omega) (rfl) (lv_sub hl [1, 2, 0] rfl)
  intro n
  induction n using Nat.strongRecOn with
  | ind n ih =>
    intro i ls hn hi hR hl
    refine lv_iload_n hx hb dX7_placeOf_2 rfl (lv_at hl 2 rfl) ?_
    refine lv_bipush (v := 8) hx hb dX7_placeOf_3 (by decide) ?_
    refine lv_icmp_ge (tgt := 26) hx hb dX7_placeOf_5 (by decide) (fun c_1 => ?_) (fun c_1 => ?_)
    · have c_1 := sm_Nnl (a := i) (b := 8) (sm_nl c_1) (by omega) (by omega)
      refine lv_iconst (v := -1) hx hb dX7_placeOf_26 (by decide) ?_
      exact sm_retP hC (rfl) rfl dX7_placeOf_27
    · have c_1 := sm_Nlt (a := i) (b := 8) (sm_nle c_1) (by omega) (by omega)
      refine lv_aload_n hx hb dX7_placeOf_8 rfl (lv_at hl 0 rfl) ?_
      refine sm_gt (ci := 7) (C := RX7) (T := TX7) (N := 33) hx hb hts inlX7 hown hK hP 0 rfl rfl 13 (by decide) wf_RX7_51 rfl dX7_placeOf_9 ?_
      refine lv_iload_n hx hb dX7_placeOf_12 rfl (lv_at hl 2 rfl) ?_
      refine sm_ild hx hb hK hP 14 rfl i rfl (by omega) (by decide) dX7_placeOf_13 ?_
      refine lv_iload_n hx hb dX7_placeOf_14 rfl (lv_at hl 1 rfl) ?_
      refine lv_icmp_ne (tgt := 20) hx hb dX7_placeOf_15 (by decide) (fun c_2 => ?_) (fun c_2 => ?_)
      · have c_2_ := c_2
        refine lv_iinc (v := nI (i + 1)) (lv' := [(2, .int (nI (i + 1))), (0, .ref (am 0)), (1, .int x)]) hx hb dX7_placeOf_20 hl (k := 2) rfl (nI_1 i) (by decide) rfl (fun ls hl => ?_)
        refine lv_goto (tgt := 2) hx hb dX7_placeOf_23 (by decide) ?_
        exact ih _ (by omega) (i + 1) ls rfl (by omega) (by rw [sm_plS (by omega), if_neg c_2] at hR; exact hR) (lv_sub hl [1, 2, 0] rfl)
      · have c_2_ := c_2
        refine lv_iload_n hx hb dX7_placeOf_18 rfl (lv_at hl 2 rfl) ?_
        exact sm_retP hC (by exfalso; rw [sm_plS (by omega), if_pos c_2] at hR; omega) rfl dX7_placeOf_19

set_option maxHeartbeats 1000000 in
set_option maxRecDepth 100000 in
theorem c_X7_readPart_i (x : Int32) (hbk : sm_bt 1 40 x = false) : sm_MC l yX7_readPart cX7_readPart 5 (some .int) 1 22 [.ref (am 0), .int x] D (sm_w7 D am P S T L nm Z cp ph th n2 fo rd np pw ev od rc wr) (fun w => w = sm_w7 D am P S T L nm Z cp ph 1 n2 fo rd np pw ev od rc wr) (some (.int 0)) := by
  refine sm_met (own := RX7) (by decide) rfl (Nat.le_of_ble_eq_true rfl) ?_
  intro p e s m below meth c ls hC hv hl
  obtain ⟨hx, hb, hml, hr, hown, hlk, hts⟩ := id hC
  obtain ⟨⟨hP, hK⟩, hD, hZ⟩ := hv
  have hS : va_S (sm_ad (sm_w7 D am P S T L nm Z cp ph th n2 fo rd np pw ev od rc wr)) s.heap s.heap [] := va_S.rf
  have hl : lv_has ls 5 [(0, .ref (am 0)), (1, .int x)] := hl
  refine lv_aload_n hx hb dX7_readPart_0 rfl (lv_at hl 0 rfl) ?_
  refine lv_iload_n hx hb dX7_readPart_1 rfl (lv_at hl 1 rfl) ?_
  refine lv_iconst (v := 1) hx hb dX7_readPart_2 (by decide) ?_
  refine lv_bipush (v := 40) hx hb dX7_readPart_3 (by decide) ?_
  refine sm_cSPr (rest := [.ref (am 0)]) hC hK hP (c_X7_in D am P S T L nm Z cp ph th n2 fo rd np pw ev od rc wr x 1 40) qyX7_in wl_RX7_113 ⟨Nat.le_of_ble_eq_true rfl, Nat.le_of_ble_eq_true rfl⟩ rfl hl.1 rfl (Nat.le_of_ble_eq_true rfl) dX7_readPart_5 ⟨Nat.le_of_ble_eq_true rfl, Nat.le_of_ble_eq_true rfl⟩ ?_
  refine sm_re (y := sm_b false) (congrArg sm_b hbk) ?_
  refine lv_if_ne (tgt := 15) hx hb dX7_readPart_8 (by decide) (fun h => absurd h (by decide)) (fun _ => ?_)
  refine lv_iconst (v := 1) hx hb dX7_readPart_11 (by decide) ?_
  refine lv_goto (tgt := 47) hx hb dX7_readPart_12 (by decide) ?_
  refine sm_pt (ci := 7) (C := RX7) (T := TX7) (N := 33) hx hb hts inlX7 tyX7 tyX7_ok nmX7 hown hK hP hD hS 0 rfl rfl 19 (by decide) wf_RX7_69 rfl rfl rfl (Nat.le_of_ble_eq_true rfl) dX7_readPart_47 (fun H locs hP hD hS => ?_)
  have hP : va_P D.1 sm_cl (sm_w7 D am P S T L nm Z cp ph 1 n2 fo rd np pw ev od rc wr) H := hP
  have hD : va_D (sm_ad (sm_w7 D am P S T L nm Z cp ph th n2 fo rd np pw ev od rc wr)) (sm_w7 D am P S T L nm Z cp ph 1 n2 fo rd np pw ev od rc wr) := hD
  refine lv_aload_n hx hb dX7_readPart_50 rfl (lv_at hl 0 rfl) ?_
  refine sm_gt (ci := 7) (C := RX7) (T := TX7) (N := 33) hx hb hts inlX7 hown hK hP 0 rfl rfl 19 (by decide) wf_RX7_69 rfl dX7_readPart_51 ?_
  refine lv_if_le (tgt := 59) hx hb dX7_readPart_54 (by decide) (fun h => absurd h (by decide)) (fun _ => ?_)
  refine lv_iconst (v := 0) hx hb dX7_readPart_57 (by decide) ?_
  exact sm_retC hC hP hD hS (rfl) rfl (by exact rfl) dX7_readPart_58

end
