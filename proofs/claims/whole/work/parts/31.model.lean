/-! the reference: logs, sums, going to both, switching -/
section
theorem sm_kvU {f : Nat → Int32} {j : Nat} {x : Int32} (h : ∀ k, sm_kv (f k)) (hx : sm_kv x) : ∀ k, sm_kv (va_up f j x k) := by
  intro k
  unfold va_up
  split
  · exact hx
  · exact h k
theorem sm_kvH {T : sm_Tg} {j : Nat} {y x : Int32} (h : ∀ k, sm_kv (T.1 k)) (hy : sm_kv y) : ∀ k, sm_kv ((sm_hldT T j y x).1 k) := sm_kvU h hy
theorem sm_kvM {P : sm_Sp} {L : sm_Lg} {T : sm_Tg} {i : Nat} (h : ∀ k, sm_kv (T.1 k)) : ∀ k, sm_kv ((sm_fM1 P L T i).1 k) := by
  unfold sm_fM1
  split
  · unfold sm_taM
    split
    · exact sm_kvH h (Or.inr (Or.inr (Or.inr rfl)))
    · exact h
  · unfold sm_prM
    split
    · refine sm_kvU h ?_
      split
      · exact Or.inr (Or.inl rfl)
      · exact Or.inr (Or.inr (Or.inl rfl))
    · exact h
theorem sm_srF0 {P : sm_Sp} {S : sm_Rw} {i : Nat} (h : S.1 i = false) : sm_srF P S i = 0 := by simp [sm_srF, sm_tn, h]
theorem sm_srFp {P : sm_Sp} {S : sm_Rw} {i : Nat} (h : S.1 i = true) (h2 : (sm_tr P (S.2.1 i, S.2.2 i)).1 = true) : sm_srF P S i = sm_sk i (sm_tr P (S.2.1 i, S.2.2 i)).2.1 (sm_tr P (S.2.1 i, S.2.2 i)).2.2 := by simp [sm_srF, sm_tn, h, h2]
theorem sm_srFn {P : sm_Sp} {S : sm_Rw} {i : Nat} (h : S.1 i = true) (h2 : (sm_tr P (S.2.1 i, S.2.2 i)).1 = false) : sm_srF P S i = 0 := by simp [sm_srF, sm_tn, h, h2]
def sm_mGB (ph : Int32) (rd pw : Nat) : Int32 := if ph = 99 then (if rd < 40 then 2 else if 0 < pw then 2 else 0) else 1
def sm_fMG (P : sm_Sp) (L : sm_Lg) : Nat → sm_Tg → Nat → sm_Tg
  | 0, t, _ => t
  | n + 1, t, i => sm_fMG P L n (sm_fM1 P L t i) (i + 1)
theorem sm_fMS {P : sm_Sp} {L : sm_Lg} {n i : Nat} {t : sm_Tg} (h : i < n) : sm_fMG P L (n - i) t i = sm_fMG P L (n - (i + 1)) (sm_fM1 P L t i) (i + 1) := by
  obtain ⟨k, hk⟩ : ∃ k, n - i = k + 1 := ⟨n - i - 1, by omega⟩
  rw [hk, show n - (i + 1) = k by omega]
  rfl
theorem sm_ssM (P : sm_Sp) (S : sm_Rw) (T : sm_Tg) (lo hi : Nat) : sm_ss P S T lo hi = if sm_sm false P S T lo hi = sm_sm true P S T lo hi then true else false := by
  unfold sm_ss
  by_cases h : sm_sm true P S T lo hi = sm_sm false P S T lo hi
  · rw [if_pos h, if_pos h.symm]
  · rw [if_neg h, if_neg (fun z => h z.symm)]
def sm_cMG (P : sm_Sp) (T : sm_Tg) (nm : Nat → Bool) : Nat → Nat → Bool
  | 0, _ => true
  | n + 1, i => if nm i = true then (if sm_kd T i 1 = true then (if sm_tb P T i = true then sm_cMG P T nm n (i + 1) else false) else sm_cMG P T nm n (i + 1)) else sm_cMG P T nm n (i + 1)
theorem sm_cMS {P : sm_Sp} {T : sm_Tg} {nm : Nat → Bool} {n i : Nat} (h : i < n) : sm_cMG P T nm (n - i) i = if nm i = true then (if sm_kd T i 1 = true then (if sm_tb P T i = true then sm_cMG P T nm (n - (i + 1)) (i + 1) else false) else sm_cMG P T nm (n - (i + 1)) (i + 1)) else sm_cMG P T nm (n - (i + 1)) (i + 1) := by
  obtain ⟨k, hk⟩ : ∃ k, n - i = k + 1 := ⟨n - i - 1, by omega⟩
  rw [hk, show n - (i + 1) = k by omega]
  rfl
variable {l : Launch} (D : sm_G) (am : Nat → Nat) (P : sm_Sp) (S : sm_Rw) (T : sm_Tg) (L : sm_Lg) (nm : Nat → Bool) (Z : sm_Qt) (cp : sm_Cp) (ph : Int32) (th : Int32) (n2 fo rd np pw ev od rc : Nat) (wr : va_W)
set_option maxHeartbeats 1000000 in
set_option maxRecDepth 100000 in
theorem c_X7_logs (k : Nat) (hk : k < 40) (z : Bool) (a b : Int32) (hlt : ¬ ph = 105 → L.1 < 120) (hfo : fo ≤ L.1) (hL : L.1 ≤ 120) (hLk : ∀ i, L.2.1 i < 40) (hP6 : P.1 ≤ 6) (hOK : ∀ i, i < P.1 → sm_kOK (P.2.1 i) (P.2.2 i)) (hTk : ∀ k, sm_kv (T.1 k)) : sm_MC l yX7_logs cX7_logs 5 none 5 112 [.ref (am 0), .int (nI k), .int (sm_b z), .int a, .int b] D (sm_w7 D am P S T L nm Z cp ph th n2 fo rd np pw ev od rc wr) (fun w => ∃ (cp' : sm_Cp), w = sm_w7 D am P S (if ph = 98 then sm_fM1 P (sm_appL L k z a b) T fo else T) (if ph = 105 then L else sm_appL L k z a b) nm Z (cp') ph th n2 (if ph = 98 then fo + 1 else fo) rd np pw ev od rc wr) none := by
  refine sm_met (own := RX7) (by decide) rfl (Nat.le_of_ble_eq_true rfl) ?_
  intro p e s m below meth c ls hC hv hl
  obtain ⟨hx, hb, hml, hr, hown, hlk, hts⟩ := id hC
  obtain ⟨⟨hP, hK⟩, hD, hZ⟩ := hv
  have hS : va_S (sm_ad (sm_w7 D am P S T L nm Z cp ph th n2 fo rd np pw ev od rc wr)) s.heap s.heap [] := va_S.rf
  have hl : lv_has ls 5 [(0, .ref (am 0)), (1, .int (nI k)), (2, .int (sm_b z)), (3, .int a), (4, .int b)] := hl
  refine lv_aload_n hx hb dX7_logs_0 rfl (lv_at hl 0 rfl) ?_
  refine sm_gt (ci := 7) (C := RX7) (T := TX7) (N := 33) hx hb hts inlX7 hown hK hP 0 rfl rfl 32 (by decide) wf_RX7_109 rfl dX7_logs_1 ?_
  refine lv_bipush (v := 105) hx hb dX7_logs_4 (by decide) ?_
  refine lv_icmp_ne (tgt := 10) hx hb dX7_logs_6 (by decide) (fun c_1 => ?_) (fun c_1 => ?_)
  · have c_1_ := c_1
    have hlt := hlt c_1
    refine lv_aload_n hx hb dX7_logs_10 rfl (lv_at hl 0 rfl) ?_
    refine sm_gt (ci := 7) (C := RX7) (T := TX7) (N := 33) hx hb hts inlX7 hown hK hP 0 rfl rfl 10 (by decide) wf_RX7_42 rfl dX7_logs_11 ?_
    refine lv_aload_n hx hb dX7_logs_14 rfl (lv_at hl 0 rfl) ?_
    refine sm_gt (ci := 7) (C := RX7) (T := TX7) (N := 33) hx hb hts inlX7 hown hK hP 0 rfl rfl 21 (by decide) wf_RX7_76 rfl dX7_logs_15 ?_
    refine lv_iload_n hx hb dX7_logs_18 rfl (lv_at hl 1 rfl) ?_
    refine sm_istG (g := nI) hx hb hK hP hD hS 11 rfl k rfl L.1 rfl (by omega) (by decide) dX7_logs_19 (fun H locs hP hD hS => ?_)
    have hP : va_P D.1 sm_cl (sm_w7 D am P S T (L.1, va_up L.2.1 L.1 k, L.2.2) nm Z cp ph th n2 fo rd np pw ev od rc wr) H := hP
    have hD : va_D (sm_ad (sm_w7 D am P S T L nm Z cp ph th n2 fo rd np pw ev od rc wr)) (sm_w7 D am P S T (L.1, va_up L.2.1 L.1 k, L.2.2) nm Z cp ph th n2 fo rd np pw ev od rc wr) := hD
    refine lv_aload_n hx hb dX7_logs_20 rfl (lv_at hl 0 rfl) ?_
    refine sm_gt (ci := 7) (C := RX7) (T := TX7) (N := 33) hx hb hts inlX7 hown hK hP 0 rfl rfl 17 (by decide) wf_RX7_63 rfl dX7_logs_21 ?_
    refine lv_aload_n hx hb dX7_logs_24 rfl (lv_at hl 0 rfl) ?_
    refine sm_gt (ci := 7) (C := RX7) (T := TX7) (N := 33) hx hb hts inlX7 hown hK hP 0 rfl rfl 21 (by decide) wf_RX7_76 rfl dX7_logs_25 ?_
    refine lv_iload_n hx hb dX7_logs_28 rfl (lv_at hl 2 rfl) ?_
    refine sm_zst hx hb hK hP hD hS 18 rfl z rfl L.1 rfl (by omega) (by decide) dX7_logs_29 (fun H locs hP hD hS => ?_)
    have hP : va_P D.1 sm_cl (sm_w7 D am P S T (L.1, va_up L.2.1 L.1 k, va_up L.2.2.1 L.1 z, L.2.2.2) nm Z cp ph th n2 fo rd np pw ev od rc wr) H := hP
    have hD : va_D (sm_ad (sm_w7 D am P S T L nm Z cp ph th n2 fo rd np pw ev od rc wr)) (sm_w7 D am P S T (L.1, va_up L.2.1 L.1 k, va_up L.2.2.1 L.1 z, L.2.2.2) nm Z cp ph th n2 fo rd np pw ev od rc wr) := hD
    refine lv_aload_n hx hb dX7_logs_30 rfl (lv_at hl 0 rfl) ?_
    refine sm_gt (ci := 7) (C := RX7) (T := TX7) (N := 33) hx hb hts inlX7 hown hK hP 0 rfl rfl 11 (by decide) wf_RX7_45 rfl dX7_logs_31 ?_
    refine lv_aload_n hx hb dX7_logs_34 rfl (lv_at hl 0 rfl) ?_
    refine sm_gt (ci := 7) (C := RX7) (T := TX7) (N := 33) hx hb hts inlX7 hown hK hP 0 rfl rfl 21 (by decide) wf_RX7_76 rfl dX7_logs_35 ?_
    refine lv_iload_n hx hb dX7_logs_38 rfl (lv_at hl 3 rfl) ?_
    refine sm_ist hx hb hK hP hD hS 12 rfl L.1 rfl (by omega) (by decide) dX7_logs_39 (fun H locs hP hD hS => ?_)
    have hP : va_P D.1 sm_cl (sm_w7 D am P S T (L.1, va_up L.2.1 L.1 k, va_up L.2.2.1 L.1 z, va_up L.2.2.2.1 L.1 a, L.2.2.2.2) nm Z cp ph th n2 fo rd np pw ev od rc wr) H := hP
    have hD : va_D (sm_ad (sm_w7 D am P S T L nm Z cp ph th n2 fo rd np pw ev od rc wr)) (sm_w7 D am P S T (L.1, va_up L.2.1 L.1 k, va_up L.2.2.1 L.1 z, va_up L.2.2.2.1 L.1 a, L.2.2.2.2) nm Z cp ph th n2 fo rd np pw ev od rc wr) := hD
    refine lv_aload_n hx hb dX7_logs_40 rfl (lv_at hl 0 rfl) ?_
    refine sm_gt (ci := 7) (C := RX7) (T := TX7) (N := 33) hx hb hts inlX7 hown hK hP 0 rfl rfl 12 (by decide) wf_RX7_48 rfl dX7_logs_41 ?_
    refine lv_aload_n hx hb dX7_logs_44 rfl (lv_at hl 0 rfl) ?_
    refine sm_gt (ci := 7) (C := RX7) (T := TX7) (N := 33) hx hb hts inlX7 hown hK hP 0 rfl rfl 21 (by decide) wf_RX7_76 rfl dX7_logs_45 ?_
    refine lv_iload hx hb dX7_logs_48 (lv_at hl 4 rfl) ?_
    refine sm_ist hx hb hK hP hD hS 13 rfl L.1 rfl (by omega) (by decide) dX7_logs_50 (fun H locs hP hD hS => ?_)
    have hP : va_P D.1 sm_cl (sm_w7 D am P S T (L.1, va_up L.2.1 L.1 k, va_up L.2.2.1 L.1 z, va_up L.2.2.2.1 L.1 a, va_up L.2.2.2.2 L.1 b) nm Z cp ph th n2 fo rd np pw ev od rc wr) H := hP
    have hD : va_D (sm_ad (sm_w7 D am P S T L nm Z cp ph th n2 fo rd np pw ev od rc wr)) (sm_w7 D am P S T (L.1, va_up L.2.1 L.1 k, va_up L.2.2.1 L.1 z, va_up L.2.2.2.1 L.1 a, va_up L.2.2.2.2 L.1 b) nm Z cp ph th n2 fo rd np pw ev od rc wr) := hD
    refine lv_aload_n hx hb dX7_logs_51 rfl (lv_at hl 0 rfl) ?_
    refine lv_dup hx hb dX7_logs_52 rfl ?_
    refine sm_gt (ci := 7) (C := RX7) (T := TX7) (N := 33) hx hb hts inlX7 hown hK hP 0 rfl rfl 21 (by decide) wf_RX7_76 rfl dX7_logs_53 ?_
    refine lv_iconst (v := 1) hx hb dX7_logs_56 (by decide) ?_
    refine lv_iadd hx hb dX7_logs_57 ?_
    refine sm_re (y := nI (L.1 + 1)) (nI_1 L.1) ?_
    refine sm_pt (ci := 7) (C := RX7) (T := TX7) (N := 33) hx hb hts inlX7 tyX7 tyX7_ok nmX7 hown hK hP hD hS 0 rfl rfl 21 (by decide) wf_RX7_76 rfl rfl rfl (Nat.le_of_ble_eq_true rfl) dX7_logs_58 (fun H locs hP hD hS => ?_)
    have hP : va_P D.1 sm_cl (sm_w7 D am P S T (L.1 + 1, va_up L.2.1 L.1 k, va_up L.2.2.1 L.1 z, va_up L.2.2.2.1 L.1 a, va_up L.2.2.2.2 L.1 b) nm Z cp ph th n2 fo rd np pw ev od rc wr) H := hP
    have hD : va_D (sm_ad (sm_w7 D am P S T L nm Z cp ph th n2 fo rd np pw ev od rc wr)) (sm_w7 D am P S T (L.1 + 1, va_up L.2.1 L.1 k, va_up L.2.2.1 L.1 z, va_up L.2.2.2.1 L.1 a, va_up L.2.2.2.2 L.1 b) nm Z cp ph th n2 fo rd np pw ev od rc wr) := hD
    refine lv_aload_n hx hb dX7_logs_61 rfl (lv_at hl 0 rfl) ?_
    refine sm_gt (ci := 7) (C := RX7) (T := TX7) (N := 33) hx hb hts inlX7 hown hK hP 0 rfl rfl 32 (by decide) wf_RX7_109 rfl dX7_logs_62 ?_
    refine lv_bipush (v := 98) hx hb dX7_logs_65 (by decide) ?_
    refine lv_icmp_ne (tgt := 74) hx hb dX7_logs_67 (by decide) (fun c_2 => ?_) (fun c_2 => ?_)
    · have c_2_ := c_2
      exact sm_vretC hC hP hD hS rfl  (by exact ⟨cp, by simp [sm_k1, sm_appL, c_1, c_2]⟩) dX7_logs_74
    · have c_2_ := c_2
      refine lv_aload_n hx hb dX7_logs_70 rfl (lv_at hl 0 rfl) ?_
      refine sm_cVC (rest := []) hC hK hP hD hS hZ (c_X7_followsOne D am P S T (L.1 + 1, va_up L.2.1 L.1 k, va_up L.2.2.1 L.1 z, va_up L.2.2.2.1 L.1 a, va_up L.2.2.2.2 L.1 b) nm Z cp ph th n2 fo rd np pw ev od rc wr (by show fo < L.1 + 1; omega) (by show L.1 + 1 ≤ 120; omega) (sm_appk hLk hk) hP6 hOK hTk) qyX7_followsOne wl_RX7_155 ⟨Nat.le_of_ble_eq_true rfl, Nat.le_of_ble_eq_true rfl⟩ 0 rfl rfl rfl hl.1 rfl (Nat.le_of_ble_eq_true rfl) dX7_logs_71 ⟨Nat.le_of_ble_eq_true rfl, Nat.le_of_ble_eq_true rfl⟩ (fun w1 H locs hB hP hD hS => ?_)
      obtain ⟨cp_3, rfl⟩ := hB
      exact sm_vretC hC hP hD hS rfl  (by exact ⟨cp_3, by subst c_2; simp [sm_k1, sm_appL, c_1]⟩) dX7_logs_74
  · have c_1_ := c_1
    exact sm_vretC hC hP hD hS rfl  (by exact ⟨cp, by subst c_1; simp [sm_k1, sm_appL]⟩) dX7_logs_9

set_option maxHeartbeats 1000000 in
set_option maxRecDepth 100000 in
theorem c_X7_manyRows  : sm_MP l yX7_manyRows cX7_manyRows 3 (some .int) 0 0 [.ref (am 0)] D (sm_w7 D am P S T L nm Z cp ph th n2 fo rd np pw ev od rc wr) (some (.int (nI (sm_cnG S.1 40 0 0)))) := by
  refine sm_met (own := RX7) (by decide) rfl (Nat.le_of_ble_eq_true rfl) ?_
  intro p e s m below meth c ls hC hv hl
  obtain ⟨hx, hb, hml, hr, hown, hlk, hts⟩ := id hC
  obtain ⟨hP, hK⟩ := hv
  have hl : lv_has ls 3 [(0, .ref (am 0))] := hl
  refine lv_iconst (v := 0) hx hb dX7_manyRows_0 (by decide) ?_
  refine lv_istore_n (lv' := [(1, .int 0), (0, .ref (am 0))]) hx hb dX7_manyRows_1 rfl hl (by decide) rfl (fun ls hl => ?_)
  refine lv_iconst (v := 0) hx hb dX7_manyRows_2 (by decide) ?_
  refine lv_istore_n (lv' := [(2, .int 0), (1, .int 0), (0, .ref (am 0))]) hx hb dX7_manyRows_3 rfl hl (by decide) rfl (fun ls hl => ?_)
  suffices K : ∀ (n : Nat) (i : Nat) (q : Nat) (ls : Array Slot), 40 - i = n → (i ≤ 40) → (sm_cnG S.1 (40 - i) i q = sm_cnG S.1 40 0 0) → lv_has ls 3 [(0, .ref (am 0)), (1, .int (nI q)), (2, .int (nI i))] → W p l e ({ frames := 0, cells := 0, slots := 0, locals := 0 } : Room) s m ([.ref (am 0)] : List Value).toArray below meth c s.heap [] 0 0 (MQ below (sm_Qp (some (.int (nI (sm_cnG S.1 40 0 0))))) ([.ref (am 0)] : List Value).toArray s 0 0 (fun _ => False)) (F0 m 4 ls []) from K _ 0 0 ls rfl (by omega) (rfl) (lv_sub hl [2, 1, 0] rfl)
  intro n
  induction n using Nat.strongRecOn with
  | ind n ih =>
    intro i q ls hn hi hR hl
    refine lv_iload_n hx hb dX7_manyRows_4 rfl (lv_at hl 2 rfl) ?_
    refine lv_bipush (v := 40) hx hb dX7_manyRows_5 (by decide) ?_
    refine lv_icmp_ge (tgt := 33) hx hb dX7_manyRows_7 (by decide) (fun c_1 => ?_) (fun c_1 => ?_)
    · have c_1 := sm_Nnl (a := i) (b := 40) (sm_nl c_1) (by omega) (by omega)
      refine lv_iload_n hx hb dX7_manyRows_33 rfl (lv_at hl 1 rfl) ?_
      exact sm_retP hC (by have e : i = 40 := (by omega); subst e; rw [← hR]; rfl) rfl dX7_manyRows_34
    · have c_1 := sm_Nlt (a := i) (b := 40) (sm_nle c_1) (by omega) (by omega)
      refine lv_iload_n hx hb dX7_manyRows_10 rfl (lv_at hl 1 rfl) ?_
      refine lv_aload_n hx hb dX7_manyRows_11 rfl (lv_at hl 0 rfl) ?_
      refine sm_gt (ci := 7) (C := RX7) (T := TX7) (N := 33) hx hb hts inlX7 hown hK hP 0 rfl rfl 8 (by decide) wf_RX7_35 rfl dX7_manyRows_12 ?_
      refine lv_iload_n hx hb dX7_manyRows_15 rfl (lv_at hl 2 rfl) ?_
      refine sm_zld hx hb hK hP 9 rfl i rfl (by omega) (by decide) dX7_manyRows_16 ?_
      refine lv_if_eq (tgt := 24) hx hb dX7_manyRows_17 (by decide) (fun c_2 => ?_) (fun c_2 => ?_)
      · have c_2 := sm_b0 c_2
        refine lv_iconst (v := 0) hx hb dX7_manyRows_24 (by decide) ?_
        refine lv_iadd hx hb dX7_manyRows_25 ?_
        refine sm_re (y := nI (q + 0)) (nI_add q 0) ?_
        refine lv_istore_n (lv' := [(1, .int (nI (q + 0))), (0, .ref (am 0)), (2, .int (nI i))]) hx hb dX7_manyRows_26 rfl hl (by decide) rfl (fun ls hl => ?_)
        refine lv_iinc (v := nI (i + 1)) (lv' := [(2, .int (nI (i + 1))), (1, .int (nI (q + 0))), (0, .ref (am 0))]) hx hb dX7_manyRows_27 hl (k := 2) rfl (nI_1 i) (by decide) rfl (fun ls hl => ?_)
        refine lv_goto (tgt := 4) hx hb dX7_manyRows_30 (by decide) ?_
        exact ih _ (by omega) (i + 1) (q + 0) ls rfl (by omega) (by rw [sm_cnS (by omega), if_neg (by rw [c_2]; decide)] at hR; exact hR) (lv_sub hl [2, 1, 0] rfl)
      · have c_2 := sm_b1 c_2
        refine lv_iconst (v := 1) hx hb dX7_manyRows_20 (by decide) ?_
        refine lv_goto (tgt := 25) hx hb dX7_manyRows_21 (by decide) ?_
        refine lv_iadd hx hb dX7_manyRows_25 ?_
        refine sm_re (y := nI (q + 1)) (nI_1 q) ?_
        refine lv_istore_n (lv' := [(1, .int (nI (q + 1))), (0, .ref (am 0)), (2, .int (nI i))]) hx hb dX7_manyRows_26 rfl hl (by decide) rfl (fun ls hl => ?_)
        refine lv_iinc (v := nI (i + 1)) (lv' := [(2, .int (nI (i + 1))), (1, .int (nI (q + 1))), (0, .ref (am 0))]) hx hb dX7_manyRows_27 hl (k := 2) rfl (nI_1 i) (by decide) rfl (fun ls hl => ?_)
        refine lv_goto (tgt := 4) hx hb dX7_manyRows_30 (by decide) ?_
        exact ih _ (by omega) (i + 1) (q + 1) ls rfl (by omega) (by rw [sm_cnS (by omega), if_pos c_2] at hR; exact hR) (lv_sub hl [2, 1, 0] rfl)

set_option maxHeartbeats 1000000 in
set_option maxRecDepth 100000 in
theorem c_X7_manyHeld (y : Int32) (hy : y = 1 ∨ y = 2) : sm_MP l yX7_manyHeld cX7_manyHeld 4 (some .int) 0 0 [.ref (am 0), .int (sm_hc y)] D (sm_w7 D am P S T L nm Z cp ph th n2 fo rd np pw ev od rc wr) (some (.int (nI (sm_cnG (fun i => sm_kd T i y) 40 0 0)))) := by
  refine sm_met (own := RX7) (by decide) rfl (Nat.le_of_ble_eq_true rfl) ?_
  intro p e s m below meth c ls hC hv hl
  obtain ⟨hx, hb, hml, hr, hown, hlk, hts⟩ := id hC
  obtain ⟨hP, hK⟩ := hv
  have hl : lv_has ls 4 [(0, .ref (am 0)), (1, .int (sm_hc y))] := hl
  refine lv_iconst (v := 0) hx hb dX7_manyHeld_0 (by decide) ?_
  refine lv_istore_n (lv' := [(2, .int 0), (0, .ref (am 0)), (1, .int (sm_hc y))]) hx hb dX7_manyHeld_1 rfl hl (by decide) rfl (fun ls hl => ?_)
  refine lv_iconst (v := 0) hx hb dX7_manyHeld_2 (by decide) ?_
  refine lv_istore_n (lv' := [(3, .int 0), (2, .int 0), (0, .ref (am 0)), (1, .int (sm_hc y))]) hx hb dX7_manyHeld_3 rfl hl (by decide) rfl (fun ls hl => ?_)
  suffices K : ∀ (n : Nat) (i : Nat) (q : Nat) (ls : Array Slot), 40 - i = n → (i ≤ 40) → (sm_cnG (fun i => sm_kd T i y) (40 - i) i q = sm_cnG (fun i => sm_kd T i y) 40 0 0) → lv_has ls 4 [(0, .ref (am 0)), (1, .int (sm_hc y)), (2, .int (nI q)), (3, .int (nI i))] → W p l e ({ frames := 0, cells := 0, slots := 0, locals := 0 } : Room) s m ([.ref (am 0), .int (sm_hc y)] : List Value).toArray below meth c s.heap [] 0 0 (MQ below (sm_Qp (some (.int (nI (sm_cnG (fun i => sm_kd T i y) 40 0 0))))) ([.ref (am 0), .int (sm_hc y)] : List Value).toArray s 0 0 (fun _ => False)) (F0 m 4 ls []) from K _ 0 0 ls rfl (by omega) (rfl) (lv_sub hl [2, 3, 1, 0] rfl)
  intro n
  induction n using Nat.strongRecOn with
  | ind n ih =>
    intro i q ls hn hi hR hl
    refine lv_iload_n hx hb dX7_manyHeld_4 rfl (lv_at hl 3 rfl) ?_
    refine lv_bipush (v := 40) hx hb dX7_manyHeld_5 (by decide) ?_
    refine lv_icmp_ge (tgt := 34) hx hb dX7_manyHeld_7 (by decide) (fun c_1 => ?_) (fun c_1 => ?_)
    · have c_1 := sm_Nnl (a := i) (b := 40) (sm_nl c_1) (by omega) (by omega)
      refine lv_iload_n hx hb dX7_manyHeld_34 rfl (lv_at hl 2 rfl) ?_
      exact sm_retP hC (by have e : i = 40 := (by omega); subst e; rw [← hR]; rfl) rfl dX7_manyHeld_35
    · have c_1 := sm_Nlt (a := i) (b := 40) (sm_nle c_1) (by omega) (by omega)
      refine lv_iload_n hx hb dX7_manyHeld_10 rfl (lv_at hl 2 rfl) ?_
      refine lv_aload_n hx hb dX7_manyHeld_11 rfl (lv_at hl 0 rfl) ?_
      refine sm_gt (ci := 7) (C := RX7) (T := TX7) (N := 33) hx hb hts inlX7 hown hK hP 0 rfl rfl 1 (by decide) wf_RX7_13 rfl dX7_manyHeld_12 ?_
      refine lv_iload_n hx hb dX7_manyHeld_15 rfl (lv_at hl 3 rfl) ?_
      refine sm_cld hx hb hK hP 2 rfl i rfl (by omega) (by decide) dX7_manyHeld_16 ?_
      refine lv_iload_n hx hb dX7_manyHeld_17 rfl (lv_at hl 1 rfl) ?_
      refine lv_icmp_ne (tgt := 25) hx hb dX7_manyHeld_18 (by decide) (fun c_2 => ?_) (fun c_2 => ?_)
      · have c_2 := sm_hcFx hy c_2
        refine lv_iconst (v := 0) hx hb dX7_manyHeld_25 (by decide) ?_
        refine lv_iadd hx hb dX7_manyHeld_26 ?_
        refine sm_re (y := nI (q + 0)) (nI_add q 0) ?_
        refine lv_istore_n (lv' := [(2, .int (nI (q + 0))), (0, .ref (am 0)), (1, .int (sm_hc y)), (3, .int (nI i))]) hx hb dX7_manyHeld_27 rfl hl (by decide) rfl (fun ls hl => ?_)
        refine lv_iinc (v := nI (i + 1)) (lv' := [(3, .int (nI (i + 1))), (2, .int (nI (q + 0))), (0, .ref (am 0)), (1, .int (sm_hc y))]) hx hb dX7_manyHeld_28 hl (k := 3) rfl (nI_1 i) (by decide) rfl (fun ls hl => ?_)
        refine lv_goto (tgt := 4) hx hb dX7_manyHeld_31 (by decide) ?_
        exact ih _ (by omega) (i + 1) (q + 0) ls rfl (by omega) (by rw [sm_cnS (by omega), if_neg (by rw [c_2]; decide)] at hR; exact hR) (lv_sub hl [2, 3, 1, 0] rfl)
      · have c_2 := sm_hcTx hy c_2
        refine lv_iconst (v := 1) hx hb dX7_manyHeld_21 (by decide) ?_
        refine lv_goto (tgt := 26) hx hb dX7_manyHeld_22 (by decide) ?_
        refine lv_iadd hx hb dX7_manyHeld_26 ?_
        refine sm_re (y := nI (q + 1)) (nI_1 q) ?_
        refine lv_istore_n (lv' := [(2, .int (nI (q + 1))), (0, .ref (am 0)), (1, .int (sm_hc y)), (3, .int (nI i))]) hx hb dX7_manyHeld_27 rfl hl (by decide) rfl (fun ls hl => ?_)
        refine lv_iinc (v := nI (i + 1)) (lv' := [(3, .int (nI (i + 1))), (2, .int (nI (q + 1))), (0, .ref (am 0)), (1, .int (sm_hc y))]) hx hb dX7_manyHeld_28 hl (k := 3) rfl (nI_1 i) (by decide) rfl (fun ls hl => ?_)
        refine lv_goto (tgt := 4) hx hb dX7_manyHeld_31 (by decide) ?_
        exact ih _ (by omega) (i + 1) (q + 1) ls rfl (by omega) (by rw [sm_cnS (by omega), if_pos c_2] at hR; exact hR) (lv_sub hl [2, 3, 1, 0] rfl)

set_option maxHeartbeats 1000000 in
set_option maxRecDepth 100000 in
theorem c_X7_start  : sm_MC l yX7_start cX7_start 1 (some .int) 1 22 [.ref (am 0)] D (sm_w7 D am P S T L nm Z cp ph th n2 fo rd np pw ev od rc wr) (fun w => w = sm_w7 D am P S T L nm Z cp (if sm_kPh 105 ph = 0 then 99 else ph) (sm_kPh 105 ph) n2 fo rd np pw ev od rc wr) (some (.int (if sm_kPh 105 ph = 0 then nI (sm_cnG S.1 40 0 0) else 0))) := by
  refine sm_met (own := RX7) (by decide) rfl (Nat.le_of_ble_eq_true rfl) ?_
  intro p e s m below meth c ls hC hv hl
  obtain ⟨hx, hb, hml, hr, hown, hlk, hts⟩ := id hC
  obtain ⟨⟨hP, hK⟩, hD, hZ⟩ := hv
  have hS : va_S (sm_ad (sm_w7 D am P S T L nm Z cp ph th n2 fo rd np pw ev od rc wr)) s.heap s.heap [] := va_S.rf
  have hl : lv_has ls 1 [(0, .ref (am 0))] := hl
  refine lv_aload_n hx hb dX7_start_0 rfl (lv_at hl 0 rfl) ?_
  refine lv_aload_n hx hb dX7_start_1 rfl (lv_at hl 0 rfl) ?_
  refine sm_gt (ci := 7) (C := RX7) (T := TX7) (N := 33) hx hb hts inlX7 hown hK hP 0 rfl rfl 32 (by decide) wf_RX7_109 rfl dX7_start_2 ?_
  refine lv_bipush (v := 105) hx hb dX7_start_5 (by decide) ?_
  refine lv_icmp_ne (tgt := 14) hx hb dX7_start_7 (by decide) (fun c_1 => ?_) (fun c_1 => ?_)
  · have c_1_ := c_1
    refine lv_iconst (v := 0) hx hb dX7_start_14 (by decide) ?_
    refine sm_cVCr (rest := []) hC hK hP hD hS hZ (c_X7_checked D am P S T L nm Z cp ph th n2 fo rd np pw ev od rc wr false) qyX7_checked wl_RX7_158 ⟨Nat.le_of_ble_eq_true rfl, Nat.le_of_ble_eq_true rfl⟩ 0 rfl rfl rfl hl.1 rfl (Nat.le_of_ble_eq_true rfl) dX7_start_15 ⟨Nat.le_of_ble_eq_true rfl, Nat.le_of_ble_eq_true rfl⟩ (fun w1 H locs hB hP hD hS => ?_)
    subst hB
    refine sm_re (y := 1) rfl ?_
    refine lv_if_le (tgt := 23) hx hb dX7_start_18 (by decide) (fun h => absurd h (by decide)) (fun _ => ?_)
    refine lv_iconst (v := 0) hx hb dX7_start_21 (by decide) ?_
    exact sm_retC hC hP hD hS (by simp [sm_k1, sm_kPh, c_1]) rfl (by simp [sm_k1, sm_kPh, c_1]) dX7_start_22
  · have c_1_ := c_1
    refine lv_iconst (v := 1) hx hb dX7_start_10 (by decide) ?_
    refine lv_goto (tgt := 15) hx hb dX7_start_11 (by decide) ?_
    refine sm_cVCr (rest := []) hC hK hP hD hS hZ (c_X7_checked D am P S T L nm Z cp ph th n2 fo rd np pw ev od rc wr true) qyX7_checked wl_RX7_158 ⟨Nat.le_of_ble_eq_true rfl, Nat.le_of_ble_eq_true rfl⟩ 0 rfl rfl rfl hl.1 rfl (Nat.le_of_ble_eq_true rfl) dX7_start_15 ⟨Nat.le_of_ble_eq_true rfl, Nat.le_of_ble_eq_true rfl⟩ (fun w1 H locs hB hP hD hS => ?_)
    subst hB
    refine sm_re (y := 0) rfl ?_
    refine lv_if_le (tgt := 23) hx hb dX7_start_18 (by decide) (fun _ => ?_) (fun h => absurd h (by decide))
    refine lv_aload_n hx hb dX7_start_23 rfl (lv_at hl 0 rfl) ?_
    refine lv_bipush (v := 99) hx hb dX7_start_24 (by decide) ?_
    refine sm_pt (ci := 7) (C := RX7) (T := TX7) (N := 33) hx hb hts inlX7 tyX7 tyX7_ok nmX7 hown hK hP hD hS 0 rfl rfl 32 (by decide) wf_RX7_109 rfl (by decide) rfl (Nat.le_of_ble_eq_true rfl) dX7_start_26 (fun H locs hP hD hS => ?_)
    have hP : va_P D.1 sm_cl (sm_w7 D am P S T L nm Z cp 99 0 n2 fo rd np pw ev od rc wr) H := hP
    have hD : va_D (sm_ad (sm_w7 D am P S T L nm Z cp ph th n2 fo rd np pw ev od rc wr)) (sm_w7 D am P S T L nm Z cp 99 0 n2 fo rd np pw ev od rc wr) := hD
    refine lv_aload_n hx hb dX7_start_29 rfl (lv_at hl 0 rfl) ?_
    refine sm_cVPr (rest := []) hC hK hP (c_X7_manyRows D am P S T L nm Z cp 99 0 n2 fo rd np pw ev od rc wr ) qyX7_manyRows wl_RX7_162 ⟨Nat.le_of_ble_eq_true rfl, Nat.le_of_ble_eq_true rfl⟩ 0 rfl rfl rfl hl.1 rfl (Nat.le_of_ble_eq_true rfl) dX7_start_30 ⟨Nat.le_of_ble_eq_true rfl, Nat.le_of_ble_eq_true rfl⟩ ?_
    exact sm_retC hC hP hD hS (by subst c_1; simp [sm_k1, sm_kPh]) rfl (by subst c_1; simp [sm_k1, sm_kPh]) dX7_start_33

set_option maxHeartbeats 1000000 in
set_option maxRecDepth 100000 in
theorem c_X7_end  : sm_MC l yX7_end cX7_end 1 (some .int) 1 21 [.ref (am 0)] D (sm_w7 D am P S T L nm Z cp ph th n2 fo rd np pw ev od rc wr) (fun w => w = sm_w7 D am P S T L nm Z cp (if sm_kPh 116 ph = 0 then 100 else ph) (sm_kPh 116 ph) n2 fo rd np pw ev od rc wr) (some (.int (if sm_kPh 116 ph = 0 then nI n2 else 0))) := by
  refine sm_met (own := RX7) (by decide) rfl (Nat.le_of_ble_eq_true rfl) ?_
  intro p e s m below meth c ls hC hv hl
  obtain ⟨hx, hb, hml, hr, hown, hlk, hts⟩ := id hC
  obtain ⟨⟨hP, hK⟩, hD, hZ⟩ := hv
  have hS : va_S (sm_ad (sm_w7 D am P S T L nm Z cp ph th n2 fo rd np pw ev od rc wr)) s.heap s.heap [] := va_S.rf
  have hl : lv_has ls 1 [(0, .ref (am 0))] := hl
  refine lv_aload_n hx hb dX7_end_0 rfl (lv_at hl 0 rfl) ?_
  refine lv_aload_n hx hb dX7_end_1 rfl (lv_at hl 0 rfl) ?_
  refine sm_gt (ci := 7) (C := RX7) (T := TX7) (N := 33) hx hb hts inlX7 hown hK hP 0 rfl rfl 32 (by decide) wf_RX7_109 rfl dX7_end_2 ?_
  refine lv_bipush (v := 116) hx hb dX7_end_5 (by decide) ?_
  refine lv_icmp_ne (tgt := 14) hx hb dX7_end_7 (by decide) (fun c_1 => ?_) (fun c_1 => ?_)
  · have c_1_ := c_1
    refine lv_iconst (v := 0) hx hb dX7_end_14 (by decide) ?_
    refine sm_cVCr (rest := []) hC hK hP hD hS hZ (c_X7_checked D am P S T L nm Z cp ph th n2 fo rd np pw ev od rc wr false) qyX7_checked wl_RX7_158 ⟨Nat.le_of_ble_eq_true rfl, Nat.le_of_ble_eq_true rfl⟩ 0 rfl rfl rfl hl.1 rfl (Nat.le_of_ble_eq_true rfl) dX7_end_15 ⟨Nat.le_of_ble_eq_true rfl, Nat.le_of_ble_eq_true rfl⟩ (fun w1 H locs hB hP hD hS => ?_)
    subst hB
    refine sm_re (y := 1) rfl ?_
    refine lv_if_le (tgt := 23) hx hb dX7_end_18 (by decide) (fun h => absurd h (by decide)) (fun _ => ?_)
    refine lv_iconst (v := 0) hx hb dX7_end_21 (by decide) ?_
    exact sm_retC hC hP hD hS (by simp [sm_k1, sm_kPh, c_1]) rfl (by simp [sm_k1, sm_kPh, c_1]) dX7_end_22
  · have c_1_ := c_1
    refine lv_iconst (v := 1) hx hb dX7_end_10 (by decide) ?_
    refine lv_goto (tgt := 15) hx hb dX7_end_11 (by decide) ?_
    refine sm_cVCr (rest := []) hC hK hP hD hS hZ (c_X7_checked D am P S T L nm Z cp ph th n2 fo rd np pw ev od rc wr true) qyX7_checked wl_RX7_158 ⟨Nat.le_of_ble_eq_true rfl, Nat.le_of_ble_eq_true rfl⟩ 0 rfl rfl rfl hl.1 rfl (Nat.le_of_ble_eq_true rfl) dX7_end_15 ⟨Nat.le_of_ble_eq_true rfl, Nat.le_of_ble_eq_true rfl⟩ (fun w1 H locs hB hP hD hS => ?_)
    subst hB
    refine sm_re (y := 0) rfl ?_
    refine lv_if_le (tgt := 23) hx hb dX7_end_18 (by decide) (fun _ => ?_) (fun h => absurd h (by decide))
    refine lv_aload_n hx hb dX7_end_23 rfl (lv_at hl 0 rfl) ?_
    refine lv_bipush (v := 100) hx hb dX7_end_24 (by decide) ?_
    refine sm_pt (ci := 7) (C := RX7) (T := TX7) (N := 33) hx hb hts inlX7 tyX7 tyX7_ok nmX7 hown hK hP hD hS 0 rfl rfl 32 (by decide) wf_RX7_109 rfl (by decide) rfl (Nat.le_of_ble_eq_true rfl) dX7_end_26 (fun H locs hP hD hS => ?_)
    have hP : va_P D.1 sm_cl (sm_w7 D am P S T L nm Z cp 100 0 n2 fo rd np pw ev od rc wr) H := hP
    have hD : va_D (sm_ad (sm_w7 D am P S T L nm Z cp ph th n2 fo rd np pw ev od rc wr)) (sm_w7 D am P S T L nm Z cp 100 0 n2 fo rd np pw ev od rc wr) := hD
    refine lv_aload_n hx hb dX7_end_29 rfl (lv_at hl 0 rfl) ?_
    refine sm_gt (ci := 7) (C := RX7) (T := TX7) (N := 33) hx hb hts inlX7 hown hK hP 0 rfl rfl 23 (by decide) wf_RX7_82 rfl dX7_end_30 ?_
    exact sm_retC hC hP hD hS (by subst c_1; simp [sm_k1, sm_kPh]) rfl (by subst c_1; simp [sm_k1, sm_kPh]) dX7_end_33

set_option maxHeartbeats 1000000 in
set_option maxRecDepth 100000 in
theorem c_X7_phase (hph : sm_phOK ph) : sm_MC l yX7_phase cX7_phase 1 (some .char) 0 0 [.ref (am 0)] D (sm_w7 D am P S T L nm Z cp ph th n2 fo rd np pw ev od rc wr) (fun w => w = sm_w7 D am P S T L nm Z cp ph 0 n2 fo rd np pw ev od rc wr) (some (.int ph)) := by
  refine sm_met (own := RX7) (by decide) rfl (Nat.le_of_ble_eq_true rfl) ?_
  intro p e s m below meth c ls hC hv hl
  obtain ⟨hx, hb, hml, hr, hown, hlk, hts⟩ := id hC
  obtain ⟨⟨hP, hK⟩, hD, hZ⟩ := hv
  have hS : va_S (sm_ad (sm_w7 D am P S T L nm Z cp ph th n2 fo rd np pw ev od rc wr)) s.heap s.heap [] := va_S.rf
  have hl : lv_has ls 1 [(0, .ref (am 0))] := hl
  refine lv_aload_n hx hb dX7_phase_0 rfl (lv_at hl 0 rfl) ?_
  refine lv_iconst (v := 0) hx hb dX7_phase_1 (by decide) ?_
  refine sm_pt (ci := 7) (C := RX7) (T := TX7) (N := 33) hx hb hts inlX7 tyX7 tyX7_ok nmX7 hown hK hP hD hS 0 rfl rfl 19 (by decide) wf_RX7_69 rfl rfl rfl (Nat.le_of_ble_eq_true rfl) dX7_phase_2 (fun H locs hP hD hS => ?_)
  have hP : va_P D.1 sm_cl (sm_w7 D am P S T L nm Z cp ph 0 n2 fo rd np pw ev od rc wr) H := hP
  have hD : va_D (sm_ad (sm_w7 D am P S T L nm Z cp ph th n2 fo rd np pw ev od rc wr)) (sm_w7 D am P S T L nm Z cp ph 0 n2 fo rd np pw ev od rc wr) := hD
  refine lv_aload_n hx hb dX7_phase_5 rfl (lv_at hl 0 rfl) ?_
  refine sm_gt (ci := 7) (C := RX7) (T := TX7) (N := 33) hx hb hts inlX7 hown hK hP 0 rfl rfl 32 (by decide) wf_RX7_109 rfl dX7_phase_6 ?_
  exact sm_retC hC hP hD hS rfl (sm_phn hph) (by exact rfl) dX7_phase_9

set_option maxHeartbeats 1000000 in
set_option maxRecDepth 100000 in
theorem c_X7_goToBoth (hfo : fo ≤ L.1) (hrd : rd ≤ 40) (hpw : pw ≤ 40) (hL : L.1 ≤ 120) (hLk : ∀ i, L.2.1 i < 40) (hP6 : P.1 ≤ 6) (hOK : ∀ i, i < P.1 → sm_kOK (P.2.1 i) (P.2.2 i)) (hTk : ∀ k, sm_kv (T.1 k)) : sm_MC l yX7_goToBoth cX7_goToBoth 2 (some .int) 5 112 [.ref (am 0)] D (sm_w7 D am P S T L nm Z cp ph th n2 fo rd np pw ev od rc wr) (fun w => ∃ (cp' : sm_Cp), w = sm_w7 D am P S (if sm_mGB ph rd pw = 0 then sm_fMG P L (L.1 - fo) T fo else T) L nm Z (cp') (if sm_mGB ph rd pw = 0 then 98 else ph) (sm_mGB ph rd pw) n2 (if sm_mGB ph rd pw = 0 then L.1 else fo) rd np pw ev od rc wr) (some (.int (if sm_mGB ph rd pw = 0 then nI (L.1 - fo) else 0))) := by
  refine sm_met (own := RX7) (by decide) rfl (Nat.le_of_ble_eq_true rfl) ?_
  intro p e s m below meth c ls hC hv hl
  obtain ⟨hx, hb, hml, hr, hown, hlk, hts⟩ := id hC
  obtain ⟨⟨hP, hK⟩, hD, hZ⟩ := hv
  have hS : va_S (sm_ad (sm_w7 D am P S T L nm Z cp ph th n2 fo rd np pw ev od rc wr)) s.heap s.heap [] := va_S.rf
  have hl : lv_has ls 2 [(0, .ref (am 0))] := hl
  refine lv_aload_n hx hb dX7_goToBoth_0 rfl (lv_at hl 0 rfl) ?_
  refine lv_aload_n hx hb dX7_goToBoth_1 rfl (lv_at hl 0 rfl) ?_
  refine sm_gt (ci := 7) (C := RX7) (T := TX7) (N := 33) hx hb hts inlX7 hown hK hP 0 rfl rfl 32 (by decide) wf_RX7_109 rfl dX7_goToBoth_2 ?_
  refine lv_bipush (v := 99) hx hb dX7_goToBoth_5 (by decide) ?_
  refine lv_icmp_eq (tgt := 14) hx hb dX7_goToBoth_7 (by decide) (fun c_1 => ?_) (fun c_1 => ?_)
  · have c_1_ := c_1
    refine lv_aload_n hx hb dX7_goToBoth_14 rfl (lv_at hl 0 rfl) ?_
    refine sm_gt (ci := 7) (C := RX7) (T := TX7) (N := 33) hx hb hts inlX7 hown hK hP 0 rfl rfl 24 (by decide) wf_RX7_85 rfl dX7_goToBoth_15 ?_
    refine lv_bipush (v := 40) hx hb dX7_goToBoth_18 (by decide) ?_
    refine lv_icmp_lt (tgt := 30) hx hb dX7_goToBoth_20 (by decide) (fun c_2 => ?_) (fun c_2 => ?_)
    · have c_2 := sm_Nlt (a := rd) (b := 40) (c_2) (by omega) (by omega)
      refine lv_iconst (v := 2) hx hb dX7_goToBoth_30 (by decide) ?_
      refine lv_goto (tgt := 35) hx hb dX7_goToBoth_31 (by decide) ?_
      refine sm_pt (ci := 7) (C := RX7) (T := TX7) (N := 33) hx hb hts inlX7 tyX7 tyX7_ok nmX7 hown hK hP hD hS 0 rfl rfl 19 (by decide) wf_RX7_69 rfl rfl rfl (Nat.le_of_ble_eq_true rfl) dX7_goToBoth_35 (fun H locs hP hD hS => ?_)
      have hP : va_P D.1 sm_cl (sm_w7 D am P S T L nm Z cp ph 2 n2 fo rd np pw ev od rc wr) H := hP
      have hD : va_D (sm_ad (sm_w7 D am P S T L nm Z cp ph th n2 fo rd np pw ev od rc wr)) (sm_w7 D am P S T L nm Z cp ph 2 n2 fo rd np pw ev od rc wr) := hD
      refine lv_aload_n hx hb dX7_goToBoth_38 rfl (lv_at hl 0 rfl) ?_
      refine sm_gt (ci := 7) (C := RX7) (T := TX7) (N := 33) hx hb hts inlX7 hown hK hP 0 rfl rfl 19 (by decide) wf_RX7_69 rfl dX7_goToBoth_39 ?_
      refine lv_if_le (tgt := 47) hx hb dX7_goToBoth_42 (by decide) (fun h => absurd h (by decide)) (fun _ => ?_)
      refine lv_iconst (v := 0) hx hb dX7_goToBoth_45 (by decide) ?_
      exact sm_retC hC hP hD hS (by subst c_1; simp [sm_k1, sm_mGB, c_2]) rfl (by exact ⟨cp, by subst c_1; simp [sm_k1, sm_mGB, c_2]⟩) dX7_goToBoth_46
    · have c_2 := sm_Nnl (a := rd) (b := 40) (c_2) (by omega) (by omega)
      refine lv_aload_n hx hb dX7_goToBoth_23 rfl (lv_at hl 0 rfl) ?_
      refine sm_gt (ci := 7) (C := RX7) (T := TX7) (N := 33) hx hb hts inlX7 hown hK hP 0 rfl rfl 26 (by decide) wf_RX7_91 rfl dX7_goToBoth_24 ?_
      refine lv_if_le (tgt := 34) hx hb dX7_goToBoth_27 (by decide) (fun c_3 => ?_) (fun c_3 => ?_)
      · have c_3 := sm_Nnl (a := 0) (b := pw) (sm_nl c_3) (by omega) (by omega)
        refine lv_iconst (v := 0) hx hb dX7_goToBoth_34 (by decide) ?_
        refine sm_pt (ci := 7) (C := RX7) (T := TX7) (N := 33) hx hb hts inlX7 tyX7 tyX7_ok nmX7 hown hK hP hD hS 0 rfl rfl 19 (by decide) wf_RX7_69 rfl rfl rfl (Nat.le_of_ble_eq_true rfl) dX7_goToBoth_35 (fun H locs hP hD hS => ?_)
        have hP : va_P D.1 sm_cl (sm_w7 D am P S T L nm Z cp ph 0 n2 fo rd np pw ev od rc wr) H := hP
        have hD : va_D (sm_ad (sm_w7 D am P S T L nm Z cp ph th n2 fo rd np pw ev od rc wr)) (sm_w7 D am P S T L nm Z cp ph 0 n2 fo rd np pw ev od rc wr) := hD
        refine lv_aload_n hx hb dX7_goToBoth_38 rfl (lv_at hl 0 rfl) ?_
        refine sm_gt (ci := 7) (C := RX7) (T := TX7) (N := 33) hx hb hts inlX7 hown hK hP 0 rfl rfl 19 (by decide) wf_RX7_69 rfl dX7_goToBoth_39 ?_
        refine lv_if_le (tgt := 47) hx hb dX7_goToBoth_42 (by decide) (fun _ => ?_) (fun h => absurd h (by decide))
        refine lv_aload_n hx hb dX7_goToBoth_47 rfl (lv_at hl 0 rfl) ?_
        refine sm_gt (ci := 7) (C := RX7) (T := TX7) (N := 33) hx hb hts inlX7 hown hK hP 0 rfl rfl 21 (by decide) wf_RX7_76 rfl dX7_goToBoth_48 ?_
        refine lv_aload_n hx hb dX7_goToBoth_51 rfl (lv_at hl 0 rfl) ?_
        refine sm_gt (ci := 7) (C := RX7) (T := TX7) (N := 33) hx hb hts inlX7 hown hK hP 0 rfl rfl 22 (by decide) wf_RX7_79 rfl dX7_goToBoth_52 ?_
        refine lv_isub hx hb dX7_goToBoth_55 ?_
        refine sm_re (y := nI (L.1 - fo)) (pk_sub (a := L.1) (b := fo) (by omega)) ?_
        refine lv_istore_n (lv' := [(1, .int (nI (L.1 - fo))), (0, .ref (am 0))]) hx hb dX7_goToBoth_56 rfl hl (by decide) rfl (fun ls hl => ?_)
        suffices K : ∀ (n : Nat) (f : Nat) (t : sm_Tg) (q : sm_Cp) (H : Heap) (locs : List Loc) (ls : Array Slot), L.1 - f = n → (f ≤ L.1) → (∀ k, sm_kv (t.1 k)) → (sm_fMG P L (L.1 - f) t f = sm_fMG P L (L.1 - fo) T fo) → va_P D.1 sm_cl (sm_w7 D am P S t L nm Z q ph 0 n2 f rd np pw ev od rc wr) H → va_D (sm_ad (sm_w7 D am P S T L nm Z cp ph th n2 fo rd np pw ev od rc wr)) (sm_w7 D am P S t L nm Z q ph 0 n2 f rd np pw ev od rc wr) → va_S (sm_ad (sm_w7 D am P S T L nm Z cp ph th n2 fo rd np pw ev od rc wr)) s.heap H locs → lv_has ls 2 [(0, .ref (am 0)), (1, .int (nI (L.1 - fo)))] → W p l e ({ frames := 5, cells := 0, slots := 0, locals := 112 } : Room) s m ([.ref (am 0)] : List Value).toArray below meth c H locs 0 0 (MQ below (sm_Qc D (sm_w7 D am P S T L nm Z cp ph th n2 fo rd np pw ev od rc wr) (fun w => ∃ (cp' : sm_Cp), w = sm_w7 D am P S (if sm_mGB ph rd pw = 0 then sm_fMG P L (L.1 - fo) T fo else T) L nm Z (cp') (if sm_mGB ph rd pw = 0 then 98 else ph) (sm_mGB ph rd pw) n2 (if sm_mGB ph rd pw = 0 then L.1 else fo) rd np pw ev od rc wr) (some (.int (if sm_mGB ph rd pw = 0 then nI (L.1 - fo) else 0)))) ([.ref (am 0)] : List Value).toArray s 0 0 (sm_ad (sm_w7 D am P S T L nm Z cp ph th n2 fo rd np pw ev od rc wr))) (F0 m 57 ls []) from K _ fo T cp _ _ ls rfl (hfo) (hTk) (rfl) hP hD hS (lv_sub hl [1, 0] rfl)
        intro n
        induction n using Nat.strongRecOn with
        | ind n ih =>
          intro f t q H locs ls hn hf hTt hR hP hD hS hl
          refine lv_aload_n hx hb dX7_goToBoth_57 rfl (lv_at hl 0 rfl) ?_
          refine sm_gt (ci := 7) (C := RX7) (T := TX7) (N := 33) hx hb hts inlX7 hown hK hP 0 rfl rfl 22 (by decide) wf_RX7_79 rfl dX7_goToBoth_58 ?_
          refine lv_aload_n hx hb dX7_goToBoth_61 rfl (lv_at hl 0 rfl) ?_
          refine sm_gt (ci := 7) (C := RX7) (T := TX7) (N := 33) hx hb hts inlX7 hown hK hP 0 rfl rfl 21 (by decide) wf_RX7_76 rfl dX7_goToBoth_62 ?_
          refine lv_icmp_ge (tgt := 75) hx hb dX7_goToBoth_65 (by decide) (fun c_4 => ?_) (fun c_4 => ?_)
          · have c_4 := sm_Nnl (a := f) (b := L.1) (sm_nl c_4) (by omega) (by omega)
            refine lv_aload_n hx hb dX7_goToBoth_75 rfl (lv_at hl 0 rfl) ?_
            refine lv_bipush (v := 98) hx hb dX7_goToBoth_76 (by decide) ?_
            refine sm_pt (ci := 7) (C := RX7) (T := TX7) (N := 33) hx hb hts inlX7 tyX7 tyX7_ok nmX7 hown hK hP hD hS 0 rfl rfl 32 (by decide) wf_RX7_109 rfl (by decide) rfl (Nat.le_of_ble_eq_true rfl) dX7_goToBoth_78 (fun H locs hP hD hS => ?_)
            have hP : va_P D.1 sm_cl (sm_w7 D am P S t L nm Z q 98 0 n2 f rd np pw ev od rc wr) H := hP
            have hD : va_D (sm_ad (sm_w7 D am P S T L nm Z cp ph th n2 fo rd np pw ev od rc wr)) (sm_w7 D am P S t L nm Z q 98 0 n2 f rd np pw ev od rc wr) := hD
            refine lv_iload_n hx hb dX7_goToBoth_81 rfl (lv_at hl 1 rfl) ?_
            exact sm_retC hC hP hD hS (by subst c_1; simp [sm_k1, sm_mGB, c_2, c_3, c_4]) rfl (by have e : f = L.1 := (by omega); subst e; rw [Nat.sub_self] at hR; have hR : t = _ := hR; exact ⟨q, by subst c_1; simp [sm_mGB, hR, c_2, c_3]⟩) dX7_goToBoth_82
          · have c_4 := sm_Nlt (a := f) (b := L.1) (sm_nle c_4) (by omega) (by omega)
            refine lv_aload_n hx hb dX7_goToBoth_68 rfl (lv_at hl 0 rfl) ?_
            refine sm_cVC (rest := []) hC hK hP hD hS hZ (c_X7_followsOne D am P S t L nm Z q ph 0 n2 f rd np pw ev od rc wr (by first | omega | exact hLk _) hL hLk hP6 hOK hTt) qyX7_followsOne wl_RX7_155 ⟨Nat.le_of_ble_eq_true rfl, Nat.le_of_ble_eq_true rfl⟩ 0 rfl rfl rfl hl.1 rfl (Nat.le_of_ble_eq_true rfl) dX7_goToBoth_69 ⟨Nat.le_of_ble_eq_true rfl, Nat.le_of_ble_eq_true rfl⟩ (fun w1 H locs hB hP hD hS => ?_)
            obtain ⟨cp_5, rfl⟩ := hB
            refine lv_goto (tgt := 57) hx hb dX7_goToBoth_72 (by decide) ?_
            exact ih _ (by omega) (f + 1) (sm_fM1 P L t f) cp_5 _ _ ls rfl (by omega) (sm_kvM hTt) (by rw [sm_fMS (by omega)] at hR; exact hR) hP hD hS (lv_sub hl [0, 1] rfl)
      · have c_3 := sm_Nlt (a := 0) (b := pw) (sm_nle c_3) (by omega) (by omega)
        refine lv_iconst (v := 2) hx hb dX7_goToBoth_30 (by decide) ?_
        refine lv_goto (tgt := 35) hx hb dX7_goToBoth_31 (by decide) ?_
        refine sm_pt (ci := 7) (C := RX7) (T := TX7) (N := 33) hx hb hts inlX7 tyX7 tyX7_ok nmX7 hown hK hP hD hS 0 rfl rfl 19 (by decide) wf_RX7_69 rfl rfl rfl (Nat.le_of_ble_eq_true rfl) dX7_goToBoth_35 (fun H locs hP hD hS => ?_)
        have hP : va_P D.1 sm_cl (sm_w7 D am P S T L nm Z cp ph 2 n2 fo rd np pw ev od rc wr) H := hP
        have hD : va_D (sm_ad (sm_w7 D am P S T L nm Z cp ph th n2 fo rd np pw ev od rc wr)) (sm_w7 D am P S T L nm Z cp ph 2 n2 fo rd np pw ev od rc wr) := hD
        refine lv_aload_n hx hb dX7_goToBoth_38 rfl (lv_at hl 0 rfl) ?_
        refine sm_gt (ci := 7) (C := RX7) (T := TX7) (N := 33) hx hb hts inlX7 hown hK hP 0 rfl rfl 19 (by decide) wf_RX7_69 rfl dX7_goToBoth_39 ?_
        refine lv_if_le (tgt := 47) hx hb dX7_goToBoth_42 (by decide) (fun h => absurd h (by decide)) (fun _ => ?_)
        refine lv_iconst (v := 0) hx hb dX7_goToBoth_45 (by decide) ?_
        exact sm_retC hC hP hD hS (by subst c_1; simp [sm_k1, sm_mGB, c_2, c_3]) rfl (by exact ⟨cp, by subst c_1; simp [sm_k1, sm_mGB, c_2, c_3]⟩) dX7_goToBoth_46
  · have c_1_ := c_1
    refine lv_iconst (v := 1) hx hb dX7_goToBoth_10 (by decide) ?_
    refine lv_goto (tgt := 35) hx hb dX7_goToBoth_11 (by decide) ?_
    refine sm_pt (ci := 7) (C := RX7) (T := TX7) (N := 33) hx hb hts inlX7 tyX7 tyX7_ok nmX7 hown hK hP hD hS 0 rfl rfl 19 (by decide) wf_RX7_69 rfl rfl rfl (Nat.le_of_ble_eq_true rfl) dX7_goToBoth_35 (fun H locs hP hD hS => ?_)
    have hP : va_P D.1 sm_cl (sm_w7 D am P S T L nm Z cp ph 1 n2 fo rd np pw ev od rc wr) H := hP
    have hD : va_D (sm_ad (sm_w7 D am P S T L nm Z cp ph th n2 fo rd np pw ev od rc wr)) (sm_w7 D am P S T L nm Z cp ph 1 n2 fo rd np pw ev od rc wr) := hD
    refine lv_aload_n hx hb dX7_goToBoth_38 rfl (lv_at hl 0 rfl) ?_
    refine sm_gt (ci := 7) (C := RX7) (T := TX7) (N := 33) hx hb hts inlX7 hown hK hP 0 rfl rfl 19 (by decide) wf_RX7_69 rfl dX7_goToBoth_39 ?_
    refine lv_if_le (tgt := 47) hx hb dX7_goToBoth_42 (by decide) (fun h => absurd h (by decide)) (fun _ => ?_)
    refine lv_iconst (v := 0) hx hb dX7_goToBoth_45 (by decide) ?_
    exact sm_retC hC hP hD hS (by simp [sm_k1, sm_mGB, c_1]) rfl (by exact ⟨cp, by simp [sm_k1, sm_mGB, c_1]⟩) dX7_goToBoth_46

set_option maxHeartbeats 2000000 in
set_option maxRecDepth 100000 in
theorem c_X7_sumOf (z : Bool) (lo hi : Nat) (hlo : lo ≤ hi) (hhi : hi < 40) (hP6 : P.1 ≤ 6) (hOK : ∀ i, i < P.1 → sm_kOK (P.2.1 i) (P.2.2 i)) : sm_MC l yX7_sumOf cX7_sumOf 7 (some .long) 3 66 [.ref (am 0), .int (sm_b z), .int (nI lo), .int (nI hi)] D (sm_w7 D am P S T L nm Z cp ph th n2 fo rd np pw ev od rc wr) (fun w => ∃ (cp' : sm_Cp), w = sm_w7 D am P S T L nm Z (cp') ph th n2 fo rd np pw ev od rc wr) (some (.long (sm_sm z P S T lo hi))) := by
  refine sm_met (own := RX7) (by decide) rfl (Nat.le_of_ble_eq_true rfl) ?_
  intro p e s m below meth c ls hC hv hl
  obtain ⟨hx, hb, hml, hr, hown, hlk, hts⟩ := id hC
  obtain ⟨⟨hP, hK⟩, hD, hZ⟩ := hv
  have hS : va_S (sm_ad (sm_w7 D am P S T L nm Z cp ph th n2 fo rd np pw ev od rc wr)) s.heap s.heap [] := va_S.rf
  have hl : lv_has ls 7 [(0, .ref (am 0)), (1, .int (sm_b z)), (2, .int (nI lo)), (3, .int (nI hi))] := hl
  refine lv_lconst (v := 0) hx hb dX7_sumOf_0 (by decide) ?_
  refine lv_lstore (lv' := [(4, .long 0), (0, .ref (am 0)), (1, .int (sm_b z)), (2, .int (nI lo)), (3, .int (nI hi))]) hx hb dX7_sumOf_1 hl (by decide) rfl (fun ls hl => ?_)
  refine lv_iload_n hx hb dX7_sumOf_3 rfl (lv_at hl 3 rfl) ?_
  refine lv_istore (lv' := [(6, .int (nI lo)), (4, .long 0), (0, .ref (am 0)), (1, .int (sm_b z)), (2, .int (nI lo)), (3, .int (nI hi))]) hx hb dX7_sumOf_4 hl (by decide) rfl (fun ls hl => ?_)
  suffices K : ∀ (n : Nat) (i : Nat) (q : Int64) (r : sm_Cp) (H : Heap) (locs : List Loc) (ls : Array Slot), hi + 1 - i = n → (lo ≤ i) → (i ≤ hi + 1) → (sm_smG (sm_sf z P S T) (hi + 1 - i) i q = sm_smG (sm_sf z P S T) (hi + 1 - lo) lo 0) → va_P D.1 sm_cl (sm_w7 D am P S T L nm Z r ph th n2 fo rd np pw ev od rc wr) H → va_D (sm_ad (sm_w7 D am P S T L nm Z cp ph th n2 fo rd np pw ev od rc wr)) (sm_w7 D am P S T L nm Z r ph th n2 fo rd np pw ev od rc wr) → va_S (sm_ad (sm_w7 D am P S T L nm Z cp ph th n2 fo rd np pw ev od rc wr)) s.heap H locs → lv_has ls 7 [(0, .ref (am 0)), (1, .int (sm_b z)), (2, .int (nI lo)), (3, .int (nI hi)), (4, .long q), (6, .int (nI i))] → W p l e ({ frames := 3, cells := 0, slots := 0, locals := 66 } : Room) s m ([.ref (am 0), .int (sm_b z), .int (nI lo), .int (nI hi)] : List Value).toArray below meth c H locs 0 0 (MQ below (sm_Qc D (sm_w7 D am P S T L nm Z cp ph th n2 fo rd np pw ev od rc wr) (fun w => ∃ (cp' : sm_Cp), w = sm_w7 D am P S T L nm Z (cp') ph th n2 fo rd np pw ev od rc wr) (some (.long (sm_sm z P S T lo hi)))) ([.ref (am 0), .int (sm_b z), .int (nI lo), .int (nI hi)] : List Value).toArray s 0 0 (sm_ad (sm_w7 D am P S T L nm Z cp ph th n2 fo rd np pw ev od rc wr))) (F0 m 6 ls []) from K _ lo 0 cp _ _ ls rfl (by omega) (by omega) (rfl) hP hD hS (lv_sub hl [2, 3, 4, 5, 1, 0] rfl)
  intro n
  induction n using Nat.strongRecOn with
  | ind n ih =>
    intro i q r H locs ls hn hi1 hi2 hR hP hD hS hl
    refine lv_iload hx hb dX7_sumOf_6 (lv_at hl 5 rfl) ?_
    refine lv_iload_n hx hb dX7_sumOf_8 rfl (lv_at hl 3 rfl) ?_
    refine lv_icmp_gt (tgt := 135) hx hb dX7_sumOf_9 (by decide) (fun c_1 => ?_) (fun c_1 => ?_)
    · have c_1 := sm_Nlt (a := hi) (b := i) (c_1) (by omega) (by omega)
      refine lv_lload hx hb dX7_sumOf_135 (lv_at hl 4 rfl) ?_
      exact sm_lretC hC hP hD hS (by rw [show hi + 1 - i = 0 by omega] at hR; rw [sm_sm, ← hR]; rfl)  (by exact ⟨r, by rfl⟩) dX7_sumOf_137
    · have c_1 := sm_Nnl (a := hi) (b := i) (c_1) (by omega) (by omega)
      refine lv_iload_n hx hb dX7_sumOf_12 rfl (lv_at hl 1 rfl) ?_
      refine lv_if_eq (tgt := 64) hx hb dX7_sumOf_13 (by decide) (fun c_2 => ?_) (fun c_2 => ?_)
      · have c_2 := sm_b0 c_2
        refine lv_iload_n hx hb dX7_sumOf_64 rfl (lv_at hl 1 rfl) ?_
        refine lv_if_ne (tgt := 129) hx hb dX7_sumOf_65 (by decide) (fun h => absurd h (by rw [c_2]; decide)) (fun _ => ?_)
        refine lv_aload_n hx hb dX7_sumOf_68 rfl (lv_at hl 0 rfl) ?_
        refine sm_gt (ci := 7) (C := RX7) (T := TX7) (N := 33) hx hb hts inlX7 hown hK hP 0 rfl rfl 8 (by decide) wf_RX7_35 rfl dX7_sumOf_69 ?_
        refine lv_iload hx hb dX7_sumOf_72 (lv_at hl 5 rfl) ?_
        refine sm_zld hx hb hK hP 9 rfl i rfl (by omega) (by decide) dX7_sumOf_74 ?_
        refine lv_if_eq (tgt := 129) hx hb dX7_sumOf_75 (by decide) (fun c_3 => ?_) (fun c_3 => ?_)
        · have c_3 := sm_b0 c_3
          refine lv_iinc (v := nI (i + 1)) (lv' := [(6, .int (nI (i + 1))), (0, .ref (am 0)), (1, .int (sm_b z)), (2, .int (nI lo)), (3, .int (nI hi)), (4, .long q)]) hx hb dX7_sumOf_129 hl (k := 5) rfl (nI_1 i) (by decide) rfl (fun ls hl => ?_)
          refine lv_goto (tgt := 6) hx hb dX7_sumOf_132 (by decide) ?_
          exact ih _ (by omega) (i + 1) q r _ _ ls rfl (by omega) (by omega) (by rw [sm_smS (by omega), sm_sff c_2, sm_srF0 c_3, Int64.add_zero] at hR; exact hR) hP hD hS (lv_sub hl [1, 2, 3, 4, 5, 0] rfl)
        · have c_3 := sm_b1 c_3
          refine lv_aload_n hx hb dX7_sumOf_78 rfl (lv_at hl 0 rfl) ?_
          refine lv_aload_n hx hb dX7_sumOf_79 rfl (lv_at hl 0 rfl) ?_
          refine sm_gt (ci := 7) (C := RX7) (T := TX7) (N := 33) hx hb hts inlX7 hown hK hP 0 rfl rfl 3 (by decide) wf_RX7_20 rfl dX7_sumOf_80 ?_
          refine lv_iload hx hb dX7_sumOf_83 (lv_at hl 5 rfl) ?_
          refine sm_ild hx hb hK hP 4 rfl i rfl (by omega) (by decide) dX7_sumOf_85 ?_
          refine lv_aload_n hx hb dX7_sumOf_86 rfl (lv_at hl 0 rfl) ?_
          refine sm_gt (ci := 7) (C := RX7) (T := TX7) (N := 33) hx hb hts inlX7 hown hK hP 0 rfl rfl 4 (by decide) wf_RX7_23 rfl dX7_sumOf_87 ?_
          refine lv_iload hx hb dX7_sumOf_90 (lv_at hl 5 rfl) ?_
          refine sm_ild hx hb hK hP 5 rfl i rfl (by omega) (by decide) dX7_sumOf_92 ?_
          refine sm_cVCr (rest := []) hC hK hP hD hS hZ (c_X7_turns D am P S T L nm Z r ph th n2 fo rd np pw ev od rc wr (S.2.1 i) (S.2.2 i) hP6 hOK) qyX7_turns wl_RX7_140 ⟨Nat.le_of_ble_eq_true rfl, Nat.le_of_ble_eq_true rfl⟩ 0 rfl rfl rfl hl.1 rfl (Nat.le_of_ble_eq_true rfl) dX7_sumOf_93 ⟨Nat.le_of_ble_eq_true rfl, Nat.le_of_ble_eq_true rfl⟩ (fun w1 H locs hB hP hD hS => ?_)
          subst hB
          refine lv_if_eq (tgt := 129) hx hb dX7_sumOf_96 (by decide) (fun c_4 => ?_) (fun c_4 => ?_)
          · have c_4 := sm_b0 c_4
            refine lv_iinc (v := nI (i + 1)) (lv' := [(6, .int (nI (i + 1))), (0, .ref (am 0)), (1, .int (sm_b z)), (2, .int (nI lo)), (3, .int (nI hi)), (4, .long q)]) hx hb dX7_sumOf_129 hl (k := 5) rfl (nI_1 i) (by decide) rfl (fun ls hl => ?_)
            refine lv_goto (tgt := 6) hx hb dX7_sumOf_132 (by decide) ?_
            exact ih _ (by omega) (i + 1) q ((sm_tr P ((S.2.1 i), (S.2.2 i))).2) _ _ ls rfl (by omega) (by omega) (by rw [sm_smS (by omega), sm_sff c_2, sm_srFn c_3 c_4, Int64.add_zero] at hR; exact hR) hP hD hS (lv_sub hl [1, 2, 3, 4, 5, 0] rfl)
          · have c_4 := sm_b1 c_4
            refine lv_lload hx hb dX7_sumOf_99 (lv_at hl 4 rfl) ?_
            refine lv_ldc2 hx hb hown (hts _ wk_RX7_217) dX7_sumOf_101 ?_
            refine lv_iload hx hb dX7_sumOf_104 (lv_at hl 5 rfl) ?_
            refine lv_i2l hx hb dX7_sumOf_106 rfl ?_
            refine lv_lmul hx hb dX7_sumOf_107 ?_
            refine lv_ldc2 hx hb hown (hts _ wk_RX7_219) dX7_sumOf_108 ?_
            refine lv_aload_n hx hb dX7_sumOf_111 rfl (lv_at hl 0 rfl) ?_
            refine sm_gt (ci := 7) (C := RX7) (T := TX7) (N := 33) hx hb hts inlX7 hown hK hP 0 rfl rfl 30 (by decide) wf_RX7_103 rfl dX7_sumOf_112 ?_
            refine lv_i2l hx hb dX7_sumOf_115 rfl ?_
            refine lv_lmul hx hb dX7_sumOf_116 ?_
            refine lv_ladd hx hb dX7_sumOf_117 ?_
            refine lv_aload_n hx hb dX7_sumOf_118 rfl (lv_at hl 0 rfl) ?_
            refine sm_gt (ci := 7) (C := RX7) (T := TX7) (N := 33) hx hb hts inlX7 hown hK hP 0 rfl rfl 31 (by decide) wf_RX7_106 rfl dX7_sumOf_119 ?_
            refine lv_i2l hx hb dX7_sumOf_122 rfl ?_
            refine lv_ladd hx hb dX7_sumOf_123 ?_
            refine lv_lconst (v := 1) hx hb dX7_sumOf_124 (by decide) ?_
            refine lv_ladd hx hb dX7_sumOf_125 ?_
            refine lv_ladd hx hb dX7_sumOf_126 ?_
            refine lv_lstore (lv' := [(4, .long (q + ((((1000 * ((nI i).toInt64)) + (31 * (((((sm_tr P ((S.2.1 i), (S.2.2 i))).2).1)).toInt64))) + (((((sm_tr P ((S.2.1 i), (S.2.2 i))).2).2)).toInt64)) + 1))), (0, .ref (am 0)), (1, .int (sm_b z)), (2, .int (nI lo)), (3, .int (nI hi)), (6, .int (nI i))]) hx hb dX7_sumOf_127 hl (by decide) rfl (fun ls hl => ?_)
            refine lv_iinc (v := nI (i + 1)) (lv' := [(6, .int (nI (i + 1))), (4, .long (q + ((((1000 * ((nI i).toInt64)) + (31 * (((((sm_tr P ((S.2.1 i), (S.2.2 i))).2).1)).toInt64))) + (((((sm_tr P ((S.2.1 i), (S.2.2 i))).2).2)).toInt64)) + 1))), (0, .ref (am 0)), (1, .int (sm_b z)), (2, .int (nI lo)), (3, .int (nI hi))]) hx hb dX7_sumOf_129 hl (k := 5) rfl (nI_1 i) (by decide) rfl (fun ls hl => ?_)
            refine lv_goto (tgt := 6) hx hb dX7_sumOf_132 (by decide) ?_
            exact ih _ (by omega) (i + 1) (q + sm_sk i (sm_tr P (S.2.1 i, S.2.2 i)).2.1 (sm_tr P (S.2.1 i, S.2.2 i)).2.2) ((sm_tr P ((S.2.1 i), (S.2.2 i))).2) _ _ ls rfl (by omega) (by omega) (by rw [sm_smS (by omega), sm_sff c_2, sm_srFp c_3 c_4] at hR; exact hR) hP hD hS (lv_sub hl [2, 3, 4, 5, 1, 0] rfl)
      · have c_2 := sm_b1 c_2
        refine lv_aload_n hx hb dX7_sumOf_16 rfl (lv_at hl 0 rfl) ?_
        refine sm_gt (ci := 7) (C := RX7) (T := TX7) (N := 33) hx hb hts inlX7 hown hK hP 0 rfl rfl 1 (by decide) wf_RX7_13 rfl dX7_sumOf_17 ?_
        refine lv_iload hx hb dX7_sumOf_20 (lv_at hl 5 rfl) ?_
        refine sm_cld hx hb hK hP 2 rfl i rfl (by omega) (by decide) dX7_sumOf_22 ?_
        refine lv_bipush (v := 101) hx hb dX7_sumOf_23 (by decide) ?_
        refine lv_icmp_ne (tgt := 64) hx hb dX7_sumOf_25 (by decide) (fun c_5 => ?_) (fun c_5 => ?_)
        · have c_5 := sm_hcF1 c_5
          refine lv_iload_n hx hb dX7_sumOf_64 rfl (lv_at hl 1 rfl) ?_
          refine lv_if_ne (tgt := 129) hx hb dX7_sumOf_65 (by decide) (fun _ => ?_) (fun h => absurd h (by rw [c_2]; decide))
          refine lv_iinc (v := nI (i + 1)) (lv' := [(6, .int (nI (i + 1))), (0, .ref (am 0)), (1, .int (sm_b z)), (2, .int (nI lo)), (3, .int (nI hi)), (4, .long q)]) hx hb dX7_sumOf_129 hl (k := 5) rfl (nI_1 i) (by decide) rfl (fun ls hl => ?_)
          refine lv_goto (tgt := 6) hx hb dX7_sumOf_132 (by decide) ?_
          exact ih _ (by omega) (i + 1) q r _ _ ls rfl (by omega) (by omega) (by rw [sm_smS (by omega), sm_sft c_2, sm_seF, if_neg (by rw [c_5]; decide), Int64.add_zero] at hR; exact hR) hP hD hS (lv_sub hl [1, 2, 3, 4, 5, 0] rfl)
        · have c_5 := sm_hcT1 c_5
          refine lv_lload hx hb dX7_sumOf_28 (lv_at hl 4 rfl) ?_
          refine lv_ldc2 hx hb hown (hts _ wk_RX7_217) dX7_sumOf_30 ?_
          refine lv_iload hx hb dX7_sumOf_33 (lv_at hl 5 rfl) ?_
          refine lv_i2l hx hb dX7_sumOf_35 rfl ?_
          refine lv_lmul hx hb dX7_sumOf_36 ?_
          refine lv_ldc2 hx hb hown (hts _ wk_RX7_219) dX7_sumOf_37 ?_
          refine lv_aload_n hx hb dX7_sumOf_40 rfl (lv_at hl 0 rfl) ?_
          refine sm_gt (ci := 7) (C := RX7) (T := TX7) (N := 33) hx hb hts inlX7 hown hK hP 0 rfl rfl 5 (by decide) wf_RX7_26 rfl dX7_sumOf_41 ?_
          refine lv_iload hx hb dX7_sumOf_44 (lv_at hl 5 rfl) ?_
          refine sm_ild hx hb hK hP 6 rfl i rfl (by omega) (by decide) dX7_sumOf_46 ?_
          refine lv_i2l hx hb dX7_sumOf_47 rfl ?_
          refine lv_lmul hx hb dX7_sumOf_48 ?_
          refine lv_ladd hx hb dX7_sumOf_49 ?_
          refine lv_aload_n hx hb dX7_sumOf_50 rfl (lv_at hl 0 rfl) ?_
          refine sm_gt (ci := 7) (C := RX7) (T := TX7) (N := 33) hx hb hts inlX7 hown hK hP 0 rfl rfl 6 (by decide) wf_RX7_29 rfl dX7_sumOf_51 ?_
          refine lv_iload hx hb dX7_sumOf_54 (lv_at hl 5 rfl) ?_
          refine sm_ild hx hb hK hP 7 rfl i rfl (by omega) (by decide) dX7_sumOf_56 ?_
          refine lv_i2l hx hb dX7_sumOf_57 rfl ?_
          refine lv_ladd hx hb dX7_sumOf_58 ?_
          refine lv_lconst (v := 1) hx hb dX7_sumOf_59 (by decide) ?_
          refine lv_ladd hx hb dX7_sumOf_60 ?_
          refine lv_ladd hx hb dX7_sumOf_61 ?_
          refine lv_lstore (lv' := [(4, .long (q + ((((1000 * ((nI i).toInt64)) + (31 * ((T.2.2.1 i).toInt64))) + ((T.2.2.2 i).toInt64)) + 1))), (0, .ref (am 0)), (1, .int (sm_b z)), (2, .int (nI lo)), (3, .int (nI hi)), (6, .int (nI i))]) hx hb dX7_sumOf_62 hl (by decide) rfl (fun ls hl => ?_)
          refine lv_iload_n hx hb dX7_sumOf_64 rfl (lv_at hl 2 rfl) ?_
          refine lv_if_ne (tgt := 129) hx hb dX7_sumOf_65 (by decide) (fun _ => ?_) (fun h => absurd h (by rw [c_2]; decide))
          refine lv_iinc (v := nI (i + 1)) (lv' := [(6, .int (nI (i + 1))), (4, .long (q + ((((1000 * ((nI i).toInt64)) + (31 * ((T.2.2.1 i).toInt64))) + ((T.2.2.2 i).toInt64)) + 1))), (0, .ref (am 0)), (1, .int (sm_b z)), (2, .int (nI lo)), (3, .int (nI hi))]) hx hb dX7_sumOf_129 hl (k := 5) rfl (nI_1 i) (by decide) rfl (fun ls hl => ?_)
          refine lv_goto (tgt := 6) hx hb dX7_sumOf_132 (by decide) ?_
          exact ih _ (by omega) (i + 1) (q + sm_sk i (T.2.2.1 i) (T.2.2.2 i)) r _ _ ls rfl (by omega) (by omega) (by rw [sm_smS (by omega), sm_sft c_2, sm_seF, if_pos c_5] at hR; exact hR) hP hD hS (lv_sub hl [2, 3, 4, 5, 1, 0] rfl)

set_option maxHeartbeats 1000000 in
set_option maxRecDepth 100000 in
theorem c_X7_switchOver (hP6 : P.1 ≤ 6) (hOK : ∀ i, i < P.1 → sm_kOK (P.2.1 i) (P.2.2 i)) : sm_MC l yX7_switchOver cX7_switchOver 1 (some .int) 4 92 [.ref (am 0)] D (sm_w7 D am P S T L nm Z cp ph th n2 fo rd np pw ev od rc wr) (fun w => ∃ (cp' : sm_Cp), w = sm_w7 D am P S T L nm Z (cp') (if sm_kSO P S T ph = 0 then 116 else ph) (sm_kSO P S T ph) n2 fo rd np pw ev od rc wr) (some (.int (if sm_kSO P S T ph = 0 then nI (sm_cnG (fun i => sm_kd T i 1) 40 0 0) else 0))) := by
  refine sm_met (own := RX7) (by decide) rfl (Nat.le_of_ble_eq_true rfl) ?_
  intro p e s m below meth c ls hC hv hl
  obtain ⟨hx, hb, hml, hr, hown, hlk, hts⟩ := id hC
  obtain ⟨⟨hP, hK⟩, hD, hZ⟩ := hv
  have hS : va_S (sm_ad (sm_w7 D am P S T L nm Z cp ph th n2 fo rd np pw ev od rc wr)) s.heap s.heap [] := va_S.rf
  have hl : lv_has ls 1 [(0, .ref (am 0))] := hl
  have hcn : sm_cnG (fun i => sm_kd T i 2) 40 0 0 ≤ 40 + 0 := sm_cnle _ _ _ _
  refine lv_aload_n hx hb dX7_switchOver_0 rfl (lv_at hl 0 rfl) ?_
  refine lv_aload_n hx hb dX7_switchOver_1 rfl (lv_at hl 0 rfl) ?_
  refine sm_gt (ci := 7) (C := RX7) (T := TX7) (N := 33) hx hb hts inlX7 hown hK hP 0 rfl rfl 32 (by decide) wf_RX7_109 rfl dX7_switchOver_2 ?_
  refine lv_bipush (v := 98) hx hb dX7_switchOver_5 (by decide) ?_
  refine lv_icmp_eq (tgt := 14) hx hb dX7_switchOver_7 (by decide) (fun c_1 => ?_) (fun c_1 => ?_)
  · have c_1_ := c_1
    refine lv_aload_n hx hb dX7_switchOver_14 rfl (lv_at hl 0 rfl) ?_
    refine lv_bipush (v := 97) hx hb dX7_switchOver_15 (by decide) ?_
    refine sm_re (y := sm_hc 2) (by decide) ?_
    refine sm_cVPr (rest := [.ref (am 0)]) hC hK hP (c_X7_manyHeld D am P S T L nm Z cp ph th n2 fo rd np pw ev od rc wr 2 (by decide)) qyX7_manyHeld wl_RX7_166 ⟨Nat.le_of_ble_eq_true rfl, Nat.le_of_ble_eq_true rfl⟩ 0 rfl rfl rfl hl.1 rfl (Nat.le_of_ble_eq_true rfl) dX7_switchOver_17 ⟨Nat.le_of_ble_eq_true rfl, Nat.le_of_ble_eq_true rfl⟩ ?_
    refine lv_if_gt (tgt := 43) hx hb dX7_switchOver_20 (by decide) (fun c_2 => ?_) (fun c_2 => ?_)
    · have c_2 := sm_Nlt (a := 0) (b := sm_cnG (fun i => sm_kd T i 2) 40 0 0) (c_2) (by omega) (by omega)
      refine lv_iconst (v := 2) hx hb dX7_switchOver_43 (by decide) ?_
      refine lv_goto (tgt := 48) hx hb dX7_switchOver_44 (by decide) ?_
      refine sm_pt (ci := 7) (C := RX7) (T := TX7) (N := 33) hx hb hts inlX7 tyX7 tyX7_ok nmX7 hown hK hP hD hS 0 rfl rfl 19 (by decide) wf_RX7_69 rfl rfl rfl (Nat.le_of_ble_eq_true rfl) dX7_switchOver_48 (fun H locs hP hD hS => ?_)
      have hP : va_P D.1 sm_cl (sm_w7 D am P S T L nm Z cp ph 2 n2 fo rd np pw ev od rc wr) H := hP
      have hD : va_D (sm_ad (sm_w7 D am P S T L nm Z cp ph th n2 fo rd np pw ev od rc wr)) (sm_w7 D am P S T L nm Z cp ph 2 n2 fo rd np pw ev od rc wr) := hD
      refine lv_aload_n hx hb dX7_switchOver_51 rfl (lv_at hl 0 rfl) ?_
      refine sm_gt (ci := 7) (C := RX7) (T := TX7) (N := 33) hx hb hts inlX7 hown hK hP 0 rfl rfl 19 (by decide) wf_RX7_69 rfl dX7_switchOver_52 ?_
      refine lv_if_le (tgt := 60) hx hb dX7_switchOver_55 (by decide) (fun h => absurd h (by decide)) (fun _ => ?_)
      refine lv_iconst (v := 0) hx hb dX7_switchOver_58 (by decide) ?_
      exact sm_retC hC hP hD hS (by subst c_1; simp [sm_k1, sm_kSO, sm_any, sm_ssM, c_2]) rfl (by exact ⟨cp, by subst c_1; simp [sm_k1, sm_kSO, sm_any, sm_ssM, c_2]⟩) dX7_switchOver_59
    · have c_2 := sm_Nnl (a := 0) (b := sm_cnG (fun i => sm_kd T i 2) 40 0 0) (c_2) (by omega) (by omega)
      refine lv_aload_n hx hb dX7_switchOver_23 rfl (lv_at hl 0 rfl) ?_
      refine lv_iconst (v := 0) hx hb dX7_switchOver_24 (by decide) ?_
      refine lv_iconst (v := 0) hx hb dX7_switchOver_25 (by decide) ?_
      refine lv_bipush (v := 39) hx hb dX7_switchOver_26 (by decide) ?_
      refine sm_cVCr (rest := [.ref (am 0)]) hC hK hP hD hS hZ (c_X7_sumOf D am P S T L nm Z cp ph th n2 fo rd np pw ev od rc wr false 0 39 (by omega) (by omega) hP6 hOK) qyX7_sumOf wl_RX7_170 ⟨Nat.le_of_ble_eq_true rfl, Nat.le_of_ble_eq_true rfl⟩ 0 rfl rfl rfl hl.1 rfl (Nat.le_of_ble_eq_true rfl) dX7_switchOver_28 ⟨Nat.le_of_ble_eq_true rfl, Nat.le_of_ble_eq_true rfl⟩ (fun w1 H locs hB hP hD hS => ?_)
      obtain ⟨cp_3, rfl⟩ := hB
      refine lv_aload_n hx hb dX7_switchOver_31 rfl (lv_at hl 0 rfl) ?_
      refine lv_iconst (v := 1) hx hb dX7_switchOver_32 (by decide) ?_
      refine lv_iconst (v := 0) hx hb dX7_switchOver_33 (by decide) ?_
      refine lv_bipush (v := 39) hx hb dX7_switchOver_34 (by decide) ?_
      refine sm_cVCr (rest := [.long (sm_sm false P S T 0 39), .ref (am 0)]) hC hK hP hD hS hZ (c_X7_sumOf D am P S T L nm Z cp_3 ph th n2 fo rd np pw ev od rc wr true 0 39 (by omega) (by omega) hP6 hOK) qyX7_sumOf wl_RX7_170 ⟨Nat.le_of_ble_eq_true rfl, Nat.le_of_ble_eq_true rfl⟩ 0 rfl rfl rfl hl.1 rfl (Nat.le_of_ble_eq_true rfl) dX7_switchOver_36 ⟨Nat.le_of_ble_eq_true rfl, Nat.le_of_ble_eq_true rfl⟩ (fun w1 H locs hB hP hD hS => ?_)
      obtain ⟨cp_4, rfl⟩ := hB
      refine W.lcmp hx hb dX7_switchOver_39 ?_
      refine lv_if_eq (tgt := 47) hx hb dX7_switchOver_40 (by decide) (fun c_5 => ?_) (fun c_5 => ?_)
      · have c_5 := sm_lc0 c_5
        refine lv_iconst (v := 0) hx hb dX7_switchOver_47 (by decide) ?_
        refine sm_pt (ci := 7) (C := RX7) (T := TX7) (N := 33) hx hb hts inlX7 tyX7 tyX7_ok nmX7 hown hK hP hD hS 0 rfl rfl 19 (by decide) wf_RX7_69 rfl rfl rfl (Nat.le_of_ble_eq_true rfl) dX7_switchOver_48 (fun H locs hP hD hS => ?_)
        have hP : va_P D.1 sm_cl (sm_w7 D am P S T L nm Z cp_4 ph 0 n2 fo rd np pw ev od rc wr) H := hP
        have hD : va_D (sm_ad (sm_w7 D am P S T L nm Z cp ph th n2 fo rd np pw ev od rc wr)) (sm_w7 D am P S T L nm Z cp_4 ph 0 n2 fo rd np pw ev od rc wr) := hD
        refine lv_aload_n hx hb dX7_switchOver_51 rfl (lv_at hl 0 rfl) ?_
        refine sm_gt (ci := 7) (C := RX7) (T := TX7) (N := 33) hx hb hts inlX7 hown hK hP 0 rfl rfl 19 (by decide) wf_RX7_69 rfl dX7_switchOver_52 ?_
        refine lv_if_le (tgt := 60) hx hb dX7_switchOver_55 (by decide) (fun _ => ?_) (fun h => absurd h (by decide))
        refine lv_aload_n hx hb dX7_switchOver_60 rfl (lv_at hl 0 rfl) ?_
        refine lv_bipush (v := 116) hx hb dX7_switchOver_61 (by decide) ?_
        refine sm_pt (ci := 7) (C := RX7) (T := TX7) (N := 33) hx hb hts inlX7 tyX7 tyX7_ok nmX7 hown hK hP hD hS 0 rfl rfl 32 (by decide) wf_RX7_109 rfl (by decide) rfl (Nat.le_of_ble_eq_true rfl) dX7_switchOver_63 (fun H locs hP hD hS => ?_)
        have hP : va_P D.1 sm_cl (sm_w7 D am P S T L nm Z cp_4 116 0 n2 fo rd np pw ev od rc wr) H := hP
        have hD : va_D (sm_ad (sm_w7 D am P S T L nm Z cp ph th n2 fo rd np pw ev od rc wr)) (sm_w7 D am P S T L nm Z cp_4 116 0 n2 fo rd np pw ev od rc wr) := hD
        refine lv_aload_n hx hb dX7_switchOver_66 rfl (lv_at hl 0 rfl) ?_
        refine lv_bipush (v := 101) hx hb dX7_switchOver_67 (by decide) ?_
        refine sm_re (y := sm_hc 1) (by decide) ?_
        refine sm_cVPr (rest := []) hC hK hP (c_X7_manyHeld D am P S T L nm Z cp_4 116 0 n2 fo rd np pw ev od rc wr 1 (by decide)) qyX7_manyHeld wl_RX7_166 ⟨Nat.le_of_ble_eq_true rfl, Nat.le_of_ble_eq_true rfl⟩ 0 rfl rfl rfl hl.1 rfl (Nat.le_of_ble_eq_true rfl) dX7_switchOver_69 ⟨Nat.le_of_ble_eq_true rfl, Nat.le_of_ble_eq_true rfl⟩ ?_
        exact sm_retC hC hP hD hS (by subst c_1; simp [sm_k1, sm_kSO, sm_any, sm_ssM, c_2, c_5]) rfl (by exact ⟨cp_4, by subst c_1; simp [sm_k1, sm_kSO, sm_any, sm_ssM, c_2, c_5]⟩) dX7_switchOver_72
      · have c_5 := sm_lc1 c_5
        refine lv_iconst (v := 2) hx hb dX7_switchOver_43 (by decide) ?_
        refine lv_goto (tgt := 48) hx hb dX7_switchOver_44 (by decide) ?_
        refine sm_pt (ci := 7) (C := RX7) (T := TX7) (N := 33) hx hb hts inlX7 tyX7 tyX7_ok nmX7 hown hK hP hD hS 0 rfl rfl 19 (by decide) wf_RX7_69 rfl rfl rfl (Nat.le_of_ble_eq_true rfl) dX7_switchOver_48 (fun H locs hP hD hS => ?_)
        have hP : va_P D.1 sm_cl (sm_w7 D am P S T L nm Z cp_4 ph 2 n2 fo rd np pw ev od rc wr) H := hP
        have hD : va_D (sm_ad (sm_w7 D am P S T L nm Z cp ph th n2 fo rd np pw ev od rc wr)) (sm_w7 D am P S T L nm Z cp_4 ph 2 n2 fo rd np pw ev od rc wr) := hD
        refine lv_aload_n hx hb dX7_switchOver_51 rfl (lv_at hl 0 rfl) ?_
        refine sm_gt (ci := 7) (C := RX7) (T := TX7) (N := 33) hx hb hts inlX7 hown hK hP 0 rfl rfl 19 (by decide) wf_RX7_69 rfl dX7_switchOver_52 ?_
        refine lv_if_le (tgt := 60) hx hb dX7_switchOver_55 (by decide) (fun h => absurd h (by decide)) (fun _ => ?_)
        refine lv_iconst (v := 0) hx hb dX7_switchOver_58 (by decide) ?_
        exact sm_retC hC hP hD hS (by subst c_1; simp [sm_k1, sm_kSO, sm_any, sm_ssM, c_2, c_5]) rfl (by exact ⟨cp_4, by subst c_1; simp [sm_k1, sm_kSO, sm_any, sm_ssM, c_2, c_5]⟩) dX7_switchOver_59
  · have c_1_ := c_1
    refine lv_iconst (v := 1) hx hb dX7_switchOver_10 (by decide) ?_
    refine lv_goto (tgt := 48) hx hb dX7_switchOver_11 (by decide) ?_
    refine sm_pt (ci := 7) (C := RX7) (T := TX7) (N := 33) hx hb hts inlX7 tyX7 tyX7_ok nmX7 hown hK hP hD hS 0 rfl rfl 19 (by decide) wf_RX7_69 rfl rfl rfl (Nat.le_of_ble_eq_true rfl) dX7_switchOver_48 (fun H locs hP hD hS => ?_)
    have hP : va_P D.1 sm_cl (sm_w7 D am P S T L nm Z cp ph 1 n2 fo rd np pw ev od rc wr) H := hP
    have hD : va_D (sm_ad (sm_w7 D am P S T L nm Z cp ph th n2 fo rd np pw ev od rc wr)) (sm_w7 D am P S T L nm Z cp ph 1 n2 fo rd np pw ev od rc wr) := hD
    refine lv_aload_n hx hb dX7_switchOver_51 rfl (lv_at hl 0 rfl) ?_
    refine sm_gt (ci := 7) (C := RX7) (T := TX7) (N := 33) hx hb hts inlX7 hown hK hP 0 rfl rfl 19 (by decide) wf_RX7_69 rfl dX7_switchOver_52 ?_
    refine lv_if_le (tgt := 60) hx hb dX7_switchOver_55 (by decide) (fun h => absurd h (by decide)) (fun _ => ?_)
    refine lv_iconst (v := 0) hx hb dX7_switchOver_58 (by decide) ?_
    exact sm_retC hC hP hD hS (by simp [sm_k1, sm_kSO, sm_any, sm_ssM, c_1]) rfl (by exact ⟨cp, by simp [sm_k1, sm_kSO, sm_any, sm_ssM, c_1]⟩) dX7_switchOver_59

set_option maxHeartbeats 1000000 in
set_option maxRecDepth 100000 in
theorem c_X7_canGoBack (hP6 : P.1 ≤ 6) (hOK : ∀ i, i < P.1 → sm_kOK (P.2.1 i) (P.2.2 i)) : sm_MC l yX7_canGoBack cX7_canGoBack 2 (some .boolean) 3 66 [.ref (am 0)] D (sm_w7 D am P S T L nm Z cp ph th n2 fo rd np pw ev od rc wr) (fun w => ∃ (cp' : sm_Cp), w = sm_w7 D am P S T L nm Z (cp') ph th n2 fo rd np pw ev od rc wr) (some (.int (sm_b (sm_cMG P T nm 40 0)))) := by
  refine sm_met (own := RX7) (by decide) rfl (Nat.le_of_ble_eq_true rfl) ?_
  intro p e s m below meth c ls hC hv hl
  obtain ⟨hx, hb, hml, hr, hown, hlk, hts⟩ := id hC
  obtain ⟨⟨hP, hK⟩, hD, hZ⟩ := hv
  have hS : va_S (sm_ad (sm_w7 D am P S T L nm Z cp ph th n2 fo rd np pw ev od rc wr)) s.heap s.heap [] := va_S.rf
  have hl : lv_has ls 2 [(0, .ref (am 0))] := hl
  refine lv_iconst (v := 0) hx hb dX7_canGoBack_0 (by decide) ?_
  refine lv_istore_n (lv' := [(1, .int 0), (0, .ref (am 0))]) hx hb dX7_canGoBack_1 rfl hl (by decide) rfl (fun ls hl => ?_)
  suffices K : ∀ (n : Nat) (i : Nat) (q : sm_Cp) (H : Heap) (locs : List Loc) (ls : Array Slot), 40 - i = n → (i ≤ 40) → (sm_cMG P T nm (40 - i) i = sm_cMG P T nm 40 0) → va_P D.1 sm_cl (sm_w7 D am P S T L nm Z q ph th n2 fo rd np pw ev od rc wr) H → va_D (sm_ad (sm_w7 D am P S T L nm Z cp ph th n2 fo rd np pw ev od rc wr)) (sm_w7 D am P S T L nm Z q ph th n2 fo rd np pw ev od rc wr) → va_S (sm_ad (sm_w7 D am P S T L nm Z cp ph th n2 fo rd np pw ev od rc wr)) s.heap H locs → lv_has ls 2 [(0, .ref (am 0)), (1, .int (nI i))] → W p l e ({ frames := 3, cells := 0, slots := 0, locals := 66 } : Room) s m ([.ref (am 0)] : List Value).toArray below meth c H locs 0 0 (MQ below (sm_Qc D (sm_w7 D am P S T L nm Z cp ph th n2 fo rd np pw ev od rc wr) (fun w => ∃ (cp' : sm_Cp), w = sm_w7 D am P S T L nm Z (cp') ph th n2 fo rd np pw ev od rc wr) (some (.int (sm_b (sm_cMG P T nm 40 0))))) ([.ref (am 0)] : List Value).toArray s 0 0 (sm_ad (sm_w7 D am P S T L nm Z cp ph th n2 fo rd np pw ev od rc wr))) (F0 m 2 ls []) from K _ 0 cp _ _ ls rfl (by omega) (rfl) hP hD hS (lv_sub hl [1, 0] rfl)
  intro n
  induction n using Nat.strongRecOn with
  | ind n ih =>
    intro i q H locs ls hn hi hR hP hD hS hl
    refine lv_iload_n hx hb dX7_canGoBack_2 rfl (lv_at hl 1 rfl) ?_
    refine lv_bipush (v := 40) hx hb dX7_canGoBack_3 (by decide) ?_
    refine lv_icmp_ge (tgt := 55) hx hb dX7_canGoBack_5 (by decide) (fun c_1 => ?_) (fun c_1 => ?_)
    · have c_1 := sm_Nnl (a := i) (b := 40) (sm_nl c_1) (by omega) (by omega)
      refine lv_iconst (v := 1) hx hb dX7_canGoBack_55 (by decide) ?_
      exact sm_retC hC hP hD hS (by rw [show 40 - i = 0 by omega] at hR; rw [← hR]; try rfl) (by decide) (by exact ⟨q, by rfl⟩) dX7_canGoBack_56
    · have c_1 := sm_Nlt (a := i) (b := 40) (sm_nle c_1) (by omega) (by omega)
      refine lv_aload_n hx hb dX7_canGoBack_8 rfl (lv_at hl 0 rfl) ?_
      refine sm_gt (ci := 7) (C := RX7) (T := TX7) (N := 33) hx hb hts inlX7 hown hK hP 0 rfl rfl 9 (by decide) wf_RX7_39 rfl dX7_canGoBack_9 ?_
      refine lv_iload_n hx hb dX7_canGoBack_12 rfl (lv_at hl 1 rfl) ?_
      refine sm_zld hx hb hK hP 10 rfl i rfl (by omega) (by decide) dX7_canGoBack_13 ?_
      refine lv_if_eq (tgt := 49) hx hb dX7_canGoBack_14 (by decide) (fun c_2 => ?_) (fun c_2 => ?_)
      · have c_2 := sm_b0 c_2
        refine lv_iinc (v := nI (i + 1)) (lv' := [(1, .int (nI (i + 1))), (0, .ref (am 0))]) hx hb dX7_canGoBack_49 hl (k := 1) rfl (nI_1 i) (by decide) rfl (fun ls hl => ?_)
        refine lv_goto (tgt := 2) hx hb dX7_canGoBack_52 (by decide) ?_
        exact ih _ (by omega) (i + 1) q _ _ ls rfl (by omega) (by rw [sm_cMS (by omega), if_neg (by rw [c_2]; decide)] at hR; exact hR) hP hD hS (lv_sub hl [1, 0] rfl)
      · have c_2 := sm_b1 c_2
        refine lv_aload_n hx hb dX7_canGoBack_17 rfl (lv_at hl 0 rfl) ?_
        refine sm_gt (ci := 7) (C := RX7) (T := TX7) (N := 33) hx hb hts inlX7 hown hK hP 0 rfl rfl 1 (by decide) wf_RX7_13 rfl dX7_canGoBack_18 ?_
        refine lv_iload_n hx hb dX7_canGoBack_21 rfl (lv_at hl 1 rfl) ?_
        refine sm_cld hx hb hK hP 2 rfl i rfl (by omega) (by decide) dX7_canGoBack_22 ?_
        refine lv_bipush (v := 101) hx hb dX7_canGoBack_23 (by decide) ?_
        refine lv_icmp_ne (tgt := 49) hx hb dX7_canGoBack_25 (by decide) (fun c_3 => ?_) (fun c_3 => ?_)
        · have c_3 := sm_hcF1 c_3
          refine lv_iinc (v := nI (i + 1)) (lv' := [(1, .int (nI (i + 1))), (0, .ref (am 0))]) hx hb dX7_canGoBack_49 hl (k := 1) rfl (nI_1 i) (by decide) rfl (fun ls hl => ?_)
          refine lv_goto (tgt := 2) hx hb dX7_canGoBack_52 (by decide) ?_
          exact ih _ (by omega) (i + 1) q _ _ ls rfl (by omega) (by rw [sm_cMS (by omega), if_pos c_2, if_neg (by rw [c_3]; decide)] at hR; exact hR) hP hD hS (lv_sub hl [1, 0] rfl)
        · have c_3 := sm_hcT1 c_3
          refine lv_aload_n hx hb dX7_canGoBack_28 rfl (lv_at hl 0 rfl) ?_
          refine lv_aload_n hx hb dX7_canGoBack_29 rfl (lv_at hl 0 rfl) ?_
          refine sm_gt (ci := 7) (C := RX7) (T := TX7) (N := 33) hx hb hts inlX7 hown hK hP 0 rfl rfl 5 (by decide) wf_RX7_26 rfl dX7_canGoBack_30 ?_
          refine lv_iload_n hx hb dX7_canGoBack_33 rfl (lv_at hl 1 rfl) ?_
          refine sm_ild hx hb hK hP 6 rfl i rfl (by omega) (by decide) dX7_canGoBack_34 ?_
          refine lv_aload_n hx hb dX7_canGoBack_35 rfl (lv_at hl 0 rfl) ?_
          refine sm_gt (ci := 7) (C := RX7) (T := TX7) (N := 33) hx hb hts inlX7 hown hK hP 0 rfl rfl 6 (by decide) wf_RX7_29 rfl dX7_canGoBack_36 ?_
          refine lv_iload_n hx hb dX7_canGoBack_39 rfl (lv_at hl 1 rfl) ?_
          refine sm_ild hx hb hK hP 7 rfl i rfl (by omega) (by decide) dX7_canGoBack_40 ?_
          refine sm_cVCr (rest := []) hC hK hP hD hS hZ (c_X7_turnsBack D am P S T L nm Z q ph th n2 fo rd np pw ev od rc wr (T.2.2.1 i) (T.2.2.2 i) hP6 hOK) qyX7_turnsBack wl_RX7_174 ⟨Nat.le_of_ble_eq_true rfl, Nat.le_of_ble_eq_true rfl⟩ 0 rfl rfl rfl hl.1 rfl (Nat.le_of_ble_eq_true rfl) dX7_canGoBack_41 ⟨Nat.le_of_ble_eq_true rfl, Nat.le_of_ble_eq_true rfl⟩ (fun w1 H locs hB hP hD hS => ?_)
          subst hB
          refine lv_if_ne (tgt := 49) hx hb dX7_canGoBack_44 (by decide) (fun c_4 => ?_) (fun c_4 => ?_)
          · have c_4 := sm_b1 c_4
            refine lv_iinc (v := nI (i + 1)) (lv' := [(1, .int (nI (i + 1))), (0, .ref (am 0))]) hx hb dX7_canGoBack_49 hl (k := 1) rfl (nI_1 i) (by decide) rfl (fun ls hl => ?_)
            refine lv_goto (tgt := 2) hx hb dX7_canGoBack_52 (by decide) ?_
            exact ih _ (by omega) (i + 1) ((sm_bk P ((T.2.2.1 i), (T.2.2.2 i))).2) _ _ ls rfl (by omega) (by rw [sm_cMS (by omega), if_pos c_2, if_pos c_3, sm_tb, if_pos c_3, if_pos c_4] at hR; exact hR) hP hD hS (lv_sub hl [1, 0] rfl)
          · have c_4 := sm_b0 c_4
            refine lv_iconst (v := 0) hx hb dX7_canGoBack_47 (by decide) ?_
            exact sm_retC hC hP hD hS (by rw [sm_cMS (by omega), if_pos c_2, if_pos c_3, sm_tb, if_pos c_3, if_neg (by rw [c_4]; decide)] at hR; rw [← hR]; try rfl) (by decide) (by exact ⟨((sm_bk P ((T.2.2.1 i), (T.2.2.2 i))).2), by rfl⟩) dX7_canGoBack_48

set_option maxHeartbeats 1000000 in
set_option maxRecDepth 100000 in
theorem c_X7_goesBack (k : Nat) (hk : k < 40) (htb : sm_kd T k 1 = true → sm_tb P T k = true) (hP6 : P.1 ≤ 6) (hOK : ∀ i, i < P.1 → sm_kOK (P.2.1 i) (P.2.2 i)) : sm_MC l yX7_goesBack cX7_goesBack 4 (some .boolean) 3 66 [.ref (am 0), .int (nI k)] D (sm_w7 D am P S T L nm Z cp ph th n2 fo rd np pw ev od rc wr) (fun w => ∃ (cp' : sm_Cp), w = sm_w7 D am P (sm_cbS P T S k) T L nm Z (cp') ph th n2 fo rd np pw ev od rc wr) (some (.int (sm_b (sm_cbR P T S k)))) := by
  refine sm_met (own := RX7) (by decide) rfl (Nat.le_of_ble_eq_true rfl) ?_
  intro p e s m below meth c ls hC hv hl
  obtain ⟨hx, hb, hml, hr, hown, hlk, hts⟩ := id hC
  obtain ⟨⟨hP, hK⟩, hD, hZ⟩ := hv
  have hS : va_S (sm_ad (sm_w7 D am P S T L nm Z cp ph th n2 fo rd np pw ev od rc wr)) s.heap s.heap [] := va_S.rf
  have hl : lv_has ls 4 [(0, .ref (am 0)), (1, .int (nI k))] := hl
  refine lv_aload_n hx hb dX7_goesBack_0 rfl (lv_at hl 0 rfl) ?_
  refine sm_gt (ci := 7) (C := RX7) (T := TX7) (N := 33) hx hb hts inlX7 hown hK hP 0 rfl rfl 8 (by decide) wf_RX7_35 rfl dX7_goesBack_1 ?_
  refine lv_iload_n hx hb dX7_goesBack_4 rfl (lv_at hl 1 rfl) ?_
  refine sm_zld hx hb hK hP 9 rfl k rfl (by omega) (by decide) dX7_goesBack_5 ?_
  refine lv_istore_n (lv' := [(2, .int (sm_b (S.1 k))), (0, .ref (am 0)), (1, .int (nI k))]) hx hb dX7_goesBack_6 rfl hl (by decide) rfl (fun ls hl => ?_)
  refine lv_aload_n hx hb dX7_goesBack_7 rfl (lv_at hl 1 rfl) ?_
  refine sm_gt (ci := 7) (C := RX7) (T := TX7) (N := 33) hx hb hts inlX7 hown hK hP 0 rfl rfl 8 (by decide) wf_RX7_35 rfl dX7_goesBack_8 ?_
  refine lv_iload_n hx hb dX7_goesBack_11 rfl (lv_at hl 2 rfl) ?_
  refine lv_aload_n hx hb dX7_goesBack_12 rfl (lv_at hl 1 rfl) ?_
  refine sm_gt (ci := 7) (C := RX7) (T := TX7) (N := 33) hx hb hts inlX7 hown hK hP 0 rfl rfl 1 (by decide) wf_RX7_13 rfl dX7_goesBack_13 ?_
  refine lv_iload_n hx hb dX7_goesBack_16 rfl (lv_at hl 2 rfl) ?_
  refine sm_cld hx hb hK hP 2 rfl k rfl (by omega) (by decide) dX7_goesBack_17 ?_
  refine lv_bipush (v := 101) hx hb dX7_goesBack_18 (by decide) ?_
  refine lv_icmp_ne (tgt := 27) hx hb dX7_goesBack_20 (by decide) (fun c_1 => ?_) (fun c_1 => ?_)
  · have c_1 := sm_hcF1 c_1
    refine lv_iconst (v := 0) hx hb dX7_goesBack_27 (by decide) ?_
    refine sm_zst hx hb hK hP hD hS 9 rfl false rfl k rfl (by omega) (by decide) dX7_goesBack_28 (fun H locs hP hD hS => ?_)
    have hP : va_P D.1 sm_cl (sm_w7 D am P (va_up S.1 k false, S.2) T L nm Z cp ph th n2 fo rd np pw ev od rc wr) H := hP
    have hD : va_D (sm_ad (sm_w7 D am P S T L nm Z cp ph th n2 fo rd np pw ev od rc wr)) (sm_w7 D am P (va_up S.1 k false, S.2) T L nm Z cp ph th n2 fo rd np pw ev od rc wr) := hD
    refine lv_aload_n hx hb dX7_goesBack_29 rfl (lv_at hl 1 rfl) ?_
    refine sm_gt (ci := 7) (C := RX7) (T := TX7) (N := 33) hx hb hts inlX7 hown hK hP 0 rfl rfl 8 (by decide) wf_RX7_35 rfl dX7_goesBack_30 ?_
    refine lv_iload_n hx hb dX7_goesBack_33 rfl (lv_at hl 2 rfl) ?_
    refine sm_zld hx hb hK hP 9 rfl k rfl (by omega) (by decide) dX7_goesBack_34 ?_
    refine sm_re (y := sm_b false) (congrArg sm_b (sm_us _ _ _)) ?_
    refine lv_if_eq (tgt := 57) hx hb dX7_goesBack_35 (by decide) (fun _ => ?_) (fun h => absurd h (by decide))
    refine lv_iload_n hx hb dX7_goesBack_57 rfl (lv_at hl 0 rfl) ?_
    exact sm_retC hC hP hD hS (by simp [sm_cbR, sm_b, c_1]) (sm_nb _) (by exact ⟨cp, by simp [sm_cbS, sm_rmS, c_1]⟩) dX7_goesBack_58
  · have c_1 := sm_hcT1 c_1
    refine lv_iconst (v := 1) hx hb dX7_goesBack_23 (by decide) ?_
    refine lv_goto (tgt := 28) hx hb dX7_goesBack_24 (by decide) ?_
    refine sm_zst hx hb hK hP hD hS 9 rfl true rfl k rfl (by omega) (by decide) dX7_goesBack_28 (fun H locs hP hD hS => ?_)
    have hP : va_P D.1 sm_cl (sm_w7 D am P (va_up S.1 k true, S.2) T L nm Z cp ph th n2 fo rd np pw ev od rc wr) H := hP
    have hD : va_D (sm_ad (sm_w7 D am P S T L nm Z cp ph th n2 fo rd np pw ev od rc wr)) (sm_w7 D am P (va_up S.1 k true, S.2) T L nm Z cp ph th n2 fo rd np pw ev od rc wr) := hD
    refine lv_aload_n hx hb dX7_goesBack_29 rfl (lv_at hl 1 rfl) ?_
    refine sm_gt (ci := 7) (C := RX7) (T := TX7) (N := 33) hx hb hts inlX7 hown hK hP 0 rfl rfl 8 (by decide) wf_RX7_35 rfl dX7_goesBack_30 ?_
    refine lv_iload_n hx hb dX7_goesBack_33 rfl (lv_at hl 2 rfl) ?_
    refine sm_zld hx hb hK hP 9 rfl k rfl (by omega) (by decide) dX7_goesBack_34 ?_
    refine sm_re (y := sm_b true) (congrArg sm_b (sm_us _ _ _)) ?_
    refine lv_if_eq (tgt := 57) hx hb dX7_goesBack_35 (by decide) (fun h => absurd h (by decide)) (fun _ => ?_)
    refine lv_aload_n hx hb dX7_goesBack_38 rfl (lv_at hl 1 rfl) ?_
    refine lv_aload_n hx hb dX7_goesBack_39 rfl (lv_at hl 1 rfl) ?_
    refine sm_gt (ci := 7) (C := RX7) (T := TX7) (N := 33) hx hb hts inlX7 hown hK hP 0 rfl rfl 5 (by decide) wf_RX7_26 rfl dX7_goesBack_40 ?_
    refine lv_iload_n hx hb dX7_goesBack_43 rfl (lv_at hl 2 rfl) ?_
    refine sm_ild hx hb hK hP 6 rfl k rfl (by omega) (by decide) dX7_goesBack_44 ?_
    refine lv_aload_n hx hb dX7_goesBack_45 rfl (lv_at hl 1 rfl) ?_
    refine sm_gt (ci := 7) (C := RX7) (T := TX7) (N := 33) hx hb hts inlX7 hown hK hP 0 rfl rfl 6 (by decide) wf_RX7_29 rfl dX7_goesBack_46 ?_
    refine lv_iload_n hx hb dX7_goesBack_49 rfl (lv_at hl 2 rfl) ?_
    refine sm_ild hx hb hK hP 7 rfl k rfl (by omega) (by decide) dX7_goesBack_50 ?_
    refine sm_cVCr (rest := []) hC hK hP hD hS hZ (c_X7_turnsBack D am P (va_up S.1 k true, S.2) T L nm Z cp ph th n2 fo rd np pw ev od rc wr (T.2.2.1 k) (T.2.2.2 k) hP6 hOK) qyX7_turnsBack wl_RX7_174 ⟨Nat.le_of_ble_eq_true rfl, Nat.le_of_ble_eq_true rfl⟩ 0 rfl rfl rfl hl.1 rfl (Nat.le_of_ble_eq_true rfl) dX7_goesBack_51 ⟨Nat.le_of_ble_eq_true rfl, Nat.le_of_ble_eq_true rfl⟩ (fun w1 H locs hB hP hD hS => ?_)
    subst hB
    refine lv_if_ne (tgt := 59) hx hb dX7_goesBack_54 (by decide) (fun c_2 => ?_) (fun c_2 => ?_)
    · have c_2 := sm_b1 c_2
      refine lv_iload_n hx hb dX7_goesBack_59 rfl (lv_at hl 0 rfl) ?_
      refine lv_if_eq (tgt := 89) hx hb dX7_goesBack_60 (by decide) (fun c_3 => ?_) (fun c_3 => ?_)
      · have c_3 := sm_b0 c_3
        refine lv_iconst (v := 1) hx hb dX7_goesBack_89 (by decide) ?_
        refine lv_goto (tgt := 94) hx hb dX7_goesBack_90 (by decide) ?_
        refine lv_istore_n (lv' := [(3, .int 1), (2, .int (sm_b (S.1 k))), (0, .ref (am 0)), (1, .int (nI k))]) hx hb dX7_goesBack_94 rfl hl (by decide) rfl (fun ls hl => ?_)
        refine lv_aload_n hx hb dX7_goesBack_95 rfl (lv_at hl 2 rfl) ?_
        refine sm_gt (ci := 7) (C := RX7) (T := TX7) (N := 33) hx hb hts inlX7 hown hK hP 0 rfl rfl 3 (by decide) wf_RX7_20 rfl dX7_goesBack_96 ?_
        refine lv_iload_n hx hb dX7_goesBack_99 rfl (lv_at hl 3 rfl) ?_
        refine lv_aload_n hx hb dX7_goesBack_100 rfl (lv_at hl 2 rfl) ?_
        refine sm_gt (ci := 7) (C := RX7) (T := TX7) (N := 33) hx hb hts inlX7 hown hK hP 0 rfl rfl 30 (by decide) wf_RX7_103 rfl dX7_goesBack_101 ?_
        refine sm_ist hx hb hK hP hD hS 4 rfl k rfl (by omega) (by decide) dX7_goesBack_104 (fun H locs hP hD hS => ?_)
        have hP : va_P D.1 sm_cl (sm_w7 D am P (va_up S.1 k true, va_up S.2.1 k (((sm_bk P ((T.2.2.1 k), (T.2.2.2 k))).2).1), S.2.2) T L nm Z ((sm_bk P ((T.2.2.1 k), (T.2.2.2 k))).2) ph th n2 fo rd np pw ev od rc wr) H := hP
        have hD : va_D (sm_ad (sm_w7 D am P S T L nm Z cp ph th n2 fo rd np pw ev od rc wr)) (sm_w7 D am P (va_up S.1 k true, va_up S.2.1 k (((sm_bk P ((T.2.2.1 k), (T.2.2.2 k))).2).1), S.2.2) T L nm Z ((sm_bk P ((T.2.2.1 k), (T.2.2.2 k))).2) ph th n2 fo rd np pw ev od rc wr) := hD
        refine lv_aload_n hx hb dX7_goesBack_105 rfl (lv_at hl 2 rfl) ?_
        refine sm_gt (ci := 7) (C := RX7) (T := TX7) (N := 33) hx hb hts inlX7 hown hK hP 0 rfl rfl 4 (by decide) wf_RX7_23 rfl dX7_goesBack_106 ?_
        refine lv_iload_n hx hb dX7_goesBack_109 rfl (lv_at hl 3 rfl) ?_
        refine lv_aload_n hx hb dX7_goesBack_110 rfl (lv_at hl 2 rfl) ?_
        refine sm_gt (ci := 7) (C := RX7) (T := TX7) (N := 33) hx hb hts inlX7 hown hK hP 0 rfl rfl 31 (by decide) wf_RX7_106 rfl dX7_goesBack_111 ?_
        refine sm_ist hx hb hK hP hD hS 5 rfl k rfl (by omega) (by decide) dX7_goesBack_114 (fun H locs hP hD hS => ?_)
        have hP : va_P D.1 sm_cl (sm_w7 D am P (va_up S.1 k true, va_up S.2.1 k (((sm_bk P ((T.2.2.1 k), (T.2.2.2 k))).2).1), va_up S.2.2 k (((sm_bk P ((T.2.2.1 k), (T.2.2.2 k))).2).2)) T L nm Z ((sm_bk P ((T.2.2.1 k), (T.2.2.2 k))).2) ph th n2 fo rd np pw ev od rc wr) H := hP
        have hD : va_D (sm_ad (sm_w7 D am P S T L nm Z cp ph th n2 fo rd np pw ev od rc wr)) (sm_w7 D am P (va_up S.1 k true, va_up S.2.1 k (((sm_bk P ((T.2.2.1 k), (T.2.2.2 k))).2).1), va_up S.2.2 k (((sm_bk P ((T.2.2.1 k), (T.2.2.2 k))).2).2)) T L nm Z ((sm_bk P ((T.2.2.1 k), (T.2.2.2 k))).2) ph th n2 fo rd np pw ev od rc wr) := hD
        refine lv_iload_n hx hb dX7_goesBack_115 rfl (lv_at hl 0 rfl) ?_
        exact sm_retC hC hP hD hS (by have hb7 := htb c_1; simp [sm_cbR, sm_hold, sm_b, hb7, c_1, c_2, c_3]) (by decide) (by exact ⟨((sm_bk P ((T.2.2.1 k), (T.2.2.2 k))).2), by have hb7 := htb c_1; simp [sm_cbS, sm_putS, hb7, c_1, c_2, c_3]⟩) dX7_goesBack_116
      · have c_3 := sm_b1 c_3
        refine lv_aload_n hx hb dX7_goesBack_63 rfl (lv_at hl 1 rfl) ?_
        refine sm_gt (ci := 7) (C := RX7) (T := TX7) (N := 33) hx hb hts inlX7 hown hK hP 0 rfl rfl 3 (by decide) wf_RX7_20 rfl dX7_goesBack_64 ?_
        refine lv_iload_n hx hb dX7_goesBack_67 rfl (lv_at hl 2 rfl) ?_
        refine sm_ild hx hb hK hP 4 rfl k rfl (by omega) (by decide) dX7_goesBack_68 ?_
        refine lv_aload_n hx hb dX7_goesBack_69 rfl (lv_at hl 1 rfl) ?_
        refine sm_gt (ci := 7) (C := RX7) (T := TX7) (N := 33) hx hb hts inlX7 hown hK hP 0 rfl rfl 30 (by decide) wf_RX7_103 rfl dX7_goesBack_70 ?_
        refine lv_icmp_ne (tgt := 89) hx hb dX7_goesBack_73 (by decide) (fun c_4 => ?_) (fun c_4 => ?_)
        · have c_4_ := c_4
          refine lv_iconst (v := 1) hx hb dX7_goesBack_89 (by decide) ?_
          refine lv_goto (tgt := 94) hx hb dX7_goesBack_90 (by decide) ?_
          refine lv_istore_n (lv' := [(3, .int 1), (2, .int (sm_b (S.1 k))), (0, .ref (am 0)), (1, .int (nI k))]) hx hb dX7_goesBack_94 rfl hl (by decide) rfl (fun ls hl => ?_)
          refine lv_aload_n hx hb dX7_goesBack_95 rfl (lv_at hl 2 rfl) ?_
          refine sm_gt (ci := 7) (C := RX7) (T := TX7) (N := 33) hx hb hts inlX7 hown hK hP 0 rfl rfl 3 (by decide) wf_RX7_20 rfl dX7_goesBack_96 ?_
          refine lv_iload_n hx hb dX7_goesBack_99 rfl (lv_at hl 3 rfl) ?_
          refine lv_aload_n hx hb dX7_goesBack_100 rfl (lv_at hl 2 rfl) ?_
          refine sm_gt (ci := 7) (C := RX7) (T := TX7) (N := 33) hx hb hts inlX7 hown hK hP 0 rfl rfl 30 (by decide) wf_RX7_103 rfl dX7_goesBack_101 ?_
          refine sm_ist hx hb hK hP hD hS 4 rfl k rfl (by omega) (by decide) dX7_goesBack_104 (fun H locs hP hD hS => ?_)
          have hP : va_P D.1 sm_cl (sm_w7 D am P (va_up S.1 k true, va_up S.2.1 k (((sm_bk P ((T.2.2.1 k), (T.2.2.2 k))).2).1), S.2.2) T L nm Z ((sm_bk P ((T.2.2.1 k), (T.2.2.2 k))).2) ph th n2 fo rd np pw ev od rc wr) H := hP
          have hD : va_D (sm_ad (sm_w7 D am P S T L nm Z cp ph th n2 fo rd np pw ev od rc wr)) (sm_w7 D am P (va_up S.1 k true, va_up S.2.1 k (((sm_bk P ((T.2.2.1 k), (T.2.2.2 k))).2).1), S.2.2) T L nm Z ((sm_bk P ((T.2.2.1 k), (T.2.2.2 k))).2) ph th n2 fo rd np pw ev od rc wr) := hD
          refine lv_aload_n hx hb dX7_goesBack_105 rfl (lv_at hl 2 rfl) ?_
          refine sm_gt (ci := 7) (C := RX7) (T := TX7) (N := 33) hx hb hts inlX7 hown hK hP 0 rfl rfl 4 (by decide) wf_RX7_23 rfl dX7_goesBack_106 ?_
          refine lv_iload_n hx hb dX7_goesBack_109 rfl (lv_at hl 3 rfl) ?_
          refine lv_aload_n hx hb dX7_goesBack_110 rfl (lv_at hl 2 rfl) ?_
          refine sm_gt (ci := 7) (C := RX7) (T := TX7) (N := 33) hx hb hts inlX7 hown hK hP 0 rfl rfl 31 (by decide) wf_RX7_106 rfl dX7_goesBack_111 ?_
          refine sm_ist hx hb hK hP hD hS 5 rfl k rfl (by omega) (by decide) dX7_goesBack_114 (fun H locs hP hD hS => ?_)
          have hP : va_P D.1 sm_cl (sm_w7 D am P (va_up S.1 k true, va_up S.2.1 k (((sm_bk P ((T.2.2.1 k), (T.2.2.2 k))).2).1), va_up S.2.2 k (((sm_bk P ((T.2.2.1 k), (T.2.2.2 k))).2).2)) T L nm Z ((sm_bk P ((T.2.2.1 k), (T.2.2.2 k))).2) ph th n2 fo rd np pw ev od rc wr) H := hP
          have hD : va_D (sm_ad (sm_w7 D am P S T L nm Z cp ph th n2 fo rd np pw ev od rc wr)) (sm_w7 D am P (va_up S.1 k true, va_up S.2.1 k (((sm_bk P ((T.2.2.1 k), (T.2.2.2 k))).2).1), va_up S.2.2 k (((sm_bk P ((T.2.2.1 k), (T.2.2.2 k))).2).2)) T L nm Z ((sm_bk P ((T.2.2.1 k), (T.2.2.2 k))).2) ph th n2 fo rd np pw ev od rc wr) := hD
          refine lv_iload_n hx hb dX7_goesBack_115 rfl (lv_at hl 0 rfl) ?_
          exact sm_retC hC hP hD hS (by have hb7 := htb c_1; simp [sm_cbR, sm_hold, sm_b, hb7, c_1, c_2, c_3, c_4]) (by decide) (by exact ⟨((sm_bk P ((T.2.2.1 k), (T.2.2.2 k))).2), by have hb7 := htb c_1; simp [sm_cbS, sm_putS, hb7, c_1, c_2, c_3, c_4]⟩) dX7_goesBack_116
        · have c_4_ := c_4
          refine lv_aload_n hx hb dX7_goesBack_76 rfl (lv_at hl 1 rfl) ?_
          refine sm_gt (ci := 7) (C := RX7) (T := TX7) (N := 33) hx hb hts inlX7 hown hK hP 0 rfl rfl 4 (by decide) wf_RX7_23 rfl dX7_goesBack_77 ?_
          refine lv_iload_n hx hb dX7_goesBack_80 rfl (lv_at hl 2 rfl) ?_
          refine sm_ild hx hb hK hP 5 rfl k rfl (by omega) (by decide) dX7_goesBack_81 ?_
          refine lv_aload_n hx hb dX7_goesBack_82 rfl (lv_at hl 1 rfl) ?_
          refine sm_gt (ci := 7) (C := RX7) (T := TX7) (N := 33) hx hb hts inlX7 hown hK hP 0 rfl rfl 31 (by decide) wf_RX7_106 rfl dX7_goesBack_83 ?_
          refine lv_icmp_eq (tgt := 93) hx hb dX7_goesBack_86 (by decide) (fun c_5 => ?_) (fun c_5 => ?_)
          · have c_5_ := c_5
            refine lv_iconst (v := 0) hx hb dX7_goesBack_93 (by decide) ?_
            refine lv_istore_n (lv' := [(3, .int 0), (2, .int (sm_b (S.1 k))), (0, .ref (am 0)), (1, .int (nI k))]) hx hb dX7_goesBack_94 rfl hl (by decide) rfl (fun ls hl => ?_)
            refine lv_aload_n hx hb dX7_goesBack_95 rfl (lv_at hl 2 rfl) ?_
            refine sm_gt (ci := 7) (C := RX7) (T := TX7) (N := 33) hx hb hts inlX7 hown hK hP 0 rfl rfl 3 (by decide) wf_RX7_20 rfl dX7_goesBack_96 ?_
            refine lv_iload_n hx hb dX7_goesBack_99 rfl (lv_at hl 3 rfl) ?_
            refine lv_aload_n hx hb dX7_goesBack_100 rfl (lv_at hl 2 rfl) ?_
            refine sm_gt (ci := 7) (C := RX7) (T := TX7) (N := 33) hx hb hts inlX7 hown hK hP 0 rfl rfl 30 (by decide) wf_RX7_103 rfl dX7_goesBack_101 ?_
            refine sm_ist hx hb hK hP hD hS 4 rfl k rfl (by omega) (by decide) dX7_goesBack_104 (fun H locs hP hD hS => ?_)
            have hP : va_P D.1 sm_cl (sm_w7 D am P (va_up S.1 k true, va_up S.2.1 k (((sm_bk P ((T.2.2.1 k), (T.2.2.2 k))).2).1), S.2.2) T L nm Z ((sm_bk P ((T.2.2.1 k), (T.2.2.2 k))).2) ph th n2 fo rd np pw ev od rc wr) H := hP
            have hD : va_D (sm_ad (sm_w7 D am P S T L nm Z cp ph th n2 fo rd np pw ev od rc wr)) (sm_w7 D am P (va_up S.1 k true, va_up S.2.1 k (((sm_bk P ((T.2.2.1 k), (T.2.2.2 k))).2).1), S.2.2) T L nm Z ((sm_bk P ((T.2.2.1 k), (T.2.2.2 k))).2) ph th n2 fo rd np pw ev od rc wr) := hD
            refine lv_aload_n hx hb dX7_goesBack_105 rfl (lv_at hl 2 rfl) ?_
            refine sm_gt (ci := 7) (C := RX7) (T := TX7) (N := 33) hx hb hts inlX7 hown hK hP 0 rfl rfl 4 (by decide) wf_RX7_23 rfl dX7_goesBack_106 ?_
            refine lv_iload_n hx hb dX7_goesBack_109 rfl (lv_at hl 3 rfl) ?_
            refine lv_aload_n hx hb dX7_goesBack_110 rfl (lv_at hl 2 rfl) ?_
            refine sm_gt (ci := 7) (C := RX7) (T := TX7) (N := 33) hx hb hts inlX7 hown hK hP 0 rfl rfl 31 (by decide) wf_RX7_106 rfl dX7_goesBack_111 ?_
            refine sm_ist hx hb hK hP hD hS 5 rfl k rfl (by omega) (by decide) dX7_goesBack_114 (fun H locs hP hD hS => ?_)
            have hP : va_P D.1 sm_cl (sm_w7 D am P (va_up S.1 k true, va_up S.2.1 k (((sm_bk P ((T.2.2.1 k), (T.2.2.2 k))).2).1), va_up S.2.2 k (((sm_bk P ((T.2.2.1 k), (T.2.2.2 k))).2).2)) T L nm Z ((sm_bk P ((T.2.2.1 k), (T.2.2.2 k))).2) ph th n2 fo rd np pw ev od rc wr) H := hP
            have hD : va_D (sm_ad (sm_w7 D am P S T L nm Z cp ph th n2 fo rd np pw ev od rc wr)) (sm_w7 D am P (va_up S.1 k true, va_up S.2.1 k (((sm_bk P ((T.2.2.1 k), (T.2.2.2 k))).2).1), va_up S.2.2 k (((sm_bk P ((T.2.2.1 k), (T.2.2.2 k))).2).2)) T L nm Z ((sm_bk P ((T.2.2.1 k), (T.2.2.2 k))).2) ph th n2 fo rd np pw ev od rc wr) := hD
            refine lv_iload_n hx hb dX7_goesBack_115 rfl (lv_at hl 0 rfl) ?_
            exact sm_retC hC hP hD hS (by have hb7 := htb c_1; have e7 : sm_hold S k (sm_bk P (T.2.2.1 k, T.2.2.2 k)).2.1 (sm_bk P (T.2.2.1 k, T.2.2.2 k)).2.2 = true := (by rw [sm_hold, if_pos c_3, if_pos c_4, if_pos c_5]); rw [sm_cbR, if_pos c_1, if_pos hb7, if_pos e7]; rfl) (by decide) (by exact ⟨((sm_bk P ((T.2.2.1 k), (T.2.2.2 k))).2), by have hb7 := htb c_1; simp [sm_cbS, sm_putS, hb7, c_1, c_2, c_3, c_4, c_5]⟩) dX7_goesBack_116
          · have c_5_ := c_5
            refine lv_iconst (v := 1) hx hb dX7_goesBack_89 (by decide) ?_
            refine lv_goto (tgt := 94) hx hb dX7_goesBack_90 (by decide) ?_
            refine lv_istore_n (lv' := [(3, .int 1), (2, .int (sm_b (S.1 k))), (0, .ref (am 0)), (1, .int (nI k))]) hx hb dX7_goesBack_94 rfl hl (by decide) rfl (fun ls hl => ?_)
            refine lv_aload_n hx hb dX7_goesBack_95 rfl (lv_at hl 2 rfl) ?_
            refine sm_gt (ci := 7) (C := RX7) (T := TX7) (N := 33) hx hb hts inlX7 hown hK hP 0 rfl rfl 3 (by decide) wf_RX7_20 rfl dX7_goesBack_96 ?_
            refine lv_iload_n hx hb dX7_goesBack_99 rfl (lv_at hl 3 rfl) ?_
            refine lv_aload_n hx hb dX7_goesBack_100 rfl (lv_at hl 2 rfl) ?_
            refine sm_gt (ci := 7) (C := RX7) (T := TX7) (N := 33) hx hb hts inlX7 hown hK hP 0 rfl rfl 30 (by decide) wf_RX7_103 rfl dX7_goesBack_101 ?_
            refine sm_ist hx hb hK hP hD hS 4 rfl k rfl (by omega) (by decide) dX7_goesBack_104 (fun H locs hP hD hS => ?_)
            have hP : va_P D.1 sm_cl (sm_w7 D am P (va_up S.1 k true, va_up S.2.1 k (((sm_bk P ((T.2.2.1 k), (T.2.2.2 k))).2).1), S.2.2) T L nm Z ((sm_bk P ((T.2.2.1 k), (T.2.2.2 k))).2) ph th n2 fo rd np pw ev od rc wr) H := hP
            have hD : va_D (sm_ad (sm_w7 D am P S T L nm Z cp ph th n2 fo rd np pw ev od rc wr)) (sm_w7 D am P (va_up S.1 k true, va_up S.2.1 k (((sm_bk P ((T.2.2.1 k), (T.2.2.2 k))).2).1), S.2.2) T L nm Z ((sm_bk P ((T.2.2.1 k), (T.2.2.2 k))).2) ph th n2 fo rd np pw ev od rc wr) := hD
            refine lv_aload_n hx hb dX7_goesBack_105 rfl (lv_at hl 2 rfl) ?_
            refine sm_gt (ci := 7) (C := RX7) (T := TX7) (N := 33) hx hb hts inlX7 hown hK hP 0 rfl rfl 4 (by decide) wf_RX7_23 rfl dX7_goesBack_106 ?_
            refine lv_iload_n hx hb dX7_goesBack_109 rfl (lv_at hl 3 rfl) ?_
            refine lv_aload_n hx hb dX7_goesBack_110 rfl (lv_at hl 2 rfl) ?_
            refine sm_gt (ci := 7) (C := RX7) (T := TX7) (N := 33) hx hb hts inlX7 hown hK hP 0 rfl rfl 31 (by decide) wf_RX7_106 rfl dX7_goesBack_111 ?_
            refine sm_ist hx hb hK hP hD hS 5 rfl k rfl (by omega) (by decide) dX7_goesBack_114 (fun H locs hP hD hS => ?_)
            have hP : va_P D.1 sm_cl (sm_w7 D am P (va_up S.1 k true, va_up S.2.1 k (((sm_bk P ((T.2.2.1 k), (T.2.2.2 k))).2).1), va_up S.2.2 k (((sm_bk P ((T.2.2.1 k), (T.2.2.2 k))).2).2)) T L nm Z ((sm_bk P ((T.2.2.1 k), (T.2.2.2 k))).2) ph th n2 fo rd np pw ev od rc wr) H := hP
            have hD : va_D (sm_ad (sm_w7 D am P S T L nm Z cp ph th n2 fo rd np pw ev od rc wr)) (sm_w7 D am P (va_up S.1 k true, va_up S.2.1 k (((sm_bk P ((T.2.2.1 k), (T.2.2.2 k))).2).1), va_up S.2.2 k (((sm_bk P ((T.2.2.1 k), (T.2.2.2 k))).2).2)) T L nm Z ((sm_bk P ((T.2.2.1 k), (T.2.2.2 k))).2) ph th n2 fo rd np pw ev od rc wr) := hD
            refine lv_iload_n hx hb dX7_goesBack_115 rfl (lv_at hl 0 rfl) ?_
            exact sm_retC hC hP hD hS (by have hb7 := htb c_1; simp [sm_cbR, sm_hold, sm_b, hb7, c_1, c_2, c_3, c_4, c_5]) (by decide) (by exact ⟨((sm_bk P ((T.2.2.1 k), (T.2.2.2 k))).2), by have hb7 := htb c_1; simp [sm_cbS, sm_putS, hb7, c_1, c_2, c_3, c_4, c_5]⟩) dX7_goesBack_116
    · have c_2 := sm_b0 c_2
      refine lv_iload_n hx hb dX7_goesBack_57 rfl (lv_at hl 0 rfl) ?_
      exact sm_retC hC hP hD hS (by exfalso; have := htb c_1; rw [sm_tb, if_pos c_1] at this; rw [this] at c_2; cases c_2) (sm_nb _) (by exfalso; have := htb c_1; rw [sm_tb, if_pos c_1] at this; rw [this] at c_2; cases c_2) dX7_goesBack_58

end
