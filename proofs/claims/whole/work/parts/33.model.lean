/-! the reference: parts, following, states, sums -/
section
def sm_mRP (ph : Int32) (rd pw : Nat) : Int32 := if ph = 99 then (if rd = 40 then 2 else if pw = 8 then 2 else 0) else 2
def sm_rpS (S : sm_Rw) (rd en pl : Nat) (z : sm_Qt) (i : Nat) : sm_Qt := (z.1, z.2.1, va_up z.2.2.1 (40 * pl + i) (S.2.1 i), va_up z.2.2.2.1 (40 * pl + i) (S.2.2 i), va_up z.2.2.2.2 (40 * pl + i) (if sm_btN rd (en - 1) i = true then S.1 i else false))
def sm_rpG (S : sm_Rw) (rd en pl : Nat) : Nat → Nat → sm_Qt → sm_Qt
  | 0, _, z => z
  | n + 1, i, z => sm_rpG S rd en pl n (i + 1) (sm_rpS S rd en pl z i)
theorem sm_rpE {S : sm_Rw} {rd en pl n i : Nat} {z : sm_Qt} (h : i < n) : sm_rpG S rd en pl (n - i) i z = sm_rpG S rd en pl (n - (i + 1)) (i + 1) (sm_rpS S rd en pl z i) := by
  obtain ⟨k, hk⟩ : ∃ k, n - i = k + 1 := ⟨n - i - 1, by omega⟩
  rw [hk, show n - (i + 1) = k by omega]
  rfl
theorem sm_kvP {P : sm_Sp} {T : sm_Tg} {k : Nat} {a b x : Int32} (h : ∀ k, sm_kv (T.1 k)) : ∀ j, sm_kv ((sm_prM P T k a b x).1 j) := by
  unfold sm_prM
  split
  · refine sm_kvU h ?_
    split
    · exact Or.inr (Or.inl rfl)
    · exact Or.inr (Or.inr (Or.inl rfl))
  · exact h
def sm_pmG (P : sm_Sp) (Z : sm_Qt) (pl : Nat) : Nat → Nat → sm_Tg → Nat → sm_Tg × Nat
  | 0, _, t, q => (t, q)
  | n + 1, i, t, q => if Z.2.2.2.2 (40 * pl + i) = true then sm_pmG P Z pl n (i + 1) (sm_prM P t i (Z.2.2.1 (40 * pl + i)) (Z.2.2.2.1 (40 * pl + i)) (Z.2.1 pl)) (if sm_later t i (Z.2.1 pl) = true then q + 1 else q) else sm_pmG P Z pl n (i + 1) t q
theorem sm_pmS {P : sm_Sp} {Z : sm_Qt} {pl n i q : Nat} {t : sm_Tg} (h : i < n) : sm_pmG P Z pl (n - i) i t q = if Z.2.2.2.2 (40 * pl + i) = true then sm_pmG P Z pl (n - (i + 1)) (i + 1) (sm_prM P t i (Z.2.2.1 (40 * pl + i)) (Z.2.2.2.1 (40 * pl + i)) (Z.2.1 pl)) (if sm_later t i (Z.2.1 pl) = true then q + 1 else q) else sm_pmG P Z pl (n - (i + 1)) (i + 1) t q := by
  obtain ⟨k, hk⟩ : ∃ k, n - i = k + 1 := ⟨n - i - 1, by omega⟩
  rw [hk, show n - (i + 1) = k by omega]
  rfl
theorem sm_fMT {P : sm_Sp} {L : sm_Lg} {n i j : Nat} {t : sm_Tg} (h : i < n) : sm_fMG P L (n - i) t (j + i) = sm_fMG P L (n - (i + 1)) (sm_fM1 P L t (j + i)) (j + (i + 1)) := by
  obtain ⟨k, hk⟩ : ∃ k, n - i = k + 1 := ⟨n - i - 1, by omega⟩
  rw [hk, show n - (i + 1) = k by omega]
  rfl
theorem sm_eacM (T : sm_Tg) (k : Nat) (c : sm_Cp) : sm_eac T k c = if c.1 = T.2.2.1 k then (if c.2 = T.2.2.2 k then true else false) else false := by
  unfold sm_eac
  by_cases h : T.2.2.1 k = c.1
  · rw [if_pos h, if_pos h.symm]
    by_cases h2 : T.2.2.2 k = c.2
    · rw [if_pos h2, if_pos h2.symm]
    · rw [if_neg h2, if_neg (fun z => h2 z.symm)]
  · rw [if_neg h, if_neg (fun z => h z.symm)]
def sm_nss (P : sm_Sp) (S : sm_Rw) (T : sm_Tg) (lo hi : Nat) : Bool := if sm_ss P S T lo hi = true then false else true
theorem sm_nssT2 {P : sm_Sp} {S : sm_Rw} {T : sm_Tg} {lo hi : Nat} (h : sm_nss P S T lo hi = true) : sm_ss P S T lo hi = false := by
  unfold sm_nss at h
  cases e : sm_ss P S T lo hi with
  | true => rw [e] at h; cases h
  | false => rfl
theorem sm_nssT {P : sm_Sp} {S : sm_Rw} {T : sm_Tg} {lo hi : Nat} (h : sm_nss P S T lo hi = true) : ¬ sm_ss P S T lo hi = true := by rw [sm_nssT2 h]; decide
theorem sm_nssF {P : sm_Sp} {S : sm_Rw} {T : sm_Tg} {lo hi : Nat} (h : sm_nss P S T lo hi = false) : sm_ss P S T lo hi = true := by
  unfold sm_nss at h
  cases e : sm_ss P S T lo hi with
  | true => rfl
  | false => rw [e] at h; cases h
theorem sm_fuT {P : sm_Sp} {S : sm_Rw} {T : sm_Tg} {n a b q : Nat} (h : 0 < n) : sm_fuG P S T n a b q = if a < b then (if sm_ss P S T a (a + (b - a) / 2) = true then sm_fuG P S T (n - 1) (a + (b - a) / 2 + 1) b (q + 1 + 1) else sm_fuG P S T (n - 1) a (a + (b - a) / 2) (q + 1)) else (a, q) := by
  obtain ⟨k, rfl⟩ : ∃ k, n = k + 1 := ⟨n - 1, by omega⟩
  rfl
variable {l : Launch} (D : sm_G) (am : Nat → Nat) (P : sm_Sp) (S : sm_Rw) (T : sm_Tg) (L : sm_Lg) (nm : Nat → Bool) (Z : sm_Qt) (cp : sm_Cp) (ph : Int32) (th : Int32) (n2 fo rd np pw ev od rc : Nat) (wr : va_W)
set_option maxHeartbeats 2000000 in
set_option maxRecDepth 100000 in
theorem c_X7_readPart_n (k : Nat) (hk1 : ¬ k < 1) (hk2 : ¬ 40 < k) (hrd : rd ≤ 40) (hpw : pw ≤ 40) (hfr : ¬ pw = 8 → sm_fpG Z.1 8 0 < 8) : sm_MC l yX7_readPart cX7_readPart 5 (some .int) 1 22 [.ref (am 0), .int (nI k)] D (sm_w7 D am P S T L nm Z cp ph th n2 fo rd np pw ev od rc wr) (fun w => w = sm_w7 D am P S T L nm (if sm_mRP ph rd pw = 0 then (sm_rpG S rd (min (rd + k) 40) (sm_fpG Z.1 8 0) 40 0 (va_up Z.1 (sm_fpG Z.1 8 0) (nI np), va_up Z.2.1 (sm_fpG Z.1 8 0) (nI L.1), Z.2.2)) else Z) cp ph (sm_mRP ph rd pw) n2 fo (if sm_mRP ph rd pw = 0 then min (rd + k) 40 else rd) (if sm_mRP ph rd pw = 0 then np + 1 else np) (if sm_mRP ph rd pw = 0 then pw + 1 else pw) ev od rc wr) (some (.int (if sm_mRP ph rd pw = 0 then nI (np + 1 - 1) else 0))) := by
  refine sm_met (own := RX7) (by decide) rfl (Nat.le_of_ble_eq_true rfl) ?_
  intro p e s m below meth c ls hC hv hl
  obtain ⟨hx, hb, hml, hr, hown, hlk, hts⟩ := id hC
  obtain ⟨⟨hP, hK⟩, hD, hZ⟩ := hv
  have hS : va_S (sm_ad (sm_w7 D am P S T L nm Z cp ph th n2 fo rd np pw ev od rc wr)) s.heap s.heap [] := va_S.rf
  have hl : lv_has ls 5 [(0, .ref (am 0)), (1, .int (nI k))] := hl
  have hbt : sm_btN 1 40 k = true := by rw [sm_btN, if_neg (by omega), if_neg (by omega)]
  refine lv_aload_n hx hb dX7_readPart_0 rfl (lv_at hl 0 rfl) ?_
  refine lv_iload_n hx hb dX7_readPart_1 rfl (lv_at hl 1 rfl) ?_
  refine lv_iconst (v := 1) hx hb dX7_readPart_2 (by decide) ?_
  refine lv_bipush (v := 40) hx hb dX7_readPart_3 (by decide) ?_
  refine sm_cSPr (rest := [.ref (am 0)]) hC hK hP (c_X7_in_n D am P S T L nm Z cp ph th n2 fo rd np pw ev od rc wr k 1 40 (by omega) (by omega) (by omega)) qyX7_in wl_RX7_113 ⟨Nat.le_of_ble_eq_true rfl, Nat.le_of_ble_eq_true rfl⟩ rfl hl.1 rfl (Nat.le_of_ble_eq_true rfl) dX7_readPart_5 ⟨Nat.le_of_ble_eq_true rfl, Nat.le_of_ble_eq_true rfl⟩ ?_
  refine sm_re (y := sm_b true) (congrArg sm_b hbt) ?_
  refine lv_if_ne (tgt := 15) hx hb dX7_readPart_8 (by decide) (fun _ => ?_) (fun h => absurd h (by decide))
  refine lv_aload_n hx hb dX7_readPart_15 rfl (lv_at hl 0 rfl) ?_
  refine sm_gt (ci := 7) (C := RX7) (T := TX7) (N := 33) hx hb hts inlX7 hown hK hP 0 rfl rfl 32 (by decide) wf_RX7_109 rfl dX7_readPart_16 ?_
  refine lv_bipush (v := 99) hx hb dX7_readPart_19 (by decide) ?_
  refine lv_icmp_ne (tgt := 42) hx hb dX7_readPart_21 (by decide) (fun c_1 => ?_) (fun c_1 => ?_)
  · have c_1_ := c_1
    refine lv_iconst (v := 2) hx hb dX7_readPart_42 (by decide) ?_
    refine lv_goto (tgt := 47) hx hb dX7_readPart_43 (by decide) ?_
    refine sm_pt (ci := 7) (C := RX7) (T := TX7) (N := 33) hx hb hts inlX7 tyX7 tyX7_ok nmX7 hown hK hP hD hS 0 rfl rfl 19 (by decide) wf_RX7_69 rfl rfl rfl (Nat.le_of_ble_eq_true rfl) dX7_readPart_47 (fun H locs hP hD hS => ?_)
    have hP : va_P D.1 sm_cl (sm_w7 D am P S T L nm Z cp ph 2 n2 fo rd np pw ev od rc wr) H := hP
    have hD : va_D (sm_ad (sm_w7 D am P S T L nm Z cp ph th n2 fo rd np pw ev od rc wr)) (sm_w7 D am P S T L nm Z cp ph 2 n2 fo rd np pw ev od rc wr) := hD
    refine lv_aload_n hx hb dX7_readPart_50 rfl (lv_at hl 0 rfl) ?_
    refine sm_gt (ci := 7) (C := RX7) (T := TX7) (N := 33) hx hb hts inlX7 hown hK hP 0 rfl rfl 19 (by decide) wf_RX7_69 rfl dX7_readPart_51 ?_
    refine lv_if_le (tgt := 59) hx hb dX7_readPart_54 (by decide) (fun h => absurd h (by decide)) (fun _ => ?_)
    refine lv_iconst (v := 0) hx hb dX7_readPart_57 (by decide) ?_
    exact sm_retC hC hP hD hS (by simp [sm_k1, sm_mRP, c_1]) rfl (by simp [sm_k1, sm_mRP, c_1]) dX7_readPart_58
  · have c_1_ := c_1
    refine lv_aload_n hx hb dX7_readPart_24 rfl (lv_at hl 0 rfl) ?_
    refine sm_gt (ci := 7) (C := RX7) (T := TX7) (N := 33) hx hb hts inlX7 hown hK hP 0 rfl rfl 24 (by decide) wf_RX7_85 rfl dX7_readPart_25 ?_
    refine lv_bipush (v := 40) hx hb dX7_readPart_28 (by decide) ?_
    refine lv_icmp_eq (tgt := 42) hx hb dX7_readPart_30 (by decide) (fun c_2 => ?_) (fun c_2 => ?_)
    · have c_2 := sm_Neq (a := rd) (b := 40) c_2 (by omega) (by omega)
      refine lv_iconst (v := 2) hx hb dX7_readPart_42 (by decide) ?_
      refine lv_goto (tgt := 47) hx hb dX7_readPart_43 (by decide) ?_
      refine sm_pt (ci := 7) (C := RX7) (T := TX7) (N := 33) hx hb hts inlX7 tyX7 tyX7_ok nmX7 hown hK hP hD hS 0 rfl rfl 19 (by decide) wf_RX7_69 rfl rfl rfl (Nat.le_of_ble_eq_true rfl) dX7_readPart_47 (fun H locs hP hD hS => ?_)
      have hP : va_P D.1 sm_cl (sm_w7 D am P S T L nm Z cp ph 2 n2 fo rd np pw ev od rc wr) H := hP
      have hD : va_D (sm_ad (sm_w7 D am P S T L nm Z cp ph th n2 fo rd np pw ev od rc wr)) (sm_w7 D am P S T L nm Z cp ph 2 n2 fo rd np pw ev od rc wr) := hD
      refine lv_aload_n hx hb dX7_readPart_50 rfl (lv_at hl 0 rfl) ?_
      refine sm_gt (ci := 7) (C := RX7) (T := TX7) (N := 33) hx hb hts inlX7 hown hK hP 0 rfl rfl 19 (by decide) wf_RX7_69 rfl dX7_readPart_51 ?_
      refine lv_if_le (tgt := 59) hx hb dX7_readPart_54 (by decide) (fun h => absurd h (by decide)) (fun _ => ?_)
      refine lv_iconst (v := 0) hx hb dX7_readPart_57 (by decide) ?_
      exact sm_retC hC hP hD hS (by subst c_1; simp [sm_k1, sm_mRP, c_2]) rfl (by subst c_1; simp [sm_k1, sm_mRP, c_2]) dX7_readPart_58
    · have c_2 := sm_Nne (a := rd) (b := 40) c_2 (by omega) (by omega)
      refine lv_aload_n hx hb dX7_readPart_33 rfl (lv_at hl 0 rfl) ?_
      refine sm_gt (ci := 7) (C := RX7) (T := TX7) (N := 33) hx hb hts inlX7 hown hK hP 0 rfl rfl 26 (by decide) wf_RX7_91 rfl dX7_readPart_34 ?_
      refine lv_bipush (v := 8) hx hb dX7_readPart_37 (by decide) ?_
      refine lv_icmp_ne (tgt := 46) hx hb dX7_readPart_39 (by decide) (fun c_3 => ?_) (fun c_3 => ?_)
      · have c_3 := sm_Nne (a := pw) (b := 8) c_3 (by omega) (by omega)
        refine lv_iconst (v := 0) hx hb dX7_readPart_46 (by decide) ?_
        refine sm_pt (ci := 7) (C := RX7) (T := TX7) (N := 33) hx hb hts inlX7 tyX7 tyX7_ok nmX7 hown hK hP hD hS 0 rfl rfl 19 (by decide) wf_RX7_69 rfl rfl rfl (Nat.le_of_ble_eq_true rfl) dX7_readPart_47 (fun H locs hP hD hS => ?_)
        have hP : va_P D.1 sm_cl (sm_w7 D am P S T L nm Z cp ph 0 n2 fo rd np pw ev od rc wr) H := hP
        have hD : va_D (sm_ad (sm_w7 D am P S T L nm Z cp ph th n2 fo rd np pw ev od rc wr)) (sm_w7 D am P S T L nm Z cp ph 0 n2 fo rd np pw ev od rc wr) := hD
        refine lv_aload_n hx hb dX7_readPart_50 rfl (lv_at hl 0 rfl) ?_
        refine sm_gt (ci := 7) (C := RX7) (T := TX7) (N := 33) hx hb hts inlX7 hown hK hP 0 rfl rfl 19 (by decide) wf_RX7_69 rfl dX7_readPart_51 ?_
        refine lv_if_le (tgt := 59) hx hb dX7_readPart_54 (by decide) (fun _ => ?_) (fun h => absurd h (by decide))
        have hfr := hfr c_3
        refine lv_aload_n hx hb dX7_readPart_59 rfl (lv_at hl 0 rfl) ?_
        refine sm_cVPr (rest := []) hC hK hP (c_X7_freePart D am P S T L nm Z cp ph 0 n2 fo rd np pw ev od rc wr hfr) qyX7_freePart wl_RX7_203 ⟨Nat.le_of_ble_eq_true rfl, Nat.le_of_ble_eq_true rfl⟩ 0 rfl rfl rfl hl.1 rfl (Nat.le_of_ble_eq_true rfl) dX7_readPart_60 ⟨Nat.le_of_ble_eq_true rfl, Nat.le_of_ble_eq_true rfl⟩ ?_
        refine lv_istore_n (lv' := [(2, .int (nI (sm_fpG Z.1 8 0))), (0, .ref (am 0)), (1, .int (nI k))]) hx hb dX7_readPart_63 rfl hl (by decide) rfl (fun ls hl => ?_)
        refine lv_aload_n hx hb dX7_readPart_64 rfl (lv_at hl 1 rfl) ?_
        refine sm_gt (ci := 7) (C := RX7) (T := TX7) (N := 33) hx hb hts inlX7 hown hK hP 0 rfl rfl 13 (by decide) wf_RX7_51 rfl dX7_readPart_65 ?_
        refine lv_iload_n hx hb dX7_readPart_68 rfl (lv_at hl 0 rfl) ?_
        refine lv_aload_n hx hb dX7_readPart_69 rfl (lv_at hl 1 rfl) ?_
        refine sm_gt (ci := 7) (C := RX7) (T := TX7) (N := 33) hx hb hts inlX7 hown hK hP 0 rfl rfl 25 (by decide) wf_RX7_88 rfl dX7_readPart_70 ?_
        refine sm_ist hx hb hK hP hD hS 14 rfl (sm_fpG Z.1 8 0) rfl (by omega) (by decide) dX7_readPart_73 (fun H locs hP hD hS => ?_)
        have hP : va_P D.1 sm_cl (sm_w7 D am P S T L nm (va_up Z.1 (sm_fpG Z.1 8 0) (nI np), Z.2) cp ph 0 n2 fo rd np pw ev od rc wr) H := hP
        have hD : va_D (sm_ad (sm_w7 D am P S T L nm Z cp ph th n2 fo rd np pw ev od rc wr)) (sm_w7 D am P S T L nm (va_up Z.1 (sm_fpG Z.1 8 0) (nI np), Z.2) cp ph 0 n2 fo rd np pw ev od rc wr) := hD
        refine lv_aload_n hx hb dX7_readPart_74 rfl (lv_at hl 1 rfl) ?_
        refine sm_gt (ci := 7) (C := RX7) (T := TX7) (N := 33) hx hb hts inlX7 hown hK hP 0 rfl rfl 14 (by decide) wf_RX7_54 rfl dX7_readPart_75 ?_
        refine lv_iload_n hx hb dX7_readPart_78 rfl (lv_at hl 0 rfl) ?_
        refine lv_aload_n hx hb dX7_readPart_79 rfl (lv_at hl 1 rfl) ?_
        refine sm_gt (ci := 7) (C := RX7) (T := TX7) (N := 33) hx hb hts inlX7 hown hK hP 0 rfl rfl 21 (by decide) wf_RX7_76 rfl dX7_readPart_80 ?_
        refine sm_ist hx hb hK hP hD hS 15 rfl (sm_fpG Z.1 8 0) rfl (by omega) (by decide) dX7_readPart_83 (fun H locs hP hD hS => ?_)
        have hP : va_P D.1 sm_cl (sm_w7 D am P S T L nm (va_up Z.1 (sm_fpG Z.1 8 0) (nI np), va_up Z.2.1 (sm_fpG Z.1 8 0) (nI L.1), Z.2.2) cp ph 0 n2 fo rd np pw ev od rc wr) H := hP
        have hD : va_D (sm_ad (sm_w7 D am P S T L nm Z cp ph th n2 fo rd np pw ev od rc wr)) (sm_w7 D am P S T L nm (va_up Z.1 (sm_fpG Z.1 8 0) (nI np), va_up Z.2.1 (sm_fpG Z.1 8 0) (nI L.1), Z.2.2) cp ph 0 n2 fo rd np pw ev od rc wr) := hD
        refine lv_aload_n hx hb dX7_readPart_84 rfl (lv_at hl 1 rfl) ?_
        refine sm_gt (ci := 7) (C := RX7) (T := TX7) (N := 33) hx hb hts inlX7 hown hK hP 0 rfl rfl 24 (by decide) wf_RX7_85 rfl dX7_readPart_85 ?_
        refine lv_iload_n hx hb dX7_readPart_88 rfl (lv_at hl 2 rfl) ?_
        refine lv_iadd hx hb dX7_readPart_89 ?_
        refine sm_re (y := nI (rd + k)) (nI_add rd k) ?_
        refine lv_bipush (v := 40) hx hb dX7_readPart_90 (by decide) ?_
        refine lv_icmp_ge (tgt := 104) hx hb dX7_readPart_92 (by decide) (fun c_4 => ?_) (fun c_4 => ?_)
        · have c_4 := sm_Nnl (a := rd + k) (b := 40) (sm_nl c_4) (by omega) (by omega)
          refine lv_bipush (v := 40) hx hb dX7_readPart_104 (by decide) ?_
          refine sm_re (y := nI (min (rd + k) 40)) (show (40 : Int32) = nI (min (rd + k) 40) from congrArg nI (show 40 = min (rd + k) 40 by omega)) ?_
          refine lv_istore_n (lv' := [(3, .int (nI (min (rd + k) 40))), (2, .int (nI (sm_fpG Z.1 8 0))), (0, .ref (am 0)), (1, .int (nI k))]) hx hb dX7_readPart_106 rfl hl (by decide) rfl (fun ls hl => ?_)
          refine lv_iconst (v := 0) hx hb dX7_readPart_107 (by decide) ?_
          refine lv_istore (lv' := [(4, .int 0), (3, .int (nI (min (rd + k) 40))), (2, .int (nI (sm_fpG Z.1 8 0))), (0, .ref (am 0)), (1, .int (nI k))]) hx hb dX7_readPart_108 hl (by decide) rfl (fun ls hl => ?_)
          suffices K : ∀ (n : Nat) (i : Nat) (z : sm_Qt) (H : Heap) (locs : List Loc) (ls : Array Slot), 40 - i = n → (i ≤ 40) → (sm_rpG S rd (min (rd + k) 40) (sm_fpG Z.1 8 0) (40 - i) i z = sm_rpG S rd (min (rd + k) 40) (sm_fpG Z.1 8 0) 40 0 (va_up Z.1 (sm_fpG Z.1 8 0) (nI np), va_up Z.2.1 (sm_fpG Z.1 8 0) (nI L.1), Z.2.2)) → va_P D.1 sm_cl (sm_w7 D am P S T L nm z cp ph 0 n2 fo rd np pw ev od rc wr) H → va_D (sm_ad (sm_w7 D am P S T L nm Z cp ph th n2 fo rd np pw ev od rc wr)) (sm_w7 D am P S T L nm z cp ph 0 n2 fo rd np pw ev od rc wr) → va_S (sm_ad (sm_w7 D am P S T L nm Z cp ph th n2 fo rd np pw ev od rc wr)) s.heap H locs → lv_has ls 5 [(0, .ref (am 0)), (1, .int (nI k)), (2, .int (nI (sm_fpG Z.1 8 0))), (3, .int (nI (min (rd + k) 40))), (4, .int (nI i))] → W p l e ({ frames := 1, cells := 0, slots := 0, locals := 22 } : Room) s m ([.ref (am 0), .int (nI k)] : List Value).toArray below meth c H locs 0 0 (MQ below (sm_Qc D (sm_w7 D am P S T L nm Z cp ph th n2 fo rd np pw ev od rc wr) (fun w => w = sm_w7 D am P S T L nm (if sm_mRP ph rd pw = 0 then (sm_rpG S rd (min (rd + k) 40) (sm_fpG Z.1 8 0) 40 0 (va_up Z.1 (sm_fpG Z.1 8 0) (nI np), va_up Z.2.1 (sm_fpG Z.1 8 0) (nI L.1), Z.2.2)) else Z) cp ph (sm_mRP ph rd pw) n2 fo (if sm_mRP ph rd pw = 0 then min (rd + k) 40 else rd) (if sm_mRP ph rd pw = 0 then np + 1 else np) (if sm_mRP ph rd pw = 0 then pw + 1 else pw) ev od rc wr) (some (.int (if sm_mRP ph rd pw = 0 then nI (np + 1 - 1) else 0)))) ([.ref (am 0), .int (nI k)] : List Value).toArray s 0 0 (sm_ad (sm_w7 D am P S T L nm Z cp ph th n2 fo rd np pw ev od rc wr))) (F0 m 110 ls []) from K _ 0 (va_up Z.1 (sm_fpG Z.1 8 0) (nI np), va_up Z.2.1 (sm_fpG Z.1 8 0) (nI L.1), Z.2.2) _ _ ls rfl (by omega) (rfl) hP hD hS (lv_sub hl [3, 4, 2, 1, 0] rfl)
          intro n
          induction n using Nat.strongRecOn with
          | ind n ih =>
            intro i z H locs ls hn hi hR hP hD hS hl
            refine lv_iload hx hb dX7_readPart_110 (lv_at hl 4 rfl) ?_
            refine lv_bipush (v := 40) hx hb dX7_readPart_112 (by decide) ?_
            refine lv_icmp_ge (tgt := 203) hx hb dX7_readPart_114 (by decide) (fun c_5 => ?_) (fun c_5 => ?_)
            · have c_5 := sm_Nnl (a := i) (b := 40) (sm_nl c_5) (by omega) (by omega)
              refine lv_aload_n hx hb dX7_readPart_203 rfl (lv_at hl 0 rfl) ?_
              refine lv_iload_n hx hb dX7_readPart_204 rfl (lv_at hl 3 rfl) ?_
              refine sm_pt (ci := 7) (C := RX7) (T := TX7) (N := 33) hx hb hts inlX7 tyX7 tyX7_ok nmX7 hown hK hP hD hS 0 rfl rfl 24 (by decide) wf_RX7_85 rfl rfl rfl (Nat.le_of_ble_eq_true rfl) dX7_readPart_205 (fun H locs hP hD hS => ?_)
              have hP : va_P D.1 sm_cl (sm_w7 D am P S T L nm z cp ph 0 n2 fo (min (rd + k) 40) np pw ev od rc wr) H := hP
              have hD : va_D (sm_ad (sm_w7 D am P S T L nm Z cp ph th n2 fo rd np pw ev od rc wr)) (sm_w7 D am P S T L nm z cp ph 0 n2 fo (min (rd + k) 40) np pw ev od rc wr) := hD
              refine lv_aload_n hx hb dX7_readPart_208 rfl (lv_at hl 0 rfl) ?_
              refine lv_dup hx hb dX7_readPart_209 rfl ?_
              refine sm_gt (ci := 7) (C := RX7) (T := TX7) (N := 33) hx hb hts inlX7 hown hK hP 0 rfl rfl 25 (by decide) wf_RX7_88 rfl dX7_readPart_210 ?_
              refine lv_iconst (v := 1) hx hb dX7_readPart_213 (by decide) ?_
              refine lv_iadd hx hb dX7_readPart_214 ?_
              refine sm_re (y := nI (np + 1)) (nI_1 np) ?_
              refine sm_pt (ci := 7) (C := RX7) (T := TX7) (N := 33) hx hb hts inlX7 tyX7 tyX7_ok nmX7 hown hK hP hD hS 0 rfl rfl 25 (by decide) wf_RX7_88 rfl rfl rfl (Nat.le_of_ble_eq_true rfl) dX7_readPart_215 (fun H locs hP hD hS => ?_)
              have hP : va_P D.1 sm_cl (sm_w7 D am P S T L nm z cp ph 0 n2 fo (min (rd + k) 40) (np + 1) pw ev od rc wr) H := hP
              have hD : va_D (sm_ad (sm_w7 D am P S T L nm Z cp ph th n2 fo rd np pw ev od rc wr)) (sm_w7 D am P S T L nm z cp ph 0 n2 fo (min (rd + k) 40) (np + 1) pw ev od rc wr) := hD
              refine lv_aload_n hx hb dX7_readPart_218 rfl (lv_at hl 0 rfl) ?_
              refine lv_dup hx hb dX7_readPart_219 rfl ?_
              refine sm_gt (ci := 7) (C := RX7) (T := TX7) (N := 33) hx hb hts inlX7 hown hK hP 0 rfl rfl 26 (by decide) wf_RX7_91 rfl dX7_readPart_220 ?_
              refine lv_iconst (v := 1) hx hb dX7_readPart_223 (by decide) ?_
              refine lv_iadd hx hb dX7_readPart_224 ?_
              refine sm_re (y := nI (pw + 1)) (nI_1 pw) ?_
              refine sm_pt (ci := 7) (C := RX7) (T := TX7) (N := 33) hx hb hts inlX7 tyX7 tyX7_ok nmX7 hown hK hP hD hS 0 rfl rfl 26 (by decide) wf_RX7_91 rfl rfl rfl (Nat.le_of_ble_eq_true rfl) dX7_readPart_225 (fun H locs hP hD hS => ?_)
              have hP : va_P D.1 sm_cl (sm_w7 D am P S T L nm z cp ph 0 n2 fo (min (rd + k) 40) (np + 1) (pw + 1) ev od rc wr) H := hP
              have hD : va_D (sm_ad (sm_w7 D am P S T L nm Z cp ph th n2 fo rd np pw ev od rc wr)) (sm_w7 D am P S T L nm z cp ph 0 n2 fo (min (rd + k) 40) (np + 1) (pw + 1) ev od rc wr) := hD
              refine lv_aload_n hx hb dX7_readPart_228 rfl (lv_at hl 0 rfl) ?_
              refine sm_gt (ci := 7) (C := RX7) (T := TX7) (N := 33) hx hb hts inlX7 hown hK hP 0 rfl rfl 25 (by decide) wf_RX7_88 rfl dX7_readPart_229 ?_
              refine lv_iconst (v := 1) hx hb dX7_readPart_232 (by decide) ?_
              refine lv_isub hx hb dX7_readPart_233 ?_
              refine sm_re (y := nI ((np + 1) - 1)) (pk_sub (a := (np + 1)) (b := 1) (by omega)) ?_
              exact sm_retC hC hP hD hS (by rw [show 40 - i = 0 by omega] at hR; have h1 : z = _ := hR; subst c_1; simp [sm_mRP, h1, c_2, c_3]) rfl (by rw [show 40 - i = 0 by omega] at hR; have h1 : z = _ := hR; subst c_1; simp [sm_mRP, h1, c_2, c_3]) dX7_readPart_234
            · have c_5 := sm_Nlt (a := i) (b := 40) (sm_nle c_5) (by omega) (by omega)
              refine lv_aload_n hx hb dX7_readPart_117 rfl (lv_at hl 0 rfl) ?_
              refine sm_gt (ci := 7) (C := RX7) (T := TX7) (N := 33) hx hb hts inlX7 hown hK hP 0 rfl rfl 18 (by decide) wf_RX7_66 rfl dX7_readPart_118 ?_
              refine lv_bipush (v := 40) hx hb dX7_readPart_121 (by decide) ?_
              refine lv_iload_n hx hb dX7_readPart_123 rfl (lv_at hl 2 rfl) ?_
              refine lv_imul hx hb dX7_readPart_124 ?_
              refine sm_re (y := nI (40 * (sm_fpG Z.1 8 0))) (pk_mul 40 (sm_fpG Z.1 8 0)) ?_
              refine lv_iload hx hb dX7_readPart_125 (lv_at hl 4 rfl) ?_
              refine lv_iadd hx hb dX7_readPart_127 ?_
              refine sm_re (y := nI (40 * (sm_fpG Z.1 8 0) + i)) (nI_add (40 * (sm_fpG Z.1 8 0)) i) ?_
              refine lv_iload hx hb dX7_readPart_128 (lv_at hl 4 rfl) ?_
              refine lv_aload_n hx hb dX7_readPart_130 rfl (lv_at hl 0 rfl) ?_
              refine sm_gt (ci := 7) (C := RX7) (T := TX7) (N := 33) hx hb hts inlX7 hown hK hP 0 rfl rfl 24 (by decide) wf_RX7_85 rfl dX7_readPart_131 ?_
              refine lv_iload_n hx hb dX7_readPart_134 rfl (lv_at hl 3 rfl) ?_
              refine lv_iconst (v := 1) hx hb dX7_readPart_135 (by decide) ?_
              refine lv_isub hx hb dX7_readPart_136 ?_
              refine sm_re (y := nI (min (rd + k) 40 - 1)) (pk_sub (a := min (rd + k) 40) (b := 1) (by omega)) ?_
              refine sm_cSPr (rest := [.int (nI (40 * (sm_fpG Z.1 8 0) + i)), .ref (am 19)]) hC hK hP (c_X7_in_n D am P S T L nm z cp ph 0 n2 fo rd np pw ev od rc wr i rd (min (rd + k) 40 - 1) (by omega) (by omega) (by omega)) qyX7_in wl_RX7_113 ⟨Nat.le_of_ble_eq_true rfl, Nat.le_of_ble_eq_true rfl⟩ rfl hl.1 rfl (Nat.le_of_ble_eq_true rfl) dX7_readPart_137 ⟨Nat.le_of_ble_eq_true rfl, Nat.le_of_ble_eq_true rfl⟩ ?_
              refine lv_if_eq (tgt := 157) hx hb dX7_readPart_140 (by decide) (fun c_6 => ?_) (fun c_6 => ?_)
              · have c_6 := sm_b0 c_6
                refine lv_iconst (v := 0) hx hb dX7_readPart_157 (by decide) ?_
                refine sm_zst hx hb hK hP hD hS 19 rfl false rfl (40 * (sm_fpG Z.1 8 0) + i) rfl (by omega) (by decide) dX7_readPart_158 (fun H locs hP hD hS => ?_)
                have hP : va_P D.1 sm_cl (sm_w7 D am P S T L nm (z.1, z.2.1, z.2.2.1, z.2.2.2.1, va_up z.2.2.2.2 (40 * (sm_fpG Z.1 8 0) + i) false) cp ph 0 n2 fo rd np pw ev od rc wr) H := hP
                have hD : va_D (sm_ad (sm_w7 D am P S T L nm Z cp ph th n2 fo rd np pw ev od rc wr)) (sm_w7 D am P S T L nm (z.1, z.2.1, z.2.2.1, z.2.2.2.1, va_up z.2.2.2.2 (40 * (sm_fpG Z.1 8 0) + i) false) cp ph 0 n2 fo rd np pw ev od rc wr) := hD
                refine lv_aload_n hx hb dX7_readPart_159 rfl (lv_at hl 0 rfl) ?_
                refine sm_gt (ci := 7) (C := RX7) (T := TX7) (N := 33) hx hb hts inlX7 hown hK hP 0 rfl rfl 15 (by decide) wf_RX7_57 rfl dX7_readPart_160 ?_
                refine lv_bipush (v := 40) hx hb dX7_readPart_163 (by decide) ?_
                refine lv_iload_n hx hb dX7_readPart_165 rfl (lv_at hl 2 rfl) ?_
                refine lv_imul hx hb dX7_readPart_166 ?_
                refine sm_re (y := nI (40 * (sm_fpG Z.1 8 0))) (pk_mul 40 (sm_fpG Z.1 8 0)) ?_
                refine lv_iload hx hb dX7_readPart_167 (lv_at hl 4 rfl) ?_
                refine lv_iadd hx hb dX7_readPart_169 ?_
                refine sm_re (y := nI (40 * (sm_fpG Z.1 8 0) + i)) (nI_add (40 * (sm_fpG Z.1 8 0)) i) ?_
                refine lv_aload_n hx hb dX7_readPart_170 rfl (lv_at hl 0 rfl) ?_
                refine sm_gt (ci := 7) (C := RX7) (T := TX7) (N := 33) hx hb hts inlX7 hown hK hP 0 rfl rfl 3 (by decide) wf_RX7_20 rfl dX7_readPart_171 ?_
                refine lv_iload hx hb dX7_readPart_174 (lv_at hl 4 rfl) ?_
                refine sm_ild hx hb hK hP 4 rfl i rfl (by omega) (by decide) dX7_readPart_176 ?_
                refine sm_ist hx hb hK hP hD hS 16 rfl (40 * (sm_fpG Z.1 8 0) + i) rfl (by omega) (by decide) dX7_readPart_177 (fun H locs hP hD hS => ?_)
                have hP : va_P D.1 sm_cl (sm_w7 D am P S T L nm (z.1, z.2.1, va_up z.2.2.1 (40 * (sm_fpG Z.1 8 0) + i) (S.2.1 i), z.2.2.2.1, va_up z.2.2.2.2 (40 * (sm_fpG Z.1 8 0) + i) false) cp ph 0 n2 fo rd np pw ev od rc wr) H := hP
                have hD : va_D (sm_ad (sm_w7 D am P S T L nm Z cp ph th n2 fo rd np pw ev od rc wr)) (sm_w7 D am P S T L nm (z.1, z.2.1, va_up z.2.2.1 (40 * (sm_fpG Z.1 8 0) + i) (S.2.1 i), z.2.2.2.1, va_up z.2.2.2.2 (40 * (sm_fpG Z.1 8 0) + i) false) cp ph 0 n2 fo rd np pw ev od rc wr) := hD
                refine lv_aload_n hx hb dX7_readPart_178 rfl (lv_at hl 0 rfl) ?_
                refine sm_gt (ci := 7) (C := RX7) (T := TX7) (N := 33) hx hb hts inlX7 hown hK hP 0 rfl rfl 16 (by decide) wf_RX7_60 rfl dX7_readPart_179 ?_
                refine lv_bipush (v := 40) hx hb dX7_readPart_182 (by decide) ?_
                refine lv_iload_n hx hb dX7_readPart_184 rfl (lv_at hl 2 rfl) ?_
                refine lv_imul hx hb dX7_readPart_185 ?_
                refine sm_re (y := nI (40 * (sm_fpG Z.1 8 0))) (pk_mul 40 (sm_fpG Z.1 8 0)) ?_
                refine lv_iload hx hb dX7_readPart_186 (lv_at hl 4 rfl) ?_
                refine lv_iadd hx hb dX7_readPart_188 ?_
                refine sm_re (y := nI (40 * (sm_fpG Z.1 8 0) + i)) (nI_add (40 * (sm_fpG Z.1 8 0)) i) ?_
                refine lv_aload_n hx hb dX7_readPart_189 rfl (lv_at hl 0 rfl) ?_
                refine sm_gt (ci := 7) (C := RX7) (T := TX7) (N := 33) hx hb hts inlX7 hown hK hP 0 rfl rfl 4 (by decide) wf_RX7_23 rfl dX7_readPart_190 ?_
                refine lv_iload hx hb dX7_readPart_193 (lv_at hl 4 rfl) ?_
                refine sm_ild hx hb hK hP 5 rfl i rfl (by omega) (by decide) dX7_readPart_195 ?_
                refine sm_ist hx hb hK hP hD hS 17 rfl (40 * (sm_fpG Z.1 8 0) + i) rfl (by omega) (by decide) dX7_readPart_196 (fun H locs hP hD hS => ?_)
                have hP : va_P D.1 sm_cl (sm_w7 D am P S T L nm (z.1, z.2.1, va_up z.2.2.1 (40 * (sm_fpG Z.1 8 0) + i) (S.2.1 i), va_up z.2.2.2.1 (40 * (sm_fpG Z.1 8 0) + i) (S.2.2 i), va_up z.2.2.2.2 (40 * (sm_fpG Z.1 8 0) + i) false) cp ph 0 n2 fo rd np pw ev od rc wr) H := hP
                have hD : va_D (sm_ad (sm_w7 D am P S T L nm Z cp ph th n2 fo rd np pw ev od rc wr)) (sm_w7 D am P S T L nm (z.1, z.2.1, va_up z.2.2.1 (40 * (sm_fpG Z.1 8 0) + i) (S.2.1 i), va_up z.2.2.2.1 (40 * (sm_fpG Z.1 8 0) + i) (S.2.2 i), va_up z.2.2.2.2 (40 * (sm_fpG Z.1 8 0) + i) false) cp ph 0 n2 fo rd np pw ev od rc wr) := hD
                refine lv_iinc (v := nI (i + 1)) (lv' := [(4, .int (nI (i + 1))), (0, .ref (am 0)), (1, .int (nI k)), (2, .int (nI (sm_fpG Z.1 8 0))), (3, .int (nI (min (rd + k) 40)))]) hx hb dX7_readPart_197 hl (k := 4) rfl (nI_1 i) (by decide) rfl (fun ls hl => ?_)
                refine lv_goto (tgt := 110) hx hb dX7_readPart_200 (by decide) ?_
                exact ih _ (by omega) (i + 1) (z.1, z.2.1, va_up z.2.2.1 (40 * (sm_fpG Z.1 8 0) + i) (S.2.1 i), va_up z.2.2.2.1 (40 * (sm_fpG Z.1 8 0) + i) (S.2.2 i), va_up z.2.2.2.2 (40 * (sm_fpG Z.1 8 0) + i) false) _ _ ls rfl (by omega) (by rw [← hR, sm_rpE (n := 40) (i := i) (by omega)]; exact congrArg (sm_rpG S rd _ _ _ _) (by simp [sm_rpS, c_6])) hP hD hS (lv_sub hl [1, 2, 3, 4, 0] rfl)
              · have c_6 := sm_b1 c_6
                refine lv_aload_n hx hb dX7_readPart_143 rfl (lv_at hl 0 rfl) ?_
                refine sm_gt (ci := 7) (C := RX7) (T := TX7) (N := 33) hx hb hts inlX7 hown hK hP 0 rfl rfl 8 (by decide) wf_RX7_35 rfl dX7_readPart_144 ?_
                refine lv_iload hx hb dX7_readPart_147 (lv_at hl 4 rfl) ?_
                refine sm_zld hx hb hK hP 9 rfl i rfl (by omega) (by decide) dX7_readPart_149 ?_
                refine lv_if_eq (tgt := 157) hx hb dX7_readPart_150 (by decide) (fun c_7 => ?_) (fun c_7 => ?_)
                · have c_7 := sm_b0 c_7
                  refine lv_iconst (v := 0) hx hb dX7_readPart_157 (by decide) ?_
                  refine sm_zst hx hb hK hP hD hS 19 rfl false rfl (40 * (sm_fpG Z.1 8 0) + i) rfl (by omega) (by decide) dX7_readPart_158 (fun H locs hP hD hS => ?_)
                  have hP : va_P D.1 sm_cl (sm_w7 D am P S T L nm (z.1, z.2.1, z.2.2.1, z.2.2.2.1, va_up z.2.2.2.2 (40 * (sm_fpG Z.1 8 0) + i) false) cp ph 0 n2 fo rd np pw ev od rc wr) H := hP
                  have hD : va_D (sm_ad (sm_w7 D am P S T L nm Z cp ph th n2 fo rd np pw ev od rc wr)) (sm_w7 D am P S T L nm (z.1, z.2.1, z.2.2.1, z.2.2.2.1, va_up z.2.2.2.2 (40 * (sm_fpG Z.1 8 0) + i) false) cp ph 0 n2 fo rd np pw ev od rc wr) := hD
                  refine lv_aload_n hx hb dX7_readPart_159 rfl (lv_at hl 0 rfl) ?_
                  refine sm_gt (ci := 7) (C := RX7) (T := TX7) (N := 33) hx hb hts inlX7 hown hK hP 0 rfl rfl 15 (by decide) wf_RX7_57 rfl dX7_readPart_160 ?_
                  refine lv_bipush (v := 40) hx hb dX7_readPart_163 (by decide) ?_
                  refine lv_iload_n hx hb dX7_readPart_165 rfl (lv_at hl 2 rfl) ?_
                  refine lv_imul hx hb dX7_readPart_166 ?_
                  refine sm_re (y := nI (40 * (sm_fpG Z.1 8 0))) (pk_mul 40 (sm_fpG Z.1 8 0)) ?_
                  refine lv_iload hx hb dX7_readPart_167 (lv_at hl 4 rfl) ?_
                  refine lv_iadd hx hb dX7_readPart_169 ?_
                  refine sm_re (y := nI (40 * (sm_fpG Z.1 8 0) + i)) (nI_add (40 * (sm_fpG Z.1 8 0)) i) ?_
                  refine lv_aload_n hx hb dX7_readPart_170 rfl (lv_at hl 0 rfl) ?_
                  refine sm_gt (ci := 7) (C := RX7) (T := TX7) (N := 33) hx hb hts inlX7 hown hK hP 0 rfl rfl 3 (by decide) wf_RX7_20 rfl dX7_readPart_171 ?_
                  refine lv_iload hx hb dX7_readPart_174 (lv_at hl 4 rfl) ?_
                  refine sm_ild hx hb hK hP 4 rfl i rfl (by omega) (by decide) dX7_readPart_176 ?_
                  refine sm_ist hx hb hK hP hD hS 16 rfl (40 * (sm_fpG Z.1 8 0) + i) rfl (by omega) (by decide) dX7_readPart_177 (fun H locs hP hD hS => ?_)
                  have hP : va_P D.1 sm_cl (sm_w7 D am P S T L nm (z.1, z.2.1, va_up z.2.2.1 (40 * (sm_fpG Z.1 8 0) + i) (S.2.1 i), z.2.2.2.1, va_up z.2.2.2.2 (40 * (sm_fpG Z.1 8 0) + i) false) cp ph 0 n2 fo rd np pw ev od rc wr) H := hP
                  have hD : va_D (sm_ad (sm_w7 D am P S T L nm Z cp ph th n2 fo rd np pw ev od rc wr)) (sm_w7 D am P S T L nm (z.1, z.2.1, va_up z.2.2.1 (40 * (sm_fpG Z.1 8 0) + i) (S.2.1 i), z.2.2.2.1, va_up z.2.2.2.2 (40 * (sm_fpG Z.1 8 0) + i) false) cp ph 0 n2 fo rd np pw ev od rc wr) := hD
                  refine lv_aload_n hx hb dX7_readPart_178 rfl (lv_at hl 0 rfl) ?_
                  refine sm_gt (ci := 7) (C := RX7) (T := TX7) (N := 33) hx hb hts inlX7 hown hK hP 0 rfl rfl 16 (by decide) wf_RX7_60 rfl dX7_readPart_179 ?_
                  refine lv_bipush (v := 40) hx hb dX7_readPart_182 (by decide) ?_
                  refine lv_iload_n hx hb dX7_readPart_184 rfl (lv_at hl 2 rfl) ?_
                  refine lv_imul hx hb dX7_readPart_185 ?_
                  refine sm_re (y := nI (40 * (sm_fpG Z.1 8 0))) (pk_mul 40 (sm_fpG Z.1 8 0)) ?_
                  refine lv_iload hx hb dX7_readPart_186 (lv_at hl 4 rfl) ?_
                  refine lv_iadd hx hb dX7_readPart_188 ?_
                  refine sm_re (y := nI (40 * (sm_fpG Z.1 8 0) + i)) (nI_add (40 * (sm_fpG Z.1 8 0)) i) ?_
                  refine lv_aload_n hx hb dX7_readPart_189 rfl (lv_at hl 0 rfl) ?_
                  refine sm_gt (ci := 7) (C := RX7) (T := TX7) (N := 33) hx hb hts inlX7 hown hK hP 0 rfl rfl 4 (by decide) wf_RX7_23 rfl dX7_readPart_190 ?_
                  refine lv_iload hx hb dX7_readPart_193 (lv_at hl 4 rfl) ?_
                  refine sm_ild hx hb hK hP 5 rfl i rfl (by omega) (by decide) dX7_readPart_195 ?_
                  refine sm_ist hx hb hK hP hD hS 17 rfl (40 * (sm_fpG Z.1 8 0) + i) rfl (by omega) (by decide) dX7_readPart_196 (fun H locs hP hD hS => ?_)
                  have hP : va_P D.1 sm_cl (sm_w7 D am P S T L nm (z.1, z.2.1, va_up z.2.2.1 (40 * (sm_fpG Z.1 8 0) + i) (S.2.1 i), va_up z.2.2.2.1 (40 * (sm_fpG Z.1 8 0) + i) (S.2.2 i), va_up z.2.2.2.2 (40 * (sm_fpG Z.1 8 0) + i) false) cp ph 0 n2 fo rd np pw ev od rc wr) H := hP
                  have hD : va_D (sm_ad (sm_w7 D am P S T L nm Z cp ph th n2 fo rd np pw ev od rc wr)) (sm_w7 D am P S T L nm (z.1, z.2.1, va_up z.2.2.1 (40 * (sm_fpG Z.1 8 0) + i) (S.2.1 i), va_up z.2.2.2.1 (40 * (sm_fpG Z.1 8 0) + i) (S.2.2 i), va_up z.2.2.2.2 (40 * (sm_fpG Z.1 8 0) + i) false) cp ph 0 n2 fo rd np pw ev od rc wr) := hD
                  refine lv_iinc (v := nI (i + 1)) (lv' := [(4, .int (nI (i + 1))), (0, .ref (am 0)), (1, .int (nI k)), (2, .int (nI (sm_fpG Z.1 8 0))), (3, .int (nI (min (rd + k) 40)))]) hx hb dX7_readPart_197 hl (k := 4) rfl (nI_1 i) (by decide) rfl (fun ls hl => ?_)
                  refine lv_goto (tgt := 110) hx hb dX7_readPart_200 (by decide) ?_
                  exact ih _ (by omega) (i + 1) (z.1, z.2.1, va_up z.2.2.1 (40 * (sm_fpG Z.1 8 0) + i) (S.2.1 i), va_up z.2.2.2.1 (40 * (sm_fpG Z.1 8 0) + i) (S.2.2 i), va_up z.2.2.2.2 (40 * (sm_fpG Z.1 8 0) + i) false) _ _ ls rfl (by omega) (by rw [← hR, sm_rpE (n := 40) (i := i) (by omega)]; exact congrArg (sm_rpG S rd _ _ _ _) (by simp [sm_rpS, c_6, c_7])) hP hD hS (lv_sub hl [1, 2, 3, 4, 0] rfl)
                · have c_7 := sm_b1 c_7
                  refine lv_iconst (v := 1) hx hb dX7_readPart_153 (by decide) ?_
                  refine lv_goto (tgt := 158) hx hb dX7_readPart_154 (by decide) ?_
                  refine sm_zst hx hb hK hP hD hS 19 rfl true rfl (40 * (sm_fpG Z.1 8 0) + i) rfl (by omega) (by decide) dX7_readPart_158 (fun H locs hP hD hS => ?_)
                  have hP : va_P D.1 sm_cl (sm_w7 D am P S T L nm (z.1, z.2.1, z.2.2.1, z.2.2.2.1, va_up z.2.2.2.2 (40 * (sm_fpG Z.1 8 0) + i) true) cp ph 0 n2 fo rd np pw ev od rc wr) H := hP
                  have hD : va_D (sm_ad (sm_w7 D am P S T L nm Z cp ph th n2 fo rd np pw ev od rc wr)) (sm_w7 D am P S T L nm (z.1, z.2.1, z.2.2.1, z.2.2.2.1, va_up z.2.2.2.2 (40 * (sm_fpG Z.1 8 0) + i) true) cp ph 0 n2 fo rd np pw ev od rc wr) := hD
                  refine lv_aload_n hx hb dX7_readPart_159 rfl (lv_at hl 0 rfl) ?_
                  refine sm_gt (ci := 7) (C := RX7) (T := TX7) (N := 33) hx hb hts inlX7 hown hK hP 0 rfl rfl 15 (by decide) wf_RX7_57 rfl dX7_readPart_160 ?_
                  refine lv_bipush (v := 40) hx hb dX7_readPart_163 (by decide) ?_
                  refine lv_iload_n hx hb dX7_readPart_165 rfl (lv_at hl 2 rfl) ?_
                  refine lv_imul hx hb dX7_readPart_166 ?_
                  refine sm_re (y := nI (40 * (sm_fpG Z.1 8 0))) (pk_mul 40 (sm_fpG Z.1 8 0)) ?_
                  refine lv_iload hx hb dX7_readPart_167 (lv_at hl 4 rfl) ?_
                  refine lv_iadd hx hb dX7_readPart_169 ?_
                  refine sm_re (y := nI (40 * (sm_fpG Z.1 8 0) + i)) (nI_add (40 * (sm_fpG Z.1 8 0)) i) ?_
                  refine lv_aload_n hx hb dX7_readPart_170 rfl (lv_at hl 0 rfl) ?_
                  refine sm_gt (ci := 7) (C := RX7) (T := TX7) (N := 33) hx hb hts inlX7 hown hK hP 0 rfl rfl 3 (by decide) wf_RX7_20 rfl dX7_readPart_171 ?_
                  refine lv_iload hx hb dX7_readPart_174 (lv_at hl 4 rfl) ?_
                  refine sm_ild hx hb hK hP 4 rfl i rfl (by omega) (by decide) dX7_readPart_176 ?_
                  refine sm_ist hx hb hK hP hD hS 16 rfl (40 * (sm_fpG Z.1 8 0) + i) rfl (by omega) (by decide) dX7_readPart_177 (fun H locs hP hD hS => ?_)
                  have hP : va_P D.1 sm_cl (sm_w7 D am P S T L nm (z.1, z.2.1, va_up z.2.2.1 (40 * (sm_fpG Z.1 8 0) + i) (S.2.1 i), z.2.2.2.1, va_up z.2.2.2.2 (40 * (sm_fpG Z.1 8 0) + i) true) cp ph 0 n2 fo rd np pw ev od rc wr) H := hP
                  have hD : va_D (sm_ad (sm_w7 D am P S T L nm Z cp ph th n2 fo rd np pw ev od rc wr)) (sm_w7 D am P S T L nm (z.1, z.2.1, va_up z.2.2.1 (40 * (sm_fpG Z.1 8 0) + i) (S.2.1 i), z.2.2.2.1, va_up z.2.2.2.2 (40 * (sm_fpG Z.1 8 0) + i) true) cp ph 0 n2 fo rd np pw ev od rc wr) := hD
                  refine lv_aload_n hx hb dX7_readPart_178 rfl (lv_at hl 0 rfl) ?_
                  refine sm_gt (ci := 7) (C := RX7) (T := TX7) (N := 33) hx hb hts inlX7 hown hK hP 0 rfl rfl 16 (by decide) wf_RX7_60 rfl dX7_readPart_179 ?_
                  refine lv_bipush (v := 40) hx hb dX7_readPart_182 (by decide) ?_
                  refine lv_iload_n hx hb dX7_readPart_184 rfl (lv_at hl 2 rfl) ?_
                  refine lv_imul hx hb dX7_readPart_185 ?_
                  refine sm_re (y := nI (40 * (sm_fpG Z.1 8 0))) (pk_mul 40 (sm_fpG Z.1 8 0)) ?_
                  refine lv_iload hx hb dX7_readPart_186 (lv_at hl 4 rfl) ?_
                  refine lv_iadd hx hb dX7_readPart_188 ?_
                  refine sm_re (y := nI (40 * (sm_fpG Z.1 8 0) + i)) (nI_add (40 * (sm_fpG Z.1 8 0)) i) ?_
                  refine lv_aload_n hx hb dX7_readPart_189 rfl (lv_at hl 0 rfl) ?_
                  refine sm_gt (ci := 7) (C := RX7) (T := TX7) (N := 33) hx hb hts inlX7 hown hK hP 0 rfl rfl 4 (by decide) wf_RX7_23 rfl dX7_readPart_190 ?_
                  refine lv_iload hx hb dX7_readPart_193 (lv_at hl 4 rfl) ?_
                  refine sm_ild hx hb hK hP 5 rfl i rfl (by omega) (by decide) dX7_readPart_195 ?_
                  refine sm_ist hx hb hK hP hD hS 17 rfl (40 * (sm_fpG Z.1 8 0) + i) rfl (by omega) (by decide) dX7_readPart_196 (fun H locs hP hD hS => ?_)
                  have hP : va_P D.1 sm_cl (sm_w7 D am P S T L nm (z.1, z.2.1, va_up z.2.2.1 (40 * (sm_fpG Z.1 8 0) + i) (S.2.1 i), va_up z.2.2.2.1 (40 * (sm_fpG Z.1 8 0) + i) (S.2.2 i), va_up z.2.2.2.2 (40 * (sm_fpG Z.1 8 0) + i) true) cp ph 0 n2 fo rd np pw ev od rc wr) H := hP
                  have hD : va_D (sm_ad (sm_w7 D am P S T L nm Z cp ph th n2 fo rd np pw ev od rc wr)) (sm_w7 D am P S T L nm (z.1, z.2.1, va_up z.2.2.1 (40 * (sm_fpG Z.1 8 0) + i) (S.2.1 i), va_up z.2.2.2.1 (40 * (sm_fpG Z.1 8 0) + i) (S.2.2 i), va_up z.2.2.2.2 (40 * (sm_fpG Z.1 8 0) + i) true) cp ph 0 n2 fo rd np pw ev od rc wr) := hD
                  refine lv_iinc (v := nI (i + 1)) (lv' := [(4, .int (nI (i + 1))), (0, .ref (am 0)), (1, .int (nI k)), (2, .int (nI (sm_fpG Z.1 8 0))), (3, .int (nI (min (rd + k) 40)))]) hx hb dX7_readPart_197 hl (k := 4) rfl (nI_1 i) (by decide) rfl (fun ls hl => ?_)
                  refine lv_goto (tgt := 110) hx hb dX7_readPart_200 (by decide) ?_
                  exact ih _ (by omega) (i + 1) (z.1, z.2.1, va_up z.2.2.1 (40 * (sm_fpG Z.1 8 0) + i) (S.2.1 i), va_up z.2.2.2.1 (40 * (sm_fpG Z.1 8 0) + i) (S.2.2 i), va_up z.2.2.2.2 (40 * (sm_fpG Z.1 8 0) + i) true) _ _ ls rfl (by omega) (by rw [← hR, sm_rpE (n := 40) (i := i) (by omega)]; exact congrArg (sm_rpG S rd _ _ _ _) (by simp [sm_rpS, c_6, c_7])) hP hD hS (lv_sub hl [1, 2, 3, 4, 0] rfl)
        · have c_4 := sm_Nlt (a := rd + k) (b := 40) (sm_nle c_4) (by omega) (by omega)
          refine lv_aload_n hx hb dX7_readPart_95 rfl (lv_at hl 1 rfl) ?_
          refine sm_gt (ci := 7) (C := RX7) (T := TX7) (N := 33) hx hb hts inlX7 hown hK hP 0 rfl rfl 24 (by decide) wf_RX7_85 rfl dX7_readPart_96 ?_
          refine lv_iload_n hx hb dX7_readPart_99 rfl (lv_at hl 2 rfl) ?_
          refine lv_iadd hx hb dX7_readPart_100 ?_
          refine sm_re (y := nI (rd + k)) (nI_add rd k) ?_
          refine lv_goto (tgt := 106) hx hb dX7_readPart_101 (by decide) ?_
          refine sm_re (y := nI (min (rd + k) 40)) (congrArg nI (by omega)) ?_
          refine lv_istore_n (lv' := [(3, .int (nI (min (rd + k) 40))), (2, .int (nI (sm_fpG Z.1 8 0))), (0, .ref (am 0)), (1, .int (nI k))]) hx hb dX7_readPart_106 rfl hl (by decide) rfl (fun ls hl => ?_)
          refine lv_iconst (v := 0) hx hb dX7_readPart_107 (by decide) ?_
          refine lv_istore (lv' := [(4, .int 0), (3, .int (nI (min (rd + k) 40))), (2, .int (nI (sm_fpG Z.1 8 0))), (0, .ref (am 0)), (1, .int (nI k))]) hx hb dX7_readPart_108 hl (by decide) rfl (fun ls hl => ?_)
          suffices K : ∀ (n : Nat) (i : Nat) (z : sm_Qt) (H : Heap) (locs : List Loc) (ls : Array Slot), 40 - i = n → (i ≤ 40) → (sm_rpG S rd (min (rd + k) 40) (sm_fpG Z.1 8 0) (40 - i) i z = sm_rpG S rd (min (rd + k) 40) (sm_fpG Z.1 8 0) 40 0 (va_up Z.1 (sm_fpG Z.1 8 0) (nI np), va_up Z.2.1 (sm_fpG Z.1 8 0) (nI L.1), Z.2.2)) → va_P D.1 sm_cl (sm_w7 D am P S T L nm z cp ph 0 n2 fo rd np pw ev od rc wr) H → va_D (sm_ad (sm_w7 D am P S T L nm Z cp ph th n2 fo rd np pw ev od rc wr)) (sm_w7 D am P S T L nm z cp ph 0 n2 fo rd np pw ev od rc wr) → va_S (sm_ad (sm_w7 D am P S T L nm Z cp ph th n2 fo rd np pw ev od rc wr)) s.heap H locs → lv_has ls 5 [(0, .ref (am 0)), (1, .int (nI k)), (2, .int (nI (sm_fpG Z.1 8 0))), (3, .int (nI (min (rd + k) 40))), (4, .int (nI i))] → W p l e ({ frames := 1, cells := 0, slots := 0, locals := 22 } : Room) s m ([.ref (am 0), .int (nI k)] : List Value).toArray below meth c H locs 0 0 (MQ below (sm_Qc D (sm_w7 D am P S T L nm Z cp ph th n2 fo rd np pw ev od rc wr) (fun w => w = sm_w7 D am P S T L nm (if sm_mRP ph rd pw = 0 then (sm_rpG S rd (min (rd + k) 40) (sm_fpG Z.1 8 0) 40 0 (va_up Z.1 (sm_fpG Z.1 8 0) (nI np), va_up Z.2.1 (sm_fpG Z.1 8 0) (nI L.1), Z.2.2)) else Z) cp ph (sm_mRP ph rd pw) n2 fo (if sm_mRP ph rd pw = 0 then min (rd + k) 40 else rd) (if sm_mRP ph rd pw = 0 then np + 1 else np) (if sm_mRP ph rd pw = 0 then pw + 1 else pw) ev od rc wr) (some (.int (if sm_mRP ph rd pw = 0 then nI (np + 1 - 1) else 0)))) ([.ref (am 0), .int (nI k)] : List Value).toArray s 0 0 (sm_ad (sm_w7 D am P S T L nm Z cp ph th n2 fo rd np pw ev od rc wr))) (F0 m 110 ls []) from K _ 0 (va_up Z.1 (sm_fpG Z.1 8 0) (nI np), va_up Z.2.1 (sm_fpG Z.1 8 0) (nI L.1), Z.2.2) _ _ ls rfl (by omega) (rfl) hP hD hS (lv_sub hl [3, 4, 2, 1, 0] rfl)
          intro n
          induction n using Nat.strongRecOn with
          | ind n ih =>
            intro i z H locs ls hn hi hR hP hD hS hl
            refine lv_iload hx hb dX7_readPart_110 (lv_at hl 4 rfl) ?_
            refine lv_bipush (v := 40) hx hb dX7_readPart_112 (by decide) ?_
            refine lv_icmp_ge (tgt := 203) hx hb dX7_readPart_114 (by decide) (fun c_8 => ?_) (fun c_8 => ?_)
            · have c_8 := sm_Nnl (a := i) (b := 40) (sm_nl c_8) (by omega) (by omega)
              refine lv_aload_n hx hb dX7_readPart_203 rfl (lv_at hl 0 rfl) ?_
              refine lv_iload_n hx hb dX7_readPart_204 rfl (lv_at hl 3 rfl) ?_
              refine sm_pt (ci := 7) (C := RX7) (T := TX7) (N := 33) hx hb hts inlX7 tyX7 tyX7_ok nmX7 hown hK hP hD hS 0 rfl rfl 24 (by decide) wf_RX7_85 rfl rfl rfl (Nat.le_of_ble_eq_true rfl) dX7_readPart_205 (fun H locs hP hD hS => ?_)
              have hP : va_P D.1 sm_cl (sm_w7 D am P S T L nm z cp ph 0 n2 fo (min (rd + k) 40) np pw ev od rc wr) H := hP
              have hD : va_D (sm_ad (sm_w7 D am P S T L nm Z cp ph th n2 fo rd np pw ev od rc wr)) (sm_w7 D am P S T L nm z cp ph 0 n2 fo (min (rd + k) 40) np pw ev od rc wr) := hD
              refine lv_aload_n hx hb dX7_readPart_208 rfl (lv_at hl 0 rfl) ?_
              refine lv_dup hx hb dX7_readPart_209 rfl ?_
              refine sm_gt (ci := 7) (C := RX7) (T := TX7) (N := 33) hx hb hts inlX7 hown hK hP 0 rfl rfl 25 (by decide) wf_RX7_88 rfl dX7_readPart_210 ?_
              refine lv_iconst (v := 1) hx hb dX7_readPart_213 (by decide) ?_
              refine lv_iadd hx hb dX7_readPart_214 ?_
              refine sm_re (y := nI (np + 1)) (nI_1 np) ?_
              refine sm_pt (ci := 7) (C := RX7) (T := TX7) (N := 33) hx hb hts inlX7 tyX7 tyX7_ok nmX7 hown hK hP hD hS 0 rfl rfl 25 (by decide) wf_RX7_88 rfl rfl rfl (Nat.le_of_ble_eq_true rfl) dX7_readPart_215 (fun H locs hP hD hS => ?_)
              have hP : va_P D.1 sm_cl (sm_w7 D am P S T L nm z cp ph 0 n2 fo (min (rd + k) 40) (np + 1) pw ev od rc wr) H := hP
              have hD : va_D (sm_ad (sm_w7 D am P S T L nm Z cp ph th n2 fo rd np pw ev od rc wr)) (sm_w7 D am P S T L nm z cp ph 0 n2 fo (min (rd + k) 40) (np + 1) pw ev od rc wr) := hD
              refine lv_aload_n hx hb dX7_readPart_218 rfl (lv_at hl 0 rfl) ?_
              refine lv_dup hx hb dX7_readPart_219 rfl ?_
              refine sm_gt (ci := 7) (C := RX7) (T := TX7) (N := 33) hx hb hts inlX7 hown hK hP 0 rfl rfl 26 (by decide) wf_RX7_91 rfl dX7_readPart_220 ?_
              refine lv_iconst (v := 1) hx hb dX7_readPart_223 (by decide) ?_
              refine lv_iadd hx hb dX7_readPart_224 ?_
              refine sm_re (y := nI (pw + 1)) (nI_1 pw) ?_
              refine sm_pt (ci := 7) (C := RX7) (T := TX7) (N := 33) hx hb hts inlX7 tyX7 tyX7_ok nmX7 hown hK hP hD hS 0 rfl rfl 26 (by decide) wf_RX7_91 rfl rfl rfl (Nat.le_of_ble_eq_true rfl) dX7_readPart_225 (fun H locs hP hD hS => ?_)
              have hP : va_P D.1 sm_cl (sm_w7 D am P S T L nm z cp ph 0 n2 fo (min (rd + k) 40) (np + 1) (pw + 1) ev od rc wr) H := hP
              have hD : va_D (sm_ad (sm_w7 D am P S T L nm Z cp ph th n2 fo rd np pw ev od rc wr)) (sm_w7 D am P S T L nm z cp ph 0 n2 fo (min (rd + k) 40) (np + 1) (pw + 1) ev od rc wr) := hD
              refine lv_aload_n hx hb dX7_readPart_228 rfl (lv_at hl 0 rfl) ?_
              refine sm_gt (ci := 7) (C := RX7) (T := TX7) (N := 33) hx hb hts inlX7 hown hK hP 0 rfl rfl 25 (by decide) wf_RX7_88 rfl dX7_readPart_229 ?_
              refine lv_iconst (v := 1) hx hb dX7_readPart_232 (by decide) ?_
              refine lv_isub hx hb dX7_readPart_233 ?_
              refine sm_re (y := nI ((np + 1) - 1)) (pk_sub (a := (np + 1)) (b := 1) (by omega)) ?_
              exact sm_retC hC hP hD hS (by rw [show 40 - i = 0 by omega] at hR; have h1 : z = _ := hR; subst c_1; simp [sm_mRP, h1, c_2, c_3]) rfl (by rw [show 40 - i = 0 by omega] at hR; have h1 : z = _ := hR; subst c_1; simp [sm_mRP, h1, c_2, c_3]) dX7_readPart_234
            · have c_8 := sm_Nlt (a := i) (b := 40) (sm_nle c_8) (by omega) (by omega)
              refine lv_aload_n hx hb dX7_readPart_117 rfl (lv_at hl 0 rfl) ?_
              refine sm_gt (ci := 7) (C := RX7) (T := TX7) (N := 33) hx hb hts inlX7 hown hK hP 0 rfl rfl 18 (by decide) wf_RX7_66 rfl dX7_readPart_118 ?_
              refine lv_bipush (v := 40) hx hb dX7_readPart_121 (by decide) ?_
              refine lv_iload_n hx hb dX7_readPart_123 rfl (lv_at hl 2 rfl) ?_
              refine lv_imul hx hb dX7_readPart_124 ?_
              refine sm_re (y := nI (40 * (sm_fpG Z.1 8 0))) (pk_mul 40 (sm_fpG Z.1 8 0)) ?_
              refine lv_iload hx hb dX7_readPart_125 (lv_at hl 4 rfl) ?_
              refine lv_iadd hx hb dX7_readPart_127 ?_
              refine sm_re (y := nI (40 * (sm_fpG Z.1 8 0) + i)) (nI_add (40 * (sm_fpG Z.1 8 0)) i) ?_
              refine lv_iload hx hb dX7_readPart_128 (lv_at hl 4 rfl) ?_
              refine lv_aload_n hx hb dX7_readPart_130 rfl (lv_at hl 0 rfl) ?_
              refine sm_gt (ci := 7) (C := RX7) (T := TX7) (N := 33) hx hb hts inlX7 hown hK hP 0 rfl rfl 24 (by decide) wf_RX7_85 rfl dX7_readPart_131 ?_
              refine lv_iload_n hx hb dX7_readPart_134 rfl (lv_at hl 3 rfl) ?_
              refine lv_iconst (v := 1) hx hb dX7_readPart_135 (by decide) ?_
              refine lv_isub hx hb dX7_readPart_136 ?_
              refine sm_re (y := nI (min (rd + k) 40 - 1)) (pk_sub (a := min (rd + k) 40) (b := 1) (by omega)) ?_
              refine sm_cSPr (rest := [.int (nI (40 * (sm_fpG Z.1 8 0) + i)), .ref (am 19)]) hC hK hP (c_X7_in_n D am P S T L nm z cp ph 0 n2 fo rd np pw ev od rc wr i rd (min (rd + k) 40 - 1) (by omega) (by omega) (by omega)) qyX7_in wl_RX7_113 ⟨Nat.le_of_ble_eq_true rfl, Nat.le_of_ble_eq_true rfl⟩ rfl hl.1 rfl (Nat.le_of_ble_eq_true rfl) dX7_readPart_137 ⟨Nat.le_of_ble_eq_true rfl, Nat.le_of_ble_eq_true rfl⟩ ?_
              refine lv_if_eq (tgt := 157) hx hb dX7_readPart_140 (by decide) (fun c_9 => ?_) (fun c_9 => ?_)
              · have c_9 := sm_b0 c_9
                refine lv_iconst (v := 0) hx hb dX7_readPart_157 (by decide) ?_
                refine sm_zst hx hb hK hP hD hS 19 rfl false rfl (40 * (sm_fpG Z.1 8 0) + i) rfl (by omega) (by decide) dX7_readPart_158 (fun H locs hP hD hS => ?_)
                have hP : va_P D.1 sm_cl (sm_w7 D am P S T L nm (z.1, z.2.1, z.2.2.1, z.2.2.2.1, va_up z.2.2.2.2 (40 * (sm_fpG Z.1 8 0) + i) false) cp ph 0 n2 fo rd np pw ev od rc wr) H := hP
                have hD : va_D (sm_ad (sm_w7 D am P S T L nm Z cp ph th n2 fo rd np pw ev od rc wr)) (sm_w7 D am P S T L nm (z.1, z.2.1, z.2.2.1, z.2.2.2.1, va_up z.2.2.2.2 (40 * (sm_fpG Z.1 8 0) + i) false) cp ph 0 n2 fo rd np pw ev od rc wr) := hD
                refine lv_aload_n hx hb dX7_readPart_159 rfl (lv_at hl 0 rfl) ?_
                refine sm_gt (ci := 7) (C := RX7) (T := TX7) (N := 33) hx hb hts inlX7 hown hK hP 0 rfl rfl 15 (by decide) wf_RX7_57 rfl dX7_readPart_160 ?_
                refine lv_bipush (v := 40) hx hb dX7_readPart_163 (by decide) ?_
                refine lv_iload_n hx hb dX7_readPart_165 rfl (lv_at hl 2 rfl) ?_
                refine lv_imul hx hb dX7_readPart_166 ?_
                refine sm_re (y := nI (40 * (sm_fpG Z.1 8 0))) (pk_mul 40 (sm_fpG Z.1 8 0)) ?_
                refine lv_iload hx hb dX7_readPart_167 (lv_at hl 4 rfl) ?_
                refine lv_iadd hx hb dX7_readPart_169 ?_
                refine sm_re (y := nI (40 * (sm_fpG Z.1 8 0) + i)) (nI_add (40 * (sm_fpG Z.1 8 0)) i) ?_
                refine lv_aload_n hx hb dX7_readPart_170 rfl (lv_at hl 0 rfl) ?_
                refine sm_gt (ci := 7) (C := RX7) (T := TX7) (N := 33) hx hb hts inlX7 hown hK hP 0 rfl rfl 3 (by decide) wf_RX7_20 rfl dX7_readPart_171 ?_
                refine lv_iload hx hb dX7_readPart_174 (lv_at hl 4 rfl) ?_
                refine sm_ild hx hb hK hP 4 rfl i rfl (by omega) (by decide) dX7_readPart_176 ?_
                refine sm_ist hx hb hK hP hD hS 16 rfl (40 * (sm_fpG Z.1 8 0) + i) rfl (by omega) (by decide) dX7_readPart_177 (fun H locs hP hD hS => ?_)
                have hP : va_P D.1 sm_cl (sm_w7 D am P S T L nm (z.1, z.2.1, va_up z.2.2.1 (40 * (sm_fpG Z.1 8 0) + i) (S.2.1 i), z.2.2.2.1, va_up z.2.2.2.2 (40 * (sm_fpG Z.1 8 0) + i) false) cp ph 0 n2 fo rd np pw ev od rc wr) H := hP
                have hD : va_D (sm_ad (sm_w7 D am P S T L nm Z cp ph th n2 fo rd np pw ev od rc wr)) (sm_w7 D am P S T L nm (z.1, z.2.1, va_up z.2.2.1 (40 * (sm_fpG Z.1 8 0) + i) (S.2.1 i), z.2.2.2.1, va_up z.2.2.2.2 (40 * (sm_fpG Z.1 8 0) + i) false) cp ph 0 n2 fo rd np pw ev od rc wr) := hD
                refine lv_aload_n hx hb dX7_readPart_178 rfl (lv_at hl 0 rfl) ?_
                refine sm_gt (ci := 7) (C := RX7) (T := TX7) (N := 33) hx hb hts inlX7 hown hK hP 0 rfl rfl 16 (by decide) wf_RX7_60 rfl dX7_readPart_179 ?_
                refine lv_bipush (v := 40) hx hb dX7_readPart_182 (by decide) ?_
                refine lv_iload_n hx hb dX7_readPart_184 rfl (lv_at hl 2 rfl) ?_
                refine lv_imul hx hb dX7_readPart_185 ?_
                refine sm_re (y := nI (40 * (sm_fpG Z.1 8 0))) (pk_mul 40 (sm_fpG Z.1 8 0)) ?_
                refine lv_iload hx hb dX7_readPart_186 (lv_at hl 4 rfl) ?_
                refine lv_iadd hx hb dX7_readPart_188 ?_
                refine sm_re (y := nI (40 * (sm_fpG Z.1 8 0) + i)) (nI_add (40 * (sm_fpG Z.1 8 0)) i) ?_
                refine lv_aload_n hx hb dX7_readPart_189 rfl (lv_at hl 0 rfl) ?_
                refine sm_gt (ci := 7) (C := RX7) (T := TX7) (N := 33) hx hb hts inlX7 hown hK hP 0 rfl rfl 4 (by decide) wf_RX7_23 rfl dX7_readPart_190 ?_
                refine lv_iload hx hb dX7_readPart_193 (lv_at hl 4 rfl) ?_
                refine sm_ild hx hb hK hP 5 rfl i rfl (by omega) (by decide) dX7_readPart_195 ?_
                refine sm_ist hx hb hK hP hD hS 17 rfl (40 * (sm_fpG Z.1 8 0) + i) rfl (by omega) (by decide) dX7_readPart_196 (fun H locs hP hD hS => ?_)
                have hP : va_P D.1 sm_cl (sm_w7 D am P S T L nm (z.1, z.2.1, va_up z.2.2.1 (40 * (sm_fpG Z.1 8 0) + i) (S.2.1 i), va_up z.2.2.2.1 (40 * (sm_fpG Z.1 8 0) + i) (S.2.2 i), va_up z.2.2.2.2 (40 * (sm_fpG Z.1 8 0) + i) false) cp ph 0 n2 fo rd np pw ev od rc wr) H := hP
                have hD : va_D (sm_ad (sm_w7 D am P S T L nm Z cp ph th n2 fo rd np pw ev od rc wr)) (sm_w7 D am P S T L nm (z.1, z.2.1, va_up z.2.2.1 (40 * (sm_fpG Z.1 8 0) + i) (S.2.1 i), va_up z.2.2.2.1 (40 * (sm_fpG Z.1 8 0) + i) (S.2.2 i), va_up z.2.2.2.2 (40 * (sm_fpG Z.1 8 0) + i) false) cp ph 0 n2 fo rd np pw ev od rc wr) := hD
                refine lv_iinc (v := nI (i + 1)) (lv' := [(4, .int (nI (i + 1))), (0, .ref (am 0)), (1, .int (nI k)), (2, .int (nI (sm_fpG Z.1 8 0))), (3, .int (nI (min (rd + k) 40)))]) hx hb dX7_readPart_197 hl (k := 4) rfl (nI_1 i) (by decide) rfl (fun ls hl => ?_)
                refine lv_goto (tgt := 110) hx hb dX7_readPart_200 (by decide) ?_
                exact ih _ (by omega) (i + 1) (z.1, z.2.1, va_up z.2.2.1 (40 * (sm_fpG Z.1 8 0) + i) (S.2.1 i), va_up z.2.2.2.1 (40 * (sm_fpG Z.1 8 0) + i) (S.2.2 i), va_up z.2.2.2.2 (40 * (sm_fpG Z.1 8 0) + i) false) _ _ ls rfl (by omega) (by rw [← hR, sm_rpE (n := 40) (i := i) (by omega)]; exact congrArg (sm_rpG S rd _ _ _ _) (by simp [sm_rpS, c_9])) hP hD hS (lv_sub hl [1, 2, 3, 4, 0] rfl)
              · have c_9 := sm_b1 c_9
                refine lv_aload_n hx hb dX7_readPart_143 rfl (lv_at hl 0 rfl) ?_
                refine sm_gt (ci := 7) (C := RX7) (T := TX7) (N := 33) hx hb hts inlX7 hown hK hP 0 rfl rfl 8 (by decide) wf_RX7_35 rfl dX7_readPart_144 ?_
                refine lv_iload hx hb dX7_readPart_147 (lv_at hl 4 rfl) ?_
                refine sm_zld hx hb hK hP 9 rfl i rfl (by omega) (by decide) dX7_readPart_149 ?_
                refine lv_if_eq (tgt := 157) hx hb dX7_readPart_150 (by decide) (fun c_10 => ?_) (fun c_10 => ?_)
                · have c_10 := sm_b0 c_10
                  refine lv_iconst (v := 0) hx hb dX7_readPart_157 (by decide) ?_
                  refine sm_zst hx hb hK hP hD hS 19 rfl false rfl (40 * (sm_fpG Z.1 8 0) + i) rfl (by omega) (by decide) dX7_readPart_158 (fun H locs hP hD hS => ?_)
                  have hP : va_P D.1 sm_cl (sm_w7 D am P S T L nm (z.1, z.2.1, z.2.2.1, z.2.2.2.1, va_up z.2.2.2.2 (40 * (sm_fpG Z.1 8 0) + i) false) cp ph 0 n2 fo rd np pw ev od rc wr) H := hP
                  have hD : va_D (sm_ad (sm_w7 D am P S T L nm Z cp ph th n2 fo rd np pw ev od rc wr)) (sm_w7 D am P S T L nm (z.1, z.2.1, z.2.2.1, z.2.2.2.1, va_up z.2.2.2.2 (40 * (sm_fpG Z.1 8 0) + i) false) cp ph 0 n2 fo rd np pw ev od rc wr) := hD
                  refine lv_aload_n hx hb dX7_readPart_159 rfl (lv_at hl 0 rfl) ?_
                  refine sm_gt (ci := 7) (C := RX7) (T := TX7) (N := 33) hx hb hts inlX7 hown hK hP 0 rfl rfl 15 (by decide) wf_RX7_57 rfl dX7_readPart_160 ?_
                  refine lv_bipush (v := 40) hx hb dX7_readPart_163 (by decide) ?_
                  refine lv_iload_n hx hb dX7_readPart_165 rfl (lv_at hl 2 rfl) ?_
                  refine lv_imul hx hb dX7_readPart_166 ?_
                  refine sm_re (y := nI (40 * (sm_fpG Z.1 8 0))) (pk_mul 40 (sm_fpG Z.1 8 0)) ?_
                  refine lv_iload hx hb dX7_readPart_167 (lv_at hl 4 rfl) ?_
                  refine lv_iadd hx hb dX7_readPart_169 ?_
                  refine sm_re (y := nI (40 * (sm_fpG Z.1 8 0) + i)) (nI_add (40 * (sm_fpG Z.1 8 0)) i) ?_
                  refine lv_aload_n hx hb dX7_readPart_170 rfl (lv_at hl 0 rfl) ?_
                  refine sm_gt (ci := 7) (C := RX7) (T := TX7) (N := 33) hx hb hts inlX7 hown hK hP 0 rfl rfl 3 (by decide) wf_RX7_20 rfl dX7_readPart_171 ?_
                  refine lv_iload hx hb dX7_readPart_174 (lv_at hl 4 rfl) ?_
                  refine sm_ild hx hb hK hP 4 rfl i rfl (by omega) (by decide) dX7_readPart_176 ?_
                  refine sm_ist hx hb hK hP hD hS 16 rfl (40 * (sm_fpG Z.1 8 0) + i) rfl (by omega) (by decide) dX7_readPart_177 (fun H locs hP hD hS => ?_)
                  have hP : va_P D.1 sm_cl (sm_w7 D am P S T L nm (z.1, z.2.1, va_up z.2.2.1 (40 * (sm_fpG Z.1 8 0) + i) (S.2.1 i), z.2.2.2.1, va_up z.2.2.2.2 (40 * (sm_fpG Z.1 8 0) + i) false) cp ph 0 n2 fo rd np pw ev od rc wr) H := hP
                  have hD : va_D (sm_ad (sm_w7 D am P S T L nm Z cp ph th n2 fo rd np pw ev od rc wr)) (sm_w7 D am P S T L nm (z.1, z.2.1, va_up z.2.2.1 (40 * (sm_fpG Z.1 8 0) + i) (S.2.1 i), z.2.2.2.1, va_up z.2.2.2.2 (40 * (sm_fpG Z.1 8 0) + i) false) cp ph 0 n2 fo rd np pw ev od rc wr) := hD
                  refine lv_aload_n hx hb dX7_readPart_178 rfl (lv_at hl 0 rfl) ?_
                  refine sm_gt (ci := 7) (C := RX7) (T := TX7) (N := 33) hx hb hts inlX7 hown hK hP 0 rfl rfl 16 (by decide) wf_RX7_60 rfl dX7_readPart_179 ?_
                  refine lv_bipush (v := 40) hx hb dX7_readPart_182 (by decide) ?_
                  refine lv_iload_n hx hb dX7_readPart_184 rfl (lv_at hl 2 rfl) ?_
                  refine lv_imul hx hb dX7_readPart_185 ?_
                  refine sm_re (y := nI (40 * (sm_fpG Z.1 8 0))) (pk_mul 40 (sm_fpG Z.1 8 0)) ?_
                  refine lv_iload hx hb dX7_readPart_186 (lv_at hl 4 rfl) ?_
                  refine lv_iadd hx hb dX7_readPart_188 ?_
                  refine sm_re (y := nI (40 * (sm_fpG Z.1 8 0) + i)) (nI_add (40 * (sm_fpG Z.1 8 0)) i) ?_
                  refine lv_aload_n hx hb dX7_readPart_189 rfl (lv_at hl 0 rfl) ?_
                  refine sm_gt (ci := 7) (C := RX7) (T := TX7) (N := 33) hx hb hts inlX7 hown hK hP 0 rfl rfl 4 (by decide) wf_RX7_23 rfl dX7_readPart_190 ?_
                  refine lv_iload hx hb dX7_readPart_193 (lv_at hl 4 rfl) ?_
                  refine sm_ild hx hb hK hP 5 rfl i rfl (by omega) (by decide) dX7_readPart_195 ?_
                  refine sm_ist hx hb hK hP hD hS 17 rfl (40 * (sm_fpG Z.1 8 0) + i) rfl (by omega) (by decide) dX7_readPart_196 (fun H locs hP hD hS => ?_)
                  have hP : va_P D.1 sm_cl (sm_w7 D am P S T L nm (z.1, z.2.1, va_up z.2.2.1 (40 * (sm_fpG Z.1 8 0) + i) (S.2.1 i), va_up z.2.2.2.1 (40 * (sm_fpG Z.1 8 0) + i) (S.2.2 i), va_up z.2.2.2.2 (40 * (sm_fpG Z.1 8 0) + i) false) cp ph 0 n2 fo rd np pw ev od rc wr) H := hP
                  have hD : va_D (sm_ad (sm_w7 D am P S T L nm Z cp ph th n2 fo rd np pw ev od rc wr)) (sm_w7 D am P S T L nm (z.1, z.2.1, va_up z.2.2.1 (40 * (sm_fpG Z.1 8 0) + i) (S.2.1 i), va_up z.2.2.2.1 (40 * (sm_fpG Z.1 8 0) + i) (S.2.2 i), va_up z.2.2.2.2 (40 * (sm_fpG Z.1 8 0) + i) false) cp ph 0 n2 fo rd np pw ev od rc wr) := hD
                  refine lv_iinc (v := nI (i + 1)) (lv' := [(4, .int (nI (i + 1))), (0, .ref (am 0)), (1, .int (nI k)), (2, .int (nI (sm_fpG Z.1 8 0))), (3, .int (nI (min (rd + k) 40)))]) hx hb dX7_readPart_197 hl (k := 4) rfl (nI_1 i) (by decide) rfl (fun ls hl => ?_)
                  refine lv_goto (tgt := 110) hx hb dX7_readPart_200 (by decide) ?_
                  exact ih _ (by omega) (i + 1) (z.1, z.2.1, va_up z.2.2.1 (40 * (sm_fpG Z.1 8 0) + i) (S.2.1 i), va_up z.2.2.2.1 (40 * (sm_fpG Z.1 8 0) + i) (S.2.2 i), va_up z.2.2.2.2 (40 * (sm_fpG Z.1 8 0) + i) false) _ _ ls rfl (by omega) (by rw [← hR, sm_rpE (n := 40) (i := i) (by omega)]; exact congrArg (sm_rpG S rd _ _ _ _) (by simp [sm_rpS, c_9, c_10])) hP hD hS (lv_sub hl [1, 2, 3, 4, 0] rfl)
                · have c_10 := sm_b1 c_10
                  refine lv_iconst (v := 1) hx hb dX7_readPart_153 (by decide) ?_
                  refine lv_goto (tgt := 158) hx hb dX7_readPart_154 (by decide) ?_
                  refine sm_zst hx hb hK hP hD hS 19 rfl true rfl (40 * (sm_fpG Z.1 8 0) + i) rfl (by omega) (by decide) dX7_readPart_158 (fun H locs hP hD hS => ?_)
                  have hP : va_P D.1 sm_cl (sm_w7 D am P S T L nm (z.1, z.2.1, z.2.2.1, z.2.2.2.1, va_up z.2.2.2.2 (40 * (sm_fpG Z.1 8 0) + i) true) cp ph 0 n2 fo rd np pw ev od rc wr) H := hP
                  have hD : va_D (sm_ad (sm_w7 D am P S T L nm Z cp ph th n2 fo rd np pw ev od rc wr)) (sm_w7 D am P S T L nm (z.1, z.2.1, z.2.2.1, z.2.2.2.1, va_up z.2.2.2.2 (40 * (sm_fpG Z.1 8 0) + i) true) cp ph 0 n2 fo rd np pw ev od rc wr) := hD
                  refine lv_aload_n hx hb dX7_readPart_159 rfl (lv_at hl 0 rfl) ?_
                  refine sm_gt (ci := 7) (C := RX7) (T := TX7) (N := 33) hx hb hts inlX7 hown hK hP 0 rfl rfl 15 (by decide) wf_RX7_57 rfl dX7_readPart_160 ?_
                  refine lv_bipush (v := 40) hx hb dX7_readPart_163 (by decide) ?_
                  refine lv_iload_n hx hb dX7_readPart_165 rfl (lv_at hl 2 rfl) ?_
                  refine lv_imul hx hb dX7_readPart_166 ?_
                  refine sm_re (y := nI (40 * (sm_fpG Z.1 8 0))) (pk_mul 40 (sm_fpG Z.1 8 0)) ?_
                  refine lv_iload hx hb dX7_readPart_167 (lv_at hl 4 rfl) ?_
                  refine lv_iadd hx hb dX7_readPart_169 ?_
                  refine sm_re (y := nI (40 * (sm_fpG Z.1 8 0) + i)) (nI_add (40 * (sm_fpG Z.1 8 0)) i) ?_
                  refine lv_aload_n hx hb dX7_readPart_170 rfl (lv_at hl 0 rfl) ?_
                  refine sm_gt (ci := 7) (C := RX7) (T := TX7) (N := 33) hx hb hts inlX7 hown hK hP 0 rfl rfl 3 (by decide) wf_RX7_20 rfl dX7_readPart_171 ?_
                  refine lv_iload hx hb dX7_readPart_174 (lv_at hl 4 rfl) ?_
                  refine sm_ild hx hb hK hP 4 rfl i rfl (by omega) (by decide) dX7_readPart_176 ?_
                  refine sm_ist hx hb hK hP hD hS 16 rfl (40 * (sm_fpG Z.1 8 0) + i) rfl (by omega) (by decide) dX7_readPart_177 (fun H locs hP hD hS => ?_)
                  have hP : va_P D.1 sm_cl (sm_w7 D am P S T L nm (z.1, z.2.1, va_up z.2.2.1 (40 * (sm_fpG Z.1 8 0) + i) (S.2.1 i), z.2.2.2.1, va_up z.2.2.2.2 (40 * (sm_fpG Z.1 8 0) + i) true) cp ph 0 n2 fo rd np pw ev od rc wr) H := hP
                  have hD : va_D (sm_ad (sm_w7 D am P S T L nm Z cp ph th n2 fo rd np pw ev od rc wr)) (sm_w7 D am P S T L nm (z.1, z.2.1, va_up z.2.2.1 (40 * (sm_fpG Z.1 8 0) + i) (S.2.1 i), z.2.2.2.1, va_up z.2.2.2.2 (40 * (sm_fpG Z.1 8 0) + i) true) cp ph 0 n2 fo rd np pw ev od rc wr) := hD
                  refine lv_aload_n hx hb dX7_readPart_178 rfl (lv_at hl 0 rfl) ?_
                  refine sm_gt (ci := 7) (C := RX7) (T := TX7) (N := 33) hx hb hts inlX7 hown hK hP 0 rfl rfl 16 (by decide) wf_RX7_60 rfl dX7_readPart_179 ?_
                  refine lv_bipush (v := 40) hx hb dX7_readPart_182 (by decide) ?_
                  refine lv_iload_n hx hb dX7_readPart_184 rfl (lv_at hl 2 rfl) ?_
                  refine lv_imul hx hb dX7_readPart_185 ?_
                  refine sm_re (y := nI (40 * (sm_fpG Z.1 8 0))) (pk_mul 40 (sm_fpG Z.1 8 0)) ?_
                  refine lv_iload hx hb dX7_readPart_186 (lv_at hl 4 rfl) ?_
                  refine lv_iadd hx hb dX7_readPart_188 ?_
                  refine sm_re (y := nI (40 * (sm_fpG Z.1 8 0) + i)) (nI_add (40 * (sm_fpG Z.1 8 0)) i) ?_
                  refine lv_aload_n hx hb dX7_readPart_189 rfl (lv_at hl 0 rfl) ?_
                  refine sm_gt (ci := 7) (C := RX7) (T := TX7) (N := 33) hx hb hts inlX7 hown hK hP 0 rfl rfl 4 (by decide) wf_RX7_23 rfl dX7_readPart_190 ?_
                  refine lv_iload hx hb dX7_readPart_193 (lv_at hl 4 rfl) ?_
                  refine sm_ild hx hb hK hP 5 rfl i rfl (by omega) (by decide) dX7_readPart_195 ?_
                  refine sm_ist hx hb hK hP hD hS 17 rfl (40 * (sm_fpG Z.1 8 0) + i) rfl (by omega) (by decide) dX7_readPart_196 (fun H locs hP hD hS => ?_)
                  have hP : va_P D.1 sm_cl (sm_w7 D am P S T L nm (z.1, z.2.1, va_up z.2.2.1 (40 * (sm_fpG Z.1 8 0) + i) (S.2.1 i), va_up z.2.2.2.1 (40 * (sm_fpG Z.1 8 0) + i) (S.2.2 i), va_up z.2.2.2.2 (40 * (sm_fpG Z.1 8 0) + i) true) cp ph 0 n2 fo rd np pw ev od rc wr) H := hP
                  have hD : va_D (sm_ad (sm_w7 D am P S T L nm Z cp ph th n2 fo rd np pw ev od rc wr)) (sm_w7 D am P S T L nm (z.1, z.2.1, va_up z.2.2.1 (40 * (sm_fpG Z.1 8 0) + i) (S.2.1 i), va_up z.2.2.2.1 (40 * (sm_fpG Z.1 8 0) + i) (S.2.2 i), va_up z.2.2.2.2 (40 * (sm_fpG Z.1 8 0) + i) true) cp ph 0 n2 fo rd np pw ev od rc wr) := hD
                  refine lv_iinc (v := nI (i + 1)) (lv' := [(4, .int (nI (i + 1))), (0, .ref (am 0)), (1, .int (nI k)), (2, .int (nI (sm_fpG Z.1 8 0))), (3, .int (nI (min (rd + k) 40)))]) hx hb dX7_readPart_197 hl (k := 4) rfl (nI_1 i) (by decide) rfl (fun ls hl => ?_)
                  refine lv_goto (tgt := 110) hx hb dX7_readPart_200 (by decide) ?_
                  exact ih _ (by omega) (i + 1) (z.1, z.2.1, va_up z.2.2.1 (40 * (sm_fpG Z.1 8 0) + i) (S.2.1 i), va_up z.2.2.2.1 (40 * (sm_fpG Z.1 8 0) + i) (S.2.2 i), va_up z.2.2.2.2 (40 * (sm_fpG Z.1 8 0) + i) true) _ _ ls rfl (by omega) (by rw [← hR, sm_rpE (n := 40) (i := i) (by omega)]; exact congrArg (sm_rpG S rd _ _ _ _) (by simp [sm_rpS, c_9, c_10])) hP hD hS (lv_sub hl [1, 2, 3, 4, 0] rfl)
      · have c_3 := sm_Neq (a := pw) (b := 8) c_3 (by omega) (by omega)
        refine lv_iconst (v := 2) hx hb dX7_readPart_42 (by decide) ?_
        refine lv_goto (tgt := 47) hx hb dX7_readPart_43 (by decide) ?_
        refine sm_pt (ci := 7) (C := RX7) (T := TX7) (N := 33) hx hb hts inlX7 tyX7 tyX7_ok nmX7 hown hK hP hD hS 0 rfl rfl 19 (by decide) wf_RX7_69 rfl rfl rfl (Nat.le_of_ble_eq_true rfl) dX7_readPart_47 (fun H locs hP hD hS => ?_)
        have hP : va_P D.1 sm_cl (sm_w7 D am P S T L nm Z cp ph 2 n2 fo rd np pw ev od rc wr) H := hP
        have hD : va_D (sm_ad (sm_w7 D am P S T L nm Z cp ph th n2 fo rd np pw ev od rc wr)) (sm_w7 D am P S T L nm Z cp ph 2 n2 fo rd np pw ev od rc wr) := hD
        refine lv_aload_n hx hb dX7_readPart_50 rfl (lv_at hl 0 rfl) ?_
        refine sm_gt (ci := 7) (C := RX7) (T := TX7) (N := 33) hx hb hts inlX7 hown hK hP 0 rfl rfl 19 (by decide) wf_RX7_69 rfl dX7_readPart_51 ?_
        refine lv_if_le (tgt := 59) hx hb dX7_readPart_54 (by decide) (fun h => absurd h (by decide)) (fun _ => ?_)
        refine lv_iconst (v := 0) hx hb dX7_readPart_57 (by decide) ?_
        exact sm_retC hC hP hD hS (by subst c_1; simp [sm_k1, sm_mRP, c_2, c_3]) rfl (by subst c_1; simp [sm_k1, sm_mRP, c_2, c_3]) dX7_readPart_58

set_option maxHeartbeats 1000000 in
set_option maxRecDepth 100000 in
theorem c_X7_putDown_i (x : Int32) (hno : x < 0 ∨ sm_plG Z.1 x 8 0 = 8) : sm_MC l yX7_putDown cX7_putDown 5 (some .int) 4 91 [.ref (am 0), .int x] D (sm_w7 D am P S T L nm Z cp ph th n2 fo rd np pw ev od rc wr) (fun w => w = sm_w7 D am P S T L nm Z cp ph 1 n2 fo rd np pw ev od rc wr) (some (.int 0)) := by
  refine sm_met (own := RX7) (by decide) rfl (Nat.le_of_ble_eq_true rfl) ?_
  intro p e s m below meth c ls hC hv hl
  obtain ⟨hx, hb, hml, hr, hown, hlk, hts⟩ := id hC
  obtain ⟨⟨hP, hK⟩, hD, hZ⟩ := hv
  have hS : va_S (sm_ad (sm_w7 D am P S T L nm Z cp ph th n2 fo rd np pw ev od rc wr)) s.heap s.heap [] := va_S.rf
  have hl : lv_has ls 5 [(0, .ref (am 0)), (1, .int x)] := hl
  refine lv_aload_n hx hb dX7_putDown_0 rfl (lv_at hl 0 rfl) ?_
  refine lv_iload_n hx hb dX7_putDown_1 rfl (lv_at hl 1 rfl) ?_
  refine lv_if_lt (tgt := 17) hx hb dX7_putDown_2 (by decide) (fun c_1 => ?_) (fun c_1 => ?_)
  · have c_1_ := c_1
    refine lv_iconst (v := 0) hx hb dX7_putDown_17 (by decide) ?_
    refine sm_cVCr (rest := []) hC hK hP hD hS hZ (c_X7_checked D am P S T L nm Z cp ph th n2 fo rd np pw ev od rc wr false) qyX7_checked wl_RX7_158 ⟨Nat.le_of_ble_eq_true rfl, Nat.le_of_ble_eq_true rfl⟩ 0 rfl rfl rfl hl.1 rfl (Nat.le_of_ble_eq_true rfl) dX7_putDown_18 ⟨Nat.le_of_ble_eq_true rfl, Nat.le_of_ble_eq_true rfl⟩ (fun w1 H locs hB hP hD hS => ?_)
    subst hB
    refine sm_re (y := 1) rfl ?_
    refine lv_if_le (tgt := 26) hx hb dX7_putDown_21 (by decide) (fun h => absurd h (by decide)) (fun _ => ?_)
    refine lv_iconst (v := 0) hx hb dX7_putDown_24 (by decide) ?_
    exact sm_retC hC hP hD hS (rfl) rfl (by exact rfl) dX7_putDown_25
  · have c_1_ := c_1
    refine lv_aload_n hx hb dX7_putDown_5 rfl (lv_at hl 0 rfl) ?_
    refine lv_iload_n hx hb dX7_putDown_6 rfl (lv_at hl 1 rfl) ?_
    refine sm_cVPr (rest := [.ref (am 0)]) hC hK hP (c_X7_placeOf_i D am P S T L nm Z cp ph th n2 fo rd np pw ev od rc wr x (hno.resolve_left c_1)) qyX7_placeOf wl_RX7_206 ⟨Nat.le_of_ble_eq_true rfl, Nat.le_of_ble_eq_true rfl⟩ 0 rfl rfl rfl hl.1 rfl (Nat.le_of_ble_eq_true rfl) dX7_putDown_7 ⟨Nat.le_of_ble_eq_true rfl, Nat.le_of_ble_eq_true rfl⟩ ?_
    refine sm_re (y := -1) rfl ?_
    refine lv_if_lt (tgt := 17) hx hb dX7_putDown_10 (by decide) (fun _ => ?_) (fun h => absurd h (by decide))
    refine lv_iconst (v := 0) hx hb dX7_putDown_17 (by decide) ?_
    refine sm_cVCr (rest := []) hC hK hP hD hS hZ (c_X7_checked D am P S T L nm Z cp ph th n2 fo rd np pw ev od rc wr false) qyX7_checked wl_RX7_158 ⟨Nat.le_of_ble_eq_true rfl, Nat.le_of_ble_eq_true rfl⟩ 0 rfl rfl rfl hl.1 rfl (Nat.le_of_ble_eq_true rfl) dX7_putDown_18 ⟨Nat.le_of_ble_eq_true rfl, Nat.le_of_ble_eq_true rfl⟩ (fun w1 H locs hB hP hD hS => ?_)
    subst hB
    refine sm_re (y := 1) rfl ?_
    refine lv_if_le (tgt := 26) hx hb dX7_putDown_21 (by decide) (fun h => absurd h (by decide)) (fun _ => ?_)
    refine lv_iconst (v := 0) hx hb dX7_putDown_24 (by decide) ?_
    exact sm_retC hC hP hD hS (rfl) rfl (by exact rfl) dX7_putDown_25

set_option maxHeartbeats 1000000 in
set_option maxRecDepth 100000 in
theorem c_X7_putDown (x : Int32) (hx0 : ¬ x < 0) (hfd : sm_plG Z.1 x 8 0 < 8) (hpw1 : 1 ≤ pw) (hP6 : P.1 ≤ 6) (hOK : ∀ i, i < P.1 → sm_kOK (P.2.1 i) (P.2.2 i)) (hTk : ∀ k, sm_kv (T.1 k)) : sm_MC l yX7_putDown cX7_putDown 5 (some .int) 4 91 [.ref (am 0), .int x] D (sm_w7 D am P S T L nm Z cp ph th n2 fo rd np pw ev od rc wr) (fun w => ∃ (cp' : sm_Cp), w = sm_w7 D am P S ((sm_pmG P Z (sm_plG Z.1 x 8 0) 40 0 T 0).1) L nm (va_up Z.1 (sm_plG Z.1 x 8 0) (-1), Z.2) (cp') ph 0 n2 fo rd np (pw - 1) ev od rc wr) (some (.int (nI ((sm_pmG P Z (sm_plG Z.1 x 8 0) 40 0 T 0).2)))) := by
  refine sm_met (own := RX7) (by decide) rfl (Nat.le_of_ble_eq_true rfl) ?_
  intro p e s m below meth c ls hC hv hl
  obtain ⟨hx, hb, hml, hr, hown, hlk, hts⟩ := id hC
  obtain ⟨⟨hP, hK⟩, hD, hZ⟩ := hv
  have hS : va_S (sm_ad (sm_w7 D am P S T L nm Z cp ph th n2 fo rd np pw ev od rc wr)) s.heap s.heap [] := va_S.rf
  have hl : lv_has ls 5 [(0, .ref (am 0)), (1, .int x)] := hl
  refine lv_aload_n hx hb dX7_putDown_0 rfl (lv_at hl 0 rfl) ?_
  refine lv_iload_n hx hb dX7_putDown_1 rfl (lv_at hl 1 rfl) ?_
  refine lv_if_lt (tgt := 17) hx hb dX7_putDown_2 (by decide) (fun h => absurd h (hx0)) (fun _ => ?_)
  refine lv_aload_n hx hb dX7_putDown_5 rfl (lv_at hl 0 rfl) ?_
  refine lv_iload_n hx hb dX7_putDown_6 rfl (lv_at hl 1 rfl) ?_
  refine sm_cVPr (rest := [.ref (am 0)]) hC hK hP (c_X7_placeOf D am P S T L nm Z cp ph th n2 fo rd np pw ev od rc wr x hfd) qyX7_placeOf wl_RX7_206 ⟨Nat.le_of_ble_eq_true rfl, Nat.le_of_ble_eq_true rfl⟩ 0 rfl rfl rfl hl.1 rfl (Nat.le_of_ble_eq_true rfl) dX7_putDown_7 ⟨Nat.le_of_ble_eq_true rfl, Nat.le_of_ble_eq_true rfl⟩ ?_
  refine lv_if_lt (tgt := 17) hx hb dX7_putDown_10 (by decide) (fun h => absurd h (fun z => absurd (sm_Nlt (a := sm_plG Z.1 x 8 0) (b := 0) z (by omega) (by omega)) (Nat.not_lt_zero _))) (fun _ => ?_)
  refine lv_iconst (v := 1) hx hb dX7_putDown_13 (by decide) ?_
  refine lv_goto (tgt := 18) hx hb dX7_putDown_14 (by decide) ?_
  refine sm_cVCr (rest := []) hC hK hP hD hS hZ (c_X7_checked D am P S T L nm Z cp ph th n2 fo rd np pw ev od rc wr true) qyX7_checked wl_RX7_158 ⟨Nat.le_of_ble_eq_true rfl, Nat.le_of_ble_eq_true rfl⟩ 0 rfl rfl rfl hl.1 rfl (Nat.le_of_ble_eq_true rfl) dX7_putDown_18 ⟨Nat.le_of_ble_eq_true rfl, Nat.le_of_ble_eq_true rfl⟩ (fun w1 H locs hB hP hD hS => ?_)
  subst hB
  refine sm_re (y := 0) rfl ?_
  refine lv_if_le (tgt := 26) hx hb dX7_putDown_21 (by decide) (fun _ => ?_) (fun h => absurd h (by decide))
  refine lv_aload_n hx hb dX7_putDown_26 rfl (lv_at hl 0 rfl) ?_
  refine lv_iload_n hx hb dX7_putDown_27 rfl (lv_at hl 1 rfl) ?_
  refine sm_cVPr (rest := []) hC hK hP (c_X7_placeOf D am P S T L nm Z cp ph 0 n2 fo rd np pw ev od rc wr x hfd) qyX7_placeOf wl_RX7_206 ⟨Nat.le_of_ble_eq_true rfl, Nat.le_of_ble_eq_true rfl⟩ 0 rfl rfl rfl hl.1 rfl (Nat.le_of_ble_eq_true rfl) dX7_putDown_28 ⟨Nat.le_of_ble_eq_true rfl, Nat.le_of_ble_eq_true rfl⟩ ?_
  refine lv_istore_n (lv' := [(2, .int (nI (sm_plG Z.1 x 8 0))), (0, .ref (am 0)), (1, .int x)]) hx hb dX7_putDown_31 rfl hl (by decide) rfl (fun ls hl => ?_)
  refine lv_iconst (v := 0) hx hb dX7_putDown_32 (by decide) ?_
  refine lv_istore_n (lv' := [(3, .int 0), (2, .int (nI (sm_plG Z.1 x 8 0))), (0, .ref (am 0)), (1, .int x)]) hx hb dX7_putDown_33 rfl hl (by decide) rfl (fun ls hl => ?_)
  refine lv_iconst (v := 0) hx hb dX7_putDown_34 (by decide) ?_
  refine lv_istore (lv' := [(4, .int 0), (3, .int 0), (2, .int (nI (sm_plG Z.1 x 8 0))), (0, .ref (am 0)), (1, .int x)]) hx hb dX7_putDown_35 hl (by decide) rfl (fun ls hl => ?_)
  suffices K : ∀ (n : Nat) (i : Nat) (t : sm_Tg) (q : Nat) (r : sm_Cp) (H : Heap) (locs : List Loc) (ls : Array Slot), 40 - i = n → (i ≤ 40) → (∀ k, sm_kv (t.1 k)) → (sm_pmG P Z (sm_plG Z.1 x 8 0) (40 - i) i t q = sm_pmG P Z (sm_plG Z.1 x 8 0) 40 0 T 0) → va_P D.1 sm_cl (sm_w7 D am P S t L nm Z r ph 0 n2 fo rd np pw ev od rc wr) H → va_D (sm_ad (sm_w7 D am P S T L nm Z cp ph th n2 fo rd np pw ev od rc wr)) (sm_w7 D am P S t L nm Z r ph 0 n2 fo rd np pw ev od rc wr) → va_S (sm_ad (sm_w7 D am P S T L nm Z cp ph th n2 fo rd np pw ev od rc wr)) s.heap H locs → lv_has ls 5 [(0, .ref (am 0)), (1, .int x), (2, .int (nI (sm_plG Z.1 x 8 0))), (3, .int (nI q)), (4, .int (nI i))] → W p l e ({ frames := 4, cells := 0, slots := 0, locals := 91 } : Room) s m ([.ref (am 0), .int x] : List Value).toArray below meth c H locs 0 0 (MQ below (sm_Qc D (sm_w7 D am P S T L nm Z cp ph th n2 fo rd np pw ev od rc wr) (fun w => ∃ (cp' : sm_Cp), w = sm_w7 D am P S ((sm_pmG P Z (sm_plG Z.1 x 8 0) 40 0 T 0).1) L nm (va_up Z.1 (sm_plG Z.1 x 8 0) (-1), Z.2) (cp') ph 0 n2 fo rd np (pw - 1) ev od rc wr) (some (.int (nI ((sm_pmG P Z (sm_plG Z.1 x 8 0) 40 0 T 0).2))))) ([.ref (am 0), .int x] : List Value).toArray s 0 0 (sm_ad (sm_w7 D am P S T L nm Z cp ph th n2 fo rd np pw ev od rc wr))) (F0 m 37 ls []) from K _ 0 T 0 cp _ _ ls rfl (by omega) (hTk) (rfl) hP hD hS (lv_sub hl [3, 4, 2, 1, 0] rfl)
  intro n
  induction n using Nat.strongRecOn with
  | ind n ih =>
    intro i t q r H locs ls hn hi htt hR hP hD hS hl
    refine lv_iload hx hb dX7_putDown_37 (lv_at hl 4 rfl) ?_
    refine lv_bipush (v := 40) hx hb dX7_putDown_39 (by decide) ?_
    refine lv_icmp_ge (tgt := 107) hx hb dX7_putDown_41 (by decide) (fun c_1 => ?_) (fun c_1 => ?_)
    · have c_1 := sm_Nnl (a := i) (b := 40) (sm_nl c_1) (by omega) (by omega)
      refine lv_aload_n hx hb dX7_putDown_107 rfl (lv_at hl 0 rfl) ?_
      refine sm_gt (ci := 7) (C := RX7) (T := TX7) (N := 33) hx hb hts inlX7 hown hK hP 0 rfl rfl 13 (by decide) wf_RX7_51 rfl dX7_putDown_108 ?_
      refine lv_iload_n hx hb dX7_putDown_111 rfl (lv_at hl 2 rfl) ?_
      refine lv_iconst (v := -1) hx hb dX7_putDown_112 (by decide) ?_
      refine sm_ist hx hb hK hP hD hS 14 rfl (sm_plG Z.1 x 8 0) rfl (by omega) (by decide) dX7_putDown_113 (fun H locs hP hD hS => ?_)
      have hP : va_P D.1 sm_cl (sm_w7 D am P S t L nm (va_up Z.1 (sm_plG Z.1 x 8 0) (-1), Z.2) r ph 0 n2 fo rd np pw ev od rc wr) H := hP
      have hD : va_D (sm_ad (sm_w7 D am P S T L nm Z cp ph th n2 fo rd np pw ev od rc wr)) (sm_w7 D am P S t L nm (va_up Z.1 (sm_plG Z.1 x 8 0) (-1), Z.2) r ph 0 n2 fo rd np pw ev od rc wr) := hD
      refine lv_aload_n hx hb dX7_putDown_114 rfl (lv_at hl 0 rfl) ?_
      refine lv_dup hx hb dX7_putDown_115 rfl ?_
      refine sm_gt (ci := 7) (C := RX7) (T := TX7) (N := 33) hx hb hts inlX7 hown hK hP 0 rfl rfl 26 (by decide) wf_RX7_91 rfl dX7_putDown_116 ?_
      refine lv_iconst (v := 1) hx hb dX7_putDown_119 (by decide) ?_
      refine lv_isub hx hb dX7_putDown_120 ?_
      refine sm_re (y := nI (pw - 1)) (pk_sub (a := pw) (b := 1) (by omega)) ?_
      refine sm_pt (ci := 7) (C := RX7) (T := TX7) (N := 33) hx hb hts inlX7 tyX7 tyX7_ok nmX7 hown hK hP hD hS 0 rfl rfl 26 (by decide) wf_RX7_91 rfl rfl rfl (Nat.le_of_ble_eq_true rfl) dX7_putDown_121 (fun H locs hP hD hS => ?_)
      have hP : va_P D.1 sm_cl (sm_w7 D am P S t L nm (va_up Z.1 (sm_plG Z.1 x 8 0) (-1), Z.2) r ph 0 n2 fo rd np (pw - 1) ev od rc wr) H := hP
      have hD : va_D (sm_ad (sm_w7 D am P S T L nm Z cp ph th n2 fo rd np pw ev od rc wr)) (sm_w7 D am P S t L nm (va_up Z.1 (sm_plG Z.1 x 8 0) (-1), Z.2) r ph 0 n2 fo rd np (pw - 1) ev od rc wr) := hD
      refine lv_iload_n hx hb dX7_putDown_124 rfl (lv_at hl 3 rfl) ?_
      exact sm_retC hC hP hD hS (by rw [show 40 - i = 0 by omega] at hR; have h1 : t = _ := congrArg Prod.fst hR; have h2 : q = _ := congrArg Prod.snd hR; rw [h2]) rfl (by exact ⟨r, by rw [show 40 - i = 0 by omega] at hR; have h1 : t = _ := congrArg Prod.fst hR; have h2 : q = _ := congrArg Prod.snd hR; rw [h1]⟩) dX7_putDown_125
    · have c_1 := sm_Nlt (a := i) (b := 40) (sm_nle c_1) (by omega) (by omega)
      refine lv_aload_n hx hb dX7_putDown_44 rfl (lv_at hl 0 rfl) ?_
      refine sm_gt (ci := 7) (C := RX7) (T := TX7) (N := 33) hx hb hts inlX7 hown hK hP 0 rfl rfl 18 (by decide) wf_RX7_66 rfl dX7_putDown_45 ?_
      refine lv_bipush (v := 40) hx hb dX7_putDown_48 (by decide) ?_
      refine lv_iload_n hx hb dX7_putDown_50 rfl (lv_at hl 2 rfl) ?_
      refine lv_imul hx hb dX7_putDown_51 ?_
      refine sm_re (y := nI (40 * (sm_plG Z.1 x 8 0))) (pk_mul 40 (sm_plG Z.1 x 8 0)) ?_
      refine lv_iload hx hb dX7_putDown_52 (lv_at hl 4 rfl) ?_
      refine lv_iadd hx hb dX7_putDown_54 ?_
      refine sm_re (y := nI (40 * (sm_plG Z.1 x 8 0) + i)) (nI_add (40 * (sm_plG Z.1 x 8 0)) i) ?_
      refine sm_zld hx hb hK hP 19 rfl (40 * (sm_plG Z.1 x 8 0) + i) rfl (by omega) (by decide) dX7_putDown_55 ?_
      refine lv_if_eq (tgt := 101) hx hb dX7_putDown_56 (by decide) (fun c_2 => ?_) (fun c_2 => ?_)
      · have c_2 := sm_b0 c_2
        refine lv_iinc (v := nI (i + 1)) (lv' := [(4, .int (nI (i + 1))), (0, .ref (am 0)), (1, .int x), (2, .int (nI (sm_plG Z.1 x 8 0))), (3, .int (nI q))]) hx hb dX7_putDown_101 hl (k := 4) rfl (nI_1 i) (by decide) rfl (fun ls hl => ?_)
        refine lv_goto (tgt := 37) hx hb dX7_putDown_104 (by decide) ?_
        exact ih _ (by omega) (i + 1) t q r _ _ ls rfl (by omega) (htt) (by rw [sm_pmS (by omega), if_neg (by rw [c_2]; decide)] at hR; exact hR) hP hD hS (lv_sub hl [1, 2, 3, 4, 0] rfl)
      · have c_2 := sm_b1 c_2
        refine lv_aload_n hx hb dX7_putDown_59 rfl (lv_at hl 0 rfl) ?_
        refine lv_iload hx hb dX7_putDown_60 (lv_at hl 4 rfl) ?_
        refine lv_aload_n hx hb dX7_putDown_62 rfl (lv_at hl 0 rfl) ?_
        refine sm_gt (ci := 7) (C := RX7) (T := TX7) (N := 33) hx hb hts inlX7 hown hK hP 0 rfl rfl 15 (by decide) wf_RX7_57 rfl dX7_putDown_63 ?_
        refine lv_bipush (v := 40) hx hb dX7_putDown_66 (by decide) ?_
        refine lv_iload_n hx hb dX7_putDown_68 rfl (lv_at hl 2 rfl) ?_
        refine lv_imul hx hb dX7_putDown_69 ?_
        refine sm_re (y := nI (40 * (sm_plG Z.1 x 8 0))) (pk_mul 40 (sm_plG Z.1 x 8 0)) ?_
        refine lv_iload hx hb dX7_putDown_70 (lv_at hl 4 rfl) ?_
        refine lv_iadd hx hb dX7_putDown_72 ?_
        refine sm_re (y := nI (40 * (sm_plG Z.1 x 8 0) + i)) (nI_add (40 * (sm_plG Z.1 x 8 0)) i) ?_
        refine sm_ild hx hb hK hP 16 rfl (40 * (sm_plG Z.1 x 8 0) + i) rfl (by omega) (by decide) dX7_putDown_73 ?_
        refine lv_aload_n hx hb dX7_putDown_74 rfl (lv_at hl 0 rfl) ?_
        refine sm_gt (ci := 7) (C := RX7) (T := TX7) (N := 33) hx hb hts inlX7 hown hK hP 0 rfl rfl 16 (by decide) wf_RX7_60 rfl dX7_putDown_75 ?_
        refine lv_bipush (v := 40) hx hb dX7_putDown_78 (by decide) ?_
        refine lv_iload_n hx hb dX7_putDown_80 rfl (lv_at hl 2 rfl) ?_
        refine lv_imul hx hb dX7_putDown_81 ?_
        refine sm_re (y := nI (40 * (sm_plG Z.1 x 8 0))) (pk_mul 40 (sm_plG Z.1 x 8 0)) ?_
        refine lv_iload hx hb dX7_putDown_82 (lv_at hl 4 rfl) ?_
        refine lv_iadd hx hb dX7_putDown_84 ?_
        refine sm_re (y := nI (40 * (sm_plG Z.1 x 8 0) + i)) (nI_add (40 * (sm_plG Z.1 x 8 0)) i) ?_
        refine sm_ild hx hb hK hP 17 rfl (40 * (sm_plG Z.1 x 8 0) + i) rfl (by omega) (by decide) dX7_putDown_85 ?_
        refine lv_aload_n hx hb dX7_putDown_86 rfl (lv_at hl 0 rfl) ?_
        refine sm_gt (ci := 7) (C := RX7) (T := TX7) (N := 33) hx hb hts inlX7 hown hK hP 0 rfl rfl 14 (by decide) wf_RX7_54 rfl dX7_putDown_87 ?_
        refine lv_iload_n hx hb dX7_putDown_90 rfl (lv_at hl 2 rfl) ?_
        refine sm_ild hx hb hK hP 15 rfl (sm_plG Z.1 x 8 0) rfl (by omega) (by decide) dX7_putDown_91 ?_
        refine sm_cVCr (rest := []) hC hK hP hD hS hZ (c_X7_puts D am P S t L nm Z r ph 0 n2 fo rd np pw ev od rc wr i (by omega) (Z.2.2.1 (40 * (sm_plG Z.1 x 8 0) + i)) (Z.2.2.2.1 (40 * (sm_plG Z.1 x 8 0) + i)) (Z.2.1 (sm_plG Z.1 x 8 0)) hP6 hOK htt) qyX7_puts wl_RX7_151 ⟨Nat.le_of_ble_eq_true rfl, Nat.le_of_ble_eq_true rfl⟩ 0 rfl rfl rfl hl.1 rfl (Nat.le_of_ble_eq_true rfl) dX7_putDown_92 ⟨Nat.le_of_ble_eq_true rfl, Nat.le_of_ble_eq_true rfl⟩ (fun w1 H locs hB hP hD hS => ?_)
        obtain ⟨cp_3, rfl⟩ := hB
        refine lv_if_eq (tgt := 101) hx hb dX7_putDown_95 (by decide) (fun c_4 => ?_) (fun c_4 => ?_)
        · have c_4 := sm_b0 c_4
          refine lv_iinc (v := nI (i + 1)) (lv' := [(4, .int (nI (i + 1))), (0, .ref (am 0)), (1, .int x), (2, .int (nI (sm_plG Z.1 x 8 0))), (3, .int (nI q))]) hx hb dX7_putDown_101 hl (k := 4) rfl (nI_1 i) (by decide) rfl (fun ls hl => ?_)
          refine lv_goto (tgt := 37) hx hb dX7_putDown_104 (by decide) ?_
          exact ih _ (by omega) (i + 1) (sm_prM P t i (Z.2.2.1 (40 * sm_plG Z.1 x 8 0 + i)) (Z.2.2.2.1 (40 * sm_plG Z.1 x 8 0 + i)) (Z.2.1 (sm_plG Z.1 x 8 0))) q cp_3 _ _ ls rfl (by omega) (sm_kvP htt) (by rw [sm_pmS (by omega), if_pos c_2, if_neg (by rw [c_4]; decide)] at hR; exact hR) hP hD hS (lv_sub hl [1, 2, 3, 4, 0] rfl)
        · have c_4 := sm_b1 c_4
          refine lv_iinc (v := nI (q + 1)) (lv' := [(3, .int (nI (q + 1))), (0, .ref (am 0)), (1, .int x), (2, .int (nI (sm_plG Z.1 x 8 0))), (4, .int (nI i))]) hx hb dX7_putDown_98 hl (k := 3) rfl (nI_1 q) (by decide) rfl (fun ls hl => ?_)
          refine lv_iinc (v := nI (i + 1)) (lv' := [(4, .int (nI (i + 1))), (3, .int (nI (q + 1))), (0, .ref (am 0)), (1, .int x), (2, .int (nI (sm_plG Z.1 x 8 0)))]) hx hb dX7_putDown_101 hl (k := 4) rfl (nI_1 i) (by decide) rfl (fun ls hl => ?_)
          refine lv_goto (tgt := 37) hx hb dX7_putDown_104 (by decide) ?_
          exact ih _ (by omega) (i + 1) (sm_prM P t i (Z.2.2.1 (40 * sm_plG Z.1 x 8 0 + i)) (Z.2.2.2.1 (40 * sm_plG Z.1 x 8 0 + i)) (Z.2.1 (sm_plG Z.1 x 8 0))) (q + 1) cp_3 _ _ ls rfl (by omega) (sm_kvP htt) (by rw [sm_pmS (by omega), if_pos c_2, if_pos c_4] at hR; exact hR) hP hD hS (lv_sub hl [2, 3, 4, 1, 0] rfl)

set_option maxHeartbeats 1000000 in
set_option maxRecDepth 100000 in
theorem c_X7_follow_i (x : Int32) (hbk : sm_bt 1 120 x = false) : sm_MC l yX7_follow cX7_follow 3 (some .int) 5 112 [.ref (am 0), .int x] D (sm_w7 D am P S T L nm Z cp ph th n2 fo rd np pw ev od rc wr) (fun w => w = sm_w7 D am P S T L nm Z cp ph 1 n2 fo rd np pw ev od rc wr) (some (.int 0)) := by
  refine sm_met (own := RX7) (by decide) rfl (Nat.le_of_ble_eq_true rfl) ?_
  intro p e s m below meth c ls hC hv hl
  obtain ⟨hx, hb, hml, hr, hown, hlk, hts⟩ := id hC
  obtain ⟨⟨hP, hK⟩, hD, hZ⟩ := hv
  have hS : va_S (sm_ad (sm_w7 D am P S T L nm Z cp ph th n2 fo rd np pw ev od rc wr)) s.heap s.heap [] := va_S.rf
  have hl : lv_has ls 3 [(0, .ref (am 0)), (1, .int x)] := hl
  refine lv_aload_n hx hb dX7_follow_0 rfl (lv_at hl 0 rfl) ?_
  refine lv_iload_n hx hb dX7_follow_1 rfl (lv_at hl 1 rfl) ?_
  refine lv_iconst (v := 1) hx hb dX7_follow_2 (by decide) ?_
  refine lv_bipush (v := 120) hx hb dX7_follow_3 (by decide) ?_
  refine sm_cSPr (rest := [.ref (am 0)]) hC hK hP (c_X7_in D am P S T L nm Z cp ph th n2 fo rd np pw ev od rc wr x 1 120) qyX7_in wl_RX7_113 ⟨Nat.le_of_ble_eq_true rfl, Nat.le_of_ble_eq_true rfl⟩ rfl hl.1 rfl (Nat.le_of_ble_eq_true rfl) dX7_follow_5 ⟨Nat.le_of_ble_eq_true rfl, Nat.le_of_ble_eq_true rfl⟩ ?_
  refine sm_re (y := sm_b false) (congrArg sm_b hbk) ?_
  refine lv_if_ne (tgt := 15) hx hb dX7_follow_8 (by decide) (fun h => absurd h (by decide)) (fun _ => ?_)
  refine lv_iconst (v := 1) hx hb dX7_follow_11 (by decide) ?_
  refine lv_goto (tgt := 29) hx hb dX7_follow_12 (by decide) ?_
  refine sm_pt (ci := 7) (C := RX7) (T := TX7) (N := 33) hx hb hts inlX7 tyX7 tyX7_ok nmX7 hown hK hP hD hS 0 rfl rfl 19 (by decide) wf_RX7_69 rfl rfl rfl (Nat.le_of_ble_eq_true rfl) dX7_follow_29 (fun H locs hP hD hS => ?_)
  have hP : va_P D.1 sm_cl (sm_w7 D am P S T L nm Z cp ph 1 n2 fo rd np pw ev od rc wr) H := hP
  have hD : va_D (sm_ad (sm_w7 D am P S T L nm Z cp ph th n2 fo rd np pw ev od rc wr)) (sm_w7 D am P S T L nm Z cp ph 1 n2 fo rd np pw ev od rc wr) := hD
  refine lv_aload_n hx hb dX7_follow_32 rfl (lv_at hl 0 rfl) ?_
  refine sm_gt (ci := 7) (C := RX7) (T := TX7) (N := 33) hx hb hts inlX7 hown hK hP 0 rfl rfl 19 (by decide) wf_RX7_69 rfl dX7_follow_33 ?_
  refine lv_if_le (tgt := 41) hx hb dX7_follow_36 (by decide) (fun h => absurd h (by decide)) (fun _ => ?_)
  refine lv_iconst (v := 0) hx hb dX7_follow_39 (by decide) ?_
  exact sm_retC hC hP hD hS (rfl) rfl (by exact rfl) dX7_follow_40

set_option maxHeartbeats 1000000 in
set_option maxRecDepth 100000 in
theorem c_X7_follow (k : Nat) (hk1 : ¬ k < 1) (hk2 : ¬ 120 < k) (hfo : fo ≤ L.1) (hL : L.1 ≤ 120) (hLk : ∀ i, L.2.1 i < 40) (hP6 : P.1 ≤ 6) (hOK : ∀ i, i < P.1 → sm_kOK (P.2.1 i) (P.2.2 i)) (hTk : ∀ k, sm_kv (T.1 k)) : sm_MC l yX7_follow cX7_follow 3 (some .int) 5 112 [.ref (am 0), .int (nI k)] D (sm_w7 D am P S T L nm Z cp ph th n2 fo rd np pw ev od rc wr) (fun w => ∃ (cp' : sm_Cp), w = sm_w7 D am P S (if sm_kFl ph = 0 then sm_fMG P L (min k (L.1 - fo)) T fo else T) L nm Z (cp') ph (sm_kFl ph) n2 (if sm_kFl ph = 0 then fo + min k (L.1 - fo) else fo) rd np pw ev od rc wr) (some (.int (if sm_kFl ph = 0 then nI (min k (L.1 - fo)) else 0))) := by
  refine sm_met (own := RX7) (by decide) rfl (Nat.le_of_ble_eq_true rfl) ?_
  intro p e s m below meth c ls hC hv hl
  obtain ⟨hx, hb, hml, hr, hown, hlk, hts⟩ := id hC
  obtain ⟨⟨hP, hK⟩, hD, hZ⟩ := hv
  have hS : va_S (sm_ad (sm_w7 D am P S T L nm Z cp ph th n2 fo rd np pw ev od rc wr)) s.heap s.heap [] := va_S.rf
  have hl : lv_has ls 3 [(0, .ref (am 0)), (1, .int (nI k))] := hl
  have hbt : sm_btN 1 120 k = true := by rw [sm_btN, if_neg (by omega), if_neg (by omega)]
  refine lv_aload_n hx hb dX7_follow_0 rfl (lv_at hl 0 rfl) ?_
  refine lv_iload_n hx hb dX7_follow_1 rfl (lv_at hl 1 rfl) ?_
  refine lv_iconst (v := 1) hx hb dX7_follow_2 (by decide) ?_
  refine lv_bipush (v := 120) hx hb dX7_follow_3 (by decide) ?_
  refine sm_cSPr (rest := [.ref (am 0)]) hC hK hP (c_X7_in_n D am P S T L nm Z cp ph th n2 fo rd np pw ev od rc wr k 1 120 (by first | omega | exact hLk _) (by first | omega | exact hLk _) (by first | omega | exact hLk _)) qyX7_in wl_RX7_113 ⟨Nat.le_of_ble_eq_true rfl, Nat.le_of_ble_eq_true rfl⟩ rfl hl.1 rfl (Nat.le_of_ble_eq_true rfl) dX7_follow_5 ⟨Nat.le_of_ble_eq_true rfl, Nat.le_of_ble_eq_true rfl⟩ ?_
  refine sm_re (y := sm_b true) (congrArg sm_b hbt) ?_
  refine lv_if_ne (tgt := 15) hx hb dX7_follow_8 (by decide) (fun _ => ?_) (fun h => absurd h (by decide))
  refine lv_aload_n hx hb dX7_follow_15 rfl (lv_at hl 0 rfl) ?_
  refine sm_gt (ci := 7) (C := RX7) (T := TX7) (N := 33) hx hb hts inlX7 hown hK hP 0 rfl rfl 32 (by decide) wf_RX7_109 rfl dX7_follow_16 ?_
  refine lv_bipush (v := 99) hx hb dX7_follow_19 (by decide) ?_
  refine lv_icmp_eq (tgt := 28) hx hb dX7_follow_21 (by decide) (fun c_1 => ?_) (fun c_1 => ?_)
  · have c_1_ := c_1
    refine lv_iconst (v := 0) hx hb dX7_follow_28 (by decide) ?_
    refine sm_pt (ci := 7) (C := RX7) (T := TX7) (N := 33) hx hb hts inlX7 tyX7 tyX7_ok nmX7 hown hK hP hD hS 0 rfl rfl 19 (by decide) wf_RX7_69 rfl rfl rfl (Nat.le_of_ble_eq_true rfl) dX7_follow_29 (fun H locs hP hD hS => ?_)
    have hP : va_P D.1 sm_cl (sm_w7 D am P S T L nm Z cp ph 0 n2 fo rd np pw ev od rc wr) H := hP
    have hD : va_D (sm_ad (sm_w7 D am P S T L nm Z cp ph th n2 fo rd np pw ev od rc wr)) (sm_w7 D am P S T L nm Z cp ph 0 n2 fo rd np pw ev od rc wr) := hD
    refine lv_aload_n hx hb dX7_follow_32 rfl (lv_at hl 0 rfl) ?_
    refine sm_gt (ci := 7) (C := RX7) (T := TX7) (N := 33) hx hb hts inlX7 hown hK hP 0 rfl rfl 19 (by decide) wf_RX7_69 rfl dX7_follow_33 ?_
    refine lv_if_le (tgt := 41) hx hb dX7_follow_36 (by decide) (fun _ => ?_) (fun h => absurd h (by decide))
    refine lv_iconst (v := 0) hx hb dX7_follow_41 (by decide) ?_
    refine lv_istore_n (lv' := [(2, .int 0), (0, .ref (am 0)), (1, .int (nI k))]) hx hb dX7_follow_42 rfl hl (by decide) rfl (fun ls hl => ?_)
    suffices K : ∀ (n : Nat) (i : Nat) (t : sm_Tg) (q : sm_Cp) (H : Heap) (locs : List Loc) (ls : Array Slot), min k (L.1 - fo) - i = n → (i ≤ min k (L.1 - fo)) → (∀ k, sm_kv (t.1 k)) → (sm_fMG P L (min k (L.1 - fo) - i) t (fo + i) = sm_fMG P L (min k (L.1 - fo)) T fo) → va_P D.1 sm_cl (sm_w7 D am P S t L nm Z q ph 0 n2 (fo + i) rd np pw ev od rc wr) H → va_D (sm_ad (sm_w7 D am P S T L nm Z cp ph th n2 fo rd np pw ev od rc wr)) (sm_w7 D am P S t L nm Z q ph 0 n2 (fo + i) rd np pw ev od rc wr) → va_S (sm_ad (sm_w7 D am P S T L nm Z cp ph th n2 fo rd np pw ev od rc wr)) s.heap H locs → lv_has ls 3 [(0, .ref (am 0)), (1, .int (nI k)), (2, .int (nI i))] → W p l e ({ frames := 5, cells := 0, slots := 0, locals := 112 } : Room) s m ([.ref (am 0), .int (nI k)] : List Value).toArray below meth c H locs 0 0 (MQ below (sm_Qc D (sm_w7 D am P S T L nm Z cp ph th n2 fo rd np pw ev od rc wr) (fun w => ∃ (cp' : sm_Cp), w = sm_w7 D am P S (if sm_kFl ph = 0 then sm_fMG P L (min k (L.1 - fo)) T fo else T) L nm Z (cp') ph (sm_kFl ph) n2 (if sm_kFl ph = 0 then fo + min k (L.1 - fo) else fo) rd np pw ev od rc wr) (some (.int (if sm_kFl ph = 0 then nI (min k (L.1 - fo)) else 0)))) ([.ref (am 0), .int (nI k)] : List Value).toArray s 0 0 (sm_ad (sm_w7 D am P S T L nm Z cp ph th n2 fo rd np pw ev od rc wr))) (F0 m 43 ls []) from K _ 0 T cp _ _ ls rfl (by omega) (hTk) (rfl) hP hD hS (lv_sub hl [1, 2, 0] rfl)
    intro n
    induction n using Nat.strongRecOn with
    | ind n ih =>
      intro i t q H locs ls hn hi hTt hR hP hD hS hl
      refine lv_iload_n hx hb dX7_follow_43 rfl (lv_at hl 2 rfl) ?_
      refine lv_iload_n hx hb dX7_follow_44 rfl (lv_at hl 1 rfl) ?_
      refine lv_icmp_ge (tgt := 69) hx hb dX7_follow_45 (by decide) (fun c_2 => ?_) (fun c_2 => ?_)
      · have c_2 := sm_Nnl (a := i) (b := k) (sm_nl c_2) (by omega) (by omega)
        refine lv_iload_n hx hb dX7_follow_69 rfl (lv_at hl 2 rfl) ?_
        exact sm_retC hC hP hD hS (by have e : i = min k (L.1 - fo) := (by omega); rw [e]; subst c_1; simp [sm_kFl, sm_k1]) rfl (by have e : i = min k (L.1 - fo) := (by omega); rw [show min k (L.1 - fo) - i = 0 by omega] at hR; have hR : t = _ := hR; exact ⟨q, by rw [hR, e]; subst c_1; simp [sm_kFl, sm_k1]⟩) dX7_follow_70
      · have c_2 := sm_Nlt (a := i) (b := k) (sm_nle c_2) (by omega) (by omega)
        refine lv_aload_n hx hb dX7_follow_48 rfl (lv_at hl 0 rfl) ?_
        refine sm_gt (ci := 7) (C := RX7) (T := TX7) (N := 33) hx hb hts inlX7 hown hK hP 0 rfl rfl 22 (by decide) wf_RX7_79 rfl dX7_follow_49 ?_
        refine lv_aload_n hx hb dX7_follow_52 rfl (lv_at hl 0 rfl) ?_
        refine sm_gt (ci := 7) (C := RX7) (T := TX7) (N := 33) hx hb hts inlX7 hown hK hP 0 rfl rfl 21 (by decide) wf_RX7_76 rfl dX7_follow_53 ?_
        refine lv_icmp_ge (tgt := 69) hx hb dX7_follow_56 (by decide) (fun c_3 => ?_) (fun c_3 => ?_)
        · have c_3 := sm_Nnl (a := (fo + i)) (b := L.1) (sm_nl c_3) (by omega) (by omega)
          refine lv_iload_n hx hb dX7_follow_69 rfl (lv_at hl 2 rfl) ?_
          exact sm_retC hC hP hD hS (by have e : i = min k (L.1 - fo) := (by omega); rw [e]; subst c_1; simp [sm_kFl, sm_k1]) rfl (by have e : i = min k (L.1 - fo) := (by omega); rw [show min k (L.1 - fo) - i = 0 by omega] at hR; have hR : t = _ := hR; exact ⟨q, by rw [hR, e]; subst c_1; simp [sm_kFl, sm_k1]⟩) dX7_follow_70
        · have c_3 := sm_Nlt (a := (fo + i)) (b := L.1) (sm_nle c_3) (by omega) (by omega)
          refine lv_aload_n hx hb dX7_follow_59 rfl (lv_at hl 0 rfl) ?_
          refine sm_cVC (rest := []) hC hK hP hD hS hZ (c_X7_followsOne D am P S t L nm Z q ph 0 n2 (fo + i) rd np pw ev od rc wr (by first | omega | exact hLk _) hL hLk hP6 hOK hTt) qyX7_followsOne wl_RX7_155 ⟨Nat.le_of_ble_eq_true rfl, Nat.le_of_ble_eq_true rfl⟩ 0 rfl rfl rfl hl.1 rfl (Nat.le_of_ble_eq_true rfl) dX7_follow_60 ⟨Nat.le_of_ble_eq_true rfl, Nat.le_of_ble_eq_true rfl⟩ (fun w1 H locs hB hP hD hS => ?_)
          obtain ⟨cp_4, rfl⟩ := hB
          refine lv_iinc (v := nI (i + 1)) (lv' := [(2, .int (nI (i + 1))), (0, .ref (am 0)), (1, .int (nI k))]) hx hb dX7_follow_63 hl (k := 2) rfl (nI_1 i) (by decide) rfl (fun ls hl => ?_)
          refine lv_goto (tgt := 43) hx hb dX7_follow_66 (by decide) ?_
          exact ih _ (by omega) (i + 1) (sm_fM1 P L t (fo + i)) cp_4 _ _ ls rfl (by omega) (sm_kvM hTt) (by rw [sm_fMT (by omega)] at hR; exact hR) hP hD hS (lv_sub hl [1, 2, 0] rfl)
  · have c_1_ := c_1
    refine lv_iconst (v := 2) hx hb dX7_follow_24 (by decide) ?_
    refine lv_goto (tgt := 29) hx hb dX7_follow_25 (by decide) ?_
    refine sm_pt (ci := 7) (C := RX7) (T := TX7) (N := 33) hx hb hts inlX7 tyX7 tyX7_ok nmX7 hown hK hP hD hS 0 rfl rfl 19 (by decide) wf_RX7_69 rfl rfl rfl (Nat.le_of_ble_eq_true rfl) dX7_follow_29 (fun H locs hP hD hS => ?_)
    have hP : va_P D.1 sm_cl (sm_w7 D am P S T L nm Z cp ph 2 n2 fo rd np pw ev od rc wr) H := hP
    have hD : va_D (sm_ad (sm_w7 D am P S T L nm Z cp ph th n2 fo rd np pw ev od rc wr)) (sm_w7 D am P S T L nm Z cp ph 2 n2 fo rd np pw ev od rc wr) := hD
    refine lv_aload_n hx hb dX7_follow_32 rfl (lv_at hl 0 rfl) ?_
    refine sm_gt (ci := 7) (C := RX7) (T := TX7) (N := 33) hx hb hts inlX7 hown hK hP 0 rfl rfl 19 (by decide) wf_RX7_69 rfl dX7_follow_33 ?_
    refine lv_if_le (tgt := 41) hx hb dX7_follow_36 (by decide) (fun h => absurd h (by decide)) (fun _ => ?_)
    refine lv_iconst (v := 0) hx hb dX7_follow_39 (by decide) ?_
    exact sm_retC hC hP hD hS (by simp [sm_k1, sm_kFl, c_1]) rfl (by exact ⟨cp, by simp [sm_k1, sm_kFl, c_1]⟩) dX7_follow_40

set_option maxHeartbeats 1000000 in
set_option maxRecDepth 100000 in
theorem c_X7_left (hrd : rd ≤ 40) : sm_MC l yX7_left cX7_left 1 (some .int) 1 21 [.ref (am 0)] D (sm_w7 D am P S T L nm Z cp ph th n2 fo rd np pw ev od rc wr) (fun w => w = sm_w7 D am P S T L nm Z cp ph 0 n2 fo rd np pw ev od rc wr) (some (.int (nI (40 - rd)))) := by
  refine sm_met (own := RX7) (by decide) rfl (Nat.le_of_ble_eq_true rfl) ?_
  intro p e s m below meth c ls hC hv hl
  obtain ⟨hx, hb, hml, hr, hown, hlk, hts⟩ := id hC
  obtain ⟨⟨hP, hK⟩, hD, hZ⟩ := hv
  have hS : va_S (sm_ad (sm_w7 D am P S T L nm Z cp ph th n2 fo rd np pw ev od rc wr)) s.heap s.heap [] := va_S.rf
  have hl : lv_has ls 1 [(0, .ref (am 0))] := hl
  refine lv_aload_n hx hb dX7_left_0 rfl (lv_at hl 0 rfl) ?_
  refine lv_bipush (v := 40) hx hb dX7_left_1 (by decide) ?_
  refine lv_aload_n hx hb dX7_left_3 rfl (lv_at hl 0 rfl) ?_
  refine sm_gt (ci := 7) (C := RX7) (T := TX7) (N := 33) hx hb hts inlX7 hown hK hP 0 rfl rfl 24 (by decide) wf_RX7_85 rfl dX7_left_4 ?_
  refine lv_isub hx hb dX7_left_7 ?_
  refine sm_re (y := nI (40 - rd)) (pk_sub (a := 40) (b := rd) (by omega)) ?_
  refine sm_cVCr (rest := []) hC hK hP hD hS hZ (c_X7_plain D am P S T L nm Z cp ph th n2 fo rd np pw ev od rc wr (nI (40 - rd))) qyX7_plain wl_RX7_210 ⟨Nat.le_of_ble_eq_true rfl, Nat.le_of_ble_eq_true rfl⟩ 0 rfl rfl rfl hl.1 rfl (Nat.le_of_ble_eq_true rfl) dX7_left_8 ⟨Nat.le_of_ble_eq_true rfl, Nat.le_of_ble_eq_true rfl⟩ (fun w1 H locs hB hP hD hS => ?_)
  subst hB
  exact sm_retC hC hP hD hS rfl rfl (by exact rfl) dX7_left_11

set_option maxHeartbeats 1000000 in
set_option maxRecDepth 100000 in
theorem c_X7_behind (hfo : fo ≤ L.1) : sm_MC l yX7_behind cX7_behind 1 (some .int) 1 21 [.ref (am 0)] D (sm_w7 D am P S T L nm Z cp ph th n2 fo rd np pw ev od rc wr) (fun w => w = sm_w7 D am P S T L nm Z cp ph 0 n2 fo rd np pw ev od rc wr) (some (.int (nI (L.1 - fo)))) := by
  refine sm_met (own := RX7) (by decide) rfl (Nat.le_of_ble_eq_true rfl) ?_
  intro p e s m below meth c ls hC hv hl
  obtain ⟨hx, hb, hml, hr, hown, hlk, hts⟩ := id hC
  obtain ⟨⟨hP, hK⟩, hD, hZ⟩ := hv
  have hS : va_S (sm_ad (sm_w7 D am P S T L nm Z cp ph th n2 fo rd np pw ev od rc wr)) s.heap s.heap [] := va_S.rf
  have hl : lv_has ls 1 [(0, .ref (am 0))] := hl
  refine lv_aload_n hx hb dX7_behind_0 rfl (lv_at hl 0 rfl) ?_
  refine lv_aload_n hx hb dX7_behind_1 rfl (lv_at hl 0 rfl) ?_
  refine sm_gt (ci := 7) (C := RX7) (T := TX7) (N := 33) hx hb hts inlX7 hown hK hP 0 rfl rfl 21 (by decide) wf_RX7_76 rfl dX7_behind_2 ?_
  refine lv_aload_n hx hb dX7_behind_5 rfl (lv_at hl 0 rfl) ?_
  refine sm_gt (ci := 7) (C := RX7) (T := TX7) (N := 33) hx hb hts inlX7 hown hK hP 0 rfl rfl 22 (by decide) wf_RX7_79 rfl dX7_behind_6 ?_
  refine lv_isub hx hb dX7_behind_9 ?_
  refine sm_re (y := nI (L.1 - fo)) (pk_sub (a := L.1) (b := fo) (by omega)) ?_
  refine sm_cVCr (rest := []) hC hK hP hD hS hZ (c_X7_plain D am P S T L nm Z cp ph th n2 fo rd np pw ev od rc wr (nI (L.1 - fo))) qyX7_plain wl_RX7_210 ⟨Nat.le_of_ble_eq_true rfl, Nat.le_of_ble_eq_true rfl⟩ 0 rfl rfl rfl hl.1 rfl (Nat.le_of_ble_eq_true rfl) dX7_behind_10 ⟨Nat.le_of_ble_eq_true rfl, Nat.le_of_ble_eq_true rfl⟩ (fun w1 H locs hB hP hD hS => ?_)
  subst hB
  exact sm_retC hC hP hD hS rfl rfl (by exact rfl) dX7_behind_13

set_option maxHeartbeats 1000000 in
set_option maxRecDepth 100000 in
theorem c_X7_parts  : sm_MC l yX7_parts cX7_parts 1 (some .int) 1 21 [.ref (am 0)] D (sm_w7 D am P S T L nm Z cp ph th n2 fo rd np pw ev od rc wr) (fun w => w = sm_w7 D am P S T L nm Z cp ph 0 n2 fo rd np pw ev od rc wr) (some (.int (nI pw))) := by
  refine sm_met (own := RX7) (by decide) rfl (Nat.le_of_ble_eq_true rfl) ?_
  intro p e s m below meth c ls hC hv hl
  obtain ⟨hx, hb, hml, hr, hown, hlk, hts⟩ := id hC
  obtain ⟨⟨hP, hK⟩, hD, hZ⟩ := hv
  have hS : va_S (sm_ad (sm_w7 D am P S T L nm Z cp ph th n2 fo rd np pw ev od rc wr)) s.heap s.heap [] := va_S.rf
  have hl : lv_has ls 1 [(0, .ref (am 0))] := hl
  refine lv_aload_n hx hb dX7_parts_0 rfl (lv_at hl 0 rfl) ?_
  refine lv_aload_n hx hb dX7_parts_1 rfl (lv_at hl 0 rfl) ?_
  refine sm_gt (ci := 7) (C := RX7) (T := TX7) (N := 33) hx hb hts inlX7 hown hK hP 0 rfl rfl 26 (by decide) wf_RX7_91 rfl dX7_parts_2 ?_
  refine sm_cVCr (rest := []) hC hK hP hD hS hZ (c_X7_plain D am P S T L nm Z cp ph th n2 fo rd np pw ev od rc wr (nI pw)) qyX7_plain wl_RX7_210 ⟨Nat.le_of_ble_eq_true rfl, Nat.le_of_ble_eq_true rfl⟩ 0 rfl rfl rfl hl.1 rfl (Nat.le_of_ble_eq_true rfl) dX7_parts_5 ⟨Nat.le_of_ble_eq_true rfl, Nat.le_of_ble_eq_true rfl⟩ (fun w1 H locs hB hP hD hS => ?_)
  subst hB
  exact sm_retC hC hP hD hS rfl rfl (by exact rfl) dX7_parts_8

set_option maxHeartbeats 1000000 in
set_option maxRecDepth 100000 in
theorem c_X7_compared  : sm_MC l yX7_compared cX7_compared 1 (some .int) 1 21 [.ref (am 0)] D (sm_w7 D am P S T L nm Z cp ph th n2 fo rd np pw ev od rc wr) (fun w => w = sm_w7 D am P S T L nm Z cp ph 0 n2 fo rd np pw ev od rc wr) (some (.int (nI rc))) := by
  refine sm_met (own := RX7) (by decide) rfl (Nat.le_of_ble_eq_true rfl) ?_
  intro p e s m below meth c ls hC hv hl
  obtain ⟨hx, hb, hml, hr, hown, hlk, hts⟩ := id hC
  obtain ⟨⟨hP, hK⟩, hD, hZ⟩ := hv
  have hS : va_S (sm_ad (sm_w7 D am P S T L nm Z cp ph th n2 fo rd np pw ev od rc wr)) s.heap s.heap [] := va_S.rf
  have hl : lv_has ls 1 [(0, .ref (am 0))] := hl
  refine lv_aload_n hx hb dX7_compared_0 rfl (lv_at hl 0 rfl) ?_
  refine lv_aload_n hx hb dX7_compared_1 rfl (lv_at hl 0 rfl) ?_
  refine sm_gt (ci := 7) (C := RX7) (T := TX7) (N := 33) hx hb hts inlX7 hown hK hP 0 rfl rfl 29 (by decide) wf_RX7_100 rfl dX7_compared_2 ?_
  refine sm_cVCr (rest := []) hC hK hP hD hS hZ (c_X7_plain D am P S T L nm Z cp ph th n2 fo rd np pw ev od rc wr (nI rc)) qyX7_plain wl_RX7_210 ⟨Nat.le_of_ble_eq_true rfl, Nat.le_of_ble_eq_true rfl⟩ 0 rfl rfl rfl hl.1 rfl (Nat.le_of_ble_eq_true rfl) dX7_compared_5 ⟨Nat.le_of_ble_eq_true rfl, Nat.le_of_ble_eq_true rfl⟩ (fun w1 H locs hB hP hD hS => ?_)
  subst hB
  exact sm_retC hC hP hD hS rfl rfl (by exact rfl) dX7_compared_8

set_option maxHeartbeats 1000000 in
set_option maxRecDepth 100000 in
theorem c_X7_stateOf (k : Nat) (hk : k < 40) (hP6 : P.1 ≤ 6) (hOK : ∀ i, i < P.1 → sm_kOK (P.2.1 i) (P.2.2 i)) : sm_MC l yX7_stateOf cX7_stateOf 3 (some .char) 3 66 [.ref (am 0), .int (nI k)] D (sm_w7 D am P S T L nm Z cp ph th n2 fo rd np pw ev od rc wr) (fun w => ∃ (cp' : sm_Cp), w = sm_w7 D am P S T L nm Z (cp') ph th n2 fo rd np pw ev od rc wr) (some (.int (sm_stF P S T k))) := by
  refine sm_met (own := RX7) (by decide) rfl (Nat.le_of_ble_eq_true rfl) ?_
  intro p e s m below meth c ls hC hv hl
  obtain ⟨hx, hb, hml, hr, hown, hlk, hts⟩ := id hC
  obtain ⟨⟨hP, hK⟩, hD, hZ⟩ := hv
  have hS : va_S (sm_ad (sm_w7 D am P S T L nm Z cp ph th n2 fo rd np pw ev od rc wr)) s.heap s.heap [] := va_S.rf
  have hl : lv_has ls 3 [(0, .ref (am 0)), (1, .int (nI k))] := hl
  refine lv_aload_n hx hb dX7_stateOf_0 rfl (lv_at hl 0 rfl) ?_
  refine sm_gt (ci := 7) (C := RX7) (T := TX7) (N := 33) hx hb hts inlX7 hown hK hP 0 rfl rfl 1 (by decide) wf_RX7_13 rfl dX7_stateOf_1 ?_
  refine lv_iload_n hx hb dX7_stateOf_4 rfl (lv_at hl 1 rfl) ?_
  refine sm_cld hx hb hK hP 2 rfl k rfl (by omega) (by decide) dX7_stateOf_5 ?_
  refine lv_bipush (v := 101) hx hb dX7_stateOf_6 (by decide) ?_
  refine lv_icmp_ne (tgt := 15) hx hb dX7_stateOf_8 (by decide) (fun c_1 => ?_) (fun c_1 => ?_)
  · have c_1 := sm_hcF1 c_1
    refine lv_iconst (v := 0) hx hb dX7_stateOf_15 (by decide) ?_
    refine lv_istore_n (lv' := [(2, .int 0), (0, .ref (am 0)), (1, .int (nI k))]) hx hb dX7_stateOf_16 rfl hl (by decide) rfl (fun ls hl => ?_)
    refine lv_aload_n hx hb dX7_stateOf_17 rfl (lv_at hl 1 rfl) ?_
    refine sm_gt (ci := 7) (C := RX7) (T := TX7) (N := 33) hx hb hts inlX7 hown hK hP 0 rfl rfl 1 (by decide) wf_RX7_13 rfl dX7_stateOf_18 ?_
    refine lv_iload_n hx hb dX7_stateOf_21 rfl (lv_at hl 2 rfl) ?_
    refine sm_cld hx hb hK hP 2 rfl k rfl (by omega) (by decide) dX7_stateOf_22 ?_
    refine lv_bipush (v := 97) hx hb dX7_stateOf_23 (by decide) ?_
    refine lv_icmp_ne (tgt := 31) hx hb dX7_stateOf_25 (by decide) (fun c_2 => ?_) (fun c_2 => ?_)
    · have c_2 := sm_hcF2 c_2
      refine lv_aload_n hx hb dX7_stateOf_31 rfl (lv_at hl 1 rfl) ?_
      refine sm_gt (ci := 7) (C := RX7) (T := TX7) (N := 33) hx hb hts inlX7 hown hK hP 0 rfl rfl 8 (by decide) wf_RX7_35 rfl dX7_stateOf_32 ?_
      refine lv_iload_n hx hb dX7_stateOf_35 rfl (lv_at hl 2 rfl) ?_
      refine sm_zld hx hb hK hP 9 rfl k rfl (by omega) (by decide) dX7_stateOf_36 ?_
      refine lv_if_ne (tgt := 52) hx hb dX7_stateOf_37 (by decide) (fun c_3 => ?_) (fun c_3 => ?_)
      · have c_3 := sm_b1 c_3
        refine lv_iload_n hx hb dX7_stateOf_52 rfl (lv_at hl 0 rfl) ?_
        refine lv_if_ne (tgt := 59) hx hb dX7_stateOf_53 (by decide) (fun h => absurd h (by decide)) (fun _ => ?_)
        refine lv_bipush (v := 115) hx hb dX7_stateOf_56 (by decide) ?_
        exact sm_retC hC hP hD hS (by simp [sm_stF, sm_tn, sm_eacM, c_1, c_2, c_3]) (by decide) (by exact ⟨cp, by rfl⟩) dX7_stateOf_58
      · have c_3 := sm_b0 c_3
        refine lv_iload_n hx hb dX7_stateOf_40 rfl (lv_at hl 0 rfl) ?_
        refine lv_if_eq (tgt := 49) hx hb dX7_stateOf_41 (by decide) (fun _ => ?_) (fun h => absurd h (by decide))
        refine lv_bipush (v := 110) hx hb dX7_stateOf_49 (by decide) ?_
        exact sm_retC hC hP hD hS (by simp [sm_stF, sm_tn, sm_eacM, c_1, c_2, c_3]) (by decide) (by exact ⟨cp, by rfl⟩) dX7_stateOf_51
    · have c_2 := sm_hcT2 c_2
      refine lv_bipush (v := 97) hx hb dX7_stateOf_28 (by decide) ?_
      exact sm_retC hC hP hD hS (by simp [sm_stF, sm_tn, sm_eacM, c_1, c_2]) (by decide) (by exact ⟨cp, by rfl⟩) dX7_stateOf_30
  · have c_1 := sm_hcT1 c_1
    refine lv_iconst (v := 1) hx hb dX7_stateOf_11 (by decide) ?_
    refine lv_goto (tgt := 16) hx hb dX7_stateOf_12 (by decide) ?_
    refine lv_istore_n (lv' := [(2, .int 1), (0, .ref (am 0)), (1, .int (nI k))]) hx hb dX7_stateOf_16 rfl hl (by decide) rfl (fun ls hl => ?_)
    refine lv_aload_n hx hb dX7_stateOf_17 rfl (lv_at hl 1 rfl) ?_
    refine sm_gt (ci := 7) (C := RX7) (T := TX7) (N := 33) hx hb hts inlX7 hown hK hP 0 rfl rfl 1 (by decide) wf_RX7_13 rfl dX7_stateOf_18 ?_
    refine lv_iload_n hx hb dX7_stateOf_21 rfl (lv_at hl 2 rfl) ?_
    refine sm_cld hx hb hK hP 2 rfl k rfl (by omega) (by decide) dX7_stateOf_22 ?_
    refine lv_bipush (v := 97) hx hb dX7_stateOf_23 (by decide) ?_
    refine lv_icmp_ne (tgt := 31) hx hb dX7_stateOf_25 (by decide) (fun c_4 => ?_) (fun c_4 => ?_)
    · have c_4 := sm_hcF2 c_4
      refine lv_aload_n hx hb dX7_stateOf_31 rfl (lv_at hl 1 rfl) ?_
      refine sm_gt (ci := 7) (C := RX7) (T := TX7) (N := 33) hx hb hts inlX7 hown hK hP 0 rfl rfl 8 (by decide) wf_RX7_35 rfl dX7_stateOf_32 ?_
      refine lv_iload_n hx hb dX7_stateOf_35 rfl (lv_at hl 2 rfl) ?_
      refine sm_zld hx hb hK hP 9 rfl k rfl (by omega) (by decide) dX7_stateOf_36 ?_
      refine lv_if_ne (tgt := 52) hx hb dX7_stateOf_37 (by decide) (fun c_5 => ?_) (fun c_5 => ?_)
      · have c_5 := sm_b1 c_5
        refine lv_iload_n hx hb dX7_stateOf_52 rfl (lv_at hl 0 rfl) ?_
        refine lv_if_ne (tgt := 59) hx hb dX7_stateOf_53 (by decide) (fun _ => ?_) (fun h => absurd h (by decide))
        refine lv_aload_n hx hb dX7_stateOf_59 rfl (lv_at hl 1 rfl) ?_
        refine lv_aload_n hx hb dX7_stateOf_60 rfl (lv_at hl 1 rfl) ?_
        refine sm_gt (ci := 7) (C := RX7) (T := TX7) (N := 33) hx hb hts inlX7 hown hK hP 0 rfl rfl 3 (by decide) wf_RX7_20 rfl dX7_stateOf_61 ?_
        refine lv_iload_n hx hb dX7_stateOf_64 rfl (lv_at hl 2 rfl) ?_
        refine sm_ild hx hb hK hP 4 rfl k rfl (by omega) (by decide) dX7_stateOf_65 ?_
        refine lv_aload_n hx hb dX7_stateOf_66 rfl (lv_at hl 1 rfl) ?_
        refine sm_gt (ci := 7) (C := RX7) (T := TX7) (N := 33) hx hb hts inlX7 hown hK hP 0 rfl rfl 4 (by decide) wf_RX7_23 rfl dX7_stateOf_67 ?_
        refine lv_iload_n hx hb dX7_stateOf_70 rfl (lv_at hl 2 rfl) ?_
        refine sm_ild hx hb hK hP 5 rfl k rfl (by omega) (by decide) dX7_stateOf_71 ?_
        refine sm_cVCr (rest := []) hC hK hP hD hS hZ (c_X7_turns D am P S T L nm Z cp ph th n2 fo rd np pw ev od rc wr (S.2.1 k) (S.2.2 k) hP6 hOK) qyX7_turns wl_RX7_140 ⟨Nat.le_of_ble_eq_true rfl, Nat.le_of_ble_eq_true rfl⟩ 0 rfl rfl rfl hl.1 rfl (Nat.le_of_ble_eq_true rfl) dX7_stateOf_72 ⟨Nat.le_of_ble_eq_true rfl, Nat.le_of_ble_eq_true rfl⟩ (fun w1 H locs hB hP hD hS => ?_)
        subst hB
        refine lv_if_eq (tgt := 109) hx hb dX7_stateOf_75 (by decide) (fun c_6 => ?_) (fun c_6 => ?_)
        · have c_6 := sm_b0 c_6
          refine lv_bipush (v := 117) hx hb dX7_stateOf_109 (by decide) ?_
          exact sm_retC hC hP hD hS (by simp [sm_stF, sm_tn, sm_eacM, c_1, c_4, c_5, c_6]) (by decide) (by exact ⟨((sm_tr P ((S.2.1 k), (S.2.2 k))).2), by rfl⟩) dX7_stateOf_111
        · have c_6 := sm_b1 c_6
          refine lv_aload_n hx hb dX7_stateOf_78 rfl (lv_at hl 1 rfl) ?_
          refine sm_gt (ci := 7) (C := RX7) (T := TX7) (N := 33) hx hb hts inlX7 hown hK hP 0 rfl rfl 30 (by decide) wf_RX7_103 rfl dX7_stateOf_79 ?_
          refine lv_aload_n hx hb dX7_stateOf_82 rfl (lv_at hl 1 rfl) ?_
          refine sm_gt (ci := 7) (C := RX7) (T := TX7) (N := 33) hx hb hts inlX7 hown hK hP 0 rfl rfl 5 (by decide) wf_RX7_26 rfl dX7_stateOf_83 ?_
          refine lv_iload_n hx hb dX7_stateOf_86 rfl (lv_at hl 2 rfl) ?_
          refine sm_ild hx hb hK hP 6 rfl k rfl (by omega) (by decide) dX7_stateOf_87 ?_
          refine lv_icmp_ne (tgt := 109) hx hb dX7_stateOf_88 (by decide) (fun c_7 => ?_) (fun c_7 => ?_)
          · have c_7_ := c_7
            refine lv_bipush (v := 117) hx hb dX7_stateOf_109 (by decide) ?_
            exact sm_retC hC hP hD hS (by simp [sm_stF, sm_tn, sm_eacM, c_1, c_4, c_5, c_6, c_7]) (by decide) (by exact ⟨((sm_tr P ((S.2.1 k), (S.2.2 k))).2), by rfl⟩) dX7_stateOf_111
          · have c_7_ := c_7
            refine lv_aload_n hx hb dX7_stateOf_91 rfl (lv_at hl 1 rfl) ?_
            refine sm_gt (ci := 7) (C := RX7) (T := TX7) (N := 33) hx hb hts inlX7 hown hK hP 0 rfl rfl 31 (by decide) wf_RX7_106 rfl dX7_stateOf_92 ?_
            refine lv_aload_n hx hb dX7_stateOf_95 rfl (lv_at hl 1 rfl) ?_
            refine sm_gt (ci := 7) (C := RX7) (T := TX7) (N := 33) hx hb hts inlX7 hown hK hP 0 rfl rfl 6 (by decide) wf_RX7_29 rfl dX7_stateOf_96 ?_
            refine lv_iload_n hx hb dX7_stateOf_99 rfl (lv_at hl 2 rfl) ?_
            refine sm_ild hx hb hK hP 7 rfl k rfl (by omega) (by decide) dX7_stateOf_100 ?_
            refine lv_icmp_ne (tgt := 109) hx hb dX7_stateOf_101 (by decide) (fun c_8 => ?_) (fun c_8 => ?_)
            · have c_8_ := c_8
              refine lv_bipush (v := 117) hx hb dX7_stateOf_109 (by decide) ?_
              exact sm_retC hC hP hD hS (by simp [sm_stF, sm_tn, sm_eacM, c_1, c_4, c_5, c_6, c_7, c_8]) (by decide) (by exact ⟨((sm_tr P ((S.2.1 k), (S.2.2 k))).2), by rfl⟩) dX7_stateOf_111
            · have c_8_ := c_8
              refine lv_bipush (v := 101) hx hb dX7_stateOf_104 (by decide) ?_
              refine lv_goto (tgt := 111) hx hb dX7_stateOf_106 (by decide) ?_
              exact sm_retC hC hP hD hS (by simp [sm_stF, sm_tn, sm_eacM, c_1, c_4, c_5, c_6, c_7, c_8]) (by decide) (by exact ⟨((sm_tr P ((S.2.1 k), (S.2.2 k))).2), by rfl⟩) dX7_stateOf_111
      · have c_5 := sm_b0 c_5
        refine lv_iload_n hx hb dX7_stateOf_40 rfl (lv_at hl 0 rfl) ?_
        refine lv_if_eq (tgt := 49) hx hb dX7_stateOf_41 (by decide) (fun h => absurd h (by decide)) (fun _ => ?_)
        refine lv_bipush (v := 116) hx hb dX7_stateOf_44 (by decide) ?_
        refine lv_goto (tgt := 51) hx hb dX7_stateOf_46 (by decide) ?_
        exact sm_retC hC hP hD hS (by simp [sm_stF, sm_tn, sm_eacM, c_1, c_4, c_5]) (by decide) (by exact ⟨cp, by rfl⟩) dX7_stateOf_51
    · have c_4 := sm_hcT2 c_4
      refine lv_bipush (v := 97) hx hb dX7_stateOf_28 (by decide) ?_
      exact sm_retC hC hP hD hS (by simp [sm_stF, sm_tn, sm_eacM, c_1, c_4]) (by decide) (by exact ⟨cp, by rfl⟩) dX7_stateOf_30

set_option maxHeartbeats 1000000 in
set_option maxRecDepth 100000 in
theorem c_X7_state_i (x : Int32) (hbk : sm_isKey x = false) : sm_MC l yX7_state cX7_state 2 (some .char) 4 88 [.ref (am 0), .int x] D (sm_w7 D am P S T L nm Z cp ph th n2 fo rd np pw ev od rc wr) (fun w => w = sm_w7 D am P S T L nm Z cp ph 1 n2 fo rd np pw ev od rc wr) (some (.int 32)) := by
  refine sm_met (own := RX7) (by decide) rfl (Nat.le_of_ble_eq_true rfl) ?_
  intro p e s m below meth c ls hC hv hl
  obtain ⟨hx, hb, hml, hr, hown, hlk, hts⟩ := id hC
  obtain ⟨⟨hP, hK⟩, hD, hZ⟩ := hv
  have hS : va_S (sm_ad (sm_w7 D am P S T L nm Z cp ph th n2 fo rd np pw ev od rc wr)) s.heap s.heap [] := va_S.rf
  have hl : lv_has ls 2 [(0, .ref (am 0)), (1, .int x)] := hl
  refine lv_aload_n hx hb dX7_state_0 rfl (lv_at hl 0 rfl) ?_
  refine lv_iload_n hx hb dX7_state_1 rfl (lv_at hl 1 rfl) ?_
  refine sm_cSPr (rest := [.ref (am 0)]) hC hK hP (c_X7_isKey_i D am P S T L nm Z cp ph th n2 fo rd np pw ev od rc wr x) qyX7_isKey wl_RX7_187 ⟨Nat.le_of_ble_eq_true rfl, Nat.le_of_ble_eq_true rfl⟩ rfl hl.1 rfl (Nat.le_of_ble_eq_true rfl) dX7_state_2 ⟨Nat.le_of_ble_eq_true rfl, Nat.le_of_ble_eq_true rfl⟩ ?_
  refine sm_re (y := sm_b false) (congrArg sm_b hbk) ?_
  refine sm_cVCr (rest := []) hC hK hP hD hS hZ (c_X7_checked D am P S T L nm Z cp ph th n2 fo rd np pw ev od rc wr false) qyX7_checked wl_RX7_158 ⟨Nat.le_of_ble_eq_true rfl, Nat.le_of_ble_eq_true rfl⟩ 0 rfl rfl rfl hl.1 rfl (Nat.le_of_ble_eq_true rfl) dX7_state_5 ⟨Nat.le_of_ble_eq_true rfl, Nat.le_of_ble_eq_true rfl⟩ (fun w1 H locs hB hP hD hS => ?_)
  subst hB
  refine sm_re (y := 1) rfl ?_
  refine lv_if_le (tgt := 16) hx hb dX7_state_8 (by decide) (fun h => absurd h (by decide)) (fun _ => ?_)
  refine lv_bipush (v := 32) hx hb dX7_state_11 (by decide) ?_
  refine lv_goto (tgt := 21) hx hb dX7_state_13 (by decide) ?_
  exact sm_retC hC hP hD hS (rfl) (by decide) (by exact rfl) dX7_state_21

set_option maxHeartbeats 1000000 in
set_option maxRecDepth 100000 in
theorem c_X7_state (k : Nat) (hk : k < 40) (hP6 : P.1 ≤ 6) (hOK : ∀ i, i < P.1 → sm_kOK (P.2.1 i) (P.2.2 i)) : sm_MC l yX7_state cX7_state 2 (some .char) 4 88 [.ref (am 0), .int (nI k)] D (sm_w7 D am P S T L nm Z cp ph th n2 fo rd np pw ev od rc wr) (fun w => ∃ (cp' : sm_Cp), w = sm_w7 D am P S T L nm Z (cp') ph 0 n2 fo rd np pw ev od rc wr) (some (.int (sm_stF P S T k))) := by
  refine sm_met (own := RX7) (by decide) rfl (Nat.le_of_ble_eq_true rfl) ?_
  intro p e s m below meth c ls hC hv hl
  obtain ⟨hx, hb, hml, hr, hown, hlk, hts⟩ := id hC
  obtain ⟨⟨hP, hK⟩, hD, hZ⟩ := hv
  have hS : va_S (sm_ad (sm_w7 D am P S T L nm Z cp ph th n2 fo rd np pw ev od rc wr)) s.heap s.heap [] := va_S.rf
  have hl : lv_has ls 2 [(0, .ref (am 0)), (1, .int (nI k))] := hl
  refine lv_aload_n hx hb dX7_state_0 rfl (lv_at hl 0 rfl) ?_
  refine lv_iload_n hx hb dX7_state_1 rfl (lv_at hl 1 rfl) ?_
  refine sm_cSPr (rest := [.ref (am 0)]) hC hK hP (c_X7_isKey D am P S T L nm Z cp ph th n2 fo rd np pw ev od rc wr k (by omega)) qyX7_isKey wl_RX7_187 ⟨Nat.le_of_ble_eq_true rfl, Nat.le_of_ble_eq_true rfl⟩ rfl hl.1 rfl (Nat.le_of_ble_eq_true rfl) dX7_state_2 ⟨Nat.le_of_ble_eq_true rfl, Nat.le_of_ble_eq_true rfl⟩ ?_
  refine sm_cVCr (rest := []) hC hK hP hD hS hZ (c_X7_checked D am P S T L nm Z cp ph th n2 fo rd np pw ev od rc wr true) qyX7_checked wl_RX7_158 ⟨Nat.le_of_ble_eq_true rfl, Nat.le_of_ble_eq_true rfl⟩ 0 rfl rfl rfl hl.1 rfl (Nat.le_of_ble_eq_true rfl) dX7_state_5 ⟨Nat.le_of_ble_eq_true rfl, Nat.le_of_ble_eq_true rfl⟩ (fun w1 H locs hB hP hD hS => ?_)
  subst hB
  refine sm_re (y := 0) rfl ?_
  refine lv_if_le (tgt := 16) hx hb dX7_state_8 (by decide) (fun _ => ?_) (fun h => absurd h (by decide))
  refine lv_aload_n hx hb dX7_state_16 rfl (lv_at hl 0 rfl) ?_
  refine lv_iload_n hx hb dX7_state_17 rfl (lv_at hl 1 rfl) ?_
  refine sm_cVCr (rest := []) hC hK hP hD hS hZ (c_X7_stateOf D am P S T L nm Z cp ph 0 n2 fo rd np pw ev od rc wr k (by omega) hP6 hOK) qyX7_stateOf wl_RX7_213 ⟨Nat.le_of_ble_eq_true rfl, Nat.le_of_ble_eq_true rfl⟩ 0 rfl rfl rfl hl.1 rfl (Nat.le_of_ble_eq_true rfl) dX7_state_18 ⟨Nat.le_of_ble_eq_true rfl, Nat.le_of_ble_eq_true rfl⟩ (fun w1 H locs hB hP hD hS => ?_)
  obtain ⟨cp_1, rfl⟩ := hB
  exact sm_retC hC hP hD hS rfl (sm_stN _ _ _ _) (by exact ⟨cp_1, by rfl⟩) dX7_state_21

set_option maxHeartbeats 1000000 in
set_option maxRecDepth 100000 in
theorem c_X7_stamp_i (x : Int32) (hbk : sm_isKey x = false) : sm_MC l yX7_stamp cX7_stamp 2 (some .int) 2 42 [.ref (am 0), .int x] D (sm_w7 D am P S T L nm Z cp ph th n2 fo rd np pw ev od rc wr) (fun w => w = sm_w7 D am P S T L nm Z cp ph 1 n2 fo rd np pw ev od rc wr) (some (.int 0)) := by
  refine sm_met (own := RX7) (by decide) rfl (Nat.le_of_ble_eq_true rfl) ?_
  intro p e s m below meth c ls hC hv hl
  obtain ⟨hx, hb, hml, hr, hown, hlk, hts⟩ := id hC
  obtain ⟨⟨hP, hK⟩, hD, hZ⟩ := hv
  have hS : va_S (sm_ad (sm_w7 D am P S T L nm Z cp ph th n2 fo rd np pw ev od rc wr)) s.heap s.heap [] := va_S.rf
  have hl : lv_has ls 2 [(0, .ref (am 0)), (1, .int x)] := hl
  refine lv_aload_n hx hb dX7_stamp_0 rfl (lv_at hl 0 rfl) ?_
  refine lv_iload_n hx hb dX7_stamp_1 rfl (lv_at hl 1 rfl) ?_
  refine sm_cSPr (rest := [.ref (am 0)]) hC hK hP (c_X7_isKey_i D am P S T L nm Z cp ph th n2 fo rd np pw ev od rc wr x) qyX7_isKey wl_RX7_187 ⟨Nat.le_of_ble_eq_true rfl, Nat.le_of_ble_eq_true rfl⟩ rfl hl.1 rfl (Nat.le_of_ble_eq_true rfl) dX7_stamp_2 ⟨Nat.le_of_ble_eq_true rfl, Nat.le_of_ble_eq_true rfl⟩ ?_
  refine sm_re (y := sm_b false) (congrArg sm_b hbk) ?_
  refine lv_if_ne (tgt := 12) hx hb dX7_stamp_5 (by decide) (fun h => absurd h (by decide)) (fun _ => ?_)
  refine lv_iconst (v := 1) hx hb dX7_stamp_8 (by decide) ?_
  refine lv_goto (tgt := 28) hx hb dX7_stamp_9 (by decide) ?_
  refine sm_pt (ci := 7) (C := RX7) (T := TX7) (N := 33) hx hb hts inlX7 tyX7 tyX7_ok nmX7 hown hK hP hD hS 0 rfl rfl 19 (by decide) wf_RX7_69 rfl rfl rfl (Nat.le_of_ble_eq_true rfl) dX7_stamp_28 (fun H locs hP hD hS => ?_)
  have hP : va_P D.1 sm_cl (sm_w7 D am P S T L nm Z cp ph 1 n2 fo rd np pw ev od rc wr) H := hP
  have hD : va_D (sm_ad (sm_w7 D am P S T L nm Z cp ph th n2 fo rd np pw ev od rc wr)) (sm_w7 D am P S T L nm Z cp ph 1 n2 fo rd np pw ev od rc wr) := hD
  refine lv_aload_n hx hb dX7_stamp_31 rfl (lv_at hl 0 rfl) ?_
  refine sm_gt (ci := 7) (C := RX7) (T := TX7) (N := 33) hx hb hts inlX7 hown hK hP 0 rfl rfl 19 (by decide) wf_RX7_69 rfl dX7_stamp_32 ?_
  refine lv_if_le (tgt := 42) hx hb dX7_stamp_35 (by decide) (fun h => absurd h (by decide)) (fun _ => ?_)
  refine lv_iconst (v := 0) hx hb dX7_stamp_38 (by decide) ?_
  refine lv_goto (tgt := 48) hx hb dX7_stamp_39 (by decide) ?_
  exact sm_retC hC hP hD hS (rfl) rfl (by exact rfl) dX7_stamp_48

set_option maxHeartbeats 1000000 in
set_option maxRecDepth 100000 in
theorem c_X7_goal_i (x : Int32) (hbk : sm_isKey x = false) : sm_MC l yX7_goal cX7_goal 2 (some .char) 3 66 [.ref (am 0), .int x] D (sm_w7 D am P S T L nm Z cp ph th n2 fo rd np pw ev od rc wr) (fun w => w = sm_w7 D am P S T L nm Z cp ph 1 n2 fo rd np pw ev od rc wr) (some (.int 32)) := by
  refine sm_met (own := RX7) (by decide) rfl (Nat.le_of_ble_eq_true rfl) ?_
  intro p e s m below meth c ls hC hv hl
  obtain ⟨hx, hb, hml, hr, hown, hlk, hts⟩ := id hC
  obtain ⟨⟨hP, hK⟩, hD, hZ⟩ := hv
  have hS : va_S (sm_ad (sm_w7 D am P S T L nm Z cp ph th n2 fo rd np pw ev od rc wr)) s.heap s.heap [] := va_S.rf
  have hl : lv_has ls 2 [(0, .ref (am 0)), (1, .int x)] := hl
  refine lv_aload_n hx hb dX7_goal_0 rfl (lv_at hl 0 rfl) ?_
  refine lv_iload_n hx hb dX7_goal_1 rfl (lv_at hl 1 rfl) ?_
  refine sm_cSPr (rest := [.ref (am 0)]) hC hK hP (c_X7_isKey_i D am P S T L nm Z cp ph th n2 fo rd np pw ev od rc wr x) qyX7_isKey wl_RX7_187 ⟨Nat.le_of_ble_eq_true rfl, Nat.le_of_ble_eq_true rfl⟩ rfl hl.1 rfl (Nat.le_of_ble_eq_true rfl) dX7_goal_2 ⟨Nat.le_of_ble_eq_true rfl, Nat.le_of_ble_eq_true rfl⟩ ?_
  refine sm_re (y := sm_b false) (congrArg sm_b hbk) ?_
  refine lv_if_ne (tgt := 12) hx hb dX7_goal_5 (by decide) (fun h => absurd h (by decide)) (fun _ => ?_)
  refine lv_iconst (v := 1) hx hb dX7_goal_8 (by decide) ?_
  refine lv_goto (tgt := 35) hx hb dX7_goal_9 (by decide) ?_
  refine sm_pt (ci := 7) (C := RX7) (T := TX7) (N := 33) hx hb hts inlX7 tyX7 tyX7_ok nmX7 hown hK hP hD hS 0 rfl rfl 19 (by decide) wf_RX7_69 rfl rfl rfl (Nat.le_of_ble_eq_true rfl) dX7_goal_35 (fun H locs hP hD hS => ?_)
  have hP : va_P D.1 sm_cl (sm_w7 D am P S T L nm Z cp ph 1 n2 fo rd np pw ev od rc wr) H := hP
  have hD : va_D (sm_ad (sm_w7 D am P S T L nm Z cp ph th n2 fo rd np pw ev od rc wr)) (sm_w7 D am P S T L nm Z cp ph 1 n2 fo rd np pw ev od rc wr) := hD
  refine lv_aload_n hx hb dX7_goal_38 rfl (lv_at hl 0 rfl) ?_
  refine sm_gt (ci := 7) (C := RX7) (T := TX7) (N := 33) hx hb hts inlX7 hown hK hP 0 rfl rfl 19 (by decide) wf_RX7_69 rfl dX7_goal_39 ?_
  refine lv_if_le (tgt := 48) hx hb dX7_goal_42 (by decide) (fun h => absurd h (by decide)) (fun _ => ?_)
  refine lv_bipush (v := 32) hx hb dX7_goal_45 (by decide) ?_
  exact sm_retC hC hP hD hS (rfl) (by decide) (by exact rfl) dX7_goal_47

set_option maxHeartbeats 1000000 in
set_option maxRecDepth 100000 in
theorem c_X7_turned_i (x : Int32) (z : Bool) (hbk : sm_isKey x = false) : sm_MC l yX7_turned cX7_turned 3 (some .int) 3 66 [.ref (am 0), .int x, .int (sm_b z)] D (sm_w7 D am P S T L nm Z cp ph th n2 fo rd np pw ev od rc wr) (fun w => w = sm_w7 D am P S T L nm Z cp ph 1 n2 fo rd np pw ev od rc wr) (some (.int 0)) := by
  refine sm_met (own := RX7) (by decide) rfl (Nat.le_of_ble_eq_true rfl) ?_
  intro p e s m below meth c ls hC hv hl
  obtain ⟨hx, hb, hml, hr, hown, hlk, hts⟩ := id hC
  obtain ⟨⟨hP, hK⟩, hD, hZ⟩ := hv
  have hS : va_S (sm_ad (sm_w7 D am P S T L nm Z cp ph th n2 fo rd np pw ev od rc wr)) s.heap s.heap [] := va_S.rf
  have hl : lv_has ls 3 [(0, .ref (am 0)), (1, .int x), (2, .int (sm_b z))] := hl
  refine lv_aload_n hx hb dX7_turned_0 rfl (lv_at hl 0 rfl) ?_
  refine lv_iload_n hx hb dX7_turned_1 rfl (lv_at hl 1 rfl) ?_
  refine sm_cSPr (rest := [.ref (am 0)]) hC hK hP (c_X7_isKey_i D am P S T L nm Z cp ph th n2 fo rd np pw ev od rc wr x) qyX7_isKey wl_RX7_187 ⟨Nat.le_of_ble_eq_true rfl, Nat.le_of_ble_eq_true rfl⟩ rfl hl.1 rfl (Nat.le_of_ble_eq_true rfl) dX7_turned_2 ⟨Nat.le_of_ble_eq_true rfl, Nat.le_of_ble_eq_true rfl⟩ ?_
  refine sm_re (y := sm_b false) (congrArg sm_b hbk) ?_
  refine lv_if_ne (tgt := 12) hx hb dX7_turned_5 (by decide) (fun h => absurd h (by decide)) (fun _ => ?_)
  refine lv_iconst (v := 1) hx hb dX7_turned_8 (by decide) ?_
  refine lv_goto (tgt := 49) hx hb dX7_turned_9 (by decide) ?_
  refine sm_pt (ci := 7) (C := RX7) (T := TX7) (N := 33) hx hb hts inlX7 tyX7 tyX7_ok nmX7 hown hK hP hD hS 0 rfl rfl 19 (by decide) wf_RX7_69 rfl rfl rfl (Nat.le_of_ble_eq_true rfl) dX7_turned_49 (fun H locs hP hD hS => ?_)
  have hP : va_P D.1 sm_cl (sm_w7 D am P S T L nm Z cp ph 1 n2 fo rd np pw ev od rc wr) H := hP
  have hD : va_D (sm_ad (sm_w7 D am P S T L nm Z cp ph th n2 fo rd np pw ev od rc wr)) (sm_w7 D am P S T L nm Z cp ph 1 n2 fo rd np pw ev od rc wr) := hD
  refine lv_aload_n hx hb dX7_turned_52 rfl (lv_at hl 0 rfl) ?_
  refine sm_gt (ci := 7) (C := RX7) (T := TX7) (N := 33) hx hb hts inlX7 hown hK hP 0 rfl rfl 19 (by decide) wf_RX7_69 rfl dX7_turned_53 ?_
  refine lv_if_le (tgt := 63) hx hb dX7_turned_56 (by decide) (fun h => absurd h (by decide)) (fun _ => ?_)
  refine lv_iconst (v := 0) hx hb dX7_turned_59 (by decide) ?_
  refine lv_goto (tgt := 78) hx hb dX7_turned_60 (by decide) ?_
  exact sm_retC hC hP hD hS (rfl) rfl (by exact rfl) dX7_turned_78

set_option maxHeartbeats 1000000 in
set_option maxRecDepth 100000 in
theorem c_X7_turnedBack_i (x : Int32) (z : Bool) (hbk : sm_isKey x = false) : sm_MC l yX7_turnedBack cX7_turnedBack 3 (some .int) 3 66 [.ref (am 0), .int x, .int (sm_b z)] D (sm_w7 D am P S T L nm Z cp ph th n2 fo rd np pw ev od rc wr) (fun w => w = sm_w7 D am P S T L nm Z cp ph 1 n2 fo rd np pw ev od rc wr) (some (.int 0)) := by
  refine sm_met (own := RX7) (by decide) rfl (Nat.le_of_ble_eq_true rfl) ?_
  intro p e s m below meth c ls hC hv hl
  obtain ⟨hx, hb, hml, hr, hown, hlk, hts⟩ := id hC
  obtain ⟨⟨hP, hK⟩, hD, hZ⟩ := hv
  have hS : va_S (sm_ad (sm_w7 D am P S T L nm Z cp ph th n2 fo rd np pw ev od rc wr)) s.heap s.heap [] := va_S.rf
  have hl : lv_has ls 3 [(0, .ref (am 0)), (1, .int x), (2, .int (sm_b z))] := hl
  refine lv_aload_n hx hb dX7_turnedBack_0 rfl (lv_at hl 0 rfl) ?_
  refine lv_iload_n hx hb dX7_turnedBack_1 rfl (lv_at hl 1 rfl) ?_
  refine sm_cSPr (rest := [.ref (am 0)]) hC hK hP (c_X7_isKey_i D am P S T L nm Z cp ph th n2 fo rd np pw ev od rc wr x) qyX7_isKey wl_RX7_187 ⟨Nat.le_of_ble_eq_true rfl, Nat.le_of_ble_eq_true rfl⟩ rfl hl.1 rfl (Nat.le_of_ble_eq_true rfl) dX7_turnedBack_2 ⟨Nat.le_of_ble_eq_true rfl, Nat.le_of_ble_eq_true rfl⟩ ?_
  refine sm_re (y := sm_b false) (congrArg sm_b hbk) ?_
  refine lv_if_ne (tgt := 12) hx hb dX7_turnedBack_5 (by decide) (fun h => absurd h (by decide)) (fun _ => ?_)
  refine lv_iconst (v := 1) hx hb dX7_turnedBack_8 (by decide) ?_
  refine lv_goto (tgt := 51) hx hb dX7_turnedBack_9 (by decide) ?_
  refine sm_pt (ci := 7) (C := RX7) (T := TX7) (N := 33) hx hb hts inlX7 tyX7 tyX7_ok nmX7 hown hK hP hD hS 0 rfl rfl 19 (by decide) wf_RX7_69 rfl rfl rfl (Nat.le_of_ble_eq_true rfl) dX7_turnedBack_51 (fun H locs hP hD hS => ?_)
  have hP : va_P D.1 sm_cl (sm_w7 D am P S T L nm Z cp ph 1 n2 fo rd np pw ev od rc wr) H := hP
  have hD : va_D (sm_ad (sm_w7 D am P S T L nm Z cp ph th n2 fo rd np pw ev od rc wr)) (sm_w7 D am P S T L nm Z cp ph 1 n2 fo rd np pw ev od rc wr) := hD
  refine lv_aload_n hx hb dX7_turnedBack_54 rfl (lv_at hl 0 rfl) ?_
  refine sm_gt (ci := 7) (C := RX7) (T := TX7) (N := 33) hx hb hts inlX7 hown hK hP 0 rfl rfl 19 (by decide) wf_RX7_69 rfl dX7_turnedBack_55 ?_
  refine lv_if_le (tgt := 65) hx hb dX7_turnedBack_58 (by decide) (fun h => absurd h (by decide)) (fun _ => ?_)
  refine lv_iconst (v := 0) hx hb dX7_turnedBack_61 (by decide) ?_
  refine lv_goto (tgt := 80) hx hb dX7_turnedBack_62 (by decide) ?_
  exact sm_retC hC hP hD hS (rfl) rfl (by exact rfl) dX7_turnedBack_80

set_option maxHeartbeats 1000000 in
set_option maxRecDepth 100000 in
theorem c_X7_stamp (k : Nat) (hk : k < 40) (hTk : ∀ k, sm_kv (T.1 k)) : sm_MC l yX7_stamp cX7_stamp 2 (some .int) 2 42 [.ref (am 0), .int (nI k)] D (sm_w7 D am P S T L nm Z cp ph th n2 fo rd np pw ev od rc wr) (fun w => w = sm_w7 D am P S T L nm Z cp ph (sm_k2 (sm_stmp T k)) n2 fo rd np pw ev od rc wr) (some (.int (if sm_k2 (sm_stmp T k) = 0 then T.2.1 k else 0))) := by
  refine sm_met (own := RX7) (by decide) rfl (Nat.le_of_ble_eq_true rfl) ?_
  intro p e s m below meth c ls hC hv hl
  obtain ⟨hx, hb, hml, hr, hown, hlk, hts⟩ := id hC
  obtain ⟨⟨hP, hK⟩, hD, hZ⟩ := hv
  have hS : va_S (sm_ad (sm_w7 D am P S T L nm Z cp ph th n2 fo rd np pw ev od rc wr)) s.heap s.heap [] := va_S.rf
  have hl : lv_has ls 2 [(0, .ref (am 0)), (1, .int (nI k))] := hl
  refine lv_aload_n hx hb dX7_stamp_0 rfl (lv_at hl 0 rfl) ?_
  refine lv_iload_n hx hb dX7_stamp_1 rfl (lv_at hl 1 rfl) ?_
  refine sm_cSPr (rest := [.ref (am 0)]) hC hK hP (c_X7_isKey D am P S T L nm Z cp ph th n2 fo rd np pw ev od rc wr k (by omega)) qyX7_isKey wl_RX7_187 ⟨Nat.le_of_ble_eq_true rfl, Nat.le_of_ble_eq_true rfl⟩ rfl hl.1 rfl (Nat.le_of_ble_eq_true rfl) dX7_stamp_2 ⟨Nat.le_of_ble_eq_true rfl, Nat.le_of_ble_eq_true rfl⟩ ?_
  refine lv_if_ne (tgt := 12) hx hb dX7_stamp_5 (by decide) (fun _ => ?_) (fun h => absurd h (by decide))
  refine lv_aload_n hx hb dX7_stamp_12 rfl (lv_at hl 0 rfl) ?_
  refine sm_gt (ci := 7) (C := RX7) (T := TX7) (N := 33) hx hb hts inlX7 hown hK hP 0 rfl rfl 1 (by decide) wf_RX7_13 rfl dX7_stamp_13 ?_
  refine lv_iload_n hx hb dX7_stamp_16 rfl (lv_at hl 1 rfl) ?_
  refine sm_cld hx hb hK hP 2 rfl k rfl (by omega) (by decide) dX7_stamp_17 ?_
  refine lv_bipush (v := 45) hx hb dX7_stamp_18 (by decide) ?_
  refine lv_icmp_ne (tgt := 27) hx hb dX7_stamp_20 (by decide) (fun c_1 => ?_) (fun c_1 => ?_)
  · have c_1 := sm_hcF0 c_1
    refine lv_iconst (v := 0) hx hb dX7_stamp_27 (by decide) ?_
    refine sm_pt (ci := 7) (C := RX7) (T := TX7) (N := 33) hx hb hts inlX7 tyX7 tyX7_ok nmX7 hown hK hP hD hS 0 rfl rfl 19 (by decide) wf_RX7_69 rfl rfl rfl (Nat.le_of_ble_eq_true rfl) dX7_stamp_28 (fun H locs hP hD hS => ?_)
    have hP : va_P D.1 sm_cl (sm_w7 D am P S T L nm Z cp ph 0 n2 fo rd np pw ev od rc wr) H := hP
    have hD : va_D (sm_ad (sm_w7 D am P S T L nm Z cp ph th n2 fo rd np pw ev od rc wr)) (sm_w7 D am P S T L nm Z cp ph 0 n2 fo rd np pw ev od rc wr) := hD
    refine lv_aload_n hx hb dX7_stamp_31 rfl (lv_at hl 0 rfl) ?_
    refine sm_gt (ci := 7) (C := RX7) (T := TX7) (N := 33) hx hb hts inlX7 hown hK hP 0 rfl rfl 19 (by decide) wf_RX7_69 rfl dX7_stamp_32 ?_
    refine lv_if_le (tgt := 42) hx hb dX7_stamp_35 (by decide) (fun _ => ?_) (fun h => absurd h (by decide))
    refine lv_aload_n hx hb dX7_stamp_42 rfl (lv_at hl 0 rfl) ?_
    refine sm_gt (ci := 7) (C := RX7) (T := TX7) (N := 33) hx hb hts inlX7 hown hK hP 0 rfl rfl 7 (by decide) wf_RX7_32 rfl dX7_stamp_43 ?_
    refine lv_iload_n hx hb dX7_stamp_46 rfl (lv_at hl 1 rfl) ?_
    refine sm_ild hx hb hK hP 8 rfl k rfl (by omega) (by decide) dX7_stamp_47 ?_
    exact sm_retC hC hP hD hS (by simp [sm_k1, sm_k2, c_1]) rfl (by simp [sm_k1, sm_k2, c_1]) dX7_stamp_48
  · have c_1 := sm_hcT0 (hTk k) c_1
    refine lv_iconst (v := 2) hx hb dX7_stamp_23 (by decide) ?_
    refine lv_goto (tgt := 28) hx hb dX7_stamp_24 (by decide) ?_
    refine sm_pt (ci := 7) (C := RX7) (T := TX7) (N := 33) hx hb hts inlX7 tyX7 tyX7_ok nmX7 hown hK hP hD hS 0 rfl rfl 19 (by decide) wf_RX7_69 rfl rfl rfl (Nat.le_of_ble_eq_true rfl) dX7_stamp_28 (fun H locs hP hD hS => ?_)
    have hP : va_P D.1 sm_cl (sm_w7 D am P S T L nm Z cp ph 2 n2 fo rd np pw ev od rc wr) H := hP
    have hD : va_D (sm_ad (sm_w7 D am P S T L nm Z cp ph th n2 fo rd np pw ev od rc wr)) (sm_w7 D am P S T L nm Z cp ph 2 n2 fo rd np pw ev od rc wr) := hD
    refine lv_aload_n hx hb dX7_stamp_31 rfl (lv_at hl 0 rfl) ?_
    refine sm_gt (ci := 7) (C := RX7) (T := TX7) (N := 33) hx hb hts inlX7 hown hK hP 0 rfl rfl 19 (by decide) wf_RX7_69 rfl dX7_stamp_32 ?_
    refine lv_if_le (tgt := 42) hx hb dX7_stamp_35 (by decide) (fun h => absurd h (by decide)) (fun _ => ?_)
    refine lv_iconst (v := 0) hx hb dX7_stamp_38 (by decide) ?_
    refine lv_goto (tgt := 48) hx hb dX7_stamp_39 (by decide) ?_
    exact sm_retC hC hP hD hS (by simp [sm_k1, sm_k2, c_1]) rfl (by simp [sm_k1, sm_k2, c_1]) dX7_stamp_48

set_option maxHeartbeats 1000000 in
set_option maxRecDepth 100000 in
theorem c_X7_turned (k : Nat) (hk : k < 40) (z : Bool) (hP6 : P.1 ≤ 6) (hOK : ∀ i, i < P.1 → sm_kOK (P.2.1 i) (P.2.2 i)) : sm_MC l yX7_turned cX7_turned 3 (some .int) 3 66 [.ref (am 0), .int (nI k), .int (sm_b z)] D (sm_w7 D am P S T L nm Z cp ph th n2 fo rd np pw ev od rc wr) (fun w => ∃ (cp' : sm_Cp), w = sm_w7 D am P S T L nm Z (cp') ph (sm_k23 (S.1 k) (sm_tn P S k)) n2 fo rd np pw ev od rc wr) (some (.int (if sm_k23 (S.1 k) (sm_tn P S k) = 0 then sm_pk z (sm_tr P (S.2.1 k, S.2.2 k)).2 else 0))) := by
  refine sm_met (own := RX7) (by decide) rfl (Nat.le_of_ble_eq_true rfl) ?_
  intro p e s m below meth c ls hC hv hl
  obtain ⟨hx, hb, hml, hr, hown, hlk, hts⟩ := id hC
  obtain ⟨⟨hP, hK⟩, hD, hZ⟩ := hv
  have hS : va_S (sm_ad (sm_w7 D am P S T L nm Z cp ph th n2 fo rd np pw ev od rc wr)) s.heap s.heap [] := va_S.rf
  have hl : lv_has ls 3 [(0, .ref (am 0)), (1, .int (nI k)), (2, .int (sm_b z))] := hl
  refine lv_aload_n hx hb dX7_turned_0 rfl (lv_at hl 0 rfl) ?_
  refine lv_iload_n hx hb dX7_turned_1 rfl (lv_at hl 1 rfl) ?_
  refine sm_cSPr (rest := [.ref (am 0)]) hC hK hP (c_X7_isKey D am P S T L nm Z cp ph th n2 fo rd np pw ev od rc wr k (by omega)) qyX7_isKey wl_RX7_187 ⟨Nat.le_of_ble_eq_true rfl, Nat.le_of_ble_eq_true rfl⟩ rfl hl.1 rfl (Nat.le_of_ble_eq_true rfl) dX7_turned_2 ⟨Nat.le_of_ble_eq_true rfl, Nat.le_of_ble_eq_true rfl⟩ ?_
  refine lv_if_ne (tgt := 12) hx hb dX7_turned_5 (by decide) (fun _ => ?_) (fun h => absurd h (by decide))
  refine lv_aload_n hx hb dX7_turned_12 rfl (lv_at hl 0 rfl) ?_
  refine sm_gt (ci := 7) (C := RX7) (T := TX7) (N := 33) hx hb hts inlX7 hown hK hP 0 rfl rfl 8 (by decide) wf_RX7_35 rfl dX7_turned_13 ?_
  refine lv_iload_n hx hb dX7_turned_16 rfl (lv_at hl 1 rfl) ?_
  refine sm_zld hx hb hK hP 9 rfl k rfl (by omega) (by decide) dX7_turned_17 ?_
  refine lv_if_ne (tgt := 25) hx hb dX7_turned_18 (by decide) (fun c_1 => ?_) (fun c_1 => ?_)
  · have c_1 := sm_b1 c_1
    refine lv_aload_n hx hb dX7_turned_25 rfl (lv_at hl 0 rfl) ?_
    refine lv_aload_n hx hb dX7_turned_26 rfl (lv_at hl 0 rfl) ?_
    refine sm_gt (ci := 7) (C := RX7) (T := TX7) (N := 33) hx hb hts inlX7 hown hK hP 0 rfl rfl 3 (by decide) wf_RX7_20 rfl dX7_turned_27 ?_
    refine lv_iload_n hx hb dX7_turned_30 rfl (lv_at hl 1 rfl) ?_
    refine sm_ild hx hb hK hP 4 rfl k rfl (by omega) (by decide) dX7_turned_31 ?_
    refine lv_aload_n hx hb dX7_turned_32 rfl (lv_at hl 0 rfl) ?_
    refine sm_gt (ci := 7) (C := RX7) (T := TX7) (N := 33) hx hb hts inlX7 hown hK hP 0 rfl rfl 4 (by decide) wf_RX7_23 rfl dX7_turned_33 ?_
    refine lv_iload_n hx hb dX7_turned_36 rfl (lv_at hl 1 rfl) ?_
    refine sm_ild hx hb hK hP 5 rfl k rfl (by omega) (by decide) dX7_turned_37 ?_
    refine sm_cVCr (rest := [.ref (am 0)]) hC hK hP hD hS hZ (c_X7_turns D am P S T L nm Z cp ph th n2 fo rd np pw ev od rc wr (S.2.1 k) (S.2.2 k) hP6 hOK) qyX7_turns wl_RX7_140 ⟨Nat.le_of_ble_eq_true rfl, Nat.le_of_ble_eq_true rfl⟩ 0 rfl rfl rfl hl.1 rfl (Nat.le_of_ble_eq_true rfl) dX7_turned_38 ⟨Nat.le_of_ble_eq_true rfl, Nat.le_of_ble_eq_true rfl⟩ (fun w1 H locs hB hP hD hS => ?_)
    subst hB
    refine lv_if_ne (tgt := 48) hx hb dX7_turned_41 (by decide) (fun c_2 => ?_) (fun c_2 => ?_)
    · have c_2 := sm_b1 c_2
      refine lv_iconst (v := 0) hx hb dX7_turned_48 (by decide) ?_
      refine sm_pt (ci := 7) (C := RX7) (T := TX7) (N := 33) hx hb hts inlX7 tyX7 tyX7_ok nmX7 hown hK hP hD hS 0 rfl rfl 19 (by decide) wf_RX7_69 rfl rfl rfl (Nat.le_of_ble_eq_true rfl) dX7_turned_49 (fun H locs hP hD hS => ?_)
      have hP : va_P D.1 sm_cl (sm_w7 D am P S T L nm Z ((sm_tr P ((S.2.1 k), (S.2.2 k))).2) ph 0 n2 fo rd np pw ev od rc wr) H := hP
      have hD : va_D (sm_ad (sm_w7 D am P S T L nm Z cp ph th n2 fo rd np pw ev od rc wr)) (sm_w7 D am P S T L nm Z ((sm_tr P ((S.2.1 k), (S.2.2 k))).2) ph 0 n2 fo rd np pw ev od rc wr) := hD
      refine lv_aload_n hx hb dX7_turned_52 rfl (lv_at hl 0 rfl) ?_
      refine sm_gt (ci := 7) (C := RX7) (T := TX7) (N := 33) hx hb hts inlX7 hown hK hP 0 rfl rfl 19 (by decide) wf_RX7_69 rfl dX7_turned_53 ?_
      refine lv_if_le (tgt := 63) hx hb dX7_turned_56 (by decide) (fun _ => ?_) (fun h => absurd h (by decide))
      refine lv_iload_n hx hb dX7_turned_63 rfl (lv_at hl 2 rfl) ?_
      refine lv_if_eq (tgt := 74) hx hb dX7_turned_64 (by decide) (fun c_3 => ?_) (fun c_3 => ?_)
      · have c_3 := sm_b0 c_3
        refine lv_aload_n hx hb dX7_turned_74 rfl (lv_at hl 0 rfl) ?_
        refine sm_gt (ci := 7) (C := RX7) (T := TX7) (N := 33) hx hb hts inlX7 hown hK hP 0 rfl rfl 30 (by decide) wf_RX7_103 rfl dX7_turned_75 ?_
        exact sm_retC hC hP hD hS (by simp [sm_k1, sm_k23, sm_tn, sm_pk, c_1, c_2, c_3]) rfl (by exact ⟨((sm_tr P ((S.2.1 k), (S.2.2 k))).2), by simp [sm_k1, sm_k23, sm_tn, c_1, c_2, c_3]⟩) dX7_turned_78
      · have c_3 := sm_b1 c_3
        refine lv_aload_n hx hb dX7_turned_67 rfl (lv_at hl 0 rfl) ?_
        refine sm_gt (ci := 7) (C := RX7) (T := TX7) (N := 33) hx hb hts inlX7 hown hK hP 0 rfl rfl 31 (by decide) wf_RX7_106 rfl dX7_turned_68 ?_
        refine lv_goto (tgt := 78) hx hb dX7_turned_71 (by decide) ?_
        exact sm_retC hC hP hD hS (by simp [sm_k1, sm_k23, sm_tn, sm_pk, c_1, c_2, c_3]) rfl (by exact ⟨((sm_tr P ((S.2.1 k), (S.2.2 k))).2), by simp [sm_k1, sm_k23, sm_tn, c_1, c_2, c_3]⟩) dX7_turned_78
    · have c_2 := sm_b0 c_2
      refine lv_iconst (v := 3) hx hb dX7_turned_44 (by decide) ?_
      refine lv_goto (tgt := 49) hx hb dX7_turned_45 (by decide) ?_
      refine sm_pt (ci := 7) (C := RX7) (T := TX7) (N := 33) hx hb hts inlX7 tyX7 tyX7_ok nmX7 hown hK hP hD hS 0 rfl rfl 19 (by decide) wf_RX7_69 rfl rfl rfl (Nat.le_of_ble_eq_true rfl) dX7_turned_49 (fun H locs hP hD hS => ?_)
      have hP : va_P D.1 sm_cl (sm_w7 D am P S T L nm Z ((sm_tr P ((S.2.1 k), (S.2.2 k))).2) ph 3 n2 fo rd np pw ev od rc wr) H := hP
      have hD : va_D (sm_ad (sm_w7 D am P S T L nm Z cp ph th n2 fo rd np pw ev od rc wr)) (sm_w7 D am P S T L nm Z ((sm_tr P ((S.2.1 k), (S.2.2 k))).2) ph 3 n2 fo rd np pw ev od rc wr) := hD
      refine lv_aload_n hx hb dX7_turned_52 rfl (lv_at hl 0 rfl) ?_
      refine sm_gt (ci := 7) (C := RX7) (T := TX7) (N := 33) hx hb hts inlX7 hown hK hP 0 rfl rfl 19 (by decide) wf_RX7_69 rfl dX7_turned_53 ?_
      refine lv_if_le (tgt := 63) hx hb dX7_turned_56 (by decide) (fun h => absurd h (by decide)) (fun _ => ?_)
      refine lv_iconst (v := 0) hx hb dX7_turned_59 (by decide) ?_
      refine lv_goto (tgt := 78) hx hb dX7_turned_60 (by decide) ?_
      exact sm_retC hC hP hD hS (by simp [sm_k1, sm_k23, sm_tn, sm_pk, c_1, c_2]) rfl (by exact ⟨((sm_tr P ((S.2.1 k), (S.2.2 k))).2), by simp [sm_k1, sm_k23, sm_tn, c_1, c_2]⟩) dX7_turned_78
  · have c_1 := sm_b0 c_1
    refine lv_iconst (v := 2) hx hb dX7_turned_21 (by decide) ?_
    refine lv_goto (tgt := 49) hx hb dX7_turned_22 (by decide) ?_
    refine sm_pt (ci := 7) (C := RX7) (T := TX7) (N := 33) hx hb hts inlX7 tyX7 tyX7_ok nmX7 hown hK hP hD hS 0 rfl rfl 19 (by decide) wf_RX7_69 rfl rfl rfl (Nat.le_of_ble_eq_true rfl) dX7_turned_49 (fun H locs hP hD hS => ?_)
    have hP : va_P D.1 sm_cl (sm_w7 D am P S T L nm Z cp ph 2 n2 fo rd np pw ev od rc wr) H := hP
    have hD : va_D (sm_ad (sm_w7 D am P S T L nm Z cp ph th n2 fo rd np pw ev od rc wr)) (sm_w7 D am P S T L nm Z cp ph 2 n2 fo rd np pw ev od rc wr) := hD
    refine lv_aload_n hx hb dX7_turned_52 rfl (lv_at hl 0 rfl) ?_
    refine sm_gt (ci := 7) (C := RX7) (T := TX7) (N := 33) hx hb hts inlX7 hown hK hP 0 rfl rfl 19 (by decide) wf_RX7_69 rfl dX7_turned_53 ?_
    refine lv_if_le (tgt := 63) hx hb dX7_turned_56 (by decide) (fun h => absurd h (by decide)) (fun _ => ?_)
    refine lv_iconst (v := 0) hx hb dX7_turned_59 (by decide) ?_
    refine lv_goto (tgt := 78) hx hb dX7_turned_60 (by decide) ?_
    exact sm_retC hC hP hD hS (by simp [sm_k1, sm_k23, sm_tn, sm_pk, c_1]) rfl (by exact ⟨cp, by simp [sm_k1, sm_k23, sm_tn, c_1]⟩) dX7_turned_78

set_option maxHeartbeats 1000000 in
set_option maxRecDepth 100000 in
theorem c_X7_turnedBack (k : Nat) (hk : k < 40) (z : Bool) (hP6 : P.1 ≤ 6) (hOK : ∀ i, i < P.1 → sm_kOK (P.2.1 i) (P.2.2 i)) : sm_MC l yX7_turnedBack cX7_turnedBack 3 (some .int) 3 66 [.ref (am 0), .int (nI k), .int (sm_b z)] D (sm_w7 D am P S T L nm Z cp ph th n2 fo rd np pw ev od rc wr) (fun w => ∃ (cp' : sm_Cp), w = sm_w7 D am P S T L nm Z (cp') ph (sm_k23 (sm_kd T k 1) (sm_tb P T k)) n2 fo rd np pw ev od rc wr) (some (.int (if sm_k23 (sm_kd T k 1) (sm_tb P T k) = 0 then sm_pk z (sm_bk P (T.2.2.1 k, T.2.2.2 k)).2 else 0))) := by
  refine sm_met (own := RX7) (by decide) rfl (Nat.le_of_ble_eq_true rfl) ?_
  intro p e s m below meth c ls hC hv hl
  obtain ⟨hx, hb, hml, hr, hown, hlk, hts⟩ := id hC
  obtain ⟨⟨hP, hK⟩, hD, hZ⟩ := hv
  have hS : va_S (sm_ad (sm_w7 D am P S T L nm Z cp ph th n2 fo rd np pw ev od rc wr)) s.heap s.heap [] := va_S.rf
  have hl : lv_has ls 3 [(0, .ref (am 0)), (1, .int (nI k)), (2, .int (sm_b z))] := hl
  refine lv_aload_n hx hb dX7_turnedBack_0 rfl (lv_at hl 0 rfl) ?_
  refine lv_iload_n hx hb dX7_turnedBack_1 rfl (lv_at hl 1 rfl) ?_
  refine sm_cSPr (rest := [.ref (am 0)]) hC hK hP (c_X7_isKey D am P S T L nm Z cp ph th n2 fo rd np pw ev od rc wr k (by omega)) qyX7_isKey wl_RX7_187 ⟨Nat.le_of_ble_eq_true rfl, Nat.le_of_ble_eq_true rfl⟩ rfl hl.1 rfl (Nat.le_of_ble_eq_true rfl) dX7_turnedBack_2 ⟨Nat.le_of_ble_eq_true rfl, Nat.le_of_ble_eq_true rfl⟩ ?_
  refine lv_if_ne (tgt := 12) hx hb dX7_turnedBack_5 (by decide) (fun _ => ?_) (fun h => absurd h (by decide))
  refine lv_aload_n hx hb dX7_turnedBack_12 rfl (lv_at hl 0 rfl) ?_
  refine sm_gt (ci := 7) (C := RX7) (T := TX7) (N := 33) hx hb hts inlX7 hown hK hP 0 rfl rfl 1 (by decide) wf_RX7_13 rfl dX7_turnedBack_13 ?_
  refine lv_iload_n hx hb dX7_turnedBack_16 rfl (lv_at hl 1 rfl) ?_
  refine sm_cld hx hb hK hP 2 rfl k rfl (by omega) (by decide) dX7_turnedBack_17 ?_
  refine lv_bipush (v := 101) hx hb dX7_turnedBack_18 (by decide) ?_
  refine lv_icmp_eq (tgt := 27) hx hb dX7_turnedBack_20 (by decide) (fun c_1 => ?_) (fun c_1 => ?_)
  · have c_1 := sm_hcT1 c_1
    refine lv_aload_n hx hb dX7_turnedBack_27 rfl (lv_at hl 0 rfl) ?_
    refine lv_aload_n hx hb dX7_turnedBack_28 rfl (lv_at hl 0 rfl) ?_
    refine sm_gt (ci := 7) (C := RX7) (T := TX7) (N := 33) hx hb hts inlX7 hown hK hP 0 rfl rfl 5 (by decide) wf_RX7_26 rfl dX7_turnedBack_29 ?_
    refine lv_iload_n hx hb dX7_turnedBack_32 rfl (lv_at hl 1 rfl) ?_
    refine sm_ild hx hb hK hP 6 rfl k rfl (by omega) (by decide) dX7_turnedBack_33 ?_
    refine lv_aload_n hx hb dX7_turnedBack_34 rfl (lv_at hl 0 rfl) ?_
    refine sm_gt (ci := 7) (C := RX7) (T := TX7) (N := 33) hx hb hts inlX7 hown hK hP 0 rfl rfl 6 (by decide) wf_RX7_29 rfl dX7_turnedBack_35 ?_
    refine lv_iload_n hx hb dX7_turnedBack_38 rfl (lv_at hl 1 rfl) ?_
    refine sm_ild hx hb hK hP 7 rfl k rfl (by omega) (by decide) dX7_turnedBack_39 ?_
    refine sm_cVCr (rest := [.ref (am 0)]) hC hK hP hD hS hZ (c_X7_turnsBack D am P S T L nm Z cp ph th n2 fo rd np pw ev od rc wr (T.2.2.1 k) (T.2.2.2 k) hP6 hOK) qyX7_turnsBack wl_RX7_174 ⟨Nat.le_of_ble_eq_true rfl, Nat.le_of_ble_eq_true rfl⟩ 0 rfl rfl rfl hl.1 rfl (Nat.le_of_ble_eq_true rfl) dX7_turnedBack_40 ⟨Nat.le_of_ble_eq_true rfl, Nat.le_of_ble_eq_true rfl⟩ (fun w1 H locs hB hP hD hS => ?_)
    subst hB
    refine lv_if_ne (tgt := 50) hx hb dX7_turnedBack_43 (by decide) (fun c_2 => ?_) (fun c_2 => ?_)
    · have c_2 := sm_b1 c_2
      refine lv_iconst (v := 0) hx hb dX7_turnedBack_50 (by decide) ?_
      refine sm_pt (ci := 7) (C := RX7) (T := TX7) (N := 33) hx hb hts inlX7 tyX7 tyX7_ok nmX7 hown hK hP hD hS 0 rfl rfl 19 (by decide) wf_RX7_69 rfl rfl rfl (Nat.le_of_ble_eq_true rfl) dX7_turnedBack_51 (fun H locs hP hD hS => ?_)
      have hP : va_P D.1 sm_cl (sm_w7 D am P S T L nm Z ((sm_bk P ((T.2.2.1 k), (T.2.2.2 k))).2) ph 0 n2 fo rd np pw ev od rc wr) H := hP
      have hD : va_D (sm_ad (sm_w7 D am P S T L nm Z cp ph th n2 fo rd np pw ev od rc wr)) (sm_w7 D am P S T L nm Z ((sm_bk P ((T.2.2.1 k), (T.2.2.2 k))).2) ph 0 n2 fo rd np pw ev od rc wr) := hD
      refine lv_aload_n hx hb dX7_turnedBack_54 rfl (lv_at hl 0 rfl) ?_
      refine sm_gt (ci := 7) (C := RX7) (T := TX7) (N := 33) hx hb hts inlX7 hown hK hP 0 rfl rfl 19 (by decide) wf_RX7_69 rfl dX7_turnedBack_55 ?_
      refine lv_if_le (tgt := 65) hx hb dX7_turnedBack_58 (by decide) (fun _ => ?_) (fun h => absurd h (by decide))
      refine lv_iload_n hx hb dX7_turnedBack_65 rfl (lv_at hl 2 rfl) ?_
      refine lv_if_eq (tgt := 76) hx hb dX7_turnedBack_66 (by decide) (fun c_3 => ?_) (fun c_3 => ?_)
      · have c_3 := sm_b0 c_3
        refine lv_aload_n hx hb dX7_turnedBack_76 rfl (lv_at hl 0 rfl) ?_
        refine sm_gt (ci := 7) (C := RX7) (T := TX7) (N := 33) hx hb hts inlX7 hown hK hP 0 rfl rfl 30 (by decide) wf_RX7_103 rfl dX7_turnedBack_77 ?_
        exact sm_retC hC hP hD hS (by simp [sm_k1, sm_k23, sm_tb, sm_pk, c_1, c_2, c_3]) rfl (by exact ⟨((sm_bk P ((T.2.2.1 k), (T.2.2.2 k))).2), by simp [sm_k1, sm_k23, sm_tb, c_1, c_2, c_3]⟩) dX7_turnedBack_80
      · have c_3 := sm_b1 c_3
        refine lv_aload_n hx hb dX7_turnedBack_69 rfl (lv_at hl 0 rfl) ?_
        refine sm_gt (ci := 7) (C := RX7) (T := TX7) (N := 33) hx hb hts inlX7 hown hK hP 0 rfl rfl 31 (by decide) wf_RX7_106 rfl dX7_turnedBack_70 ?_
        refine lv_goto (tgt := 80) hx hb dX7_turnedBack_73 (by decide) ?_
        exact sm_retC hC hP hD hS (by simp [sm_k1, sm_k23, sm_tb, sm_pk, c_1, c_2, c_3]) rfl (by exact ⟨((sm_bk P ((T.2.2.1 k), (T.2.2.2 k))).2), by simp [sm_k1, sm_k23, sm_tb, c_1, c_2, c_3]⟩) dX7_turnedBack_80
    · have c_2 := sm_b0 c_2
      refine lv_iconst (v := 3) hx hb dX7_turnedBack_46 (by decide) ?_
      refine lv_goto (tgt := 51) hx hb dX7_turnedBack_47 (by decide) ?_
      refine sm_pt (ci := 7) (C := RX7) (T := TX7) (N := 33) hx hb hts inlX7 tyX7 tyX7_ok nmX7 hown hK hP hD hS 0 rfl rfl 19 (by decide) wf_RX7_69 rfl rfl rfl (Nat.le_of_ble_eq_true rfl) dX7_turnedBack_51 (fun H locs hP hD hS => ?_)
      have hP : va_P D.1 sm_cl (sm_w7 D am P S T L nm Z ((sm_bk P ((T.2.2.1 k), (T.2.2.2 k))).2) ph 3 n2 fo rd np pw ev od rc wr) H := hP
      have hD : va_D (sm_ad (sm_w7 D am P S T L nm Z cp ph th n2 fo rd np pw ev od rc wr)) (sm_w7 D am P S T L nm Z ((sm_bk P ((T.2.2.1 k), (T.2.2.2 k))).2) ph 3 n2 fo rd np pw ev od rc wr) := hD
      refine lv_aload_n hx hb dX7_turnedBack_54 rfl (lv_at hl 0 rfl) ?_
      refine sm_gt (ci := 7) (C := RX7) (T := TX7) (N := 33) hx hb hts inlX7 hown hK hP 0 rfl rfl 19 (by decide) wf_RX7_69 rfl dX7_turnedBack_55 ?_
      refine lv_if_le (tgt := 65) hx hb dX7_turnedBack_58 (by decide) (fun h => absurd h (by decide)) (fun _ => ?_)
      refine lv_iconst (v := 0) hx hb dX7_turnedBack_61 (by decide) ?_
      refine lv_goto (tgt := 80) hx hb dX7_turnedBack_62 (by decide) ?_
      exact sm_retC hC hP hD hS (by simp [sm_k1, sm_k23, sm_tb, sm_pk, c_1, c_2]) rfl (by exact ⟨((sm_bk P ((T.2.2.1 k), (T.2.2.2 k))).2), by simp [sm_k1, sm_k23, sm_tb, c_1, c_2]⟩) dX7_turnedBack_80
  · have c_1 := sm_hcF1 c_1
    refine lv_iconst (v := 2) hx hb dX7_turnedBack_23 (by decide) ?_
    refine lv_goto (tgt := 51) hx hb dX7_turnedBack_24 (by decide) ?_
    refine sm_pt (ci := 7) (C := RX7) (T := TX7) (N := 33) hx hb hts inlX7 tyX7 tyX7_ok nmX7 hown hK hP hD hS 0 rfl rfl 19 (by decide) wf_RX7_69 rfl rfl rfl (Nat.le_of_ble_eq_true rfl) dX7_turnedBack_51 (fun H locs hP hD hS => ?_)
    have hP : va_P D.1 sm_cl (sm_w7 D am P S T L nm Z cp ph 2 n2 fo rd np pw ev od rc wr) H := hP
    have hD : va_D (sm_ad (sm_w7 D am P S T L nm Z cp ph th n2 fo rd np pw ev od rc wr)) (sm_w7 D am P S T L nm Z cp ph 2 n2 fo rd np pw ev od rc wr) := hD
    refine lv_aload_n hx hb dX7_turnedBack_54 rfl (lv_at hl 0 rfl) ?_
    refine sm_gt (ci := 7) (C := RX7) (T := TX7) (N := 33) hx hb hts inlX7 hown hK hP 0 rfl rfl 19 (by decide) wf_RX7_69 rfl dX7_turnedBack_55 ?_
    refine lv_if_le (tgt := 65) hx hb dX7_turnedBack_58 (by decide) (fun h => absurd h (by decide)) (fun _ => ?_)
    refine lv_iconst (v := 0) hx hb dX7_turnedBack_61 (by decide) ?_
    refine lv_goto (tgt := 80) hx hb dX7_turnedBack_62 (by decide) ?_
    exact sm_retC hC hP hD hS (by simp [sm_k1, sm_k23, sm_tb, sm_pk, c_1]) rfl (by exact ⟨cp, by simp [sm_k1, sm_k23, sm_tb, c_1]⟩) dX7_turnedBack_80

set_option maxHeartbeats 1000000 in
set_option maxRecDepth 100000 in
theorem c_X7_goal (k : Nat) (hk : k < 40) (hP6 : P.1 ≤ 6) (hOK : ∀ i, i < P.1 → sm_kOK (P.2.1 i) (P.2.2 i)) : sm_MC l yX7_goal cX7_goal 2 (some .char) 3 66 [.ref (am 0), .int (nI k)] D (sm_w7 D am P S T L nm Z cp ph th n2 fo rd np pw ev od rc wr) (fun w => ∃ (cp' : sm_Cp), w = sm_w7 D am P S T L nm Z (cp') ph (sm_kGl ph) n2 fo rd np pw ev od rc wr) (some (.int (if sm_kGl ph = 0 then sm_glF P S k else 32))) := by
  refine sm_met (own := RX7) (by decide) rfl (Nat.le_of_ble_eq_true rfl) ?_
  intro p e s m below meth c ls hC hv hl
  obtain ⟨hx, hb, hml, hr, hown, hlk, hts⟩ := id hC
  obtain ⟨⟨hP, hK⟩, hD, hZ⟩ := hv
  have hS : va_S (sm_ad (sm_w7 D am P S T L nm Z cp ph th n2 fo rd np pw ev od rc wr)) s.heap s.heap [] := va_S.rf
  have hl : lv_has ls 2 [(0, .ref (am 0)), (1, .int (nI k))] := hl
  refine lv_aload_n hx hb dX7_goal_0 rfl (lv_at hl 0 rfl) ?_
  refine lv_iload_n hx hb dX7_goal_1 rfl (lv_at hl 1 rfl) ?_
  refine sm_cSPr (rest := [.ref (am 0)]) hC hK hP (c_X7_isKey D am P S T L nm Z cp ph th n2 fo rd np pw ev od rc wr k (by omega)) qyX7_isKey wl_RX7_187 ⟨Nat.le_of_ble_eq_true rfl, Nat.le_of_ble_eq_true rfl⟩ rfl hl.1 rfl (Nat.le_of_ble_eq_true rfl) dX7_goal_2 ⟨Nat.le_of_ble_eq_true rfl, Nat.le_of_ble_eq_true rfl⟩ ?_
  refine lv_if_ne (tgt := 12) hx hb dX7_goal_5 (by decide) (fun _ => ?_) (fun h => absurd h (by decide))
  refine lv_aload_n hx hb dX7_goal_12 rfl (lv_at hl 0 rfl) ?_
  refine sm_gt (ci := 7) (C := RX7) (T := TX7) (N := 33) hx hb hts inlX7 hown hK hP 0 rfl rfl 32 (by decide) wf_RX7_109 rfl dX7_goal_13 ?_
  refine lv_bipush (v := 99) hx hb dX7_goal_16 (by decide) ?_
  refine lv_icmp_eq (tgt := 34) hx hb dX7_goal_18 (by decide) (fun c_1 => ?_) (fun c_1 => ?_)
  · have c_1_ := c_1
    refine lv_iconst (v := 0) hx hb dX7_goal_34 (by decide) ?_
    refine sm_pt (ci := 7) (C := RX7) (T := TX7) (N := 33) hx hb hts inlX7 tyX7 tyX7_ok nmX7 hown hK hP hD hS 0 rfl rfl 19 (by decide) wf_RX7_69 rfl rfl rfl (Nat.le_of_ble_eq_true rfl) dX7_goal_35 (fun H locs hP hD hS => ?_)
    have hP : va_P D.1 sm_cl (sm_w7 D am P S T L nm Z cp ph 0 n2 fo rd np pw ev od rc wr) H := hP
    have hD : va_D (sm_ad (sm_w7 D am P S T L nm Z cp ph th n2 fo rd np pw ev od rc wr)) (sm_w7 D am P S T L nm Z cp ph 0 n2 fo rd np pw ev od rc wr) := hD
    refine lv_aload_n hx hb dX7_goal_38 rfl (lv_at hl 0 rfl) ?_
    refine sm_gt (ci := 7) (C := RX7) (T := TX7) (N := 33) hx hb hts inlX7 hown hK hP 0 rfl rfl 19 (by decide) wf_RX7_69 rfl dX7_goal_39 ?_
    refine lv_if_le (tgt := 48) hx hb dX7_goal_42 (by decide) (fun _ => ?_) (fun h => absurd h (by decide))
    refine lv_aload_n hx hb dX7_goal_48 rfl (lv_at hl 0 rfl) ?_
    refine sm_gt (ci := 7) (C := RX7) (T := TX7) (N := 33) hx hb hts inlX7 hown hK hP 0 rfl rfl 8 (by decide) wf_RX7_35 rfl dX7_goal_49 ?_
    refine lv_iload_n hx hb dX7_goal_52 rfl (lv_at hl 1 rfl) ?_
    refine sm_zld hx hb hK hP 9 rfl k rfl (by omega) (by decide) dX7_goal_53 ?_
    refine lv_if_ne (tgt := 62) hx hb dX7_goal_54 (by decide) (fun c_2 => ?_) (fun c_2 => ?_)
    · have c_2 := sm_b1 c_2
      refine lv_aload_n hx hb dX7_goal_62 rfl (lv_at hl 0 rfl) ?_
      refine lv_aload_n hx hb dX7_goal_63 rfl (lv_at hl 0 rfl) ?_
      refine sm_gt (ci := 7) (C := RX7) (T := TX7) (N := 33) hx hb hts inlX7 hown hK hP 0 rfl rfl 3 (by decide) wf_RX7_20 rfl dX7_goal_64 ?_
      refine lv_iload_n hx hb dX7_goal_67 rfl (lv_at hl 1 rfl) ?_
      refine sm_ild hx hb hK hP 4 rfl k rfl (by omega) (by decide) dX7_goal_68 ?_
      refine lv_aload_n hx hb dX7_goal_69 rfl (lv_at hl 0 rfl) ?_
      refine sm_gt (ci := 7) (C := RX7) (T := TX7) (N := 33) hx hb hts inlX7 hown hK hP 0 rfl rfl 4 (by decide) wf_RX7_23 rfl dX7_goal_70 ?_
      refine lv_iload_n hx hb dX7_goal_73 rfl (lv_at hl 1 rfl) ?_
      refine sm_ild hx hb hK hP 5 rfl k rfl (by omega) (by decide) dX7_goal_74 ?_
      refine sm_cVCr (rest := []) hC hK hP hD hS hZ (c_X7_turns D am P S T L nm Z cp ph 0 n2 fo rd np pw ev od rc wr (S.2.1 k) (S.2.2 k) hP6 hOK) qyX7_turns wl_RX7_140 ⟨Nat.le_of_ble_eq_true rfl, Nat.le_of_ble_eq_true rfl⟩ 0 rfl rfl rfl hl.1 rfl (Nat.le_of_ble_eq_true rfl) dX7_goal_75 ⟨Nat.le_of_ble_eq_true rfl, Nat.le_of_ble_eq_true rfl⟩ (fun w1 H locs hB hP hD hS => ?_)
      subst hB
      refine lv_if_eq (tgt := 86) hx hb dX7_goal_78 (by decide) (fun c_3 => ?_) (fun c_3 => ?_)
      · have c_3 := sm_b0 c_3
        refine lv_bipush (v := 97) hx hb dX7_goal_86 (by decide) ?_
        exact sm_retC hC hP hD hS (by subst c_1; simp [sm_k1, sm_kGl, sm_glF, sm_tn, c_2, c_3]) (by decide) (by exact ⟨((sm_tr P ((S.2.1 k), (S.2.2 k))).2), by subst c_1; simp [sm_k1, sm_kGl, c_2, c_3]⟩) dX7_goal_88
      · have c_3 := sm_b1 c_3
        refine lv_bipush (v := 101) hx hb dX7_goal_81 (by decide) ?_
        refine lv_goto (tgt := 88) hx hb dX7_goal_83 (by decide) ?_
        exact sm_retC hC hP hD hS (by subst c_1; simp [sm_k1, sm_kGl, sm_glF, sm_tn, c_2, c_3]) (by decide) (by exact ⟨((sm_tr P ((S.2.1 k), (S.2.2 k))).2), by subst c_1; simp [sm_k1, sm_kGl, c_2, c_3]⟩) dX7_goal_88
    · have c_2 := sm_b0 c_2
      refine lv_bipush (v := 110) hx hb dX7_goal_57 (by decide) ?_
      refine lv_goto (tgt := 88) hx hb dX7_goal_59 (by decide) ?_
      exact sm_retC hC hP hD hS (by subst c_1; simp [sm_k1, sm_kGl, sm_glF, sm_tn, c_2]) (by decide) (by exact ⟨cp, by subst c_1; simp [sm_k1, sm_kGl, c_2]⟩) dX7_goal_88
  · have c_1_ := c_1
    refine lv_aload_n hx hb dX7_goal_21 rfl (lv_at hl 0 rfl) ?_
    refine sm_gt (ci := 7) (C := RX7) (T := TX7) (N := 33) hx hb hts inlX7 hown hK hP 0 rfl rfl 32 (by decide) wf_RX7_109 rfl dX7_goal_22 ?_
    refine lv_bipush (v := 98) hx hb dX7_goal_25 (by decide) ?_
    refine lv_icmp_eq (tgt := 34) hx hb dX7_goal_27 (by decide) (fun c_4 => ?_) (fun c_4 => ?_)
    · have c_4_ := c_4
      refine lv_iconst (v := 0) hx hb dX7_goal_34 (by decide) ?_
      refine sm_pt (ci := 7) (C := RX7) (T := TX7) (N := 33) hx hb hts inlX7 tyX7 tyX7_ok nmX7 hown hK hP hD hS 0 rfl rfl 19 (by decide) wf_RX7_69 rfl rfl rfl (Nat.le_of_ble_eq_true rfl) dX7_goal_35 (fun H locs hP hD hS => ?_)
      have hP : va_P D.1 sm_cl (sm_w7 D am P S T L nm Z cp ph 0 n2 fo rd np pw ev od rc wr) H := hP
      have hD : va_D (sm_ad (sm_w7 D am P S T L nm Z cp ph th n2 fo rd np pw ev od rc wr)) (sm_w7 D am P S T L nm Z cp ph 0 n2 fo rd np pw ev od rc wr) := hD
      refine lv_aload_n hx hb dX7_goal_38 rfl (lv_at hl 0 rfl) ?_
      refine sm_gt (ci := 7) (C := RX7) (T := TX7) (N := 33) hx hb hts inlX7 hown hK hP 0 rfl rfl 19 (by decide) wf_RX7_69 rfl dX7_goal_39 ?_
      refine lv_if_le (tgt := 48) hx hb dX7_goal_42 (by decide) (fun _ => ?_) (fun h => absurd h (by decide))
      refine lv_aload_n hx hb dX7_goal_48 rfl (lv_at hl 0 rfl) ?_
      refine sm_gt (ci := 7) (C := RX7) (T := TX7) (N := 33) hx hb hts inlX7 hown hK hP 0 rfl rfl 8 (by decide) wf_RX7_35 rfl dX7_goal_49 ?_
      refine lv_iload_n hx hb dX7_goal_52 rfl (lv_at hl 1 rfl) ?_
      refine sm_zld hx hb hK hP 9 rfl k rfl (by omega) (by decide) dX7_goal_53 ?_
      refine lv_if_ne (tgt := 62) hx hb dX7_goal_54 (by decide) (fun c_5 => ?_) (fun c_5 => ?_)
      · have c_5 := sm_b1 c_5
        refine lv_aload_n hx hb dX7_goal_62 rfl (lv_at hl 0 rfl) ?_
        refine lv_aload_n hx hb dX7_goal_63 rfl (lv_at hl 0 rfl) ?_
        refine sm_gt (ci := 7) (C := RX7) (T := TX7) (N := 33) hx hb hts inlX7 hown hK hP 0 rfl rfl 3 (by decide) wf_RX7_20 rfl dX7_goal_64 ?_
        refine lv_iload_n hx hb dX7_goal_67 rfl (lv_at hl 1 rfl) ?_
        refine sm_ild hx hb hK hP 4 rfl k rfl (by omega) (by decide) dX7_goal_68 ?_
        refine lv_aload_n hx hb dX7_goal_69 rfl (lv_at hl 0 rfl) ?_
        refine sm_gt (ci := 7) (C := RX7) (T := TX7) (N := 33) hx hb hts inlX7 hown hK hP 0 rfl rfl 4 (by decide) wf_RX7_23 rfl dX7_goal_70 ?_
        refine lv_iload_n hx hb dX7_goal_73 rfl (lv_at hl 1 rfl) ?_
        refine sm_ild hx hb hK hP 5 rfl k rfl (by omega) (by decide) dX7_goal_74 ?_
        refine sm_cVCr (rest := []) hC hK hP hD hS hZ (c_X7_turns D am P S T L nm Z cp ph 0 n2 fo rd np pw ev od rc wr (S.2.1 k) (S.2.2 k) hP6 hOK) qyX7_turns wl_RX7_140 ⟨Nat.le_of_ble_eq_true rfl, Nat.le_of_ble_eq_true rfl⟩ 0 rfl rfl rfl hl.1 rfl (Nat.le_of_ble_eq_true rfl) dX7_goal_75 ⟨Nat.le_of_ble_eq_true rfl, Nat.le_of_ble_eq_true rfl⟩ (fun w1 H locs hB hP hD hS => ?_)
        subst hB
        refine lv_if_eq (tgt := 86) hx hb dX7_goal_78 (by decide) (fun c_6 => ?_) (fun c_6 => ?_)
        · have c_6 := sm_b0 c_6
          refine lv_bipush (v := 97) hx hb dX7_goal_86 (by decide) ?_
          exact sm_retC hC hP hD hS (by subst c_4; simp [sm_k1, sm_kGl, sm_glF, sm_tn, c_1, c_5, c_6]) (by decide) (by exact ⟨((sm_tr P ((S.2.1 k), (S.2.2 k))).2), by subst c_4; simp [sm_k1, sm_kGl, c_1, c_5, c_6]⟩) dX7_goal_88
        · have c_6 := sm_b1 c_6
          refine lv_bipush (v := 101) hx hb dX7_goal_81 (by decide) ?_
          refine lv_goto (tgt := 88) hx hb dX7_goal_83 (by decide) ?_
          exact sm_retC hC hP hD hS (by subst c_4; simp [sm_k1, sm_kGl, sm_glF, sm_tn, c_1, c_5, c_6]) (by decide) (by exact ⟨((sm_tr P ((S.2.1 k), (S.2.2 k))).2), by subst c_4; simp [sm_k1, sm_kGl, c_1, c_5, c_6]⟩) dX7_goal_88
      · have c_5 := sm_b0 c_5
        refine lv_bipush (v := 110) hx hb dX7_goal_57 (by decide) ?_
        refine lv_goto (tgt := 88) hx hb dX7_goal_59 (by decide) ?_
        exact sm_retC hC hP hD hS (by subst c_4; simp [sm_k1, sm_kGl, sm_glF, sm_tn, c_1, c_5]) (by decide) (by exact ⟨cp, by subst c_4; simp [sm_k1, sm_kGl, c_1, c_5]⟩) dX7_goal_88
    · have c_4_ := c_4
      refine lv_iconst (v := 2) hx hb dX7_goal_30 (by decide) ?_
      refine lv_goto (tgt := 35) hx hb dX7_goal_31 (by decide) ?_
      refine sm_pt (ci := 7) (C := RX7) (T := TX7) (N := 33) hx hb hts inlX7 tyX7 tyX7_ok nmX7 hown hK hP hD hS 0 rfl rfl 19 (by decide) wf_RX7_69 rfl rfl rfl (Nat.le_of_ble_eq_true rfl) dX7_goal_35 (fun H locs hP hD hS => ?_)
      have hP : va_P D.1 sm_cl (sm_w7 D am P S T L nm Z cp ph 2 n2 fo rd np pw ev od rc wr) H := hP
      have hD : va_D (sm_ad (sm_w7 D am P S T L nm Z cp ph th n2 fo rd np pw ev od rc wr)) (sm_w7 D am P S T L nm Z cp ph 2 n2 fo rd np pw ev od rc wr) := hD
      refine lv_aload_n hx hb dX7_goal_38 rfl (lv_at hl 0 rfl) ?_
      refine sm_gt (ci := 7) (C := RX7) (T := TX7) (N := 33) hx hb hts inlX7 hown hK hP 0 rfl rfl 19 (by decide) wf_RX7_69 rfl dX7_goal_39 ?_
      refine lv_if_le (tgt := 48) hx hb dX7_goal_42 (by decide) (fun h => absurd h (by decide)) (fun _ => ?_)
      refine lv_bipush (v := 32) hx hb dX7_goal_45 (by decide) ?_
      exact sm_retC hC hP hD hS (by simp [sm_k1, sm_kGl, sm_glF, sm_tn, c_1, c_4]) (by decide) (by exact ⟨cp, by simp [sm_k1, sm_kGl, c_1, c_4]⟩) dX7_goal_47

set_option maxHeartbeats 1000000 in
set_option maxRecDepth 100000 in
theorem c_X7_isRange (y z : Nat) (hy : y < 40) (hz : z < 40) (hyz : ¬ z < y) : sm_MP l yX7_isRange cX7_isRange 2 (some .boolean) 2 42 [.int (nI y), .int (nI z)] D (sm_w7 D am P S T L nm Z cp ph th n2 fo rd np pw ev od rc wr) (some (.int (sm_b true))) := by
  refine sm_met (own := RX7) (by decide) rfl (Nat.le_of_ble_eq_true rfl) ?_
  intro p e s m below meth c ls hC hv hl
  obtain ⟨hx, hb, hml, hr, hown, hlk, hts⟩ := id hC
  obtain ⟨hP, hK⟩ := hv
  have hl : lv_has ls 2 [(0, .int (nI y)), (1, .int (nI z))] := hl
  refine lv_iload_n hx hb dX7_isRange_0 rfl (lv_at hl 0 rfl) ?_
  refine sm_cSPr (rest := []) hC hK hP (c_X7_isKey D am P S T L nm Z cp ph th n2 fo rd np pw ev od rc wr y (by omega)) qyX7_isKey wl_RX7_187 ⟨Nat.le_of_ble_eq_true rfl, Nat.le_of_ble_eq_true rfl⟩ rfl hl.1 rfl (Nat.le_of_ble_eq_true rfl) dX7_isRange_1 ⟨Nat.le_of_ble_eq_true rfl, Nat.le_of_ble_eq_true rfl⟩ ?_
  refine lv_if_eq (tgt := 23) hx hb dX7_isRange_4 (by decide) (fun h => absurd h (by decide)) (fun _ => ?_)
  refine lv_iload_n hx hb dX7_isRange_7 rfl (lv_at hl 1 rfl) ?_
  refine sm_cSPr (rest := []) hC hK hP (c_X7_isKey D am P S T L nm Z cp ph th n2 fo rd np pw ev od rc wr z (by omega)) qyX7_isKey wl_RX7_187 ⟨Nat.le_of_ble_eq_true rfl, Nat.le_of_ble_eq_true rfl⟩ rfl hl.1 rfl (Nat.le_of_ble_eq_true rfl) dX7_isRange_8 ⟨Nat.le_of_ble_eq_true rfl, Nat.le_of_ble_eq_true rfl⟩ ?_
  refine lv_if_eq (tgt := 23) hx hb dX7_isRange_11 (by decide) (fun h => absurd h (by decide)) (fun _ => ?_)
  refine lv_iload_n hx hb dX7_isRange_14 rfl (lv_at hl 0 rfl) ?_
  refine lv_iload_n hx hb dX7_isRange_15 rfl (lv_at hl 1 rfl) ?_
  refine lv_icmp_gt (tgt := 23) hx hb dX7_isRange_16 (by decide) (fun h => absurd h ((sm_pNnl (a := z) (b := y) hyz (by omega) (by omega)))) (fun _ => ?_)
  refine lv_iconst (v := 1) hx hb dX7_isRange_19 (by decide) ?_
  refine lv_goto (tgt := 24) hx hb dX7_isRange_20 (by decide) ?_
  exact sm_retP hC (rfl) (by decide) dX7_isRange_24

set_option maxHeartbeats 1000000 in
set_option maxRecDepth 100000 in
theorem c_X7_isRange_i (x y : Int32) : sm_MP l yX7_isRange cX7_isRange 2 (some .boolean) 2 42 [.int x, .int y] D (sm_w7 D am P S T L nm Z cp ph th n2 fo rd np pw ev od rc wr) (some (.int (sm_b (sm_isRg x y)))) := by
  refine sm_met (own := RX7) (by decide) rfl (Nat.le_of_ble_eq_true rfl) ?_
  intro p e s m below meth c ls hC hv hl
  obtain ⟨hx, hb, hml, hr, hown, hlk, hts⟩ := id hC
  obtain ⟨hP, hK⟩ := hv
  have hl : lv_has ls 2 [(0, .int x), (1, .int y)] := hl
  refine lv_iload_n hx hb dX7_isRange_0 rfl (lv_at hl 0 rfl) ?_
  refine sm_cSPr (rest := []) hC hK hP (c_X7_isKey_i D am P S T L nm Z cp ph th n2 fo rd np pw ev od rc wr x) qyX7_isKey wl_RX7_187 ⟨Nat.le_of_ble_eq_true rfl, Nat.le_of_ble_eq_true rfl⟩ rfl hl.1 rfl (Nat.le_of_ble_eq_true rfl) dX7_isRange_1 ⟨Nat.le_of_ble_eq_true rfl, Nat.le_of_ble_eq_true rfl⟩ ?_
  refine lv_if_eq (tgt := 23) hx hb dX7_isRange_4 (by decide) (fun c_1 => ?_) (fun c_1 => ?_)
  · have c_1 := sm_b0 c_1
    refine lv_iconst (v := 0) hx hb dX7_isRange_23 (by decide) ?_
    exact sm_retP hC (by first | rfl | (simp [sm_isRg, sm_b, c_1]; done) | (simp [sm_isRg, sm_b] at c_1; simp [sm_isRg, sm_b, c_1]; done) | (simp_all [sm_isRg, sm_b]; done)) (by decide) dX7_isRange_24
  · have c_1 := sm_b1 c_1
    refine lv_iload_n hx hb dX7_isRange_7 rfl (lv_at hl 1 rfl) ?_
    refine sm_cSPr (rest := []) hC hK hP (c_X7_isKey_i D am P S T L nm Z cp ph th n2 fo rd np pw ev od rc wr y) qyX7_isKey wl_RX7_187 ⟨Nat.le_of_ble_eq_true rfl, Nat.le_of_ble_eq_true rfl⟩ rfl hl.1 rfl (Nat.le_of_ble_eq_true rfl) dX7_isRange_8 ⟨Nat.le_of_ble_eq_true rfl, Nat.le_of_ble_eq_true rfl⟩ ?_
    refine lv_if_eq (tgt := 23) hx hb dX7_isRange_11 (by decide) (fun c_2 => ?_) (fun c_2 => ?_)
    · have c_2 := sm_b0 c_2
      refine lv_iconst (v := 0) hx hb dX7_isRange_23 (by decide) ?_
      exact sm_retP hC (by first | rfl | (simp [sm_isRg, sm_b, c_1, c_2]; done) | (simp [sm_isRg, sm_b] at c_1 c_2; simp [sm_isRg, sm_b, c_1, c_2]; done) | (simp_all [sm_isRg, sm_b]; done)) (by decide) dX7_isRange_24
    · have c_2 := sm_b1 c_2
      refine lv_iload_n hx hb dX7_isRange_14 rfl (lv_at hl 0 rfl) ?_
      refine lv_iload_n hx hb dX7_isRange_15 rfl (lv_at hl 1 rfl) ?_
      refine lv_icmp_gt (tgt := 23) hx hb dX7_isRange_16 (by decide) (fun c_3 => ?_) (fun c_3 => ?_)
      · have c_3_ := c_3
        refine lv_iconst (v := 0) hx hb dX7_isRange_23 (by decide) ?_
        exact sm_retP hC (by first | rfl | (simp [sm_isRg, sm_b, c_1, c_2, c_3]; done) | (simp [sm_isRg, sm_b] at c_1 c_2 c_3; simp [sm_isRg, sm_b, c_1, c_2, c_3]; done) | (simp_all [sm_isRg, sm_b]; done)) (by decide) dX7_isRange_24
      · have c_3_ := c_3
        refine lv_iconst (v := 1) hx hb dX7_isRange_19 (by decide) ?_
        refine lv_goto (tgt := 24) hx hb dX7_isRange_20 (by decide) ?_
        exact sm_retP hC (by first | rfl | (simp [sm_isRg, sm_b, c_1, c_2, c_3]; done) | (simp [sm_isRg, sm_b] at c_1 c_2 c_3; simp [sm_isRg, sm_b, c_1, c_2, c_3]; done) | (simp_all [sm_isRg, sm_b]; done)) (by decide) dX7_isRange_24

set_option maxHeartbeats 1000000 in
set_option maxRecDepth 100000 in
theorem c_X7_sum_i (z : Bool) (x y : Int32) (hbk : sm_isRg x y = false) : sm_MC l yX7_sum cX7_sum 4 (some .long) 4 92 [.ref (am 0), .int (sm_b z), .int x, .int y] D (sm_w7 D am P S T L nm Z cp ph th n2 fo rd np pw ev od rc wr) (fun w => w = sm_w7 D am P S T L nm Z cp ph 1 n2 fo rd np pw ev od rc wr) (some (.long 0)) := by
  refine sm_met (own := RX7) (by decide) rfl (Nat.le_of_ble_eq_true rfl) ?_
  intro p e s m below meth c ls hC hv hl
  obtain ⟨hx, hb, hml, hr, hown, hlk, hts⟩ := id hC
  obtain ⟨⟨hP, hK⟩, hD, hZ⟩ := hv
  have hS : va_S (sm_ad (sm_w7 D am P S T L nm Z cp ph th n2 fo rd np pw ev od rc wr)) s.heap s.heap [] := va_S.rf
  have hl : lv_has ls 4 [(0, .ref (am 0)), (1, .int (sm_b z)), (2, .int x), (3, .int y)] := hl
  refine lv_aload_n hx hb dX7_sum_0 rfl (lv_at hl 0 rfl) ?_
  refine lv_iload_n hx hb dX7_sum_1 rfl (lv_at hl 2 rfl) ?_
  refine lv_iload_n hx hb dX7_sum_2 rfl (lv_at hl 3 rfl) ?_
  refine sm_cSPr (rest := [.ref (am 0)]) hC hK hP (c_X7_isRange_i D am P S T L nm Z cp ph th n2 fo rd np pw ev od rc wr x y) qyX7_isRange wl_RX7_221 ⟨Nat.le_of_ble_eq_true rfl, Nat.le_of_ble_eq_true rfl⟩ rfl hl.1 rfl (Nat.le_of_ble_eq_true rfl) dX7_sum_3 ⟨Nat.le_of_ble_eq_true rfl, Nat.le_of_ble_eq_true rfl⟩ ?_
  refine sm_re (y := sm_b false) (congrArg sm_b hbk) ?_
  refine sm_cVCr (rest := []) hC hK hP hD hS hZ (c_X7_checked D am P S T L nm Z cp ph th n2 fo rd np pw ev od rc wr false) qyX7_checked wl_RX7_158 ⟨Nat.le_of_ble_eq_true rfl, Nat.le_of_ble_eq_true rfl⟩ 0 rfl rfl rfl hl.1 rfl (Nat.le_of_ble_eq_true rfl) dX7_sum_6 ⟨Nat.le_of_ble_eq_true rfl, Nat.le_of_ble_eq_true rfl⟩ (fun w1 H locs hB hP hD hS => ?_)
  subst hB
  refine sm_re (y := 1) rfl ?_
  refine lv_if_le (tgt := 16) hx hb dX7_sum_9 (by decide) (fun h => absurd h (by decide)) (fun _ => ?_)
  refine lv_lconst (v := 0) hx hb dX7_sum_12 (by decide) ?_
  refine lv_goto (tgt := 23) hx hb dX7_sum_13 (by decide) ?_
  exact sm_lretC hC hP hD hS (rfl)  (by exact rfl) dX7_sum_23

set_option maxHeartbeats 1000000 in
set_option maxRecDepth 100000 in
theorem c_X7_sum (z : Bool) (lo hi : Nat) (hlo : ¬ hi < lo) (hhi : hi < 40) (hP6 : P.1 ≤ 6) (hOK : ∀ i, i < P.1 → sm_kOK (P.2.1 i) (P.2.2 i)) : sm_MC l yX7_sum cX7_sum 4 (some .long) 4 92 [.ref (am 0), .int (sm_b z), .int (nI lo), .int (nI hi)] D (sm_w7 D am P S T L nm Z cp ph th n2 fo rd np pw ev od rc wr) (fun w => ∃ (cp' : sm_Cp), w = sm_w7 D am P S T L nm Z (cp') ph 0 n2 fo rd np pw ev od rc wr) (some (.long (sm_sm z P S T lo hi))) := by
  refine sm_met (own := RX7) (by decide) rfl (Nat.le_of_ble_eq_true rfl) ?_
  intro p e s m below meth c ls hC hv hl
  obtain ⟨hx, hb, hml, hr, hown, hlk, hts⟩ := id hC
  obtain ⟨⟨hP, hK⟩, hD, hZ⟩ := hv
  have hS : va_S (sm_ad (sm_w7 D am P S T L nm Z cp ph th n2 fo rd np pw ev od rc wr)) s.heap s.heap [] := va_S.rf
  have hl : lv_has ls 4 [(0, .ref (am 0)), (1, .int (sm_b z)), (2, .int (nI lo)), (3, .int (nI hi))] := hl
  refine lv_aload_n hx hb dX7_sum_0 rfl (lv_at hl 0 rfl) ?_
  refine lv_iload_n hx hb dX7_sum_1 rfl (lv_at hl 2 rfl) ?_
  refine lv_iload_n hx hb dX7_sum_2 rfl (lv_at hl 3 rfl) ?_
  refine sm_cSPr (rest := [.ref (am 0)]) hC hK hP (c_X7_isRange D am P S T L nm Z cp ph th n2 fo rd np pw ev od rc wr lo hi (by omega) (by omega) hlo) qyX7_isRange wl_RX7_221 ⟨Nat.le_of_ble_eq_true rfl, Nat.le_of_ble_eq_true rfl⟩ rfl hl.1 rfl (Nat.le_of_ble_eq_true rfl) dX7_sum_3 ⟨Nat.le_of_ble_eq_true rfl, Nat.le_of_ble_eq_true rfl⟩ ?_
  refine sm_cVCr (rest := []) hC hK hP hD hS hZ (c_X7_checked D am P S T L nm Z cp ph th n2 fo rd np pw ev od rc wr true) qyX7_checked wl_RX7_158 ⟨Nat.le_of_ble_eq_true rfl, Nat.le_of_ble_eq_true rfl⟩ 0 rfl rfl rfl hl.1 rfl (Nat.le_of_ble_eq_true rfl) dX7_sum_6 ⟨Nat.le_of_ble_eq_true rfl, Nat.le_of_ble_eq_true rfl⟩ (fun w1 H locs hB hP hD hS => ?_)
  subst hB
  refine sm_re (y := 0) rfl ?_
  refine lv_if_le (tgt := 16) hx hb dX7_sum_9 (by decide) (fun _ => ?_) (fun h => absurd h (by decide))
  refine lv_aload_n hx hb dX7_sum_16 rfl (lv_at hl 0 rfl) ?_
  refine lv_iload_n hx hb dX7_sum_17 rfl (lv_at hl 1 rfl) ?_
  refine lv_iload_n hx hb dX7_sum_18 rfl (lv_at hl 2 rfl) ?_
  refine lv_iload_n hx hb dX7_sum_19 rfl (lv_at hl 3 rfl) ?_
  refine sm_cVCr (rest := []) hC hK hP hD hS hZ (c_X7_sumOf D am P S T L nm Z cp ph 0 n2 fo rd np pw ev od rc wr z lo hi (by omega) (by omega) hP6 hOK) qyX7_sumOf wl_RX7_170 ⟨Nat.le_of_ble_eq_true rfl, Nat.le_of_ble_eq_true rfl⟩ 0 rfl rfl rfl hl.1 rfl (Nat.le_of_ble_eq_true rfl) dX7_sum_20 ⟨Nat.le_of_ble_eq_true rfl, Nat.le_of_ble_eq_true rfl⟩ (fun w1 H locs hB hP hD hS => ?_)
  obtain ⟨cp_1, rfl⟩ := hB
  exact sm_lretC hC hP hD hS rfl  (by exact ⟨cp_1, by rfl⟩) dX7_sum_23

set_option maxHeartbeats 1000000 in
set_option maxRecDepth 100000 in
theorem c_X7_areUnlike (lo hi : Nat) (hlo : lo ≤ hi) (hhi : hi < 40) (hP6 : P.1 ≤ 6) (hOK : ∀ i, i < P.1 → sm_kOK (P.2.1 i) (P.2.2 i)) : sm_MC l yX7_areUnlike cX7_areUnlike 3 (some .boolean) 4 92 [.ref (am 0), .int (nI lo), .int (nI hi)] D (sm_w7 D am P S T L nm Z cp ph th n2 fo rd np pw ev od rc wr) (fun w => ∃ (cp' : sm_Cp), w = sm_w7 D am P S T L nm Z (cp') ph th n2 fo rd np pw ev od (rc + 1) wr) (some (.int (sm_b (sm_nss P S T lo hi)))) := by
  refine sm_met (own := RX7) (by decide) rfl (Nat.le_of_ble_eq_true rfl) ?_
  intro p e s m below meth c ls hC hv hl
  obtain ⟨hx, hb, hml, hr, hown, hlk, hts⟩ := id hC
  obtain ⟨⟨hP, hK⟩, hD, hZ⟩ := hv
  have hS : va_S (sm_ad (sm_w7 D am P S T L nm Z cp ph th n2 fo rd np pw ev od rc wr)) s.heap s.heap [] := va_S.rf
  have hl : lv_has ls 3 [(0, .ref (am 0)), (1, .int (nI lo)), (2, .int (nI hi))] := hl
  refine lv_aload_n hx hb dX7_areUnlike_0 rfl (lv_at hl 0 rfl) ?_
  refine lv_dup hx hb dX7_areUnlike_1 rfl ?_
  refine sm_gt (ci := 7) (C := RX7) (T := TX7) (N := 33) hx hb hts inlX7 hown hK hP 0 rfl rfl 29 (by decide) wf_RX7_100 rfl dX7_areUnlike_2 ?_
  refine lv_iconst (v := 1) hx hb dX7_areUnlike_5 (by decide) ?_
  refine lv_iadd hx hb dX7_areUnlike_6 ?_
  refine sm_re (y := nI (rc + 1)) (nI_1 rc) ?_
  refine sm_pt (ci := 7) (C := RX7) (T := TX7) (N := 33) hx hb hts inlX7 tyX7 tyX7_ok nmX7 hown hK hP hD hS 0 rfl rfl 29 (by decide) wf_RX7_100 rfl rfl rfl (Nat.le_of_ble_eq_true rfl) dX7_areUnlike_7 (fun H locs hP hD hS => ?_)
  have hP : va_P D.1 sm_cl (sm_w7 D am P S T L nm Z cp ph th n2 fo rd np pw ev od (rc + 1) wr) H := hP
  have hD : va_D (sm_ad (sm_w7 D am P S T L nm Z cp ph th n2 fo rd np pw ev od rc wr)) (sm_w7 D am P S T L nm Z cp ph th n2 fo rd np pw ev od (rc + 1) wr) := hD
  refine lv_aload_n hx hb dX7_areUnlike_10 rfl (lv_at hl 0 rfl) ?_
  refine lv_iconst (v := 0) hx hb dX7_areUnlike_11 (by decide) ?_
  refine lv_iload_n hx hb dX7_areUnlike_12 rfl (lv_at hl 1 rfl) ?_
  refine lv_iload_n hx hb dX7_areUnlike_13 rfl (lv_at hl 2 rfl) ?_
  refine sm_cVCr (rest := []) hC hK hP hD hS hZ (c_X7_sumOf D am P S T L nm Z cp ph th n2 fo rd np pw ev od (rc + 1) wr false lo hi (by omega) (by omega) hP6 hOK) qyX7_sumOf wl_RX7_170 ⟨Nat.le_of_ble_eq_true rfl, Nat.le_of_ble_eq_true rfl⟩ 0 rfl rfl rfl hl.1 rfl (Nat.le_of_ble_eq_true rfl) dX7_areUnlike_14 ⟨Nat.le_of_ble_eq_true rfl, Nat.le_of_ble_eq_true rfl⟩ (fun w1 H locs hB hP hD hS => ?_)
  obtain ⟨cp_1, rfl⟩ := hB
  refine lv_aload_n hx hb dX7_areUnlike_17 rfl (lv_at hl 0 rfl) ?_
  refine lv_iconst (v := 1) hx hb dX7_areUnlike_18 (by decide) ?_
  refine lv_iload_n hx hb dX7_areUnlike_19 rfl (lv_at hl 1 rfl) ?_
  refine lv_iload_n hx hb dX7_areUnlike_20 rfl (lv_at hl 2 rfl) ?_
  refine sm_cVCr (rest := [.long (sm_sm false P S T lo hi)]) hC hK hP hD hS hZ (c_X7_sumOf D am P S T L nm Z cp_1 ph th n2 fo rd np pw ev od (rc + 1) wr true lo hi (by omega) (by omega) hP6 hOK) qyX7_sumOf wl_RX7_170 ⟨Nat.le_of_ble_eq_true rfl, Nat.le_of_ble_eq_true rfl⟩ 0 rfl rfl rfl hl.1 rfl (Nat.le_of_ble_eq_true rfl) dX7_areUnlike_21 ⟨Nat.le_of_ble_eq_true rfl, Nat.le_of_ble_eq_true rfl⟩ (fun w1 H locs hB hP hD hS => ?_)
  obtain ⟨cp_2, rfl⟩ := hB
  refine W.lcmp hx hb dX7_areUnlike_24 ?_
  refine lv_if_eq (tgt := 32) hx hb dX7_areUnlike_25 (by decide) (fun c_3 => ?_) (fun c_3 => ?_)
  · have c_3 := sm_lc0 c_3
    refine lv_iconst (v := 0) hx hb dX7_areUnlike_32 (by decide) ?_
    exact sm_retC hC hP hD hS (by simp [sm_k1, sm_nss, sm_ssM, sm_b, c_3]) (by decide) (by exact ⟨cp_2, by rfl⟩) dX7_areUnlike_33
  · have c_3 := sm_lc1 c_3
    refine lv_iconst (v := 1) hx hb dX7_areUnlike_28 (by decide) ?_
    refine lv_goto (tgt := 33) hx hb dX7_areUnlike_29 (by decide) ?_
    exact sm_retC hC hP hD hS (by simp [sm_k1, sm_nss, sm_ssM, sm_b, c_3]) (by decide) (by exact ⟨cp_2, by rfl⟩) dX7_areUnlike_33

set_option maxHeartbeats 1000000 in
set_option maxRecDepth 100000 in
theorem c_X7_firstUnlike_i (x y : Int32) (hbk : sm_isRg x y = false) : sm_MC l yX7_firstUnlike cX7_firstUnlike 6 (some .int) 5 114 [.ref (am 0), .int x, .int y] D (sm_w7 D am P S T L nm Z cp ph th n2 fo rd np pw ev od rc wr) (fun w => w = sm_w7 D am P S T L nm Z cp ph 1 n2 fo rd np pw ev od rc wr) (some (.int 0)) := by
  refine sm_met (own := RX7) (by decide) rfl (Nat.le_of_ble_eq_true rfl) ?_
  intro p e s m below meth c ls hC hv hl
  obtain ⟨hx, hb, hml, hr, hown, hlk, hts⟩ := id hC
  obtain ⟨⟨hP, hK⟩, hD, hZ⟩ := hv
  have hS : va_S (sm_ad (sm_w7 D am P S T L nm Z cp ph th n2 fo rd np pw ev od rc wr)) s.heap s.heap [] := va_S.rf
  have hl : lv_has ls 6 [(0, .ref (am 0)), (1, .int x), (2, .int y)] := hl
  refine lv_aload_n hx hb dX7_firstUnlike_0 rfl (lv_at hl 0 rfl) ?_
  refine lv_iload_n hx hb dX7_firstUnlike_1 rfl (lv_at hl 1 rfl) ?_
  refine lv_iload_n hx hb dX7_firstUnlike_2 rfl (lv_at hl 2 rfl) ?_
  refine sm_cSPr (rest := [.ref (am 0)]) hC hK hP (c_X7_isRange_i D am P S T L nm Z cp ph th n2 fo rd np pw ev od rc wr x y) qyX7_isRange wl_RX7_221 ⟨Nat.le_of_ble_eq_true rfl, Nat.le_of_ble_eq_true rfl⟩ rfl hl.1 rfl (Nat.le_of_ble_eq_true rfl) dX7_firstUnlike_3 ⟨Nat.le_of_ble_eq_true rfl, Nat.le_of_ble_eq_true rfl⟩ ?_
  refine sm_re (y := sm_b false) (congrArg sm_b hbk) ?_
  refine sm_cVCr (rest := []) hC hK hP hD hS hZ (c_X7_checked D am P S T L nm Z cp ph th n2 fo rd np pw ev od rc wr false) qyX7_checked wl_RX7_158 ⟨Nat.le_of_ble_eq_true rfl, Nat.le_of_ble_eq_true rfl⟩ 0 rfl rfl rfl hl.1 rfl (Nat.le_of_ble_eq_true rfl) dX7_firstUnlike_6 ⟨Nat.le_of_ble_eq_true rfl, Nat.le_of_ble_eq_true rfl⟩ (fun w1 H locs hB hP hD hS => ?_)
  subst hB
  refine sm_re (y := 1) rfl ?_
  refine lv_if_le (tgt := 14) hx hb dX7_firstUnlike_9 (by decide) (fun h => absurd h (by decide)) (fun _ => ?_)
  refine lv_iconst (v := 0) hx hb dX7_firstUnlike_12 (by decide) ?_
  exact sm_retC hC hP hD hS (rfl) rfl (by exact rfl) dX7_firstUnlike_13

set_option maxHeartbeats 1000000 in
set_option maxRecDepth 100000 in
theorem c_X7_firstUnlike (lo hi : Nat) (hlo : ¬ hi < lo) (hhi : hi < 40) (hP6 : P.1 ≤ 6) (hOK : ∀ i, i < P.1 → sm_kOK (P.2.1 i) (P.2.2 i)) : sm_MC l yX7_firstUnlike cX7_firstUnlike 6 (some .int) 5 114 [.ref (am 0), .int (nI lo), .int (nI hi)] D (sm_w7 D am P S T L nm Z cp ph th n2 fo rd np pw ev od rc wr) (fun w => ∃ (cp' : sm_Cp), w = sm_w7 D am P S T L nm Z (cp') ph (sm_k2n (sm_ss P S T lo hi)) n2 fo rd np pw ev od (if sm_ss P S T lo hi = true then 1 else (sm_fuG P S T 40 lo hi 1).2) wr) (some (.int (if sm_k2n (sm_ss P S T lo hi) = 0 then nI (sm_fuG P S T 40 lo hi 1).1 else 0))) := by
  refine sm_met (own := RX7) (by decide) rfl (Nat.le_of_ble_eq_true rfl) ?_
  intro p e s m below meth c ls hC hv hl
  obtain ⟨hx, hb, hml, hr, hown, hlk, hts⟩ := id hC
  obtain ⟨⟨hP, hK⟩, hD, hZ⟩ := hv
  have hS : va_S (sm_ad (sm_w7 D am P S T L nm Z cp ph th n2 fo rd np pw ev od rc wr)) s.heap s.heap [] := va_S.rf
  have hl : lv_has ls 6 [(0, .ref (am 0)), (1, .int (nI lo)), (2, .int (nI hi))] := hl
  refine lv_aload_n hx hb dX7_firstUnlike_0 rfl (lv_at hl 0 rfl) ?_
  refine lv_iload_n hx hb dX7_firstUnlike_1 rfl (lv_at hl 1 rfl) ?_
  refine lv_iload_n hx hb dX7_firstUnlike_2 rfl (lv_at hl 2 rfl) ?_
  refine sm_cSPr (rest := [.ref (am 0)]) hC hK hP (c_X7_isRange D am P S T L nm Z cp ph th n2 fo rd np pw ev od rc wr lo hi (by omega) (by omega) hlo) qyX7_isRange wl_RX7_221 ⟨Nat.le_of_ble_eq_true rfl, Nat.le_of_ble_eq_true rfl⟩ rfl hl.1 rfl (Nat.le_of_ble_eq_true rfl) dX7_firstUnlike_3 ⟨Nat.le_of_ble_eq_true rfl, Nat.le_of_ble_eq_true rfl⟩ ?_
  refine sm_cVCr (rest := []) hC hK hP hD hS hZ (c_X7_checked D am P S T L nm Z cp ph th n2 fo rd np pw ev od rc wr true) qyX7_checked wl_RX7_158 ⟨Nat.le_of_ble_eq_true rfl, Nat.le_of_ble_eq_true rfl⟩ 0 rfl rfl rfl hl.1 rfl (Nat.le_of_ble_eq_true rfl) dX7_firstUnlike_6 ⟨Nat.le_of_ble_eq_true rfl, Nat.le_of_ble_eq_true rfl⟩ (fun w1 H locs hB hP hD hS => ?_)
  subst hB
  refine sm_re (y := 0) rfl ?_
  refine lv_if_le (tgt := 14) hx hb dX7_firstUnlike_9 (by decide) (fun _ => ?_) (fun h => absurd h (by decide))
  refine lv_aload_n hx hb dX7_firstUnlike_14 rfl (lv_at hl 0 rfl) ?_
  refine lv_iconst (v := 0) hx hb dX7_firstUnlike_15 (by decide) ?_
  refine sm_pt (ci := 7) (C := RX7) (T := TX7) (N := 33) hx hb hts inlX7 tyX7 tyX7_ok nmX7 hown hK hP hD hS 0 rfl rfl 29 (by decide) wf_RX7_100 rfl rfl rfl (Nat.le_of_ble_eq_true rfl) dX7_firstUnlike_16 (fun H locs hP hD hS => ?_)
  have hP : va_P D.1 sm_cl (sm_w7 D am P S T L nm Z cp ph 0 n2 fo rd np pw ev od 0 wr) H := hP
  have hD : va_D (sm_ad (sm_w7 D am P S T L nm Z cp ph th n2 fo rd np pw ev od rc wr)) (sm_w7 D am P S T L nm Z cp ph 0 n2 fo rd np pw ev od 0 wr) := hD
  refine lv_aload_n hx hb dX7_firstUnlike_19 rfl (lv_at hl 0 rfl) ?_
  refine lv_aload_n hx hb dX7_firstUnlike_20 rfl (lv_at hl 0 rfl) ?_
  refine lv_iload_n hx hb dX7_firstUnlike_21 rfl (lv_at hl 1 rfl) ?_
  refine lv_iload_n hx hb dX7_firstUnlike_22 rfl (lv_at hl 2 rfl) ?_
  refine sm_cVCr (rest := [.ref (am 0)]) hC hK hP hD hS hZ (c_X7_areUnlike D am P S T L nm Z cp ph 0 n2 fo rd np pw ev od 0 wr lo hi (by omega) (by omega) hP6 hOK) qyX7_areUnlike wl_RX7_224 ⟨Nat.le_of_ble_eq_true rfl, Nat.le_of_ble_eq_true rfl⟩ 0 rfl rfl rfl hl.1 rfl (Nat.le_of_ble_eq_true rfl) dX7_firstUnlike_23 ⟨Nat.le_of_ble_eq_true rfl, Nat.le_of_ble_eq_true rfl⟩ (fun w1 H locs hB hP hD hS => ?_)
  obtain ⟨cp_1, rfl⟩ := hB
  refine lv_if_eq (tgt := 33) hx hb dX7_firstUnlike_26 (by decide) (fun c_2 => ?_) (fun c_2 => ?_)
  · have c_2 := sm_b0 c_2
    refine lv_iconst (v := 2) hx hb dX7_firstUnlike_33 (by decide) ?_
    refine sm_pt (ci := 7) (C := RX7) (T := TX7) (N := 33) hx hb hts inlX7 tyX7 tyX7_ok nmX7 hown hK hP hD hS 0 rfl rfl 19 (by decide) wf_RX7_69 rfl rfl rfl (Nat.le_of_ble_eq_true rfl) dX7_firstUnlike_34 (fun H locs hP hD hS => ?_)
    have hP : va_P D.1 sm_cl (sm_w7 D am P S T L nm Z cp_1 ph 2 n2 fo rd np pw ev od (0 + 1) wr) H := hP
    have hD : va_D (sm_ad (sm_w7 D am P S T L nm Z cp ph th n2 fo rd np pw ev od rc wr)) (sm_w7 D am P S T L nm Z cp_1 ph 2 n2 fo rd np pw ev od (0 + 1) wr) := hD
    refine lv_aload_n hx hb dX7_firstUnlike_37 rfl (lv_at hl 0 rfl) ?_
    refine sm_gt (ci := 7) (C := RX7) (T := TX7) (N := 33) hx hb hts inlX7 hown hK hP 0 rfl rfl 19 (by decide) wf_RX7_69 rfl dX7_firstUnlike_38 ?_
    refine lv_if_le (tgt := 46) hx hb dX7_firstUnlike_41 (by decide) (fun h => absurd h (by decide)) (fun _ => ?_)
    refine lv_iconst (v := 0) hx hb dX7_firstUnlike_44 (by decide) ?_
    exact sm_retC hC hP hD hS (by have e9 := sm_nssF c_2; simp [sm_k2n, e9]) rfl (by exact ⟨cp_1, by have e9 := sm_nssF c_2; simp [sm_k2n, e9]⟩) dX7_firstUnlike_45
  · have c_2 := sm_b1 c_2
    refine lv_iconst (v := 0) hx hb dX7_firstUnlike_29 (by decide) ?_
    refine lv_goto (tgt := 34) hx hb dX7_firstUnlike_30 (by decide) ?_
    refine sm_pt (ci := 7) (C := RX7) (T := TX7) (N := 33) hx hb hts inlX7 tyX7 tyX7_ok nmX7 hown hK hP hD hS 0 rfl rfl 19 (by decide) wf_RX7_69 rfl rfl rfl (Nat.le_of_ble_eq_true rfl) dX7_firstUnlike_34 (fun H locs hP hD hS => ?_)
    have hP : va_P D.1 sm_cl (sm_w7 D am P S T L nm Z cp_1 ph 0 n2 fo rd np pw ev od (0 + 1) wr) H := hP
    have hD : va_D (sm_ad (sm_w7 D am P S T L nm Z cp ph th n2 fo rd np pw ev od rc wr)) (sm_w7 D am P S T L nm Z cp_1 ph 0 n2 fo rd np pw ev od (0 + 1) wr) := hD
    refine lv_aload_n hx hb dX7_firstUnlike_37 rfl (lv_at hl 0 rfl) ?_
    refine sm_gt (ci := 7) (C := RX7) (T := TX7) (N := 33) hx hb hts inlX7 hown hK hP 0 rfl rfl 19 (by decide) wf_RX7_69 rfl dX7_firstUnlike_38 ?_
    refine lv_if_le (tgt := 46) hx hb dX7_firstUnlike_41 (by decide) (fun _ => ?_) (fun h => absurd h (by decide))
    refine lv_iload_n hx hb dX7_firstUnlike_46 rfl (lv_at hl 1 rfl) ?_
    refine lv_istore_n (lv' := [(3, .int (nI lo)), (0, .ref (am 0)), (1, .int (nI lo)), (2, .int (nI hi))]) hx hb dX7_firstUnlike_47 rfl hl (by decide) rfl (fun ls hl => ?_)
    refine lv_iload_n hx hb dX7_firstUnlike_48 rfl (lv_at hl 3 rfl) ?_
    refine lv_istore (lv' := [(4, .int (nI hi)), (3, .int (nI lo)), (0, .ref (am 0)), (1, .int (nI lo)), (2, .int (nI hi))]) hx hb dX7_firstUnlike_49 hl (by decide) rfl (fun ls hl => ?_)
    suffices K : ∀ (n : Nat) (f : Nat) (l1 : Nat) (h1 : Nat) (q : Nat) (r : sm_Cp) (H : Heap) (locs : List Loc) (ls : Array Slot), h1 - l1 = n → (l1 ≤ h1) → (h1 < 40) → (h1 - l1 < f) → (sm_fuG P S T f l1 h1 q = sm_fuG P S T 40 lo hi 1) → va_P D.1 sm_cl (sm_w7 D am P S T L nm Z r ph 0 n2 fo rd np pw ev od q wr) H → va_D (sm_ad (sm_w7 D am P S T L nm Z cp ph th n2 fo rd np pw ev od rc wr)) (sm_w7 D am P S T L nm Z r ph 0 n2 fo rd np pw ev od q wr) → va_S (sm_ad (sm_w7 D am P S T L nm Z cp ph th n2 fo rd np pw ev od rc wr)) s.heap H locs → lv_has ls 6 [(0, .ref (am 0)), (1, .int (nI lo)), (2, .int (nI hi)), (3, .int (nI l1)), (4, .int (nI h1))] → W p l e ({ frames := 5, cells := 0, slots := 0, locals := 114 } : Room) s m ([.ref (am 0), .int (nI lo), .int (nI hi)] : List Value).toArray below meth c H locs 0 0 (MQ below (sm_Qc D (sm_w7 D am P S T L nm Z cp ph th n2 fo rd np pw ev od rc wr) (fun w => ∃ (cp' : sm_Cp), w = sm_w7 D am P S T L nm Z (cp') ph (sm_k2n (sm_ss P S T lo hi)) n2 fo rd np pw ev od (if sm_ss P S T lo hi = true then 1 else (sm_fuG P S T 40 lo hi 1).2) wr) (some (.int (if sm_k2n (sm_ss P S T lo hi) = 0 then nI (sm_fuG P S T 40 lo hi 1).1 else 0)))) ([.ref (am 0), .int (nI lo), .int (nI hi)] : List Value).toArray s 0 0 (sm_ad (sm_w7 D am P S T L nm Z cp ph th n2 fo rd np pw ev od rc wr))) (F0 m 51 ls []) from K _ 40 lo hi (0 + 1) cp_1 _ _ ls rfl (by omega) (by omega) (by omega) (rfl) hP hD hS (lv_sub hl [2, 3, 4, 1, 0] rfl)
    intro n
    induction n using Nat.strongRecOn with
    | ind n ih =>
      intro f l1 h1 q r H locs ls hn hi1 hi2 hi3 hR hP hD hS hl
      refine lv_iload_n hx hb dX7_firstUnlike_51 rfl (lv_at hl 3 rfl) ?_
      refine lv_iload hx hb dX7_firstUnlike_52 (lv_at hl 4 rfl) ?_
      refine lv_icmp_ge (tgt := 100) hx hb dX7_firstUnlike_54 (by decide) (fun c_3 => ?_) (fun c_3 => ?_)
      · have c_3 := sm_Nnl (a := l1) (b := h1) (sm_nl c_3) (by omega) (by omega)
        refine lv_iload_n hx hb dX7_firstUnlike_100 rfl (lv_at hl 3 rfl) ?_
        exact sm_retC hC hP hD hS (by have e9 := sm_nssT2 c_2; have h0 := hR; rw [sm_fu0 (by omega)] at h0; have h5 : l1 = _ := congrArg Prod.fst h0; have h6 : q = _ := congrArg Prod.snd h0; simp [sm_k2n, h5, e9]) rfl (by exact ⟨r, by have e9 := sm_nssT2 c_2; have h0 := hR; rw [sm_fu0 (by omega)] at h0; have h5 : l1 = _ := congrArg Prod.fst h0; have h6 : q = _ := congrArg Prod.snd h0; simp [sm_k2n, h6, e9]⟩) dX7_firstUnlike_101
      · have c_3 := sm_Nlt (a := l1) (b := h1) (sm_nle c_3) (by omega) (by omega)
        refine lv_iload_n hx hb dX7_firstUnlike_57 rfl (lv_at hl 3 rfl) ?_
        refine lv_iload hx hb dX7_firstUnlike_58 (lv_at hl 4 rfl) ?_
        refine lv_iadd hx hb dX7_firstUnlike_60 ?_
        refine sm_re (y := nI (l1 + h1)) (nI_add l1 h1) ?_
        refine lv_iconst (v := 2) hx hb dX7_firstUnlike_61 (by decide) ?_
        refine lv_idiv hx hb dX7_firstUnlike_62 (by decide) ?_
        refine sm_re (y := nI ((l1 + h1) / 2)) (pk_div (a := l1 + h1) (d := 2) (by omega) (by decide) (by decide)) ?_
        refine sm_re (y := nI (l1 + (h1 - l1) / 2)) (congrArg nI (by omega)) ?_
        refine lv_istore (lv' := [(5, .int (nI (l1 + (h1 - l1) / 2))), (0, .ref (am 0)), (1, .int (nI lo)), (2, .int (nI hi)), (3, .int (nI l1)), (4, .int (nI h1))]) hx hb dX7_firstUnlike_63 hl (by decide) rfl (fun ls hl => ?_)
        refine lv_aload_n hx hb dX7_firstUnlike_65 rfl (lv_at hl 1 rfl) ?_
        refine lv_iload_n hx hb dX7_firstUnlike_66 rfl (lv_at hl 4 rfl) ?_
        refine lv_iload hx hb dX7_firstUnlike_67 (lv_at hl 0 rfl) ?_
        refine sm_cVCr (rest := []) hC hK hP hD hS hZ (c_X7_areUnlike D am P S T L nm Z r ph 0 n2 fo rd np pw ev od q wr l1 (l1 + (h1 - l1) / 2) (by omega) (by omega) hP6 hOK) qyX7_areUnlike wl_RX7_224 ⟨Nat.le_of_ble_eq_true rfl, Nat.le_of_ble_eq_true rfl⟩ 0 rfl rfl rfl hl.1 rfl (Nat.le_of_ble_eq_true rfl) dX7_firstUnlike_69 ⟨Nat.le_of_ble_eq_true rfl, Nat.le_of_ble_eq_true rfl⟩ (fun w1 H locs hB hP hD hS => ?_)
        obtain ⟨cp_4, rfl⟩ := hB
        refine lv_if_eq (tgt := 82) hx hb dX7_firstUnlike_72 (by decide) (fun c_5 => ?_) (fun c_5 => ?_)
        · have c_5 := sm_b0 c_5
          refine lv_iload hx hb dX7_firstUnlike_82 (lv_at hl 0 rfl) ?_
          refine lv_iconst (v := 1) hx hb dX7_firstUnlike_84 (by decide) ?_
          refine lv_iadd hx hb dX7_firstUnlike_85 ?_
          refine sm_re (y := nI (l1 + (h1 - l1) / 2 + 1)) (nI_1 (l1 + (h1 - l1) / 2)) ?_
          refine lv_istore_n (lv' := [(3, .int (nI (l1 + (h1 - l1) / 2 + 1))), (5, .int (nI (l1 + (h1 - l1) / 2))), (0, .ref (am 0)), (1, .int (nI lo)), (2, .int (nI hi)), (4, .int (nI h1))]) hx hb dX7_firstUnlike_86 rfl hl (by decide) rfl (fun ls hl => ?_)
          refine lv_aload_n hx hb dX7_firstUnlike_87 rfl (lv_at hl 2 rfl) ?_
          refine lv_dup hx hb dX7_firstUnlike_88 rfl ?_
          refine sm_gt (ci := 7) (C := RX7) (T := TX7) (N := 33) hx hb hts inlX7 hown hK hP 0 rfl rfl 29 (by decide) wf_RX7_100 rfl dX7_firstUnlike_89 ?_
          refine lv_iconst (v := 1) hx hb dX7_firstUnlike_92 (by decide) ?_
          refine lv_iadd hx hb dX7_firstUnlike_93 ?_
          refine sm_re (y := nI ((q + 1) + 1)) (nI_1 (q + 1)) ?_
          refine sm_pt (ci := 7) (C := RX7) (T := TX7) (N := 33) hx hb hts inlX7 tyX7 tyX7_ok nmX7 hown hK hP hD hS 0 rfl rfl 29 (by decide) wf_RX7_100 rfl rfl rfl (Nat.le_of_ble_eq_true rfl) dX7_firstUnlike_94 (fun H locs hP hD hS => ?_)
          have hP : va_P D.1 sm_cl (sm_w7 D am P S T L nm Z cp_4 ph 0 n2 fo rd np pw ev od ((q + 1) + 1) wr) H := hP
          have hD : va_D (sm_ad (sm_w7 D am P S T L nm Z cp ph th n2 fo rd np pw ev od rc wr)) (sm_w7 D am P S T L nm Z cp_4 ph 0 n2 fo rd np pw ev od ((q + 1) + 1) wr) := hD
          refine lv_goto (tgt := 51) hx hb dX7_firstUnlike_97 (by decide) ?_
          exact ih _ (by omega) (f - 1) ((l1 + (h1 - l1) / 2) + 1) h1 (q + 1 + 1) cp_4 _ _ ls rfl (by omega) (by omega) (by omega) (by rw [sm_fuT (by omega), if_pos c_3, if_pos (sm_nssF c_5)] at hR; exact hR) hP hD hS (lv_sub hl [2, 3, 4, 0, 5] rfl)
        · have c_5 := sm_b1 c_5
          refine lv_iload hx hb dX7_firstUnlike_75 (lv_at hl 0 rfl) ?_
          refine lv_istore (lv' := [(4, .int (nI (l1 + (h1 - l1) / 2))), (5, .int (nI (l1 + (h1 - l1) / 2))), (0, .ref (am 0)), (1, .int (nI lo)), (2, .int (nI hi)), (3, .int (nI l1))]) hx hb dX7_firstUnlike_77 hl (by decide) rfl (fun ls hl => ?_)
          refine lv_goto (tgt := 97) hx hb dX7_firstUnlike_79 (by decide) ?_
          refine lv_goto (tgt := 51) hx hb dX7_firstUnlike_97 (by decide) ?_
          exact ih _ (by omega) (f - 1) l1 (l1 + (h1 - l1) / 2) (q + 1) cp_4 _ _ ls rfl (by omega) (by omega) (by omega) (by rw [sm_fuT (by omega), if_pos c_3, if_neg (sm_nssT c_5)] at hR; exact hR) hP hD hS (lv_sub hl [2, 3, 4, 5, 0] rfl)

set_option maxHeartbeats 1000000 in
set_option maxRecDepth 100000 in
theorem c_X7_manyMoved (hP6 : P.1 ≤ 6) (hOK : ∀ i, i < P.1 → sm_kOK (P.2.1 i) (P.2.2 i)) : sm_MC l yX7_manyMoved cX7_manyMoved 3 (some .int) 4 88 [.ref (am 0)] D (sm_w7 D am P S T L nm Z cp ph th n2 fo rd np pw ev od rc wr) (fun w => ∃ (cp' : sm_Cp), w = sm_w7 D am P S T L nm Z (cp') ph th n2 fo rd np pw ev od rc wr) (some (.int (nI (sm_cnG (fun i => decide (sm_stF P S T i = 101)) 40 0 0)))) := by
  refine sm_met (own := RX7) (by decide) rfl (Nat.le_of_ble_eq_true rfl) ?_
  intro p e s m below meth c ls hC hv hl
  obtain ⟨hx, hb, hml, hr, hown, hlk, hts⟩ := id hC
  obtain ⟨⟨hP, hK⟩, hD, hZ⟩ := hv
  have hS : va_S (sm_ad (sm_w7 D am P S T L nm Z cp ph th n2 fo rd np pw ev od rc wr)) s.heap s.heap [] := va_S.rf
  have hl : lv_has ls 3 [(0, .ref (am 0))] := hl
  refine lv_iconst (v := 0) hx hb dX7_manyMoved_0 (by decide) ?_
  refine lv_istore_n (lv' := [(1, .int 0), (0, .ref (am 0))]) hx hb dX7_manyMoved_1 rfl hl (by decide) rfl (fun ls hl => ?_)
  refine lv_iconst (v := 0) hx hb dX7_manyMoved_2 (by decide) ?_
  refine lv_istore_n (lv' := [(2, .int 0), (1, .int 0), (0, .ref (am 0))]) hx hb dX7_manyMoved_3 rfl hl (by decide) rfl (fun ls hl => ?_)
  suffices K : ∀ (n : Nat) (i : Nat) (q : Nat) (r : sm_Cp) (H : Heap) (locs : List Loc) (ls : Array Slot), 40 - i = n → (i ≤ 40) → (sm_cnG (fun i => decide (sm_stF P S T i = 101)) (40 - i) i q = sm_cnG (fun i => decide (sm_stF P S T i = 101)) 40 0 0) → va_P D.1 sm_cl (sm_w7 D am P S T L nm Z r ph th n2 fo rd np pw ev od rc wr) H → va_D (sm_ad (sm_w7 D am P S T L nm Z cp ph th n2 fo rd np pw ev od rc wr)) (sm_w7 D am P S T L nm Z r ph th n2 fo rd np pw ev od rc wr) → va_S (sm_ad (sm_w7 D am P S T L nm Z cp ph th n2 fo rd np pw ev od rc wr)) s.heap H locs → lv_has ls 3 [(0, .ref (am 0)), (1, .int (nI q)), (2, .int (nI i))] → W p l e ({ frames := 4, cells := 0, slots := 0, locals := 88 } : Room) s m ([.ref (am 0)] : List Value).toArray below meth c H locs 0 0 (MQ below (sm_Qc D (sm_w7 D am P S T L nm Z cp ph th n2 fo rd np pw ev od rc wr) (fun w => ∃ (cp' : sm_Cp), w = sm_w7 D am P S T L nm Z (cp') ph th n2 fo rd np pw ev od rc wr) (some (.int (nI (sm_cnG (fun i => decide (sm_stF P S T i = 101)) 40 0 0))))) ([.ref (am 0)] : List Value).toArray s 0 0 (sm_ad (sm_w7 D am P S T L nm Z cp ph th n2 fo rd np pw ev od rc wr))) (F0 m 4 ls []) from K _ 0 0 cp _ _ ls rfl (by omega) (rfl) hP hD hS (lv_sub hl [2, 1, 0] rfl)
  intro n
  induction n using Nat.strongRecOn with
  | ind n ih =>
    intro i q r H locs ls hn hi hR hP hD hS hl
    refine lv_iload_n hx hb dX7_manyMoved_4 rfl (lv_at hl 2 rfl) ?_
    refine lv_bipush (v := 40) hx hb dX7_manyMoved_5 (by decide) ?_
    refine lv_icmp_ge (tgt := 34) hx hb dX7_manyMoved_7 (by decide) (fun c_1 => ?_) (fun c_1 => ?_)
    · have c_1 := sm_Nnl (a := i) (b := 40) (sm_nl c_1) (by omega) (by omega)
      refine lv_iload_n hx hb dX7_manyMoved_34 rfl (lv_at hl 1 rfl) ?_
      exact sm_retC hC hP hD hS (by have e : i = 40 := (by omega); subst e; rw [← hR]; rfl) rfl (by exact ⟨r, by rfl⟩) dX7_manyMoved_35
    · have c_1 := sm_Nlt (a := i) (b := 40) (sm_nle c_1) (by omega) (by omega)
      refine lv_iload_n hx hb dX7_manyMoved_10 rfl (lv_at hl 1 rfl) ?_
      refine lv_aload_n hx hb dX7_manyMoved_11 rfl (lv_at hl 0 rfl) ?_
      refine lv_iload_n hx hb dX7_manyMoved_12 rfl (lv_at hl 2 rfl) ?_
      refine sm_cVCr (rest := [.int (nI q)]) hC hK hP hD hS hZ (c_X7_stateOf D am P S T L nm Z r ph th n2 fo rd np pw ev od rc wr i (by omega) hP6 hOK) qyX7_stateOf wl_RX7_213 ⟨Nat.le_of_ble_eq_true rfl, Nat.le_of_ble_eq_true rfl⟩ 0 rfl rfl rfl hl.1 rfl (Nat.le_of_ble_eq_true rfl) dX7_manyMoved_13 ⟨Nat.le_of_ble_eq_true rfl, Nat.le_of_ble_eq_true rfl⟩ (fun w1 H locs hB hP hD hS => ?_)
      obtain ⟨cp_2, rfl⟩ := hB
      refine lv_bipush (v := 101) hx hb dX7_manyMoved_16 (by decide) ?_
      refine lv_icmp_ne (tgt := 25) hx hb dX7_manyMoved_18 (by decide) (fun c_3 => ?_) (fun c_3 => ?_)
      · have c_3_ := c_3
        refine lv_iconst (v := 0) hx hb dX7_manyMoved_25 (by decide) ?_
        refine lv_iadd hx hb dX7_manyMoved_26 ?_
        refine sm_re (y := nI (q + 0)) (nI_add q 0) ?_
        refine lv_istore_n (lv' := [(1, .int (nI (q + 0))), (0, .ref (am 0)), (2, .int (nI i))]) hx hb dX7_manyMoved_27 rfl hl (by decide) rfl (fun ls hl => ?_)
        refine lv_iinc (v := nI (i + 1)) (lv' := [(2, .int (nI (i + 1))), (1, .int (nI (q + 0))), (0, .ref (am 0))]) hx hb dX7_manyMoved_28 hl (k := 2) rfl (nI_1 i) (by decide) rfl (fun ls hl => ?_)
        refine lv_goto (tgt := 4) hx hb dX7_manyMoved_31 (by decide) ?_
        exact ih _ (by omega) (i + 1) (q + 0) cp_2 _ _ ls rfl (by omega) (by rw [sm_cnS (by omega), if_neg (by simp [c_3])] at hR; exact hR) hP hD hS (lv_sub hl [2, 1, 0] rfl)
      · have c_3_ := c_3
        refine lv_iconst (v := 1) hx hb dX7_manyMoved_21 (by decide) ?_
        refine lv_goto (tgt := 26) hx hb dX7_manyMoved_22 (by decide) ?_
        refine lv_iadd hx hb dX7_manyMoved_26 ?_
        refine sm_re (y := nI (q + 1)) (nI_1 q) ?_
        refine lv_istore_n (lv' := [(1, .int (nI (q + 1))), (0, .ref (am 0)), (2, .int (nI i))]) hx hb dX7_manyMoved_27 rfl hl (by decide) rfl (fun ls hl => ?_)
        refine lv_iinc (v := nI (i + 1)) (lv' := [(2, .int (nI (i + 1))), (1, .int (nI (q + 1))), (0, .ref (am 0))]) hx hb dX7_manyMoved_28 hl (k := 2) rfl (nI_1 i) (by decide) rfl (fun ls hl => ?_)
        refine lv_goto (tgt := 4) hx hb dX7_manyMoved_31 (by decide) ?_
        exact ih _ (by omega) (i + 1) (q + 1) cp_2 _ _ ls rfl (by omega) (by rw [sm_cnS (by omega), if_pos (by simp [c_3])] at hR; exact hR) hP hD hS (lv_sub hl [2, 1, 0] rfl)

set_option maxHeartbeats 1000000 in
set_option maxRecDepth 100000 in
theorem c_X7_isAllMoved (hP6 : P.1 ≤ 6) (hOK : ∀ i, i < P.1 → sm_kOK (P.2.1 i) (P.2.2 i)) : sm_MC l yX7_isAllMoved cX7_isAllMoved 1 (some .boolean) 5 110 [.ref (am 0)] D (sm_w7 D am P S T L nm Z cp ph th n2 fo rd np pw ev od rc wr) (fun w => ∃ (cp' : sm_Cp), w = sm_w7 D am P S T L nm Z (cp') ph 0 n2 fo rd np pw ev od rc wr) (some (.int (sm_b (sm_iam P S T)))) := by
  refine sm_met (own := RX7) (by decide) rfl (Nat.le_of_ble_eq_true rfl) ?_
  intro p e s m below meth c ls hC hv hl
  obtain ⟨hx, hb, hml, hr, hown, hlk, hts⟩ := id hC
  obtain ⟨⟨hP, hK⟩, hD, hZ⟩ := hv
  have hS : va_S (sm_ad (sm_w7 D am P S T L nm Z cp ph th n2 fo rd np pw ev od rc wr)) s.heap s.heap [] := va_S.rf
  have hl : lv_has ls 1 [(0, .ref (am 0))] := hl
  have hcn : sm_cnG S.1 40 0 0 ≤ 40 + 0 := sm_cnle _ _ _ _
  have hcm : sm_cnG (fun i => decide (sm_stF P S T i = 101)) 40 0 0 ≤ 40 + 0 := sm_cnle _ _ _ _
  refine lv_aload_n hx hb dX7_isAllMoved_0 rfl (lv_at hl 0 rfl) ?_
  refine lv_iconst (v := 0) hx hb dX7_isAllMoved_1 (by decide) ?_
  refine sm_pt (ci := 7) (C := RX7) (T := TX7) (N := 33) hx hb hts inlX7 tyX7 tyX7_ok nmX7 hown hK hP hD hS 0 rfl rfl 19 (by decide) wf_RX7_69 rfl rfl rfl (Nat.le_of_ble_eq_true rfl) dX7_isAllMoved_2 (fun H locs hP hD hS => ?_)
  have hP : va_P D.1 sm_cl (sm_w7 D am P S T L nm Z cp ph 0 n2 fo rd np pw ev od rc wr) H := hP
  have hD : va_D (sm_ad (sm_w7 D am P S T L nm Z cp ph th n2 fo rd np pw ev od rc wr)) (sm_w7 D am P S T L nm Z cp ph 0 n2 fo rd np pw ev od rc wr) := hD
  refine lv_aload_n hx hb dX7_isAllMoved_5 rfl (lv_at hl 0 rfl) ?_
  refine sm_cVPr (rest := []) hC hK hP (c_X7_manyRows D am P S T L nm Z cp ph 0 n2 fo rd np pw ev od rc wr ) qyX7_manyRows wl_RX7_162 ⟨Nat.le_of_ble_eq_true rfl, Nat.le_of_ble_eq_true rfl⟩ 0 rfl rfl rfl hl.1 rfl (Nat.le_of_ble_eq_true rfl) dX7_isAllMoved_6 ⟨Nat.le_of_ble_eq_true rfl, Nat.le_of_ble_eq_true rfl⟩ ?_
  refine lv_if_le (tgt := 27) hx hb dX7_isAllMoved_9 (by decide) (fun c_1 => ?_) (fun c_1 => ?_)
  · have c_1 := sm_Nnl (a := 0) (b := sm_cnG S.1 40 0 0) (sm_nl c_1) (by omega) (by omega)
    refine lv_iconst (v := 0) hx hb dX7_isAllMoved_27 (by decide) ?_
    exact sm_retC hC hP hD hS (by first | rfl | (simp [sm_iam, sm_b, c_1]; done) | (simp [sm_iam, sm_b] at c_1; simp [sm_iam, sm_b, c_1]; done) | (simp_all [sm_iam, sm_b]; done)) (by decide) (by exact ⟨cp, by rfl⟩) dX7_isAllMoved_28
  · have c_1 := sm_Nlt (a := 0) (b := sm_cnG S.1 40 0 0) (sm_nle c_1) (by omega) (by omega)
    refine lv_aload_n hx hb dX7_isAllMoved_12 rfl (lv_at hl 0 rfl) ?_
    refine sm_cVCr (rest := []) hC hK hP hD hS hZ (c_X7_manyMoved D am P S T L nm Z cp ph 0 n2 fo rd np pw ev od rc wr hP6 hOK) qyX7_manyMoved wl_RX7_227 ⟨Nat.le_of_ble_eq_true rfl, Nat.le_of_ble_eq_true rfl⟩ 0 rfl rfl rfl hl.1 rfl (Nat.le_of_ble_eq_true rfl) dX7_isAllMoved_13 ⟨Nat.le_of_ble_eq_true rfl, Nat.le_of_ble_eq_true rfl⟩ (fun w1 H locs hB hP hD hS => ?_)
    obtain ⟨cp_2, rfl⟩ := hB
    refine lv_aload_n hx hb dX7_isAllMoved_16 rfl (lv_at hl 0 rfl) ?_
    refine sm_cVPr (rest := [.int (nI (sm_cnG (fun i => decide (sm_stF P S T i = 101)) 40 0 0))]) hC hK hP (c_X7_manyRows D am P S T L nm Z cp_2 ph 0 n2 fo rd np pw ev od rc wr ) qyX7_manyRows wl_RX7_162 ⟨Nat.le_of_ble_eq_true rfl, Nat.le_of_ble_eq_true rfl⟩ 0 rfl rfl rfl hl.1 rfl (Nat.le_of_ble_eq_true rfl) dX7_isAllMoved_17 ⟨Nat.le_of_ble_eq_true rfl, Nat.le_of_ble_eq_true rfl⟩ ?_
    refine lv_icmp_ne (tgt := 27) hx hb dX7_isAllMoved_20 (by decide) (fun c_3 => ?_) (fun c_3 => ?_)
    · have c_3 := sm_Nne (a := sm_cnG (fun i => decide (sm_stF P S T i = 101)) 40 0 0) (b := sm_cnG S.1 40 0 0) c_3 (by omega) (by omega)
      refine lv_iconst (v := 0) hx hb dX7_isAllMoved_27 (by decide) ?_
      exact sm_retC hC hP hD hS (by first | rfl | (simp [sm_iam, sm_b, c_1, c_3]; done) | (simp [sm_iam, sm_b] at c_1 c_3; simp [sm_iam, sm_b, c_1, c_3]; done) | (simp_all [sm_iam, sm_b]; done)) (by decide) (by exact ⟨cp_2, by rfl⟩) dX7_isAllMoved_28
    · have c_3 := sm_Neq (a := sm_cnG (fun i => decide (sm_stF P S T i = 101)) 40 0 0) (b := sm_cnG S.1 40 0 0) c_3 (by omega) (by omega)
      refine lv_iconst (v := 1) hx hb dX7_isAllMoved_23 (by decide) ?_
      refine lv_goto (tgt := 28) hx hb dX7_isAllMoved_24 (by decide) ?_
      exact sm_retC hC hP hD hS (by first | rfl | (simp [sm_iam, sm_b, c_1, c_3]; done) | (simp [sm_iam, sm_b] at c_1 c_3; simp [sm_iam, sm_b, c_1, c_3]; done) | (simp_all [sm_iam, sm_b]; done)) (by decide) (by exact ⟨cp_2, by rfl⟩) dX7_isAllMoved_28

end
