/-! the law's loop -/
theorem sw_and (x : Int32) : ∃ j : Nat, j < 32 ∧ x &&& 31 = nI j := by
  refine ⟨x.toBitVec.toNat % 32, Nat.mod_lt _ (by decide), ?_⟩
  apply Int32.toBitVec_inj.mp
  rw [Int32.toBitVec_and]
  apply BitVec.eq_of_toNat_eq
  rw [BitVec.toNat_and]
  show x.toBitVec.toNat &&& 31 = (BitVec.ofNat 32 (x.toBitVec.toNat % 32)).toNat
  rw [BitVec.toNat_ofNat, show (31 : Nat) = 2 ^ 5 - 1 from rfl, Nat.and_two_pow_sub_one_eq_mod]
  omega
theorem sw_lt {L i : Nat} (hL : L ≤ 2048) (hi : i ≤ L) (h : ¬ Int32.ofNat L - 4 < nI i) : i + 4 ≤ L := by
  have e : (Int32.ofNat L - 4).toInt = (L : Int) - 4 := pk_sub_toInt (a := L) (b := 4) (by omega) (by decide)
  rw [Int32.lt_iff_toInt_lt, e, nI_toInt (by omega)] at h
  omega
section
variable {p : Program} {l : Launch} {e : Env} {s : State} {m : MethodId} {below : List Frame} {meth : Method} {c : Code} {H : Heap} {locs : List Loc} {cells slots : Nat} {Q : State → Prop} {ls : Array Slot} {D : sm_G} {b L i : Nat} {xs : Nat → Int32} {ad am : Nat → Nat} {oL oD : Nat}
theorem sw_head (X : sw_X p l s m meth c b L xs D) (h1 : i ≤ L) (hI : sw_I s D b ad am oL oD (nI i) ls H locs) (kx : W p l e room_1 s m #[Value.ref b] below meth c H locs cells slots Q (F0 m 1622 ls [])) (kk : i + 4 ≤ L → W p l e room_1 s m #[Value.ref b] below meth c H locs cells slots Q (F0 m 44 ls [.int (xs i &&& 31)])) : W p l e room_1 s m #[Value.ref b] below meth c H locs cells slots Q (F0 m 28 ls []) := by
  obtain ⟨hC, hK, hZ, hlt, hX, hbl, hL⟩ := X
  obtain ⟨hx, hb, -⟩ := hC
  obtain ⟨hS, hl⟩ := sw_Il hI
  refine lv_iload hx hb dL_law_28 (lv_at hl 5 rfl) ?_
  refine lv_aload_n hx hb dL_law_30 rfl (lv_at hl 0 rfl) ?_
  refine va_slen hx hb hX hbl (Nat.not_le.mpr hbl) hS dL_law_31 ?_
  refine lv_iconst (v := 4) hx hb dL_law_32 (by decide) ?_
  refine lv_isub hx hb dL_law_33 ?_
  refine lv_icmp_gt (tgt := 1622) hx hb dL_law_34 (by decide) (fun _ => kx) (fun h => ?_)
  have h4 := sw_lt hL h1 h
  refine lv_aload_n hx hb dL_law_37 rfl (lv_at hl 0 rfl) ?_
  refine lv_iload hx hb dL_law_38 (lv_at hl 5 rfl) ?_
  refine va_sld hx hb hX hbl (Nat.not_le.mpr hbl) hS (vp_in_nI (n := i) (by omega) (by omega)) dL_law_40 ?_
  rw [nI_clamp (by omega)]
  refine lv_bipush (v := 31) hx hb dL_law_41 (by decide) ?_
  refine lv_iand hx hb dL_law_43 ?_
  exact kk h4
set_option maxRecDepth 100000 in
theorem sw_disp (X : sw_X p l s m meth c b L xs D) (hi : i + 4 ≤ L) (hI : sw_I s D b ad am oL oD (nI i) ls H locs) (hf : cells + 1 ≤ room_1.cells ∧ slots + 6 ≤ room_1.slots) (go : ∀ (H : Heap) (locs : List Loc) (ls : Array Slot), sw_I s D b ad am oL oD (nI i) ls H locs → W p l e room_1 s m #[Value.ref b] below meth c H locs (cells + 1) (slots + 6) Q (F0 m 1616 ls [])) : W p l e room_1 s m #[Value.ref b] below meth c H locs cells slots Q (F0 m 44 ls [.int (xs i &&& 31)]) := by
  obtain ⟨hx, hb, -⟩ := id X.1
  obtain ⟨j, hj, e⟩ := sw_and (xs i)
  rw [e]
  match j, hj with
  | 0, _ =>
    refine lv_tableIn (off := 128) (tgt := 172) hx hb dL_law_44 (by decide +kernel) (by decide +kernel) (by decide +kernel) (by decide) ?_
    exact sw_c_addStep X hi hI hf go
  | 1, _ =>
    refine lv_tableIn (off := 198) (tgt := 242) hx hb dL_law_44 (by decide +kernel) (by decide +kernel) (by decide +kernel) (by decide) ?_
    exact sw_c_start X hi hI hf go
  | 2, _ =>
    refine lv_tableIn (off := 242) (tgt := 286) hx hb dL_law_44 (by decide +kernel) (by decide +kernel) (by decide +kernel) (by decide) ?_
    exact sw_c_phase X hi hI hf go
  | 3, _ =>
    refine lv_tableIn (off := 255) (tgt := 299) hx hb dL_law_44 (by decide +kernel) (by decide +kernel) (by decide +kernel) (by decide) ?_
    exact sw_c_goToBoth X hi hI hf go
  | 4, _ =>
    refine lv_tableIn (off := 299) (tgt := 343) hx hb dL_law_44 (by decide +kernel) (by decide +kernel) (by decide +kernel) (by decide) ?_
    exact sw_c_switchOver X hi hI hf go
  | 5, _ =>
    refine lv_tableIn (off := 343) (tgt := 387) hx hb dL_law_44 (by decide +kernel) (by decide +kernel) (by decide +kernel) (by decide) ?_
    exact sw_c_goBack X hi hI hf go
  | 6, _ =>
    refine lv_tableIn (off := 387) (tgt := 431) hx hb dL_law_44 (by decide +kernel) (by decide +kernel) (by decide +kernel) (by decide) ?_
    exact sw_c_end X hi hI hf go
  | 7, _ =>
    refine lv_tableIn (off := 431) (tgt := 475) hx hb dL_law_44 (by decide +kernel) (by decide +kernel) (by decide +kernel) (by decide) ?_
    rcases sm_keyD (xs (i + 1)) with hbk | ⟨k, hk, e1⟩
    · exact sw_c_write_i hbk X hi hI hf go
    · exact sw_c_write hk e1 X hi hI hf go
  | 8, _ =>
    refine lv_tableIn (off := 518) (tgt := 562) hx hb dL_law_44 (by decide +kernel) (by decide +kernel) (by decide +kernel) (by decide) ?_
    rcases sm_keyD (xs (i + 1)) with hbk | ⟨k, hk, e1⟩
    · exact sw_c_delete_i hbk X hi hI hf go
    · exact sw_c_delete hk e1 X hi hI hf go
  | 9, _ =>
    refine lv_tableIn (off := 581) (tgt := 625) hx hb dL_law_44 (by decide +kernel) (by decide +kernel) (by decide +kernel) (by decide) ?_
    rcases sm_keyD (xs (i + 1)) with hbk | ⟨k, hk, e1⟩
    · exact sw_c_read_i hbk X hi hI hf go
    · exact sw_c_read hk e1 X hi hI hf go
  | 10, _ =>
    refine lv_tableIn (off := 665) (tgt := 709) hx hb dL_law_44 (by decide +kernel) (by decide +kernel) (by decide +kernel) (by decide) ?_
    exact sw_c_nextNumber X hi hI hf go
  | 11, _ =>
    refine lv_tableIn (off := 709) (tgt := 753) hx hb dL_law_44 (by decide +kernel) (by decide +kernel) (by decide +kernel) (by decide) ?_
    rcases sm_btD (hi := 40) (lo9 := 1) (hi9 := 40) rfl (by decide) (by decide) (xs (i + 1)) with hbk | ⟨k, hk1, hk2, e1⟩
    · exact sw_c_readPart_i hbk X hi hI hf go
    · exact sw_c_readPart hk1 hk2 e1 X hi hI hf go
  | 12, _ =>
    refine lv_tableIn (off := 765) (tgt := 809) hx hb dL_law_44 (by decide +kernel) (by decide +kernel) (by decide +kernel) (by decide) ?_
    rcases sm_keyD (xs (i + 1)) with hbk | ⟨k, hk, e1⟩
    · exact sw_c_putDown_i hbk X hi hI hf go
    · exact sw_c_putDown hk e1 X hi hI hf go
  | 13, _ =>
    refine lv_tableIn (off := 821) (tgt := 865) hx hb dL_law_44 (by decide +kernel) (by decide +kernel) (by decide +kernel) (by decide) ?_
    rcases sm_btD (hi := 120) (lo9 := 1) (hi9 := 120) rfl (by decide) (by decide) (xs (i + 1)) with hbk | ⟨k, hk1, hk2, e1⟩
    · exact sw_c_follow_i hbk X hi hI hf go
    · exact sw_c_follow hk1 hk2 e1 X hi hI hf go
  | 14, _ =>
    refine lv_tableIn (off := 877) (tgt := 921) hx hb dL_law_44 (by decide +kernel) (by decide +kernel) (by decide +kernel) (by decide) ?_
    exact sw_c_left X hi hI hf go
  | 15, _ =>
    refine lv_tableIn (off := 890) (tgt := 934) hx hb dL_law_44 (by decide +kernel) (by decide +kernel) (by decide +kernel) (by decide) ?_
    exact sw_c_behind X hi hI hf go
  | 16, _ =>
    refine lv_tableIn (off := 903) (tgt := 947) hx hb dL_law_44 (by decide +kernel) (by decide +kernel) (by decide +kernel) (by decide) ?_
    exact sw_c_parts X hi hI hf go
  | 17, _ =>
    refine lv_tableIn (off := 916) (tgt := 960) hx hb dL_law_44 (by decide +kernel) (by decide +kernel) (by decide +kernel) (by decide) ?_
    rcases sm_keyD (xs (i + 1)) with hbk | ⟨k, hk, e1⟩
    · exact sw_c_state_i hbk X hi hI hf go
    · exact sw_c_state hk e1 X hi hI hf go
  | 18, _ =>
    refine lv_tableIn (off := 972) (tgt := 1016) hx hb dL_law_44 (by decide +kernel) (by decide +kernel) (by decide +kernel) (by decide) ?_
    rcases sm_keyD (xs (i + 1)) with hbk | ⟨k, hk, e1⟩
    · exact sw_c_stamp_i hbk X hi hI hf go
    · exact sw_c_stamp hk e1 X hi hI hf go
  | 19, _ =>
    refine lv_tableIn (off := 1028) (tgt := 1072) hx hb dL_law_44 (by decide +kernel) (by decide +kernel) (by decide +kernel) (by decide) ?_
    rcases sm_keyD (xs (i + 1)) with hbk | ⟨k, hk, e1⟩
    · exact sw_c_turned_i hbk X hi hI hf go
    · exact sw_c_turned hk e1 X hi hI hf go
  | 20, _ =>
    refine lv_tableIn (off := 1112) (tgt := 1156) hx hb dL_law_44 (by decide +kernel) (by decide +kernel) (by decide +kernel) (by decide) ?_
    rcases sm_keyD (xs (i + 1)) with hbk | ⟨k, hk, e1⟩
    · exact sw_c_turnedBack_i hbk X hi hI hf go
    · exact sw_c_turnedBack hk e1 X hi hI hf go
  | 21, _ =>
    refine lv_tableIn (off := 1196) (tgt := 1240) hx hb dL_law_44 (by decide +kernel) (by decide +kernel) (by decide +kernel) (by decide) ?_
    rcases sm_rgD (xs (i + 2)) (xs (i + 3)) with hbk | ⟨lo, hj2, hlo, hhi, e1, e2⟩
    · exact sw_c_sum_i hbk X hi hI hf go
    · exact sw_c_sum hlo hhi e1 e2 X hi hI hf go
  | 22, _ =>
    refine lv_tableIn (off := 1291) (tgt := 1335) hx hb dL_law_44 (by decide +kernel) (by decide +kernel) (by decide +kernel) (by decide) ?_
    rcases sm_rgD (xs (i + 1)) (xs (i + 2)) with hbk | ⟨lo, hj2, hlo, hhi, e1, e2⟩
    · exact sw_c_firstUnlike_i hbk X hi hI hf go
    · exact sw_c_firstUnlike hlo hhi e1 e2 X hi hI hf go
  | 23, _ =>
    refine lv_tableIn (off := 1359) (tgt := 1403) hx hb dL_law_44 (by decide +kernel) (by decide +kernel) (by decide +kernel) (by decide) ?_
    exact sw_c_compared X hi hI hf go
  | 24, _ =>
    refine lv_tableIn (off := 1372) (tgt := 1416) hx hb dL_law_44 (by decide +kernel) (by decide +kernel) (by decide +kernel) (by decide) ?_
    rcases sm_keyD (xs (i + 1)) with hbk | ⟨k, hk, e1⟩
    · exact sw_c_goal_i hbk X hi hI hf go
    · exact sw_c_goal hk e1 X hi hI hf go
  | 25, _ =>
    refine lv_tableIn (off := 1428) (tgt := 1472) hx hb dL_law_44 (by decide +kernel) (by decide +kernel) (by decide +kernel) (by decide) ?_
    exact sw_c_movedShare X hi hI hf go
  | 26, _ =>
    refine lv_tableIn (off := 1494) (tgt := 1538) hx hb dL_law_44 (by decide +kernel) (by decide +kernel) (by decide +kernel) (by decide) ?_
    exact sw_c_isAllMoved X hi hI hf go
  | 27, _ =>
    refine lv_tableIn (off := 1507) (tgt := 1551) hx hb dL_law_44 (by decide +kernel) (by decide +kernel) (by decide +kernel) (by decide) ?_
    exact sw_c_meanStamp X hi hI hf go
  | j + 28, hj =>
    refine lv_tableOut (tgt := 1616) hx hb dL_law_44 (Or.inr ?_) (by decide) ?_
    · rw [nI_toInt (by omega)]; omega
    · exact W.widen (k := cells + 1) (n := slots + 6) (Nat.le_succ _) (Nat.le_add_right _ _) (go _ _ _ hI)
theorem sw_loop (X : sw_X p l s m meth c b L xs D) (fin : ∀ (H : Heap) (locs : List Loc) (cells slots : Nat) (ls : Array Slot), va_S (sw_A s) s.heap H locs → cells ≤ 3159 → slots ≤ 122376 → W p l e room_1 s m #[Value.ref b] below meth c H locs cells slots Q (F0 m 1622 ls [])) :
    ∀ (n i : Nat) (H : Heap) (locs : List Loc) (cells slots : Nat) (ls : Array Slot), i ≤ L → L ≤ i + 4 * n + 3 → cells + n ≤ 3159 → slots + 6 * n ≤ 122376 → sw_I s D b ad am oL oD (nI i) ls H locs → W p l e room_1 s m #[Value.ref b] below meth c H locs cells slots Q (F0 m 28 ls []) := by
  intro n
  induction n with
  | zero =>
    intro i H locs cells slots ls h1 h2 h3 h4 hI
    exact sw_head X h1 hI (fin _ _ _ _ _ (sw_Il hI).1 (by omega) (by omega)) (fun z => absurd z (by omega))
  | succ n ih =>
    intro i H locs cells slots ls h1 h2 h3 h4 hI
    refine sw_head X h1 hI (fin _ _ _ _ _ (sw_Il hI).1 (by omega) (by omega)) (fun z => ?_)
    refine sw_disp X z hI ⟨show cells + 1 ≤ 3159 by omega, show slots + 6 ≤ 122376 by omega⟩ (fun H locs ls hI => ?_)
    obtain ⟨hx, hb, -⟩ := id X.1
    refine lv_iinc (v := nI (i + 4)) (lv' := [(5, .int (nI (i + 4))), (0, .ref b), (1, .ref (ad 0)), (2, .ref (am 0)), (3, .ref oL), (4, .ref oD)]) hx hb dL_law_1616 (sw_Il hI).2 (k := 5) rfl (nI_add i 4) (by decide) rfl (fun ls hl => ?_)
    refine lv_goto (tgt := 28) hx hb dL_law_1619 (by decide) ?_
    exact ih (i + 4) _ _ _ _ _ z (by omega) (by omega) (by omega) (sw_Ils hI (lv_sub hl [1, 2, 3, 4, 5, 0] rfl))
end
