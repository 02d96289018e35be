/-! the helpers -/
set_option maxRecDepth 100000 in
theorem h_addStep {l : Launch} {D : sm_G} {ws : va_W} {B : va_W → Prop} {r : String ⊕ Option Value} {fs : List Value} {b o : Nat} {x1 x2 : Int32} (hM : sm_MX l yX6_addStep cX6_addStep 3 (some .int) 6 82 [.ref b, .int x1, .int x2] D ws B r) (h0 : ws[0]? = some (b, .inr (6, fs))) (hB : ∀ w, B w → ∃ g : Nat → Int64, w[33]? = some (o, .inl (D.2 3, 1, .inr (.inl g)))) (hr : ∀ v, r = .inr v → ∃ x : Int32, v = some (.int x)) (hE : ∀ E, r = .inl E → E = sm_IA ∨ E = sm_IS) : sm_MH l yL_addStep cL_addStep 5 [(0, 10, 13, 13), (0, 10, 17, 15)] 7 104 [.ref b, .int x1, .int x2, .ref o] D ws (sm_Bh 33 o B r [sm_IA, sm_IS] (sm_FI D)) := by
  refine sm_metH (own := RL) (by decide) rfl (Nat.le_of_ble_eq_true rfl) ?_
  intro p e s m below meth c ls hC htab hv hl
  obtain ⟨hx, hb, hml, hrt, hown, hlk, hts⟩ := id hC
  obtain ⟨⟨hP, hK⟩, hD, hZ⟩ := hv
  have hS : va_S (sm_ad ws) s.heap s.heap [] := va_S.rf
  have hl : lv_has ls 5 [(0, .ref b), (1, .int x1), (2, .int x2), (3, .ref o)] := hl
  refine lv_aload_n hx hb dL_addStep_0 rfl (lv_at hl 3 rfl) ?_
  refine lv_iconst (v := 0) hx hb dL_addStep_1 (by decide) ?_
  refine lv_aload_n hx hb dL_addStep_2 rfl (lv_at hl 0 rfl) ?_
  refine lv_iload_n hx hb dL_addStep_3 rfl (lv_at hl 1 rfl) ?_
  refine lv_iload_n hx hb dL_addStep_4 rfl (lv_at hl 2 rfl) ?_
  refine sm_cVX (rest := [.int 0, .ref o]) hC hK hP hD hS hZ hM qyX6_addStep wl_RL_7 ⟨(Nat.le_of_ble_eq_true rfl), (Nat.le_of_ble_eq_true rfl)⟩ 0 h0 rfl rfl hl.1 rfl (Nat.le_of_ble_eq_true rfl) dL_addStep_5 ⟨(Nat.le_of_ble_eq_true rfl), (Nat.le_of_ble_eq_true rfl)⟩ (fun E ce q9 w1 H locs hr1 hB1 hP hD hS h1 h2 h3 => ?_) (fun ov w1 H locs hr1 hB1 hP hD hS => ?_)
  · rcases hE E hr1 with rfl | rfl
    · refine vx_catch (own := RL) hown [] ⟨0, 10, 13, 13⟩ [⟨0, 10, 17, 15⟩] htab (fun z hz => absurd hz List.not_mem_nil) (by decide) (by decide) (hts _ wc_RL_13) (hK.2.2.2.2.2 sm_IA (List.mem_of_getElem? (i := 0) rfl)) h1 h2 h3 ?_
      refine lv_astore (lv' := [(4, .ref q9), (0, .ref b), (1, .int x1), (2, .int x2), (3, .ref o)]) hx hb dL_addStep_13 hl (by decide) rfl (fun ls hl => ?_)
      refine lv_iconst (v := 1) hx hb dL_addStep_15 (by decide) ?_
      exact sm_retH hC hP hD hS (Or.inr ⟨0, _, hr1, rfl, by decide, hB1⟩) (Nat.le_of_ble_eq_true rfl) (Nat.le_of_ble_eq_true rfl) dL_addStep_16
    · refine vx_catch (own := RL) hown [⟨0, 10, 13, 13⟩] ⟨0, 10, 17, 15⟩ [] htab (fun z hz => by rw [List.mem_singleton.mp hz]; exact Or.inr ⟨by decide, _, hts _ wc_RL_13, hK.2.2.2.1 (sm_IS, sm_IA) (List.mem_of_getElem? (i := 0) rfl)⟩) (by decide) (by decide) (hts _ wc_RL_15) (hK.2.2.2.2.2 sm_IS (List.mem_of_getElem? (i := 1) rfl)) h1 h2 h3 ?_
      refine lv_astore (lv' := [(4, .ref q9), (0, .ref b), (1, .int x1), (2, .int x2), (3, .ref o)]) hx hb dL_addStep_17 hl (by decide) rfl (fun ls hl => ?_)
      refine lv_iconst (v := 2) hx hb dL_addStep_19 (by decide) ?_
      exact sm_retH hC hP hD hS (Or.inr ⟨1, _, hr1, rfl, by decide, hB1⟩) (Nat.le_of_ble_eq_true rfl) (Nat.le_of_ble_eq_true rfl) dL_addStep_20
  · obtain ⟨x, rfl⟩ := hr ov hr1
    obtain ⟨g, hg⟩ := hB _ hB1
    refine lv_i2l hx hb dL_addStep_8 rfl ?_
    refine sm_lst hx hb hK hP hD hS 33 hg 0 rfl (by decide) (by decide) dL_addStep_9 (fun H locs hP hD hS => ?_)
    refine lv_goto (tgt := 21) hx hb dL_addStep_10 (by decide) ?_
    refine lv_iconst (v := 0) hx hb dL_addStep_21 (by decide) ?_
    exact sm_retH hC hP hD hS (Or.inl ⟨_, _, _, _, hr1, rfl, hB1, hg, ⟨x, g, rfl, rfl, rfl⟩, rfl⟩) (Nat.le_of_ble_eq_true rfl) (Nat.le_of_ble_eq_true rfl) dL_addStep_22
theorem qyL_addStep : sm_yH yL_addStep cL_addStep 5 [(0, 10, 13, 13), (0, 10, 17, 15)] 4 := ⟨(wr_6 _ (List.mem_of_getElem? (i := 2) rfl)), (wr_6 _ (List.mem_of_getElem? (i := 3) rfl)), (wr_6 _ (List.mem_of_getElem? (i := 4) rfl)), by decide +kernel, by decide +kernel, by decide +kernel⟩

set_option maxRecDepth 100000 in
theorem h_delete {l : Launch} {D : sm_G} {ws : va_W} {B : va_W → Prop} {r : String ⊕ Option Value} {fs : List Value} {b o : Nat} {x1 : Int32} (hM : sm_MX l yX6_delete cX6_delete 2 (some .boolean) 7 113 [.ref b, .int x1] D ws B r) (h0 : ws[0]? = some (b, .inr (6, fs))) (hB : ∀ w, B w → ∃ g : Nat → Int64, w[33]? = some (o, .inl (D.2 3, 1, .inr (.inl g)))) (hr : ∀ v, r = .inr v → ∃ x : Bool, v = some (.int (sm_b x))) (hE : ∀ E, r = .inl E → E = sm_IA ∨ E = sm_IS) : sm_MH l yL_delete cL_delete 4 [(0, 16, 19, 13), (0, 16, 22, 15)] 8 134 [.ref b, .int x1, .ref o] D ws (sm_Bh 33 o B r [sm_IA, sm_IS] (sm_FZ D)) := by
  refine sm_metH (own := RL) (by decide) rfl (Nat.le_of_ble_eq_true rfl) ?_
  intro p e s m below meth c ls hC htab hv hl
  obtain ⟨hx, hb, hml, hrt, hown, hlk, hts⟩ := id hC
  obtain ⟨⟨hP, hK⟩, hD, hZ⟩ := hv
  have hS : va_S (sm_ad ws) s.heap s.heap [] := va_S.rf
  have hl : lv_has ls 4 [(0, .ref b), (1, .int x1), (2, .ref o)] := hl
  refine lv_aload_n hx hb dL_delete_0 rfl (lv_at hl 2 rfl) ?_
  refine lv_iconst (v := 0) hx hb dL_delete_1 (by decide) ?_
  refine lv_aload_n hx hb dL_delete_2 rfl (lv_at hl 0 rfl) ?_
  refine lv_iload_n hx hb dL_delete_3 rfl (lv_at hl 1 rfl) ?_
  refine sm_cVX (rest := [.int 0, .ref o]) hC hK hP hD hS hZ hM qyX6_delete wl_RL_39 ⟨(Nat.le_of_ble_eq_true rfl), (Nat.le_of_ble_eq_true rfl)⟩ 0 h0 rfl rfl hl.1 rfl (Nat.le_of_ble_eq_true rfl) dL_delete_4 ⟨(Nat.le_of_ble_eq_true rfl), (Nat.le_of_ble_eq_true rfl)⟩ (fun E ce q9 w1 H locs hr1 hB1 hP hD hS h1 h2 h3 => ?_) (fun ov w1 H locs hr1 hB1 hP hD hS => ?_)
  · rcases hE E hr1 with rfl | rfl
    · refine vx_catch (own := RL) hown [] ⟨0, 16, 19, 13⟩ [⟨0, 16, 22, 15⟩] htab (fun z hz => absurd hz List.not_mem_nil) (by decide) (by decide) (hts _ wc_RL_13) (hK.2.2.2.2.2 sm_IA (List.mem_of_getElem? (i := 0) rfl)) h1 h2 h3 ?_
      refine lv_astore_n (lv' := [(3, .ref q9), (0, .ref b), (1, .int x1), (2, .ref o)]) hx hb dL_delete_19 rfl hl (by decide) rfl (fun ls hl => ?_)
      refine lv_iconst (v := 1) hx hb dL_delete_20 (by decide) ?_
      exact sm_retH hC hP hD hS (Or.inr ⟨0, _, hr1, rfl, by decide, hB1⟩) (Nat.le_of_ble_eq_true rfl) (Nat.le_of_ble_eq_true rfl) dL_delete_21
    · refine vx_catch (own := RL) hown [⟨0, 16, 19, 13⟩] ⟨0, 16, 22, 15⟩ [] htab (fun z hz => by rw [List.mem_singleton.mp hz]; exact Or.inr ⟨by decide, _, hts _ wc_RL_13, hK.2.2.2.1 (sm_IS, sm_IA) (List.mem_of_getElem? (i := 0) rfl)⟩) (by decide) (by decide) (hts _ wc_RL_15) (hK.2.2.2.2.2 sm_IS (List.mem_of_getElem? (i := 1) rfl)) h1 h2 h3 ?_
      refine lv_astore_n (lv' := [(3, .ref q9), (0, .ref b), (1, .int x1), (2, .ref o)]) hx hb dL_delete_22 rfl hl (by decide) rfl (fun ls hl => ?_)
      refine lv_iconst (v := 2) hx hb dL_delete_23 (by decide) ?_
      exact sm_retH hC hP hD hS (Or.inr ⟨1, _, hr1, rfl, by decide, hB1⟩) (Nat.le_of_ble_eq_true rfl) (Nat.le_of_ble_eq_true rfl) dL_delete_24
  · obtain ⟨x, rfl⟩ := hr ov hr1
    obtain ⟨g, hg⟩ := hB _ hB1
    cases x with
    | false =>
      refine lv_if_eq (tgt := 14) hx hb dL_delete_7 (by decide) (fun _ => ?_) (fun h => absurd rfl h)
      refine lv_lconst (v := 0) hx hb dL_delete_14 (by decide) ?_
      refine sm_lst hx hb hK hP hD hS 33 hg 0 rfl (by decide) (by decide) dL_delete_15 (fun H locs hP hD hS => ?_)
      refine lv_goto (tgt := 25) hx hb dL_delete_16 (by decide) ?_
      refine lv_iconst (v := 0) hx hb dL_delete_25 (by decide) ?_
      exact sm_retH hC hP hD hS (Or.inl ⟨_, _, _, _, hr1, rfl, hB1, hg, ⟨false, g, rfl, rfl, rfl⟩, rfl⟩) (Nat.le_of_ble_eq_true rfl) (Nat.le_of_ble_eq_true rfl) dL_delete_26
    | true =>
      refine lv_if_eq (tgt := 14) hx hb dL_delete_7 (by decide) (fun h => absurd h (by decide)) (fun _ => ?_)
      refine lv_lconst (v := 1) hx hb dL_delete_10 (by decide) ?_
      refine lv_goto (tgt := 15) hx hb dL_delete_11 (by decide) ?_
      refine sm_lst hx hb hK hP hD hS 33 hg 0 rfl (by decide) (by decide) dL_delete_15 (fun H locs hP hD hS => ?_)
      refine lv_goto (tgt := 25) hx hb dL_delete_16 (by decide) ?_
      refine lv_iconst (v := 0) hx hb dL_delete_25 (by decide) ?_
      exact sm_retH hC hP hD hS (Or.inl ⟨_, _, _, _, hr1, rfl, hB1, hg, ⟨true, g, rfl, rfl, rfl⟩, rfl⟩) (Nat.le_of_ble_eq_true rfl) (Nat.le_of_ble_eq_true rfl) dL_delete_26
theorem qyL_delete : sm_yH yL_delete cL_delete 4 [(0, 16, 19, 13), (0, 16, 22, 15)] 3 := ⟨(wr_24 _ (List.mem_of_getElem? (i := 6) rfl)), (wr_6 _ (List.mem_of_getElem? (i := 3) rfl)), (wr_24 _ (List.mem_of_getElem? (i := 7) rfl)), by decide +kernel, by decide +kernel, by decide +kernel⟩

set_option maxRecDepth 100000 in
theorem h_end {l : Launch} {D : sm_G} {ws : va_W} {B : va_W → Prop} {r : String ⊕ Option Value} {fs : List Value} {b o : Nat} (hM : sm_MX l yX6_end cX6_end 1 (some .int) 6 82 [.ref b] D ws B r) (h0 : ws[0]? = some (b, .inr (6, fs))) (hB : ∀ w, B w → ∃ g : Nat → Int64, w[33]? = some (o, .inl (D.2 3, 1, .inr (.inl g)))) (hr : ∀ v, r = .inr v → ∃ x : Int32, v = some (.int x)) (hE : ∀ E, r = .inl E → E = sm_IS) : sm_MH l yL_end cL_end 3 [(0, 8, 11, 15)] 7 102 [.ref b, .ref o] D ws (sm_Bh 33 o B r [sm_IS] (sm_FI D)) := by
  refine sm_metH (own := RL) (by decide) rfl (Nat.le_of_ble_eq_true rfl) ?_
  intro p e s m below meth c ls hC htab hv hl
  obtain ⟨hx, hb, hml, hrt, hown, hlk, hts⟩ := id hC
  obtain ⟨⟨hP, hK⟩, hD, hZ⟩ := hv
  have hS : va_S (sm_ad ws) s.heap s.heap [] := va_S.rf
  have hl : lv_has ls 3 [(0, .ref b), (1, .ref o)] := hl
  refine lv_aload_n hx hb dL_end_0 rfl (lv_at hl 1 rfl) ?_
  refine lv_iconst (v := 0) hx hb dL_end_1 (by decide) ?_
  refine lv_aload_n hx hb dL_end_2 rfl (lv_at hl 0 rfl) ?_
  refine sm_cVX (rest := [.int 0, .ref o]) hC hK hP hD hS hZ hM qyX6_end wl_RL_32 ⟨(Nat.le_of_ble_eq_true rfl), (Nat.le_of_ble_eq_true rfl)⟩ 0 h0 rfl rfl hl.1 rfl (Nat.le_of_ble_eq_true rfl) dL_end_3 ⟨(Nat.le_of_ble_eq_true rfl), (Nat.le_of_ble_eq_true rfl)⟩ (fun E ce q9 w1 H locs hr1 hB1 hP hD hS h1 h2 h3 => ?_) (fun ov w1 H locs hr1 hB1 hP hD hS => ?_)
  · obtain rfl := hE E hr1
    refine vx_catch (own := RL) hown [] ⟨0, 8, 11, 15⟩ [] htab (fun z hz => absurd hz List.not_mem_nil) (by decide) (by decide) (hts _ wc_RL_15) (hK.2.2.2.2.2 sm_IS (List.mem_of_getElem? (i := 1) rfl)) h1 h2 h3 ?_
    refine lv_astore_n (lv' := [(2, .ref q9), (0, .ref b), (1, .ref o)]) hx hb dL_end_11 rfl hl (by decide) rfl (fun ls hl => ?_)
    refine lv_iconst (v := 1) hx hb dL_end_12 (by decide) ?_
    exact sm_retH hC hP hD hS (Or.inr ⟨0, _, hr1, rfl, by decide, hB1⟩) (Nat.le_of_ble_eq_true rfl) (Nat.le_of_ble_eq_true rfl) dL_end_13
  · obtain ⟨x, rfl⟩ := hr ov hr1
    obtain ⟨g, hg⟩ := hB _ hB1
    refine lv_i2l hx hb dL_end_6 rfl ?_
    refine sm_lst hx hb hK hP hD hS 33 hg 0 rfl (by decide) (by decide) dL_end_7 (fun H locs hP hD hS => ?_)
    refine lv_goto (tgt := 14) hx hb dL_end_8 (by decide) ?_
    refine lv_iconst (v := 0) hx hb dL_end_14 (by decide) ?_
    exact sm_retH hC hP hD hS (Or.inl ⟨_, _, _, _, hr1, rfl, hB1, hg, ⟨x, g, rfl, rfl, rfl⟩, rfl⟩) (Nat.le_of_ble_eq_true rfl) (Nat.le_of_ble_eq_true rfl) dL_end_15
theorem qyL_end : sm_yH yL_end cL_end 3 [(0, 8, 11, 15)] 2 := ⟨(wr_21 _ (List.mem_of_getElem? (i := 7) rfl)), (wr_6 _ (List.mem_of_getElem? (i := 3) rfl)), (wr_21 _ (List.mem_of_getElem? (i := 8) rfl)), by decide +kernel, by decide +kernel, by decide +kernel⟩

set_option maxRecDepth 100000 in
theorem h_firstUnlike {l : Launch} {D : sm_G} {ws : va_W} {B : va_W → Prop} {r : String ⊕ Option Value} {fs : List Value} {b o : Nat} {x1 x2 : Int32} (hM : sm_MX l yX6_firstUnlike cX6_firstUnlike 7 (some .int) 7 135 [.ref b, .int x1, .int x2] D ws B r) (h0 : ws[0]? = some (b, .inr (6, fs))) (hB : ∀ w, B w → ∃ g : Nat → Int64, w[33]? = some (o, .inl (D.2 3, 1, .inr (.inl g)))) (hr : ∀ v, r = .inr v → ∃ x : Int32, v = some (.int x)) (hE : ∀ E, r = .inl E → E = sm_IA ∨ E = sm_NS) : sm_MH l yL_firstUnlike cL_firstUnlike 5 [(0, 10, 13, 13), (0, 10, 17, 47)] 8 161 [.ref b, .int x1, .int x2, .ref o] D ws (sm_Bh 33 o B r [sm_IA, sm_NS] (sm_FI D)) := by
  refine sm_metH (own := RL) (by decide) rfl (Nat.le_of_ble_eq_true rfl) ?_
  intro p e s m below meth c ls hC htab hv hl
  obtain ⟨hx, hb, hml, hrt, hown, hlk, hts⟩ := id hC
  obtain ⟨⟨hP, hK⟩, hD, hZ⟩ := hv
  have hS : va_S (sm_ad ws) s.heap s.heap [] := va_S.rf
  have hl : lv_has ls 5 [(0, .ref b), (1, .int x1), (2, .int x2), (3, .ref o)] := hl
  refine lv_aload_n hx hb dL_firstUnlike_0 rfl (lv_at hl 3 rfl) ?_
  refine lv_iconst (v := 0) hx hb dL_firstUnlike_1 (by decide) ?_
  refine lv_aload_n hx hb dL_firstUnlike_2 rfl (lv_at hl 0 rfl) ?_
  refine lv_iload_n hx hb dL_firstUnlike_3 rfl (lv_at hl 1 rfl) ?_
  refine lv_iload_n hx hb dL_firstUnlike_4 rfl (lv_at hl 2 rfl) ?_
  refine sm_cVX (rest := [.int 0, .ref o]) hC hK hP hD hS hZ hM qyX6_firstUnlike wl_RL_81 ⟨(Nat.le_of_ble_eq_true rfl), (Nat.le_of_ble_eq_true rfl)⟩ 0 h0 rfl rfl hl.1 rfl (Nat.le_of_ble_eq_true rfl) dL_firstUnlike_5 ⟨(Nat.le_of_ble_eq_true rfl), (Nat.le_of_ble_eq_true rfl)⟩ (fun E ce q9 w1 H locs hr1 hB1 hP hD hS h1 h2 h3 => ?_) (fun ov w1 H locs hr1 hB1 hP hD hS => ?_)
  · rcases hE E hr1 with rfl | rfl
    · refine vx_catch (own := RL) hown [] ⟨0, 10, 13, 13⟩ [⟨0, 10, 17, 47⟩] htab (fun z hz => absurd hz List.not_mem_nil) (by decide) (by decide) (hts _ wc_RL_13) (hK.2.2.2.2.2 sm_IA (List.mem_of_getElem? (i := 0) rfl)) h1 h2 h3 ?_
      refine lv_astore (lv' := [(4, .ref q9), (0, .ref b), (1, .int x1), (2, .int x2), (3, .ref o)]) hx hb dL_firstUnlike_13 hl (by decide) rfl (fun ls hl => ?_)
      refine lv_iconst (v := 1) hx hb dL_firstUnlike_15 (by decide) ?_
      exact sm_retH hC hP hD hS (Or.inr ⟨0, _, hr1, rfl, by decide, hB1⟩) (Nat.le_of_ble_eq_true rfl) (Nat.le_of_ble_eq_true rfl) dL_firstUnlike_16
    · refine vx_catch (own := RL) hown [⟨0, 10, 13, 13⟩] ⟨0, 10, 17, 47⟩ [] htab (fun z hz => by rw [List.mem_singleton.mp hz]; exact Or.inr ⟨by decide, _, hts _ wc_RL_13, hK.2.2.2.1 (sm_NS, sm_IA) (List.mem_of_getElem? (i := 2) rfl)⟩) (by decide) (by decide) (hts _ wc_RL_47) (hK.2.2.2.2.2 sm_NS (List.mem_of_getElem? (i := 3) rfl)) h1 h2 h3 ?_
      refine lv_astore (lv' := [(4, .ref q9), (0, .ref b), (1, .int x1), (2, .int x2), (3, .ref o)]) hx hb dL_firstUnlike_17 hl (by decide) rfl (fun ls hl => ?_)
      refine lv_iconst (v := 2) hx hb dL_firstUnlike_19 (by decide) ?_
      exact sm_retH hC hP hD hS (Or.inr ⟨1, _, hr1, rfl, by decide, hB1⟩) (Nat.le_of_ble_eq_true rfl) (Nat.le_of_ble_eq_true rfl) dL_firstUnlike_20
  · obtain ⟨x, rfl⟩ := hr ov hr1
    obtain ⟨g, hg⟩ := hB _ hB1
    refine lv_i2l hx hb dL_firstUnlike_8 rfl ?_
    refine sm_lst hx hb hK hP hD hS 33 hg 0 rfl (by decide) (by decide) dL_firstUnlike_9 (fun H locs hP hD hS => ?_)
    refine lv_goto (tgt := 21) hx hb dL_firstUnlike_10 (by decide) ?_
    refine lv_iconst (v := 0) hx hb dL_firstUnlike_21 (by decide) ?_
    exact sm_retH hC hP hD hS (Or.inl ⟨_, _, _, _, hr1, rfl, hB1, hg, ⟨x, g, rfl, rfl, rfl⟩, rfl⟩) (Nat.le_of_ble_eq_true rfl) (Nat.le_of_ble_eq_true rfl) dL_firstUnlike_22
theorem qyL_firstUnlike : sm_yH yL_firstUnlike cL_firstUnlike 5 [(0, 10, 13, 13), (0, 10, 17, 47)] 4 := ⟨(wr_34 _ (List.mem_of_getElem? (i := 2) rfl)), (wr_6 _ (List.mem_of_getElem? (i := 3) rfl)), (wr_34 _ (List.mem_of_getElem? (i := 3) rfl)), by decide +kernel, by decide +kernel, by decide +kernel⟩

set_option maxRecDepth 100000 in
theorem h_follow {l : Launch} {D : sm_G} {ws : va_W} {B : va_W → Prop} {r : String ⊕ Option Value} {fs : List Value} {b o : Nat} {x1 : Int32} (hM : sm_MX l yX6_follow cX6_follow 2 (some .int) 6 136 [.ref b, .int x1] D ws B r) (h0 : ws[0]? = some (b, .inr (6, fs))) (hB : ∀ w, B w → ∃ g : Nat → Int64, w[33]? = some (o, .inl (D.2 3, 1, .inr (.inl g)))) (hr : ∀ v, r = .inr v → ∃ x : Int32, v = some (.int x)) (hE : ∀ E, r = .inl E → E = sm_IA ∨ E = sm_IS) : sm_MH l yL_follow cL_follow 4 [(0, 9, 12, 13), (0, 9, 15, 15)] 7 157 [.ref b, .int x1, .ref o] D ws (sm_Bh 33 o B r [sm_IA, sm_IS] (sm_FI D)) := by
  refine sm_metH (own := RL) (by decide) rfl (Nat.le_of_ble_eq_true rfl) ?_
  intro p e s m below meth c ls hC htab hv hl
  obtain ⟨hx, hb, hml, hrt, hown, hlk, hts⟩ := id hC
  obtain ⟨⟨hP, hK⟩, hD, hZ⟩ := hv
  have hS : va_S (sm_ad ws) s.heap s.heap [] := va_S.rf
  have hl : lv_has ls 4 [(0, .ref b), (1, .int x1), (2, .ref o)] := hl
  refine lv_aload_n hx hb dL_follow_0 rfl (lv_at hl 2 rfl) ?_
  refine lv_iconst (v := 0) hx hb dL_follow_1 (by decide) ?_
  refine lv_aload_n hx hb dL_follow_2 rfl (lv_at hl 0 rfl) ?_
  refine lv_iload_n hx hb dL_follow_3 rfl (lv_at hl 1 rfl) ?_
  refine sm_cVX (rest := [.int 0, .ref o]) hC hK hP hD hS hZ hM qyX6_follow wl_RL_61 ⟨(Nat.le_of_ble_eq_true rfl), (Nat.le_of_ble_eq_true rfl)⟩ 0 h0 rfl rfl hl.1 rfl (Nat.le_of_ble_eq_true rfl) dL_follow_4 ⟨(Nat.le_of_ble_eq_true rfl), (Nat.le_of_ble_eq_true rfl)⟩ (fun E ce q9 w1 H locs hr1 hB1 hP hD hS h1 h2 h3 => ?_) (fun ov w1 H locs hr1 hB1 hP hD hS => ?_)
  · rcases hE E hr1 with rfl | rfl
    · refine vx_catch (own := RL) hown [] ⟨0, 9, 12, 13⟩ [⟨0, 9, 15, 15⟩] htab (fun z hz => absurd hz List.not_mem_nil) (by decide) (by decide) (hts _ wc_RL_13) (hK.2.2.2.2.2 sm_IA (List.mem_of_getElem? (i := 0) rfl)) h1 h2 h3 ?_
      refine lv_astore_n (lv' := [(3, .ref q9), (0, .ref b), (1, .int x1), (2, .ref o)]) hx hb dL_follow_12 rfl hl (by decide) rfl (fun ls hl => ?_)
      refine lv_iconst (v := 1) hx hb dL_follow_13 (by decide) ?_
      exact sm_retH hC hP hD hS (Or.inr ⟨0, _, hr1, rfl, by decide, hB1⟩) (Nat.le_of_ble_eq_true rfl) (Nat.le_of_ble_eq_true rfl) dL_follow_14
    · refine vx_catch (own := RL) hown [⟨0, 9, 12, 13⟩] ⟨0, 9, 15, 15⟩ [] htab (fun z hz => by rw [List.mem_singleton.mp hz]; exact Or.inr ⟨by decide, _, hts _ wc_RL_13, hK.2.2.2.1 (sm_IS, sm_IA) (List.mem_of_getElem? (i := 0) rfl)⟩) (by decide) (by decide) (hts _ wc_RL_15) (hK.2.2.2.2.2 sm_IS (List.mem_of_getElem? (i := 1) rfl)) h1 h2 h3 ?_
      refine lv_astore_n (lv' := [(3, .ref q9), (0, .ref b), (1, .int x1), (2, .ref o)]) hx hb dL_follow_15 rfl hl (by decide) rfl (fun ls hl => ?_)
      refine lv_iconst (v := 2) hx hb dL_follow_16 (by decide) ?_
      exact sm_retH hC hP hD hS (Or.inr ⟨1, _, hr1, rfl, by decide, hB1⟩) (Nat.le_of_ble_eq_true rfl) (Nat.le_of_ble_eq_true rfl) dL_follow_17
  · obtain ⟨x, rfl⟩ := hr ov hr1
    obtain ⟨g, hg⟩ := hB _ hB1
    refine lv_i2l hx hb dL_follow_7 rfl ?_
    refine sm_lst hx hb hK hP hD hS 33 hg 0 rfl (by decide) (by decide) dL_follow_8 (fun H locs hP hD hS => ?_)
    refine lv_goto (tgt := 18) hx hb dL_follow_9 (by decide) ?_
    refine lv_iconst (v := 0) hx hb dL_follow_18 (by decide) ?_
    exact sm_retH hC hP hD hS (Or.inl ⟨_, _, _, _, hr1, rfl, hB1, hg, ⟨x, g, rfl, rfl, rfl⟩, rfl⟩) (Nat.le_of_ble_eq_true rfl) (Nat.le_of_ble_eq_true rfl) dL_follow_19
theorem qyL_follow : sm_yH yL_follow cL_follow 4 [(0, 9, 12, 13), (0, 9, 15, 15)] 3 := ⟨(wr_29 _ (List.mem_of_getElem? (i := 4) rfl)), (wr_6 _ (List.mem_of_getElem? (i := 3) rfl)), (wr_29 _ (List.mem_of_getElem? (i := 5) rfl)), by decide +kernel, by decide +kernel, by decide +kernel⟩

set_option maxRecDepth 100000 in
theorem h_goBack {l : Launch} {D : sm_G} {ws : va_W} {B : va_W → Prop} {r : String ⊕ Option Value} {fs : List Value} {b o : Nat} (hM : sm_MX l yX6_goBack cX6_goBack 4 (some .int) 6 90 [.ref b] D ws B r) (h0 : ws[0]? = some (b, .inr (6, fs))) (hB : ∀ w, B w → ∃ g : Nat → Int64, w[33]? = some (o, .inl (D.2 3, 1, .inr (.inl g)))) (hr : ∀ v, r = .inr v → ∃ x : Int32, v = some (.int x)) (hE : ∀ E, r = .inl E → E = sm_IS ∨ E = sm_UO) : sm_MH l yL_goBack cL_goBack 3 [(0, 8, 11, 15), (0, 8, 14, 24)] 7 113 [.ref b, .ref o] D ws (sm_Bh 33 o B r [sm_IS, sm_UO] (sm_FI D)) := by
  refine sm_metH (own := RL) (by decide) rfl (Nat.le_of_ble_eq_true rfl) ?_
  intro p e s m below meth c ls hC htab hv hl
  obtain ⟨hx, hb, hml, hrt, hown, hlk, hts⟩ := id hC
  obtain ⟨⟨hP, hK⟩, hD, hZ⟩ := hv
  have hS : va_S (sm_ad ws) s.heap s.heap [] := va_S.rf
  have hl : lv_has ls 3 [(0, .ref b), (1, .ref o)] := hl
  refine lv_aload_n hx hb dL_goBack_0 rfl (lv_at hl 1 rfl) ?_
  refine lv_iconst (v := 0) hx hb dL_goBack_1 (by decide) ?_
  refine lv_aload_n hx hb dL_goBack_2 rfl (lv_at hl 0 rfl) ?_
  refine sm_cVX (rest := [.int 0, .ref o]) hC hK hP hD hS hZ hM qyX6_goBack wl_RL_29 ⟨(Nat.le_of_ble_eq_true rfl), (Nat.le_of_ble_eq_true rfl)⟩ 0 h0 rfl rfl hl.1 rfl (Nat.le_of_ble_eq_true rfl) dL_goBack_3 ⟨(Nat.le_of_ble_eq_true rfl), (Nat.le_of_ble_eq_true rfl)⟩ (fun E ce q9 w1 H locs hr1 hB1 hP hD hS h1 h2 h3 => ?_) (fun ov w1 H locs hr1 hB1 hP hD hS => ?_)
  · rcases hE E hr1 with rfl | rfl
    · refine vx_catch (own := RL) hown [] ⟨0, 8, 11, 15⟩ [⟨0, 8, 14, 24⟩] htab (fun z hz => absurd hz List.not_mem_nil) (by decide) (by decide) (hts _ wc_RL_15) (hK.2.2.2.2.2 sm_IS (List.mem_of_getElem? (i := 1) rfl)) h1 h2 h3 ?_
      refine lv_astore_n (lv' := [(2, .ref q9), (0, .ref b), (1, .ref o)]) hx hb dL_goBack_11 rfl hl (by decide) rfl (fun ls hl => ?_)
      refine lv_iconst (v := 1) hx hb dL_goBack_12 (by decide) ?_
      exact sm_retH hC hP hD hS (Or.inr ⟨0, _, hr1, rfl, by decide, hB1⟩) (Nat.le_of_ble_eq_true rfl) (Nat.le_of_ble_eq_true rfl) dL_goBack_13
    · refine vx_catch (own := RL) hown [⟨0, 8, 11, 15⟩] ⟨0, 8, 14, 24⟩ [] htab (fun z hz => by rw [List.mem_singleton.mp hz]; exact Or.inr ⟨by decide, _, hts _ wc_RL_15, hK.2.2.2.1 (sm_UO, sm_IS) (List.mem_of_getElem? (i := 1) rfl)⟩) (by decide) (by decide) (hts _ wc_RL_24) (hK.2.2.2.2.2 sm_UO (List.mem_of_getElem? (i := 2) rfl)) h1 h2 h3 ?_
      refine lv_astore_n (lv' := [(2, .ref q9), (0, .ref b), (1, .ref o)]) hx hb dL_goBack_14 rfl hl (by decide) rfl (fun ls hl => ?_)
      refine lv_iconst (v := 2) hx hb dL_goBack_15 (by decide) ?_
      exact sm_retH hC hP hD hS (Or.inr ⟨1, _, hr1, rfl, by decide, hB1⟩) (Nat.le_of_ble_eq_true rfl) (Nat.le_of_ble_eq_true rfl) dL_goBack_16
  · obtain ⟨x, rfl⟩ := hr ov hr1
    obtain ⟨g, hg⟩ := hB _ hB1
    refine lv_i2l hx hb dL_goBack_6 rfl ?_
    refine sm_lst hx hb hK hP hD hS 33 hg 0 rfl (by decide) (by decide) dL_goBack_7 (fun H locs hP hD hS => ?_)
    refine lv_goto (tgt := 17) hx hb dL_goBack_8 (by decide) ?_
    refine lv_iconst (v := 0) hx hb dL_goBack_17 (by decide) ?_
    exact sm_retH hC hP hD hS (Or.inl ⟨_, _, _, _, hr1, rfl, hB1, hg, ⟨x, g, rfl, rfl, rfl⟩, rfl⟩) (Nat.le_of_ble_eq_true rfl) (Nat.le_of_ble_eq_true rfl) dL_goBack_18
theorem qyL_goBack : sm_yH yL_goBack cL_goBack 3 [(0, 8, 11, 15), (0, 8, 14, 24)] 2 := ⟨(wr_18 _ (List.mem_of_getElem? (i := 18) rfl)), (wr_6 _ (List.mem_of_getElem? (i := 3) rfl)), (wr_18 _ (List.mem_of_getElem? (i := 19) rfl)), by decide +kernel, by decide +kernel, by decide +kernel⟩

set_option maxRecDepth 100000 in
theorem h_goToBoth {l : Launch} {D : sm_G} {ws : va_W} {B : va_W → Prop} {r : String ⊕ Option Value} {fs : List Value} {b o : Nat} (hM : sm_MX l yX6_goToBoth cX6_goToBoth 2 (some .int) 6 136 [.ref b] D ws B r) (h0 : ws[0]? = some (b, .inr (6, fs))) (hB : ∀ w, B w → ∃ g : Nat → Int64, w[33]? = some (o, .inl (D.2 3, 1, .inr (.inl g)))) (hr : ∀ v, r = .inr v → ∃ x : Int32, v = some (.int x)) (hE : ∀ E, r = .inl E → E = sm_IS ∨ E = sm_UO) : sm_MH l yL_goToBoth cL_goToBoth 3 [(0, 8, 11, 15), (0, 8, 14, 24)] 7 157 [.ref b, .ref o] D ws (sm_Bh 33 o B r [sm_IS, sm_UO] (sm_FI D)) := by
  refine sm_metH (own := RL) (by decide) rfl (Nat.le_of_ble_eq_true rfl) ?_
  intro p e s m below meth c ls hC htab hv hl
  obtain ⟨hx, hb, hml, hrt, hown, hlk, hts⟩ := id hC
  obtain ⟨⟨hP, hK⟩, hD, hZ⟩ := hv
  have hS : va_S (sm_ad ws) s.heap s.heap [] := va_S.rf
  have hl : lv_has ls 3 [(0, .ref b), (1, .ref o)] := hl
  refine lv_aload_n hx hb dL_goToBoth_0 rfl (lv_at hl 1 rfl) ?_
  refine lv_iconst (v := 0) hx hb dL_goToBoth_1 (by decide) ?_
  refine lv_aload_n hx hb dL_goToBoth_2 rfl (lv_at hl 0 rfl) ?_
  refine sm_cVX (rest := [.int 0, .ref o]) hC hK hP hD hS hZ hM qyX6_goToBoth wl_RL_21 ⟨(Nat.le_of_ble_eq_true rfl), (Nat.le_of_ble_eq_true rfl)⟩ 0 h0 rfl rfl hl.1 rfl (Nat.le_of_ble_eq_true rfl) dL_goToBoth_3 ⟨(Nat.le_of_ble_eq_true rfl), (Nat.le_of_ble_eq_true rfl)⟩ (fun E ce q9 w1 H locs hr1 hB1 hP hD hS h1 h2 h3 => ?_) (fun ov w1 H locs hr1 hB1 hP hD hS => ?_)
  · rcases hE E hr1 with rfl | rfl
    · refine vx_catch (own := RL) hown [] ⟨0, 8, 11, 15⟩ [⟨0, 8, 14, 24⟩] htab (fun z hz => absurd hz List.not_mem_nil) (by decide) (by decide) (hts _ wc_RL_15) (hK.2.2.2.2.2 sm_IS (List.mem_of_getElem? (i := 1) rfl)) h1 h2 h3 ?_
      refine lv_astore_n (lv' := [(2, .ref q9), (0, .ref b), (1, .ref o)]) hx hb dL_goToBoth_11 rfl hl (by decide) rfl (fun ls hl => ?_)
      refine lv_iconst (v := 1) hx hb dL_goToBoth_12 (by decide) ?_
      exact sm_retH hC hP hD hS (Or.inr ⟨0, _, hr1, rfl, by decide, hB1⟩) (Nat.le_of_ble_eq_true rfl) (Nat.le_of_ble_eq_true rfl) dL_goToBoth_13
    · refine vx_catch (own := RL) hown [⟨0, 8, 11, 15⟩] ⟨0, 8, 14, 24⟩ [] htab (fun z hz => by rw [List.mem_singleton.mp hz]; exact Or.inr ⟨by decide, _, hts _ wc_RL_15, hK.2.2.2.1 (sm_UO, sm_IS) (List.mem_of_getElem? (i := 1) rfl)⟩) (by decide) (by decide) (hts _ wc_RL_24) (hK.2.2.2.2.2 sm_UO (List.mem_of_getElem? (i := 2) rfl)) h1 h2 h3 ?_
      refine lv_astore_n (lv' := [(2, .ref q9), (0, .ref b), (1, .ref o)]) hx hb dL_goToBoth_14 rfl hl (by decide) rfl (fun ls hl => ?_)
      refine lv_iconst (v := 2) hx hb dL_goToBoth_15 (by decide) ?_
      exact sm_retH hC hP hD hS (Or.inr ⟨1, _, hr1, rfl, by decide, hB1⟩) (Nat.le_of_ble_eq_true rfl) (Nat.le_of_ble_eq_true rfl) dL_goToBoth_16
  · obtain ⟨x, rfl⟩ := hr ov hr1
    obtain ⟨g, hg⟩ := hB _ hB1
    refine lv_i2l hx hb dL_goToBoth_6 rfl ?_
    refine sm_lst hx hb hK hP hD hS 33 hg 0 rfl (by decide) (by decide) dL_goToBoth_7 (fun H locs hP hD hS => ?_)
    refine lv_goto (tgt := 17) hx hb dL_goToBoth_8 (by decide) ?_
    refine lv_iconst (v := 0) hx hb dL_goToBoth_17 (by decide) ?_
    exact sm_retH hC hP hD hS (Or.inl ⟨_, _, _, _, hr1, rfl, hB1, hg, ⟨x, g, rfl, rfl, rfl⟩, rfl⟩) (Nat.le_of_ble_eq_true rfl) (Nat.le_of_ble_eq_true rfl) dL_goToBoth_18
theorem qyL_goToBoth : sm_yH yL_goToBoth cL_goToBoth 3 [(0, 8, 11, 15), (0, 8, 14, 24)] 2 := ⟨(wr_9 _ (List.mem_of_getElem? (i := 10) rfl)), (wr_6 _ (List.mem_of_getElem? (i := 3) rfl)), (wr_9 _ (List.mem_of_getElem? (i := 11) rfl)), by decide +kernel, by decide +kernel, by decide +kernel⟩

set_option maxRecDepth 100000 in
theorem h_goal {l : Launch} {D : sm_G} {ws : va_W} {B : va_W → Prop} {r : String ⊕ Option Value} {fs : List Value} {b o : Nat} {x1 : Int32} (hM : sm_MX l yX6_goal cX6_goal 2 (some .char) 7 102 [.ref b, .int x1] D ws B r) (h0 : ws[0]? = some (b, .inr (6, fs))) (hB : ∀ w, B w → ∃ g : Nat → Int64, w[33]? = some (o, .inl (D.2 3, 1, .inr (.inl g)))) (hr : ∀ v, r = .inr v → ∃ x : Int32, v = some (.int x)) (hE : ∀ E, r = .inl E → E = sm_IA ∨ E = sm_IS) : sm_MH l yL_goal cL_goal 4 [(0, 9, 12, 13), (0, 9, 15, 15)] 8 123 [.ref b, .int x1, .ref o] D ws (sm_Bh 33 o B r [sm_IA, sm_IS] (sm_FI D)) := by
  refine sm_metH (own := RL) (by decide) rfl (Nat.le_of_ble_eq_true rfl) ?_
  intro p e s m below meth c ls hC htab hv hl
  obtain ⟨hx, hb, hml, hrt, hown, hlk, hts⟩ := id hC
  obtain ⟨⟨hP, hK⟩, hD, hZ⟩ := hv
  have hS : va_S (sm_ad ws) s.heap s.heap [] := va_S.rf
  have hl : lv_has ls 4 [(0, .ref b), (1, .int x1), (2, .ref o)] := hl
  refine lv_aload_n hx hb dL_goal_0 rfl (lv_at hl 2 rfl) ?_
  refine lv_iconst (v := 0) hx hb dL_goal_1 (by decide) ?_
  refine lv_aload_n hx hb dL_goal_2 rfl (lv_at hl 0 rfl) ?_
  refine lv_iload_n hx hb dL_goal_3 rfl (lv_at hl 1 rfl) ?_
  refine sm_cVX (rest := [.int 0, .ref o]) hC hK hP hD hS hZ hM qyX6_goal wl_RL_85 ⟨(Nat.le_of_ble_eq_true rfl), (Nat.le_of_ble_eq_true rfl)⟩ 0 h0 rfl rfl hl.1 rfl (Nat.le_of_ble_eq_true rfl) dL_goal_4 ⟨(Nat.le_of_ble_eq_true rfl), (Nat.le_of_ble_eq_true rfl)⟩ (fun E ce q9 w1 H locs hr1 hB1 hP hD hS h1 h2 h3 => ?_) (fun ov w1 H locs hr1 hB1 hP hD hS => ?_)
  · rcases hE E hr1 with rfl | rfl
    · refine vx_catch (own := RL) hown [] ⟨0, 9, 12, 13⟩ [⟨0, 9, 15, 15⟩] htab (fun z hz => absurd hz List.not_mem_nil) (by decide) (by decide) (hts _ wc_RL_13) (hK.2.2.2.2.2 sm_IA (List.mem_of_getElem? (i := 0) rfl)) h1 h2 h3 ?_
      refine lv_astore_n (lv' := [(3, .ref q9), (0, .ref b), (1, .int x1), (2, .ref o)]) hx hb dL_goal_12 rfl hl (by decide) rfl (fun ls hl => ?_)
      refine lv_iconst (v := 1) hx hb dL_goal_13 (by decide) ?_
      exact sm_retH hC hP hD hS (Or.inr ⟨0, _, hr1, rfl, by decide, hB1⟩) (Nat.le_of_ble_eq_true rfl) (Nat.le_of_ble_eq_true rfl) dL_goal_14
    · refine vx_catch (own := RL) hown [⟨0, 9, 12, 13⟩] ⟨0, 9, 15, 15⟩ [] htab (fun z hz => by rw [List.mem_singleton.mp hz]; exact Or.inr ⟨by decide, _, hts _ wc_RL_13, hK.2.2.2.1 (sm_IS, sm_IA) (List.mem_of_getElem? (i := 0) rfl)⟩) (by decide) (by decide) (hts _ wc_RL_15) (hK.2.2.2.2.2 sm_IS (List.mem_of_getElem? (i := 1) rfl)) h1 h2 h3 ?_
      refine lv_astore_n (lv' := [(3, .ref q9), (0, .ref b), (1, .int x1), (2, .ref o)]) hx hb dL_goal_15 rfl hl (by decide) rfl (fun ls hl => ?_)
      refine lv_iconst (v := 2) hx hb dL_goal_16 (by decide) ?_
      exact sm_retH hC hP hD hS (Or.inr ⟨1, _, hr1, rfl, by decide, hB1⟩) (Nat.le_of_ble_eq_true rfl) (Nat.le_of_ble_eq_true rfl) dL_goal_17
  · obtain ⟨x, rfl⟩ := hr ov hr1
    obtain ⟨g, hg⟩ := hB _ hB1
    refine lv_i2l hx hb dL_goal_7 rfl ?_
    refine sm_lst hx hb hK hP hD hS 33 hg 0 rfl (by decide) (by decide) dL_goal_8 (fun H locs hP hD hS => ?_)
    refine lv_goto (tgt := 18) hx hb dL_goal_9 (by decide) ?_
    refine lv_iconst (v := 0) hx hb dL_goal_18 (by decide) ?_
    exact sm_retH hC hP hD hS (Or.inl ⟨_, _, _, _, hr1, rfl, hB1, hg, ⟨x, g, rfl, rfl, rfl⟩, rfl⟩) (Nat.le_of_ble_eq_true rfl) (Nat.le_of_ble_eq_true rfl) dL_goal_19
theorem qyL_goal : sm_yH yL_goal cL_goal 4 [(0, 9, 12, 13), (0, 9, 15, 15)] 3 := ⟨(wr_35 _ (List.mem_of_getElem? (i := 1) rfl)), (wr_6 _ (List.mem_of_getElem? (i := 3) rfl)), (wr_35 _ (List.mem_of_getElem? (i := 2) rfl)), by decide +kernel, by decide +kernel, by decide +kernel⟩

set_option maxRecDepth 100000 in
theorem h_meanStamp {l : Launch} {D : sm_G} {ws : va_W} {B : va_W → Prop} {r : String ⊕ Option Value} {fs : List Value} {b o : Nat} (hM : sm_MX l yX6_meanStamp cX6_meanStamp 2 (some .double) 6 82 [.ref b] D ws B r) (h0 : ws[0]? = some (b, .inr (6, fs))) (hB : ∀ w, B w → ∃ g : Nat → UInt64, w[34]? = some (o, .inl (D.2 4, 1, .inr (.inr (.inr (.inl g)))))) (hr : ∀ v, r = .inr v → ∃ x : UInt64, v = some (.double x)) (hE : ∀ E, r = .inl E → E = sm_AR) : sm_MH l yL_meanStamp cL_meanStamp 3 [(0, 7, 10, 92)] 7 103 [.ref b, .ref o] D ws (sm_Bh 34 o B r [sm_AR] (sm_FD D)) := by
  refine sm_metH (own := RL) (by decide) rfl (Nat.le_of_ble_eq_true rfl) ?_
  intro p e s m below meth c ls hC htab hv hl
  obtain ⟨hx, hb, hml, hrt, hown, hlk, hts⟩ := id hC
  obtain ⟨⟨hP, hK⟩, hD, hZ⟩ := hv
  have hS : va_S (sm_ad ws) s.heap s.heap [] := va_S.rf
  have hl : lv_has ls 3 [(0, .ref b), (1, .ref o)] := hl
  refine lv_aload_n hx hb dL_meanStamp_0 rfl (lv_at hl 1 rfl) ?_
  refine lv_iconst (v := 0) hx hb dL_meanStamp_1 (by decide) ?_
  refine lv_aload_n hx hb dL_meanStamp_2 rfl (lv_at hl 0 rfl) ?_
  refine sm_cVX (rest := [.int 0, .ref o]) hC hK hP hD hS hZ hM qyX6_meanStamp wl_RL_94 ⟨(Nat.le_of_ble_eq_true rfl), (Nat.le_of_ble_eq_true rfl)⟩ 0 h0 rfl rfl hl.1 rfl (Nat.le_of_ble_eq_true rfl) dL_meanStamp_3 ⟨(Nat.le_of_ble_eq_true rfl), (Nat.le_of_ble_eq_true rfl)⟩ (fun E ce q9 w1 H locs hr1 hB1 hP hD hS h1 h2 h3 => ?_) (fun ov w1 H locs hr1 hB1 hP hD hS => ?_)
  · obtain rfl := hE E hr1
    refine vx_catch (own := RL) hown [] ⟨0, 7, 10, 92⟩ [] htab (fun z hz => absurd hz List.not_mem_nil) (by decide) (by decide) (hts _ wc_RL_92) (hK.2.2.2.2.2 sm_AR (List.mem_of_getElem? (i := 5) rfl)) h1 h2 h3 ?_
    refine lv_astore_n (lv' := [(2, .ref q9), (0, .ref b), (1, .ref o)]) hx hb dL_meanStamp_10 rfl hl (by decide) rfl (fun ls hl => ?_)
    refine lv_iconst (v := 1) hx hb dL_meanStamp_11 (by decide) ?_
    exact sm_retH hC hP hD hS (Or.inr ⟨0, _, hr1, rfl, by decide, hB1⟩) (Nat.le_of_ble_eq_true rfl) (Nat.le_of_ble_eq_true rfl) dL_meanStamp_12
  · obtain ⟨x, rfl⟩ := hr ov hr1
    obtain ⟨g, hg⟩ := hB _ hB1
    refine sm_dst hx hb hK hP hD hS 34 hg 0 rfl (by decide) (by decide) dL_meanStamp_6 (fun H locs hP hD hS => ?_)
    refine lv_goto (tgt := 13) hx hb dL_meanStamp_7 (by decide) ?_
    refine lv_iconst (v := 0) hx hb dL_meanStamp_13 (by decide) ?_
    exact sm_retH hC hP hD hS (Or.inl ⟨_, _, _, _, hr1, rfl, hB1, hg, ⟨x, g, rfl, rfl, rfl⟩, rfl⟩) (Nat.le_of_ble_eq_true rfl) (Nat.le_of_ble_eq_true rfl) dL_meanStamp_14
theorem qyL_meanStamp : sm_yH yL_meanStamp cL_meanStamp 3 [(0, 7, 10, 92)] 2 := ⟨(wr_36 _ (List.mem_of_getElem? (i := 18) rfl)), (wr_6 _ (List.mem_of_getElem? (i := 3) rfl)), (wr_36 _ (List.mem_of_getElem? (i := 19) rfl)), by decide +kernel, by decide +kernel, by decide +kernel⟩

set_option maxRecDepth 100000 in
theorem h_movedShare {l : Launch} {D : sm_G} {ws : va_W} {B : va_W → Prop} {r : String ⊕ Option Value} {fs : List Value} {b o : Nat} (hM : sm_MX l yX6_movedShare cX6_movedShare 2 (some .float) 6 110 [.ref b] D ws B r) (h0 : ws[0]? = some (b, .inr (6, fs))) (hB : ∀ w, B w → ∃ g : Nat → UInt64, w[34]? = some (o, .inl (D.2 4, 1, .inr (.inr (.inr (.inl g)))))) (hr : ∀ v, r = .inr v → ∃ x : UInt32, v = some (.float x) ∧ vf_n64 (FP.f2d x)) (hE : ∀ E, r = .inl E → E = sm_AR) : sm_MH l yL_movedShare cL_movedShare 3 [(0, 8, 11, 92)] 7 131 [.ref b, .ref o] D ws (sm_Bh 34 o B r [sm_AR] (sm_FF D)) := by
  refine sm_metH (own := RL) (by decide) rfl (Nat.le_of_ble_eq_true rfl) ?_
  intro p e s m below meth c ls hC htab hv hl
  obtain ⟨hx, hb, hml, hrt, hown, hlk, hts⟩ := id hC
  obtain ⟨⟨hP, hK⟩, hD, hZ⟩ := hv
  have hS : va_S (sm_ad ws) s.heap s.heap [] := va_S.rf
  have hl : lv_has ls 3 [(0, .ref b), (1, .ref o)] := hl
  refine lv_aload_n hx hb dL_movedShare_0 rfl (lv_at hl 1 rfl) ?_
  refine lv_iconst (v := 0) hx hb dL_movedShare_1 (by decide) ?_
  refine lv_aload_n hx hb dL_movedShare_2 rfl (lv_at hl 0 rfl) ?_
  refine sm_cVX (rest := [.int 0, .ref o]) hC hK hP hD hS hZ hM qyX6_movedShare wl_RL_88 ⟨(Nat.le_of_ble_eq_true rfl), (Nat.le_of_ble_eq_true rfl)⟩ 0 h0 rfl rfl hl.1 rfl (Nat.le_of_ble_eq_true rfl) dL_movedShare_3 ⟨(Nat.le_of_ble_eq_true rfl), (Nat.le_of_ble_eq_true rfl)⟩ (fun E ce q9 w1 H locs hr1 hB1 hP hD hS h1 h2 h3 => ?_) (fun ov w1 H locs hr1 hB1 hP hD hS => ?_)
  · obtain rfl := hE E hr1
    refine vx_catch (own := RL) hown [] ⟨0, 8, 11, 92⟩ [] htab (fun z hz => absurd hz List.not_mem_nil) (by decide) (by decide) (hts _ wc_RL_92) (hK.2.2.2.2.2 sm_AR (List.mem_of_getElem? (i := 5) rfl)) h1 h2 h3 ?_
    refine lv_astore_n (lv' := [(2, .ref q9), (0, .ref b), (1, .ref o)]) hx hb dL_movedShare_11 rfl hl (by decide) rfl (fun ls hl => ?_)
    refine lv_iconst (v := 1) hx hb dL_movedShare_12 (by decide) ?_
    exact sm_retH hC hP hD hS (Or.inr ⟨0, _, hr1, rfl, by decide, hB1⟩) (Nat.le_of_ble_eq_true rfl) (Nat.le_of_ble_eq_true rfl) dL_movedShare_13
  · obtain ⟨x, rfl, hne⟩ := hr ov hr1
    obtain ⟨g, hg⟩ := hB _ hB1
    refine lv_f2d hx hb dL_movedShare_6 hne ?_
    refine sm_dst hx hb hK hP hD hS 34 hg 0 rfl (by decide) (by decide) dL_movedShare_7 (fun H locs hP hD hS => ?_)
    refine lv_goto (tgt := 14) hx hb dL_movedShare_8 (by decide) ?_
    refine lv_iconst (v := 0) hx hb dL_movedShare_14 (by decide) ?_
    exact sm_retH hC hP hD hS (Or.inl ⟨_, _, _, _, hr1, rfl, hB1, hg, ⟨x, g, rfl, rfl, rfl⟩, rfl⟩) (Nat.le_of_ble_eq_true rfl) (Nat.le_of_ble_eq_true rfl) dL_movedShare_15
theorem qyL_movedShare : sm_yH yL_movedShare cL_movedShare 3 [(0, 8, 11, 92)] 2 := ⟨(wr_35 _ (List.mem_of_getElem? (i := 12) rfl)), (wr_6 _ (List.mem_of_getElem? (i := 3) rfl)), (wr_35 _ (List.mem_of_getElem? (i := 13) rfl)), by decide +kernel, by decide +kernel, by decide +kernel⟩

set_option maxRecDepth 100000 in
theorem h_nextNumber {l : Launch} {D : sm_G} {ws : va_W} {B : va_W → Prop} {r : String ⊕ Option Value} {fs : List Value} {b o : Nat} (hM : sm_MX l yX6_nextNumber cX6_nextNumber 1 (some .int) 6 82 [.ref b] D ws B r) (h0 : ws[0]? = some (b, .inr (6, fs))) (hB : ∀ w, B w → ∃ g : Nat → Int64, w[33]? = some (o, .inl (D.2 3, 1, .inr (.inl g)))) (hr : ∀ v, r = .inr v → ∃ x : Int32, v = some (.int x)) (hE : ∀ E, r = .inl E → E = sm_IS) : sm_MH l yL_nextNumber cL_nextNumber 3 [(0, 8, 11, 15)] 7 102 [.ref b, .ref o] D ws (sm_Bh 33 o B r [sm_IS] (sm_FI D)) := by
  refine sm_metH (own := RL) (by decide) rfl (Nat.le_of_ble_eq_true rfl) ?_
  intro p e s m below meth c ls hC htab hv hl
  obtain ⟨hx, hb, hml, hrt, hown, hlk, hts⟩ := id hC
  obtain ⟨⟨hP, hK⟩, hD, hZ⟩ := hv
  have hS : va_S (sm_ad ws) s.heap s.heap [] := va_S.rf
  have hl : lv_has ls 3 [(0, .ref b), (1, .ref o)] := hl
  refine lv_aload_n hx hb dL_nextNumber_0 rfl (lv_at hl 1 rfl) ?_
  refine lv_iconst (v := 0) hx hb dL_nextNumber_1 (by decide) ?_
  refine lv_aload_n hx hb dL_nextNumber_2 rfl (lv_at hl 0 rfl) ?_
  refine sm_cVX (rest := [.int 0, .ref o]) hC hK hP hD hS hZ hM qyX6_nextNumber wl_RL_49 ⟨(Nat.le_of_ble_eq_true rfl), (Nat.le_of_ble_eq_true rfl)⟩ 0 h0 rfl rfl hl.1 rfl (Nat.le_of_ble_eq_true rfl) dL_nextNumber_3 ⟨(Nat.le_of_ble_eq_true rfl), (Nat.le_of_ble_eq_true rfl)⟩ (fun E ce q9 w1 H locs hr1 hB1 hP hD hS h1 h2 h3 => ?_) (fun ov w1 H locs hr1 hB1 hP hD hS => ?_)
  · obtain rfl := hE E hr1
    refine vx_catch (own := RL) hown [] ⟨0, 8, 11, 15⟩ [] htab (fun z hz => absurd hz List.not_mem_nil) (by decide) (by decide) (hts _ wc_RL_15) (hK.2.2.2.2.2 sm_IS (List.mem_of_getElem? (i := 1) rfl)) h1 h2 h3 ?_
    refine lv_astore_n (lv' := [(2, .ref q9), (0, .ref b), (1, .ref o)]) hx hb dL_nextNumber_11 rfl hl (by decide) rfl (fun ls hl => ?_)
    refine lv_iconst (v := 1) hx hb dL_nextNumber_12 (by decide) ?_
    exact sm_retH hC hP hD hS (Or.inr ⟨0, _, hr1, rfl, by decide, hB1⟩) (Nat.le_of_ble_eq_true rfl) (Nat.le_of_ble_eq_true rfl) dL_nextNumber_13
  · obtain ⟨x, rfl⟩ := hr ov hr1
    obtain ⟨g, hg⟩ := hB _ hB1
    refine lv_i2l hx hb dL_nextNumber_6 rfl ?_
    refine sm_lst hx hb hK hP hD hS 33 hg 0 rfl (by decide) (by decide) dL_nextNumber_7 (fun H locs hP hD hS => ?_)
    refine lv_goto (tgt := 14) hx hb dL_nextNumber_8 (by decide) ?_
    refine lv_iconst (v := 0) hx hb dL_nextNumber_14 (by decide) ?_
    exact sm_retH hC hP hD hS (Or.inl ⟨_, _, _, _, hr1, rfl, hB1, hg, ⟨x, g, rfl, rfl, rfl⟩, rfl⟩) (Nat.le_of_ble_eq_true rfl) (Nat.le_of_ble_eq_true rfl) dL_nextNumber_15
theorem qyL_nextNumber : sm_yH yL_nextNumber cL_nextNumber 3 [(0, 8, 11, 15)] 2 := ⟨(wr_25 _ (List.mem_of_getElem? (i := 14) rfl)), (wr_6 _ (List.mem_of_getElem? (i := 3) rfl)), (wr_25 _ (List.mem_of_getElem? (i := 15) rfl)), by decide +kernel, by decide +kernel, by decide +kernel⟩

set_option maxRecDepth 100000 in
theorem h_putDown {l : Launch} {D : sm_G} {ws : va_W} {B : va_W → Prop} {r : String ⊕ Option Value} {fs : List Value} {b o : Nat} {x1 : Int32} (hM : sm_MX l yX6_putDown cX6_putDown 6 (some .int) 6 90 [.ref b, .int x1] D ws B r) (h0 : ws[0]? = some (b, .inr (6, fs))) (hB : ∀ w, B w → ∃ g : Nat → Int64, w[33]? = some (o, .inl (D.2 3, 1, .inr (.inl g)))) (hr : ∀ v, r = .inr v → ∃ x : Int32, v = some (.int x)) (hE : ∀ E, r = .inl E → E = sm_IO) : sm_MH l yL_putDown cL_putDown 4 [(0, 9, 12, 59)] 7 115 [.ref b, .int x1, .ref o] D ws (sm_Bh 33 o B r [sm_IO] (sm_FI D)) := by
  refine sm_metH (own := RL) (by decide) rfl (Nat.le_of_ble_eq_true rfl) ?_
  intro p e s m below meth c ls hC htab hv hl
  obtain ⟨hx, hb, hml, hrt, hown, hlk, hts⟩ := id hC
  obtain ⟨⟨hP, hK⟩, hD, hZ⟩ := hv
  have hS : va_S (sm_ad ws) s.heap s.heap [] := va_S.rf
  have hl : lv_has ls 4 [(0, .ref b), (1, .int x1), (2, .ref o)] := hl
  refine lv_aload_n hx hb dL_putDown_0 rfl (lv_at hl 2 rfl) ?_
  refine lv_iconst (v := 0) hx hb dL_putDown_1 (by decide) ?_
  refine lv_aload_n hx hb dL_putDown_2 rfl (lv_at hl 0 rfl) ?_
  refine lv_iload_n hx hb dL_putDown_3 rfl (lv_at hl 1 rfl) ?_
  refine sm_cVX (rest := [.int 0, .ref o]) hC hK hP hD hS hZ hM qyX6_putDown wl_RL_56 ⟨(Nat.le_of_ble_eq_true rfl), (Nat.le_of_ble_eq_true rfl)⟩ 0 h0 rfl rfl hl.1 rfl (Nat.le_of_ble_eq_true rfl) dL_putDown_4 ⟨(Nat.le_of_ble_eq_true rfl), (Nat.le_of_ble_eq_true rfl)⟩ (fun E ce q9 w1 H locs hr1 hB1 hP hD hS h1 h2 h3 => ?_) (fun ov w1 H locs hr1 hB1 hP hD hS => ?_)
  · obtain rfl := hE E hr1
    refine vx_catch (own := RL) hown [] ⟨0, 9, 12, 59⟩ [] htab (fun z hz => absurd hz List.not_mem_nil) (by decide) (by decide) (hts _ wc_RL_59) (hK.2.2.2.2.2 sm_IO (List.mem_of_getElem? (i := 4) rfl)) h1 h2 h3 ?_
    refine lv_astore_n (lv' := [(3, .ref q9), (0, .ref b), (1, .int x1), (2, .ref o)]) hx hb dL_putDown_12 rfl hl (by decide) rfl (fun ls hl => ?_)
    refine lv_iconst (v := 1) hx hb dL_putDown_13 (by decide) ?_
    exact sm_retH hC hP hD hS (Or.inr ⟨0, _, hr1, rfl, by decide, hB1⟩) (Nat.le_of_ble_eq_true rfl) (Nat.le_of_ble_eq_true rfl) dL_putDown_14
  · obtain ⟨x, rfl⟩ := hr ov hr1
    obtain ⟨g, hg⟩ := hB _ hB1
    refine lv_i2l hx hb dL_putDown_7 rfl ?_
    refine sm_lst hx hb hK hP hD hS 33 hg 0 rfl (by decide) (by decide) dL_putDown_8 (fun H locs hP hD hS => ?_)
    refine lv_goto (tgt := 15) hx hb dL_putDown_9 (by decide) ?_
    refine lv_iconst (v := 0) hx hb dL_putDown_15 (by decide) ?_
    exact sm_retH hC hP hD hS (Or.inl ⟨_, _, _, _, hr1, rfl, hB1, hg, ⟨x, g, rfl, rfl, rfl⟩, rfl⟩) (Nat.le_of_ble_eq_true rfl) (Nat.le_of_ble_eq_true rfl) dL_putDown_16
theorem qyL_putDown : sm_yH yL_putDown cL_putDown 4 [(0, 9, 12, 59)] 3 := ⟨(wr_27 _ (List.mem_of_getElem? (i := 5) rfl)), (wr_6 _ (List.mem_of_getElem? (i := 3) rfl)), (wr_27 _ (List.mem_of_getElem? (i := 6) rfl)), by decide +kernel, by decide +kernel, by decide +kernel⟩

set_option maxRecDepth 100000 in
theorem h_read {l : Launch} {D : sm_G} {ws : va_W} {B : va_W → Prop} {r : String ⊕ Option Value} {fs : List Value} {b o : Nat} {x1 x2 : Int32} (hM : sm_MX l yX6_read cX6_read 3 (some .int) 7 102 [.ref b, .int x1, .int x2] D ws B r) (h0 : ws[0]? = some (b, .inr (6, fs))) (hB : ∀ w, B w → ∃ g : Nat → Int64, w[33]? = some (o, .inl (D.2 3, 1, .inr (.inl g)))) (hr : ∀ v, r = .inr v → ∃ x : Int32, v = some (.int x)) (hE : ∀ E, r = .inl E → E = sm_IA ∨ E = sm_NS) : sm_MH l yL_read cL_read 5 [(0, 10, 13, 13), (0, 10, 17, 47)] 8 124 [.ref b, .int x1, .int x2, .ref o] D ws (sm_Bh 33 o B r [sm_IA, sm_NS] (sm_FI D)) := by
  refine sm_metH (own := RL) (by decide) rfl (Nat.le_of_ble_eq_true rfl) ?_
  intro p e s m below meth c ls hC htab hv hl
  obtain ⟨hx, hb, hml, hrt, hown, hlk, hts⟩ := id hC
  obtain ⟨⟨hP, hK⟩, hD, hZ⟩ := hv
  have hS : va_S (sm_ad ws) s.heap s.heap [] := va_S.rf
  have hl : lv_has ls 5 [(0, .ref b), (1, .int x1), (2, .int x2), (3, .ref o)] := hl
  refine lv_aload_n hx hb dL_read_0 rfl (lv_at hl 3 rfl) ?_
  refine lv_iconst (v := 0) hx hb dL_read_1 (by decide) ?_
  refine lv_aload_n hx hb dL_read_2 rfl (lv_at hl 0 rfl) ?_
  refine lv_iload_n hx hb dL_read_3 rfl (lv_at hl 1 rfl) ?_
  refine lv_iload_n hx hb dL_read_4 rfl (lv_at hl 2 rfl) ?_
  refine sm_cVX (rest := [.int 0, .ref o]) hC hK hP hD hS hZ hM qyX6_read wl_RL_43 ⟨(Nat.le_of_ble_eq_true rfl), (Nat.le_of_ble_eq_true rfl)⟩ 0 h0 rfl rfl hl.1 rfl (Nat.le_of_ble_eq_true rfl) dL_read_5 ⟨(Nat.le_of_ble_eq_true rfl), (Nat.le_of_ble_eq_true rfl)⟩ (fun E ce q9 w1 H locs hr1 hB1 hP hD hS h1 h2 h3 => ?_) (fun ov w1 H locs hr1 hB1 hP hD hS => ?_)
  · rcases hE E hr1 with rfl | rfl
    · refine vx_catch (own := RL) hown [] ⟨0, 10, 13, 13⟩ [⟨0, 10, 17, 47⟩] htab (fun z hz => absurd hz List.not_mem_nil) (by decide) (by decide) (hts _ wc_RL_13) (hK.2.2.2.2.2 sm_IA (List.mem_of_getElem? (i := 0) rfl)) h1 h2 h3 ?_
      refine lv_astore (lv' := [(4, .ref q9), (0, .ref b), (1, .int x1), (2, .int x2), (3, .ref o)]) hx hb dL_read_13 hl (by decide) rfl (fun ls hl => ?_)
      refine lv_iconst (v := 1) hx hb dL_read_15 (by decide) ?_
      exact sm_retH hC hP hD hS (Or.inr ⟨0, _, hr1, rfl, by decide, hB1⟩) (Nat.le_of_ble_eq_true rfl) (Nat.le_of_ble_eq_true rfl) dL_read_16
    · refine vx_catch (own := RL) hown [⟨0, 10, 13, 13⟩] ⟨0, 10, 17, 47⟩ [] htab (fun z hz => by rw [List.mem_singleton.mp hz]; exact Or.inr ⟨by decide, _, hts _ wc_RL_13, hK.2.2.2.1 (sm_NS, sm_IA) (List.mem_of_getElem? (i := 2) rfl)⟩) (by decide) (by decide) (hts _ wc_RL_47) (hK.2.2.2.2.2 sm_NS (List.mem_of_getElem? (i := 3) rfl)) h1 h2 h3 ?_
      refine lv_astore (lv' := [(4, .ref q9), (0, .ref b), (1, .int x1), (2, .int x2), (3, .ref o)]) hx hb dL_read_17 hl (by decide) rfl (fun ls hl => ?_)
      refine lv_iconst (v := 2) hx hb dL_read_19 (by decide) ?_
      exact sm_retH hC hP hD hS (Or.inr ⟨1, _, hr1, rfl, by decide, hB1⟩) (Nat.le_of_ble_eq_true rfl) (Nat.le_of_ble_eq_true rfl) dL_read_20
  · obtain ⟨x, rfl⟩ := hr ov hr1
    obtain ⟨g, hg⟩ := hB _ hB1
    refine lv_i2l hx hb dL_read_8 rfl ?_
    refine sm_lst hx hb hK hP hD hS 33 hg 0 rfl (by decide) (by decide) dL_read_9 (fun H locs hP hD hS => ?_)
    refine lv_goto (tgt := 21) hx hb dL_read_10 (by decide) ?_
    refine lv_iconst (v := 0) hx hb dL_read_21 (by decide) ?_
    exact sm_retH hC hP hD hS (Or.inl ⟨_, _, _, _, hr1, rfl, hB1, hg, ⟨x, g, rfl, rfl, rfl⟩, rfl⟩) (Nat.le_of_ble_eq_true rfl) (Nat.le_of_ble_eq_true rfl) dL_read_22
theorem qyL_read : sm_yH yL_read cL_read 5 [(0, 10, 13, 13), (0, 10, 17, 47)] 4 := ⟨(wr_25 _ (List.mem_of_getElem? (i := 0) rfl)), (wr_6 _ (List.mem_of_getElem? (i := 3) rfl)), (wr_25 _ (List.mem_of_getElem? (i := 1) rfl)), by decide +kernel, by decide +kernel, by decide +kernel⟩

set_option maxRecDepth 100000 in
theorem h_readPart {l : Launch} {D : sm_G} {ws : va_W} {B : va_W → Prop} {r : String ⊕ Option Value} {fs : List Value} {b o : Nat} {x1 : Int32} (hM : sm_MX l yX6_readPart cX6_readPart 2 (some .int) 6 82 [.ref b, .int x1] D ws B r) (h0 : ws[0]? = some (b, .inr (6, fs))) (hB : ∀ w, B w → ∃ g : Nat → Int64, w[33]? = some (o, .inl (D.2 3, 1, .inr (.inl g)))) (hr : ∀ v, r = .inr v → ∃ x : Int32, v = some (.int x)) (hE : ∀ E, r = .inl E → E = sm_IA ∨ E = sm_IS) : sm_MH l yL_readPart cL_readPart 4 [(0, 9, 12, 13), (0, 9, 15, 15)] 7 103 [.ref b, .int x1, .ref o] D ws (sm_Bh 33 o B r [sm_IA, sm_IS] (sm_FI D)) := by
  refine sm_metH (own := RL) (by decide) rfl (Nat.le_of_ble_eq_true rfl) ?_
  intro p e s m below meth c ls hC htab hv hl
  obtain ⟨hx, hb, hml, hrt, hown, hlk, hts⟩ := id hC
  obtain ⟨⟨hP, hK⟩, hD, hZ⟩ := hv
  have hS : va_S (sm_ad ws) s.heap s.heap [] := va_S.rf
  have hl : lv_has ls 4 [(0, .ref b), (1, .int x1), (2, .ref o)] := hl
  refine lv_aload_n hx hb dL_readPart_0 rfl (lv_at hl 2 rfl) ?_
  refine lv_iconst (v := 0) hx hb dL_readPart_1 (by decide) ?_
  refine lv_aload_n hx hb dL_readPart_2 rfl (lv_at hl 0 rfl) ?_
  refine lv_iload_n hx hb dL_readPart_3 rfl (lv_at hl 1 rfl) ?_
  refine sm_cVX (rest := [.int 0, .ref o]) hC hK hP hD hS hZ hM qyX6_readPart wl_RL_52 ⟨(Nat.le_of_ble_eq_true rfl), (Nat.le_of_ble_eq_true rfl)⟩ 0 h0 rfl rfl hl.1 rfl (Nat.le_of_ble_eq_true rfl) dL_readPart_4 ⟨(Nat.le_of_ble_eq_true rfl), (Nat.le_of_ble_eq_true rfl)⟩ (fun E ce q9 w1 H locs hr1 hB1 hP hD hS h1 h2 h3 => ?_) (fun ov w1 H locs hr1 hB1 hP hD hS => ?_)
  · rcases hE E hr1 with rfl | rfl
    · refine vx_catch (own := RL) hown [] ⟨0, 9, 12, 13⟩ [⟨0, 9, 15, 15⟩] htab (fun z hz => absurd hz List.not_mem_nil) (by decide) (by decide) (hts _ wc_RL_13) (hK.2.2.2.2.2 sm_IA (List.mem_of_getElem? (i := 0) rfl)) h1 h2 h3 ?_
      refine lv_astore_n (lv' := [(3, .ref q9), (0, .ref b), (1, .int x1), (2, .ref o)]) hx hb dL_readPart_12 rfl hl (by decide) rfl (fun ls hl => ?_)
      refine lv_iconst (v := 1) hx hb dL_readPart_13 (by decide) ?_
      exact sm_retH hC hP hD hS (Or.inr ⟨0, _, hr1, rfl, by decide, hB1⟩) (Nat.le_of_ble_eq_true rfl) (Nat.le_of_ble_eq_true rfl) dL_readPart_14
    · refine vx_catch (own := RL) hown [⟨0, 9, 12, 13⟩] ⟨0, 9, 15, 15⟩ [] htab (fun z hz => by rw [List.mem_singleton.mp hz]; exact Or.inr ⟨by decide, _, hts _ wc_RL_13, hK.2.2.2.1 (sm_IS, sm_IA) (List.mem_of_getElem? (i := 0) rfl)⟩) (by decide) (by decide) (hts _ wc_RL_15) (hK.2.2.2.2.2 sm_IS (List.mem_of_getElem? (i := 1) rfl)) h1 h2 h3 ?_
      refine lv_astore_n (lv' := [(3, .ref q9), (0, .ref b), (1, .int x1), (2, .ref o)]) hx hb dL_readPart_15 rfl hl (by decide) rfl (fun ls hl => ?_)
      refine lv_iconst (v := 2) hx hb dL_readPart_16 (by decide) ?_
      exact sm_retH hC hP hD hS (Or.inr ⟨1, _, hr1, rfl, by decide, hB1⟩) (Nat.le_of_ble_eq_true rfl) (Nat.le_of_ble_eq_true rfl) dL_readPart_17
  · obtain ⟨x, rfl⟩ := hr ov hr1
    obtain ⟨g, hg⟩ := hB _ hB1
    refine lv_i2l hx hb dL_readPart_7 rfl ?_
    refine sm_lst hx hb hK hP hD hS 33 hg 0 rfl (by decide) (by decide) dL_readPart_8 (fun H locs hP hD hS => ?_)
    refine lv_goto (tgt := 18) hx hb dL_readPart_9 (by decide) ?_
    refine lv_iconst (v := 0) hx hb dL_readPart_18 (by decide) ?_
    exact sm_retH hC hP hD hS (Or.inl ⟨_, _, _, _, hr1, rfl, hB1, hg, ⟨x, g, rfl, rfl, rfl⟩, rfl⟩) (Nat.le_of_ble_eq_true rfl) (Nat.le_of_ble_eq_true rfl) dL_readPart_19
theorem qyL_readPart : sm_yH yL_readPart cL_readPart 4 [(0, 9, 12, 13), (0, 9, 15, 15)] 3 := ⟨(wr_26 _ (List.mem_of_getElem? (i := 1) rfl)), (wr_6 _ (List.mem_of_getElem? (i := 3) rfl)), (wr_26 _ (List.mem_of_getElem? (i := 2) rfl)), by decide +kernel, by decide +kernel, by decide +kernel⟩

set_option maxRecDepth 100000 in
theorem h_stamp {l : Launch} {D : sm_G} {ws : va_W} {B : va_W → Prop} {r : String ⊕ Option Value} {fs : List Value} {b o : Nat} {x1 : Int32} (hM : sm_MX l yX6_stamp cX6_stamp 2 (some .int) 7 102 [.ref b, .int x1] D ws B r) (h0 : ws[0]? = some (b, .inr (6, fs))) (hB : ∀ w, B w → ∃ g : Nat → Int64, w[33]? = some (o, .inl (D.2 3, 1, .inr (.inl g)))) (hr : ∀ v, r = .inr v → ∃ x : Int32, v = some (.int x)) (hE : ∀ E, r = .inl E → E = sm_IA ∨ E = sm_NS) : sm_MH l yL_stamp cL_stamp 4 [(0, 9, 12, 13), (0, 9, 15, 47)] 8 123 [.ref b, .int x1, .ref o] D ws (sm_Bh 33 o B r [sm_IA, sm_NS] (sm_FI D)) := by
  refine sm_metH (own := RL) (by decide) rfl (Nat.le_of_ble_eq_true rfl) ?_
  intro p e s m below meth c ls hC htab hv hl
  obtain ⟨hx, hb, hml, hrt, hown, hlk, hts⟩ := id hC
  obtain ⟨⟨hP, hK⟩, hD, hZ⟩ := hv
  have hS : va_S (sm_ad ws) s.heap s.heap [] := va_S.rf
  have hl : lv_has ls 4 [(0, .ref b), (1, .int x1), (2, .ref o)] := hl
  refine lv_aload_n hx hb dL_stamp_0 rfl (lv_at hl 2 rfl) ?_
  refine lv_iconst (v := 0) hx hb dL_stamp_1 (by decide) ?_
  refine lv_aload_n hx hb dL_stamp_2 rfl (lv_at hl 0 rfl) ?_
  refine lv_iload_n hx hb dL_stamp_3 rfl (lv_at hl 1 rfl) ?_
  refine sm_cVX (rest := [.int 0, .ref o]) hC hK hP hD hS hZ hM qyX6_stamp wl_RL_68 ⟨(Nat.le_of_ble_eq_true rfl), (Nat.le_of_ble_eq_true rfl)⟩ 0 h0 rfl rfl hl.1 rfl (Nat.le_of_ble_eq_true rfl) dL_stamp_4 ⟨(Nat.le_of_ble_eq_true rfl), (Nat.le_of_ble_eq_true rfl)⟩ (fun E ce q9 w1 H locs hr1 hB1 hP hD hS h1 h2 h3 => ?_) (fun ov w1 H locs hr1 hB1 hP hD hS => ?_)
  · rcases hE E hr1 with rfl | rfl
    · refine vx_catch (own := RL) hown [] ⟨0, 9, 12, 13⟩ [⟨0, 9, 15, 47⟩] htab (fun z hz => absurd hz List.not_mem_nil) (by decide) (by decide) (hts _ wc_RL_13) (hK.2.2.2.2.2 sm_IA (List.mem_of_getElem? (i := 0) rfl)) h1 h2 h3 ?_
      refine lv_astore_n (lv' := [(3, .ref q9), (0, .ref b), (1, .int x1), (2, .ref o)]) hx hb dL_stamp_12 rfl hl (by decide) rfl (fun ls hl => ?_)
      refine lv_iconst (v := 1) hx hb dL_stamp_13 (by decide) ?_
      exact sm_retH hC hP hD hS (Or.inr ⟨0, _, hr1, rfl, by decide, hB1⟩) (Nat.le_of_ble_eq_true rfl) (Nat.le_of_ble_eq_true rfl) dL_stamp_14
    · refine vx_catch (own := RL) hown [⟨0, 9, 12, 13⟩] ⟨0, 9, 15, 47⟩ [] htab (fun z hz => by rw [List.mem_singleton.mp hz]; exact Or.inr ⟨by decide, _, hts _ wc_RL_13, hK.2.2.2.1 (sm_NS, sm_IA) (List.mem_of_getElem? (i := 2) rfl)⟩) (by decide) (by decide) (hts _ wc_RL_47) (hK.2.2.2.2.2 sm_NS (List.mem_of_getElem? (i := 3) rfl)) h1 h2 h3 ?_
      refine lv_astore_n (lv' := [(3, .ref q9), (0, .ref b), (1, .int x1), (2, .ref o)]) hx hb dL_stamp_15 rfl hl (by decide) rfl (fun ls hl => ?_)
      refine lv_iconst (v := 2) hx hb dL_stamp_16 (by decide) ?_
      exact sm_retH hC hP hD hS (Or.inr ⟨1, _, hr1, rfl, by decide, hB1⟩) (Nat.le_of_ble_eq_true rfl) (Nat.le_of_ble_eq_true rfl) dL_stamp_17
  · obtain ⟨x, rfl⟩ := hr ov hr1
    obtain ⟨g, hg⟩ := hB _ hB1
    refine lv_i2l hx hb dL_stamp_7 rfl ?_
    refine sm_lst hx hb hK hP hD hS 33 hg 0 rfl (by decide) (by decide) dL_stamp_8 (fun H locs hP hD hS => ?_)
    refine lv_goto (tgt := 18) hx hb dL_stamp_9 (by decide) ?_
    refine lv_iconst (v := 0) hx hb dL_stamp_18 (by decide) ?_
    exact sm_retH hC hP hD hS (Or.inl ⟨_, _, _, _, hr1, rfl, hB1, hg, ⟨x, g, rfl, rfl, rfl⟩, rfl⟩) (Nat.le_of_ble_eq_true rfl) (Nat.le_of_ble_eq_true rfl) dL_stamp_19
theorem qyL_stamp : sm_yH yL_stamp cL_stamp 4 [(0, 9, 12, 13), (0, 9, 15, 47)] 3 := ⟨(wr_31 _ (List.mem_of_getElem? (i := 22) rfl)), (wr_6 _ (List.mem_of_getElem? (i := 3) rfl)), (wr_31 _ (List.mem_of_getElem? (i := 23) rfl)), by decide +kernel, by decide +kernel, by decide +kernel⟩

set_option maxRecDepth 100000 in
theorem h_start {l : Launch} {D : sm_G} {ws : va_W} {B : va_W → Prop} {r : String ⊕ Option Value} {fs : List Value} {b o : Nat} (hM : sm_MX l yX6_start cX6_start 1 (some .int) 6 82 [.ref b] D ws B r) (h0 : ws[0]? = some (b, .inr (6, fs))) (hB : ∀ w, B w → ∃ g : Nat → Int64, w[33]? = some (o, .inl (D.2 3, 1, .inr (.inl g)))) (hr : ∀ v, r = .inr v → ∃ x : Int32, v = some (.int x)) (hE : ∀ E, r = .inl E → E = sm_IS) : sm_MH l yL_start cL_start 3 [(0, 8, 11, 15)] 7 102 [.ref b, .ref o] D ws (sm_Bh 33 o B r [sm_IS] (sm_FI D)) := by
  refine sm_metH (own := RL) (by decide) rfl (Nat.le_of_ble_eq_true rfl) ?_
  intro p e s m below meth c ls hC htab hv hl
  obtain ⟨hx, hb, hml, hrt, hown, hlk, hts⟩ := id hC
  obtain ⟨⟨hP, hK⟩, hD, hZ⟩ := hv
  have hS : va_S (sm_ad ws) s.heap s.heap [] := va_S.rf
  have hl : lv_has ls 3 [(0, .ref b), (1, .ref o)] := hl
  refine lv_aload_n hx hb dL_start_0 rfl (lv_at hl 1 rfl) ?_
  refine lv_iconst (v := 0) hx hb dL_start_1 (by decide) ?_
  refine lv_aload_n hx hb dL_start_2 rfl (lv_at hl 0 rfl) ?_
  refine sm_cVX (rest := [.int 0, .ref o]) hC hK hP hD hS hZ hM qyX6_start wl_RL_17 ⟨(Nat.le_of_ble_eq_true rfl), (Nat.le_of_ble_eq_true rfl)⟩ 0 h0 rfl rfl hl.1 rfl (Nat.le_of_ble_eq_true rfl) dL_start_3 ⟨(Nat.le_of_ble_eq_true rfl), (Nat.le_of_ble_eq_true rfl)⟩ (fun E ce q9 w1 H locs hr1 hB1 hP hD hS h1 h2 h3 => ?_) (fun ov w1 H locs hr1 hB1 hP hD hS => ?_)
  · obtain rfl := hE E hr1
    refine vx_catch (own := RL) hown [] ⟨0, 8, 11, 15⟩ [] htab (fun z hz => absurd hz List.not_mem_nil) (by decide) (by decide) (hts _ wc_RL_15) (hK.2.2.2.2.2 sm_IS (List.mem_of_getElem? (i := 1) rfl)) h1 h2 h3 ?_
    refine lv_astore_n (lv' := [(2, .ref q9), (0, .ref b), (1, .ref o)]) hx hb dL_start_11 rfl hl (by decide) rfl (fun ls hl => ?_)
    refine lv_iconst (v := 1) hx hb dL_start_12 (by decide) ?_
    exact sm_retH hC hP hD hS (Or.inr ⟨0, _, hr1, rfl, by decide, hB1⟩) (Nat.le_of_ble_eq_true rfl) (Nat.le_of_ble_eq_true rfl) dL_start_13
  · obtain ⟨x, rfl⟩ := hr ov hr1
    obtain ⟨g, hg⟩ := hB _ hB1
    refine lv_i2l hx hb dL_start_6 rfl ?_
    refine sm_lst hx hb hK hP hD hS 33 hg 0 rfl (by decide) (by decide) dL_start_7 (fun H locs hP hD hS => ?_)
    refine lv_goto (tgt := 14) hx hb dL_start_8 (by decide) ?_
    refine lv_iconst (v := 0) hx hb dL_start_14 (by decide) ?_
    exact sm_retH hC hP hD hS (Or.inl ⟨_, _, _, _, hr1, rfl, hB1, hg, ⟨x, g, rfl, rfl, rfl⟩, rfl⟩) (Nat.le_of_ble_eq_true rfl) (Nat.le_of_ble_eq_true rfl) dL_start_15
theorem qyL_start : sm_yH yL_start cL_start 3 [(0, 8, 11, 15)] 2 := ⟨(wr_8 _ (List.mem_of_getElem? (i := 3) rfl)), (wr_6 _ (List.mem_of_getElem? (i := 3) rfl)), (wr_8 _ (List.mem_of_getElem? (i := 4) rfl)), by decide +kernel, by decide +kernel, by decide +kernel⟩

set_option maxRecDepth 100000 in
theorem h_state {l : Launch} {D : sm_G} {ws : va_W} {B : va_W → Prop} {r : String ⊕ Option Value} {fs : List Value} {b o : Nat} {x1 : Int32} (hM : sm_MX l yX6_state cX6_state 2 (some .char) 7 102 [.ref b, .int x1] D ws B r) (h0 : ws[0]? = some (b, .inr (6, fs))) (hB : ∀ w, B w → ∃ g : Nat → Int64, w[33]? = some (o, .inl (D.2 3, 1, .inr (.inl g)))) (hr : ∀ v, r = .inr v → ∃ x : Int32, v = some (.int x)) (hE : ∀ E, r = .inl E → E = sm_IA) : sm_MH l yL_state cL_state 4 [(0, 9, 12, 13)] 8 123 [.ref b, .int x1, .ref o] D ws (sm_Bh 33 o B r [sm_IA] (sm_FI D)) := by
  refine sm_metH (own := RL) (by decide) rfl (Nat.le_of_ble_eq_true rfl) ?_
  intro p e s m below meth c ls hC htab hv hl
  obtain ⟨hx, hb, hml, hrt, hown, hlk, hts⟩ := id hC
  obtain ⟨⟨hP, hK⟩, hD, hZ⟩ := hv
  have hS : va_S (sm_ad ws) s.heap s.heap [] := va_S.rf
  have hl : lv_has ls 4 [(0, .ref b), (1, .int x1), (2, .ref o)] := hl
  refine lv_aload_n hx hb dL_state_0 rfl (lv_at hl 2 rfl) ?_
  refine lv_iconst (v := 0) hx hb dL_state_1 (by decide) ?_
  refine lv_aload_n hx hb dL_state_2 rfl (lv_at hl 0 rfl) ?_
  refine lv_iload_n hx hb dL_state_3 rfl (lv_at hl 1 rfl) ?_
  refine sm_cVX (rest := [.int 0, .ref o]) hC hK hP hD hS hZ hM qyX6_state wl_RL_64 ⟨(Nat.le_of_ble_eq_true rfl), (Nat.le_of_ble_eq_true rfl)⟩ 0 h0 rfl rfl hl.1 rfl (Nat.le_of_ble_eq_true rfl) dL_state_4 ⟨(Nat.le_of_ble_eq_true rfl), (Nat.le_of_ble_eq_true rfl)⟩ (fun E ce q9 w1 H locs hr1 hB1 hP hD hS h1 h2 h3 => ?_) (fun ov w1 H locs hr1 hB1 hP hD hS => ?_)
  · obtain rfl := hE E hr1
    refine vx_catch (own := RL) hown [] ⟨0, 9, 12, 13⟩ [] htab (fun z hz => absurd hz List.not_mem_nil) (by decide) (by decide) (hts _ wc_RL_13) (hK.2.2.2.2.2 sm_IA (List.mem_of_getElem? (i := 0) rfl)) h1 h2 h3 ?_
    refine lv_astore_n (lv' := [(3, .ref q9), (0, .ref b), (1, .int x1), (2, .ref o)]) hx hb dL_state_12 rfl hl (by decide) rfl (fun ls hl => ?_)
    refine lv_iconst (v := 1) hx hb dL_state_13 (by decide) ?_
    exact sm_retH hC hP hD hS (Or.inr ⟨0, _, hr1, rfl, by decide, hB1⟩) (Nat.le_of_ble_eq_true rfl) (Nat.le_of_ble_eq_true rfl) dL_state_14
  · obtain ⟨x, rfl⟩ := hr ov hr1
    obtain ⟨g, hg⟩ := hB _ hB1
    refine lv_i2l hx hb dL_state_7 rfl ?_
    refine sm_lst hx hb hK hP hD hS 33 hg 0 rfl (by decide) (by decide) dL_state_8 (fun H locs hP hD hS => ?_)
    refine lv_goto (tgt := 15) hx hb dL_state_9 (by decide) ?_
    refine lv_iconst (v := 0) hx hb dL_state_15 (by decide) ?_
    exact sm_retH hC hP hD hS (Or.inl ⟨_, _, _, _, hr1, rfl, hB1, hg, ⟨x, g, rfl, rfl, rfl⟩, rfl⟩) (Nat.le_of_ble_eq_true rfl) (Nat.le_of_ble_eq_true rfl) dL_state_16
theorem qyL_state : sm_yH yL_state cL_state 4 [(0, 9, 12, 13)] 3 := ⟨(wr_30 _ (List.mem_of_getElem? (i := 19) rfl)), (wr_6 _ (List.mem_of_getElem? (i := 3) rfl)), (wr_30 _ (List.mem_of_getElem? (i := 20) rfl)), by decide +kernel, by decide +kernel, by decide +kernel⟩

set_option maxRecDepth 100000 in
theorem h_sum {l : Launch} {D : sm_G} {ws : va_W} {B : va_W → Prop} {r : String ⊕ Option Value} {fs : List Value} {b o : Nat} {x1 x2 x3 : Int32} (hM : sm_MX l yX6_sum cX6_sum 4 (some .long) 7 113 [.ref b, .int x1, .int x2, .int x3] D ws B r) (h0 : ws[0]? = some (b, .inr (6, fs))) (hB : ∀ w, B w → ∃ g : Nat → Int64, w[33]? = some (o, .inl (D.2 3, 1, .inr (.inl g)))) (hr : ∀ v, r = .inr v → ∃ x : Int64, v = some (.long x)) (hE : ∀ E, r = .inl E → E = sm_IA) : sm_MH l yL_sum cL_sum 6 [(0, 11, 14, 13)] 8 136 [.ref b, .int x1, .int x2, .int x3, .ref o] D ws (sm_Bh 33 o B r [sm_IA] (sm_FL D)) := by
  refine sm_metH (own := RL) (by decide) rfl (Nat.le_of_ble_eq_true rfl) ?_
  intro p e s m below meth c ls hC htab hv hl
  obtain ⟨hx, hb, hml, hrt, hown, hlk, hts⟩ := id hC
  obtain ⟨⟨hP, hK⟩, hD, hZ⟩ := hv
  have hS : va_S (sm_ad ws) s.heap s.heap [] := va_S.rf
  have hl : lv_has ls 6 [(0, .ref b), (1, .int x1), (2, .int x2), (3, .int x3), (4, .ref o)] := hl
  refine lv_aload hx hb dL_sum_0 (lv_at hl 4 rfl) ?_
  refine lv_iconst (v := 0) hx hb dL_sum_2 (by decide) ?_
  refine lv_aload_n hx hb dL_sum_3 rfl (lv_at hl 0 rfl) ?_
  refine lv_iload_n hx hb dL_sum_4 rfl (lv_at hl 1 rfl) ?_
  refine lv_iload_n hx hb dL_sum_5 rfl (lv_at hl 2 rfl) ?_
  refine lv_iload_n hx hb dL_sum_6 rfl (lv_at hl 3 rfl) ?_
  refine sm_cVX (rest := [.int 0, .ref o]) hC hK hP hD hS hZ hM qyX6_sum wl_RL_77 ⟨(Nat.le_of_ble_eq_true rfl), (Nat.le_of_ble_eq_true rfl)⟩ 0 h0 rfl rfl hl.1 rfl (Nat.le_of_ble_eq_true rfl) dL_sum_7 ⟨(Nat.le_of_ble_eq_true rfl), (Nat.le_of_ble_eq_true rfl)⟩ (fun E ce q9 w1 H locs hr1 hB1 hP hD hS h1 h2 h3 => ?_) (fun ov w1 H locs hr1 hB1 hP hD hS => ?_)
  · obtain rfl := hE E hr1
    refine vx_catch (own := RL) hown [] ⟨0, 11, 14, 13⟩ [] htab (fun z hz => absurd hz List.not_mem_nil) (by decide) (by decide) (hts _ wc_RL_13) (hK.2.2.2.2.2 sm_IA (List.mem_of_getElem? (i := 0) rfl)) h1 h2 h3 ?_
    refine lv_astore (lv' := [(5, .ref q9), (0, .ref b), (1, .int x1), (2, .int x2), (3, .int x3), (4, .ref o)]) hx hb dL_sum_14 hl (by decide) rfl (fun ls hl => ?_)
    refine lv_iconst (v := 1) hx hb dL_sum_16 (by decide) ?_
    exact sm_retH hC hP hD hS (Or.inr ⟨0, _, hr1, rfl, by decide, hB1⟩) (Nat.le_of_ble_eq_true rfl) (Nat.le_of_ble_eq_true rfl) dL_sum_17
  · obtain ⟨x, rfl⟩ := hr ov hr1
    obtain ⟨g, hg⟩ := hB _ hB1
    refine sm_lst hx hb hK hP hD hS 33 hg 0 rfl (by decide) (by decide) dL_sum_10 (fun H locs hP hD hS => ?_)
    refine lv_goto (tgt := 18) hx hb dL_sum_11 (by decide) ?_
    refine lv_iconst (v := 0) hx hb dL_sum_18 (by decide) ?_
    exact sm_retH hC hP hD hS (Or.inl ⟨_, _, _, _, hr1, rfl, hB1, hg, ⟨x, g, rfl, rfl, rfl⟩, rfl⟩) (Nat.le_of_ble_eq_true rfl) (Nat.le_of_ble_eq_true rfl) dL_sum_19
theorem qyL_sum : sm_yH yL_sum cL_sum 6 [(0, 11, 14, 13)] 5 := ⟨(wr_33 _ (List.mem_of_getElem? (i := 9) rfl)), (wr_6 _ (List.mem_of_getElem? (i := 3) rfl)), (wr_33 _ (List.mem_of_getElem? (i := 10) rfl)), by decide +kernel, by decide +kernel, by decide +kernel⟩

set_option maxRecDepth 100000 in
theorem h_switchOver {l : Launch} {D : sm_G} {ws : va_W} {B : va_W → Prop} {r : String ⊕ Option Value} {fs : List Value} {b o : Nat} (hM : sm_MX l yX6_switchOver cX6_switchOver 1 (some .int) 6 135 [.ref b] D ws B r) (h0 : ws[0]? = some (b, .inr (6, fs))) (hB : ∀ w, B w → ∃ g : Nat → Int64, w[33]? = some (o, .inl (D.2 3, 1, .inr (.inl g)))) (hr : ∀ v, r = .inr v → ∃ x : Int32, v = some (.int x)) (hE : ∀ E, r = .inl E → E = sm_IS ∨ E = sm_UO) : sm_MH l yL_switchOver cL_switchOver 3 [(0, 8, 11, 15), (0, 8, 14, 24)] 7 155 [.ref b, .ref o] D ws (sm_Bh 33 o B r [sm_IS, sm_UO] (sm_FI D)) := by
  refine sm_metH (own := RL) (by decide) rfl (Nat.le_of_ble_eq_true rfl) ?_
  intro p e s m below meth c ls hC htab hv hl
  obtain ⟨hx, hb, hml, hrt, hown, hlk, hts⟩ := id hC
  obtain ⟨⟨hP, hK⟩, hD, hZ⟩ := hv
  have hS : va_S (sm_ad ws) s.heap s.heap [] := va_S.rf
  have hl : lv_has ls 3 [(0, .ref b), (1, .ref o)] := hl
  refine lv_aload_n hx hb dL_switchOver_0 rfl (lv_at hl 1 rfl) ?_
  refine lv_iconst (v := 0) hx hb dL_switchOver_1 (by decide) ?_
  refine lv_aload_n hx hb dL_switchOver_2 rfl (lv_at hl 0 rfl) ?_
  refine sm_cVX (rest := [.int 0, .ref o]) hC hK hP hD hS hZ hM qyX6_switchOver wl_RL_26 ⟨(Nat.le_of_ble_eq_true rfl), (Nat.le_of_ble_eq_true rfl)⟩ 0 h0 rfl rfl hl.1 rfl (Nat.le_of_ble_eq_true rfl) dL_switchOver_3 ⟨(Nat.le_of_ble_eq_true rfl), (Nat.le_of_ble_eq_true rfl)⟩ (fun E ce q9 w1 H locs hr1 hB1 hP hD hS h1 h2 h3 => ?_) (fun ov w1 H locs hr1 hB1 hP hD hS => ?_)
  · rcases hE E hr1 with rfl | rfl
    · refine vx_catch (own := RL) hown [] ⟨0, 8, 11, 15⟩ [⟨0, 8, 14, 24⟩] htab (fun z hz => absurd hz List.not_mem_nil) (by decide) (by decide) (hts _ wc_RL_15) (hK.2.2.2.2.2 sm_IS (List.mem_of_getElem? (i := 1) rfl)) h1 h2 h3 ?_
      refine lv_astore_n (lv' := [(2, .ref q9), (0, .ref b), (1, .ref o)]) hx hb dL_switchOver_11 rfl hl (by decide) rfl (fun ls hl => ?_)
      refine lv_iconst (v := 1) hx hb dL_switchOver_12 (by decide) ?_
      exact sm_retH hC hP hD hS (Or.inr ⟨0, _, hr1, rfl, by decide, hB1⟩) (Nat.le_of_ble_eq_true rfl) (Nat.le_of_ble_eq_true rfl) dL_switchOver_13
    · refine vx_catch (own := RL) hown [⟨0, 8, 11, 15⟩] ⟨0, 8, 14, 24⟩ [] htab (fun z hz => by rw [List.mem_singleton.mp hz]; exact Or.inr ⟨by decide, _, hts _ wc_RL_15, hK.2.2.2.1 (sm_UO, sm_IS) (List.mem_of_getElem? (i := 1) rfl)⟩) (by decide) (by decide) (hts _ wc_RL_24) (hK.2.2.2.2.2 sm_UO (List.mem_of_getElem? (i := 2) rfl)) h1 h2 h3 ?_
      refine lv_astore_n (lv' := [(2, .ref q9), (0, .ref b), (1, .ref o)]) hx hb dL_switchOver_14 rfl hl (by decide) rfl (fun ls hl => ?_)
      refine lv_iconst (v := 2) hx hb dL_switchOver_15 (by decide) ?_
      exact sm_retH hC hP hD hS (Or.inr ⟨1, _, hr1, rfl, by decide, hB1⟩) (Nat.le_of_ble_eq_true rfl) (Nat.le_of_ble_eq_true rfl) dL_switchOver_16
  · obtain ⟨x, rfl⟩ := hr ov hr1
    obtain ⟨g, hg⟩ := hB _ hB1
    refine lv_i2l hx hb dL_switchOver_6 rfl ?_
    refine sm_lst hx hb hK hP hD hS 33 hg 0 rfl (by decide) (by decide) dL_switchOver_7 (fun H locs hP hD hS => ?_)
    refine lv_goto (tgt := 17) hx hb dL_switchOver_8 (by decide) ?_
    refine lv_iconst (v := 0) hx hb dL_switchOver_17 (by decide) ?_
    exact sm_retH hC hP hD hS (Or.inl ⟨_, _, _, _, hr1, rfl, hB1, hg, ⟨x, g, rfl, rfl, rfl⟩, rfl⟩) (Nat.le_of_ble_eq_true rfl) (Nat.le_of_ble_eq_true rfl) dL_switchOver_18
theorem qyL_switchOver : sm_yH yL_switchOver cL_switchOver 3 [(0, 8, 11, 15), (0, 8, 14, 24)] 2 := ⟨(wr_15 _ (List.mem_of_getElem? (i := 16) rfl)), (wr_6 _ (List.mem_of_getElem? (i := 3) rfl)), (wr_15 _ (List.mem_of_getElem? (i := 17) rfl)), by decide +kernel, by decide +kernel, by decide +kernel⟩

set_option maxRecDepth 100000 in
theorem h_turned {l : Launch} {D : sm_G} {ws : va_W} {B : va_W → Prop} {r : String ⊕ Option Value} {fs : List Value} {b o : Nat} {x1 x2 : Int32} (hM : sm_MX l yX6_turned cX6_turned 3 (some .int) 7 102 [.ref b, .int x1, .int x2] D ws B r) (h0 : ws[0]? = some (b, .inr (6, fs))) (hB : ∀ w, B w → ∃ g : Nat → Int64, w[33]? = some (o, .inl (D.2 3, 1, .inr (.inl g)))) (hr : ∀ v, r = .inr v → ∃ x : Int32, v = some (.int x)) (hE : ∀ E, r = .inl E → E = sm_IA ∨ E = sm_NS ∨ E = sm_UO) : sm_MH l yL_turned cL_turned 5 [(0, 10, 13, 13), (0, 10, 17, 47), (0, 10, 21, 24)] 8 124 [.ref b, .int x1, .int x2, .ref o] D ws (sm_Bh 33 o B r [sm_IA, sm_NS, sm_UO] (sm_FI D)) := by
  refine sm_metH (own := RL) (by decide) rfl (Nat.le_of_ble_eq_true rfl) ?_
  intro p e s m below meth c ls hC htab hv hl
  obtain ⟨hx, hb, hml, hrt, hown, hlk, hts⟩ := id hC
  obtain ⟨⟨hP, hK⟩, hD, hZ⟩ := hv
  have hS : va_S (sm_ad ws) s.heap s.heap [] := va_S.rf
  have hl : lv_has ls 5 [(0, .ref b), (1, .int x1), (2, .int x2), (3, .ref o)] := hl
  refine lv_aload_n hx hb dL_turned_0 rfl (lv_at hl 3 rfl) ?_
  refine lv_iconst (v := 0) hx hb dL_turned_1 (by decide) ?_
  refine lv_aload_n hx hb dL_turned_2 rfl (lv_at hl 0 rfl) ?_
  refine lv_iload_n hx hb dL_turned_3 rfl (lv_at hl 1 rfl) ?_
  refine lv_iload_n hx hb dL_turned_4 rfl (lv_at hl 2 rfl) ?_
  refine sm_cVX (rest := [.int 0, .ref o]) hC hK hP hD hS hZ hM qyX6_turned wl_RL_71 ⟨(Nat.le_of_ble_eq_true rfl), (Nat.le_of_ble_eq_true rfl)⟩ 0 h0 rfl rfl hl.1 rfl (Nat.le_of_ble_eq_true rfl) dL_turned_5 ⟨(Nat.le_of_ble_eq_true rfl), (Nat.le_of_ble_eq_true rfl)⟩ (fun E ce q9 w1 H locs hr1 hB1 hP hD hS h1 h2 h3 => ?_) (fun ov w1 H locs hr1 hB1 hP hD hS => ?_)
  · rcases hE E hr1 with rfl | rfl | rfl
    · refine vx_catch (own := RL) hown [] ⟨0, 10, 13, 13⟩ [⟨0, 10, 17, 47⟩, ⟨0, 10, 21, 24⟩] htab (fun z hz => absurd hz List.not_mem_nil) (by decide) (by decide) (hts _ wc_RL_13) (hK.2.2.2.2.2 sm_IA (List.mem_of_getElem? (i := 0) rfl)) h1 h2 h3 ?_
      refine lv_astore (lv' := [(4, .ref q9), (0, .ref b), (1, .int x1), (2, .int x2), (3, .ref o)]) hx hb dL_turned_13 hl (by decide) rfl (fun ls hl => ?_)
      refine lv_iconst (v := 1) hx hb dL_turned_15 (by decide) ?_
      exact sm_retH hC hP hD hS (Or.inr ⟨0, _, hr1, rfl, by decide, hB1⟩) (Nat.le_of_ble_eq_true rfl) (Nat.le_of_ble_eq_true rfl) dL_turned_16
    · refine vx_catch (own := RL) hown [⟨0, 10, 13, 13⟩] ⟨0, 10, 17, 47⟩ [⟨0, 10, 21, 24⟩] htab (fun z hz => by rw [List.mem_singleton.mp hz]; exact Or.inr ⟨by decide, _, hts _ wc_RL_13, hK.2.2.2.1 (sm_NS, sm_IA) (List.mem_of_getElem? (i := 2) rfl)⟩) (by decide) (by decide) (hts _ wc_RL_47) (hK.2.2.2.2.2 sm_NS (List.mem_of_getElem? (i := 3) rfl)) h1 h2 h3 ?_
      refine lv_astore (lv' := [(4, .ref q9), (0, .ref b), (1, .int x1), (2, .int x2), (3, .ref o)]) hx hb dL_turned_17 hl (by decide) rfl (fun ls hl => ?_)
      refine lv_iconst (v := 2) hx hb dL_turned_19 (by decide) ?_
      exact sm_retH hC hP hD hS (Or.inr ⟨1, _, hr1, rfl, by decide, hB1⟩) (Nat.le_of_ble_eq_true rfl) (Nat.le_of_ble_eq_true rfl) dL_turned_20
    · refine vx_catch (own := RL) hown [⟨0, 10, 13, 13⟩, ⟨0, 10, 17, 47⟩] ⟨0, 10, 21, 24⟩ [] htab (fun z hz => (List.mem_cons.mp hz).elim (fun h => by rw [h]; exact Or.inr ⟨by decide, _, hts _ wc_RL_13, hK.2.2.2.1 (sm_UO, sm_IA) (List.mem_of_getElem? (i := 3) rfl)⟩) (fun h => by rw [List.mem_singleton.mp h]; exact Or.inr ⟨by decide, _, hts _ wc_RL_47, hK.2.2.2.1 (sm_UO, sm_NS) (List.mem_of_getElem? (i := 4) rfl)⟩)) (by decide) (by decide) (hts _ wc_RL_24) (hK.2.2.2.2.2 sm_UO (List.mem_of_getElem? (i := 2) rfl)) h1 h2 h3 ?_
      refine lv_astore (lv' := [(4, .ref q9), (0, .ref b), (1, .int x1), (2, .int x2), (3, .ref o)]) hx hb dL_turned_21 hl (by decide) rfl (fun ls hl => ?_)
      refine lv_iconst (v := 3) hx hb dL_turned_23 (by decide) ?_
      exact sm_retH hC hP hD hS (Or.inr ⟨2, _, hr1, rfl, by decide, hB1⟩) (Nat.le_of_ble_eq_true rfl) (Nat.le_of_ble_eq_true rfl) dL_turned_24
  · obtain ⟨x, rfl⟩ := hr ov hr1
    obtain ⟨g, hg⟩ := hB _ hB1
    refine lv_i2l hx hb dL_turned_8 rfl ?_
    refine sm_lst hx hb hK hP hD hS 33 hg 0 rfl (by decide) (by decide) dL_turned_9 (fun H locs hP hD hS => ?_)
    refine lv_goto (tgt := 25) hx hb dL_turned_10 (by decide) ?_
    refine lv_iconst (v := 0) hx hb dL_turned_25 (by decide) ?_
    exact sm_retH hC hP hD hS (Or.inl ⟨_, _, _, _, hr1, rfl, hB1, hg, ⟨x, g, rfl, rfl, rfl⟩, rfl⟩) (Nat.le_of_ble_eq_true rfl) (Nat.le_of_ble_eq_true rfl) dL_turned_26
theorem qyL_turned : sm_yH yL_turned cL_turned 5 [(0, 10, 13, 13), (0, 10, 17, 47), (0, 10, 21, 24)] 4 := ⟨(wr_32 _ (List.mem_of_getElem? (i := 11) rfl)), (wr_6 _ (List.mem_of_getElem? (i := 3) rfl)), (wr_32 _ (List.mem_of_getElem? (i := 12) rfl)), by decide +kernel, by decide +kernel, by decide +kernel⟩

set_option maxRecDepth 100000 in
theorem h_turnedBack {l : Launch} {D : sm_G} {ws : va_W} {B : va_W → Prop} {r : String ⊕ Option Value} {fs : List Value} {b o : Nat} {x1 x2 : Int32} (hM : sm_MX l yX6_turnedBack cX6_turnedBack 3 (some .int) 7 102 [.ref b, .int x1, .int x2] D ws B r) (h0 : ws[0]? = some (b, .inr (6, fs))) (hB : ∀ w, B w → ∃ g : Nat → Int64, w[33]? = some (o, .inl (D.2 3, 1, .inr (.inl g)))) (hr : ∀ v, r = .inr v → ∃ x : Int32, v = some (.int x)) (hE : ∀ E, r = .inl E → E = sm_IA ∨ E = sm_NS ∨ E = sm_UO) : sm_MH l yL_turnedBack cL_turnedBack 5 [(0, 10, 13, 13), (0, 10, 17, 47), (0, 10, 21, 24)] 8 124 [.ref b, .int x1, .int x2, .ref o] D ws (sm_Bh 33 o B r [sm_IA, sm_NS, sm_UO] (sm_FI D)) := by
  refine sm_metH (own := RL) (by decide) rfl (Nat.le_of_ble_eq_true rfl) ?_
  intro p e s m below meth c ls hC htab hv hl
  obtain ⟨hx, hb, hml, hrt, hown, hlk, hts⟩ := id hC
  obtain ⟨⟨hP, hK⟩, hD, hZ⟩ := hv
  have hS : va_S (sm_ad ws) s.heap s.heap [] := va_S.rf
  have hl : lv_has ls 5 [(0, .ref b), (1, .int x1), (2, .int x2), (3, .ref o)] := hl
  refine lv_aload_n hx hb dL_turnedBack_0 rfl (lv_at hl 3 rfl) ?_
  refine lv_iconst (v := 0) hx hb dL_turnedBack_1 (by decide) ?_
  refine lv_aload_n hx hb dL_turnedBack_2 rfl (lv_at hl 0 rfl) ?_
  refine lv_iload_n hx hb dL_turnedBack_3 rfl (lv_at hl 1 rfl) ?_
  refine lv_iload_n hx hb dL_turnedBack_4 rfl (lv_at hl 2 rfl) ?_
  refine sm_cVX (rest := [.int 0, .ref o]) hC hK hP hD hS hZ hM qyX6_turnedBack wl_RL_74 ⟨(Nat.le_of_ble_eq_true rfl), (Nat.le_of_ble_eq_true rfl)⟩ 0 h0 rfl rfl hl.1 rfl (Nat.le_of_ble_eq_true rfl) dL_turnedBack_5 ⟨(Nat.le_of_ble_eq_true rfl), (Nat.le_of_ble_eq_true rfl)⟩ (fun E ce q9 w1 H locs hr1 hB1 hP hD hS h1 h2 h3 => ?_) (fun ov w1 H locs hr1 hB1 hP hD hS => ?_)
  · rcases hE E hr1 with rfl | rfl | rfl
    · refine vx_catch (own := RL) hown [] ⟨0, 10, 13, 13⟩ [⟨0, 10, 17, 47⟩, ⟨0, 10, 21, 24⟩] htab (fun z hz => absurd hz List.not_mem_nil) (by decide) (by decide) (hts _ wc_RL_13) (hK.2.2.2.2.2 sm_IA (List.mem_of_getElem? (i := 0) rfl)) h1 h2 h3 ?_
      refine lv_astore (lv' := [(4, .ref q9), (0, .ref b), (1, .int x1), (2, .int x2), (3, .ref o)]) hx hb dL_turnedBack_13 hl (by decide) rfl (fun ls hl => ?_)
      refine lv_iconst (v := 1) hx hb dL_turnedBack_15 (by decide) ?_
      exact sm_retH hC hP hD hS (Or.inr ⟨0, _, hr1, rfl, by decide, hB1⟩) (Nat.le_of_ble_eq_true rfl) (Nat.le_of_ble_eq_true rfl) dL_turnedBack_16
    · refine vx_catch (own := RL) hown [⟨0, 10, 13, 13⟩] ⟨0, 10, 17, 47⟩ [⟨0, 10, 21, 24⟩] htab (fun z hz => by rw [List.mem_singleton.mp hz]; exact Or.inr ⟨by decide, _, hts _ wc_RL_13, hK.2.2.2.1 (sm_NS, sm_IA) (List.mem_of_getElem? (i := 2) rfl)⟩) (by decide) (by decide) (hts _ wc_RL_47) (hK.2.2.2.2.2 sm_NS (List.mem_of_getElem? (i := 3) rfl)) h1 h2 h3 ?_
      refine lv_astore (lv' := [(4, .ref q9), (0, .ref b), (1, .int x1), (2, .int x2), (3, .ref o)]) hx hb dL_turnedBack_17 hl (by decide) rfl (fun ls hl => ?_)
      refine lv_iconst (v := 2) hx hb dL_turnedBack_19 (by decide) ?_
      exact sm_retH hC hP hD hS (Or.inr ⟨1, _, hr1, rfl, by decide, hB1⟩) (Nat.le_of_ble_eq_true rfl) (Nat.le_of_ble_eq_true rfl) dL_turnedBack_20
    · refine vx_catch (own := RL) hown [⟨0, 10, 13, 13⟩, ⟨0, 10, 17, 47⟩] ⟨0, 10, 21, 24⟩ [] htab (fun z hz => (List.mem_cons.mp hz).elim (fun h => by rw [h]; exact Or.inr ⟨by decide, _, hts _ wc_RL_13, hK.2.2.2.1 (sm_UO, sm_IA) (List.mem_of_getElem? (i := 3) rfl)⟩) (fun h => by rw [List.mem_singleton.mp h]; exact Or.inr ⟨by decide, _, hts _ wc_RL_47, hK.2.2.2.1 (sm_UO, sm_NS) (List.mem_of_getElem? (i := 4) rfl)⟩)) (by decide) (by decide) (hts _ wc_RL_24) (hK.2.2.2.2.2 sm_UO (List.mem_of_getElem? (i := 2) rfl)) h1 h2 h3 ?_
      refine lv_astore (lv' := [(4, .ref q9), (0, .ref b), (1, .int x1), (2, .int x2), (3, .ref o)]) hx hb dL_turnedBack_21 hl (by decide) rfl (fun ls hl => ?_)
      refine lv_iconst (v := 3) hx hb dL_turnedBack_23 (by decide) ?_
      exact sm_retH hC hP hD hS (Or.inr ⟨2, _, hr1, rfl, by decide, hB1⟩) (Nat.le_of_ble_eq_true rfl) (Nat.le_of_ble_eq_true rfl) dL_turnedBack_24
  · obtain ⟨x, rfl⟩ := hr ov hr1
    obtain ⟨g, hg⟩ := hB _ hB1
    refine lv_i2l hx hb dL_turnedBack_8 rfl ?_
    refine sm_lst hx hb hK hP hD hS 33 hg 0 rfl (by decide) (by decide) dL_turnedBack_9 (fun H locs hP hD hS => ?_)
    refine lv_goto (tgt := 25) hx hb dL_turnedBack_10 (by decide) ?_
    refine lv_iconst (v := 0) hx hb dL_turnedBack_25 (by decide) ?_
    exact sm_retH hC hP hD hS (Or.inl ⟨_, _, _, _, hr1, rfl, hB1, hg, ⟨x, g, rfl, rfl, rfl⟩, rfl⟩) (Nat.le_of_ble_eq_true rfl) (Nat.le_of_ble_eq_true rfl) dL_turnedBack_26
theorem qyL_turnedBack : sm_yH yL_turnedBack cL_turnedBack 5 [(0, 10, 13, 13), (0, 10, 17, 47), (0, 10, 21, 24)] 4 := ⟨(wr_32 _ (List.mem_of_getElem? (i := 22) rfl)), (wr_6 _ (List.mem_of_getElem? (i := 3) rfl)), (wr_32 _ (List.mem_of_getElem? (i := 23) rfl)), by decide +kernel, by decide +kernel, by decide +kernel⟩

set_option maxRecDepth 100000 in
theorem h_write {l : Launch} {D : sm_G} {ws : va_W} {B : va_W → Prop} {r : String ⊕ Option Value} {fs : List Value} {b o : Nat} {x1 x2 x3 : Int32} (hM : sm_MX l yX6_write cX6_write 6 (some .boolean) 6 113 [.ref b, .int x1, .int x2, .int x3] D ws B r) (h0 : ws[0]? = some (b, .inr (6, fs))) (hB : ∀ w, B w → ∃ g : Nat → Int64, w[33]? = some (o, .inl (D.2 3, 1, .inr (.inl g)))) (hr : ∀ v, r = .inr v → ∃ x : Bool, v = some (.int (sm_b x))) (hE : ∀ E, r = .inl E → E = sm_IA ∨ E = sm_IS) : sm_MH l yL_write cL_write 6 [(0, 19, 22, 13), (0, 19, 26, 15)] 7 138 [.ref b, .int x1, .int x2, .int x3, .ref o] D ws (sm_Bh 33 o B r [sm_IA, sm_IS] (sm_FZ D)) := by
  refine sm_metH (own := RL) (by decide) rfl (Nat.le_of_ble_eq_true rfl) ?_
  intro p e s m below meth c ls hC htab hv hl
  obtain ⟨hx, hb, hml, hrt, hown, hlk, hts⟩ := id hC
  obtain ⟨⟨hP, hK⟩, hD, hZ⟩ := hv
  have hS : va_S (sm_ad ws) s.heap s.heap [] := va_S.rf
  have hl : lv_has ls 6 [(0, .ref b), (1, .int x1), (2, .int x2), (3, .int x3), (4, .ref o)] := hl
  refine lv_aload hx hb dL_write_0 (lv_at hl 4 rfl) ?_
  refine lv_iconst (v := 0) hx hb dL_write_2 (by decide) ?_
  refine lv_aload_n hx hb dL_write_3 rfl (lv_at hl 0 rfl) ?_
  refine lv_iload_n hx hb dL_write_4 rfl (lv_at hl 1 rfl) ?_
  refine lv_iload_n hx hb dL_write_5 rfl (lv_at hl 2 rfl) ?_
  refine lv_iload_n hx hb dL_write_6 rfl (lv_at hl 3 rfl) ?_
  refine sm_cVX (rest := [.int 0, .ref o]) hC hK hP hD hS hZ hM qyX6_write wl_RL_35 ⟨(Nat.le_of_ble_eq_true rfl), (Nat.le_of_ble_eq_true rfl)⟩ 0 h0 rfl rfl hl.1 rfl (Nat.le_of_ble_eq_true rfl) dL_write_7 ⟨(Nat.le_of_ble_eq_true rfl), (Nat.le_of_ble_eq_true rfl)⟩ (fun E ce q9 w1 H locs hr1 hB1 hP hD hS h1 h2 h3 => ?_) (fun ov w1 H locs hr1 hB1 hP hD hS => ?_)
  · rcases hE E hr1 with rfl | rfl
    · refine vx_catch (own := RL) hown [] ⟨0, 19, 22, 13⟩ [⟨0, 19, 26, 15⟩] htab (fun z hz => absurd hz List.not_mem_nil) (by decide) (by decide) (hts _ wc_RL_13) (hK.2.2.2.2.2 sm_IA (List.mem_of_getElem? (i := 0) rfl)) h1 h2 h3 ?_
      refine lv_astore (lv' := [(5, .ref q9), (0, .ref b), (1, .int x1), (2, .int x2), (3, .int x3), (4, .ref o)]) hx hb dL_write_22 hl (by decide) rfl (fun ls hl => ?_)
      refine lv_iconst (v := 1) hx hb dL_write_24 (by decide) ?_
      exact sm_retH hC hP hD hS (Or.inr ⟨0, _, hr1, rfl, by decide, hB1⟩) (Nat.le_of_ble_eq_true rfl) (Nat.le_of_ble_eq_true rfl) dL_write_25
    · refine vx_catch (own := RL) hown [⟨0, 19, 22, 13⟩] ⟨0, 19, 26, 15⟩ [] htab (fun z hz => by rw [List.mem_singleton.mp hz]; exact Or.inr ⟨by decide, _, hts _ wc_RL_13, hK.2.2.2.1 (sm_IS, sm_IA) (List.mem_of_getElem? (i := 0) rfl)⟩) (by decide) (by decide) (hts _ wc_RL_15) (hK.2.2.2.2.2 sm_IS (List.mem_of_getElem? (i := 1) rfl)) h1 h2 h3 ?_
      refine lv_astore (lv' := [(5, .ref q9), (0, .ref b), (1, .int x1), (2, .int x2), (3, .int x3), (4, .ref o)]) hx hb dL_write_26 hl (by decide) rfl (fun ls hl => ?_)
      refine lv_iconst (v := 2) hx hb dL_write_28 (by decide) ?_
      exact sm_retH hC hP hD hS (Or.inr ⟨1, _, hr1, rfl, by decide, hB1⟩) (Nat.le_of_ble_eq_true rfl) (Nat.le_of_ble_eq_true rfl) dL_write_29
  · obtain ⟨x, rfl⟩ := hr ov hr1
    obtain ⟨g, hg⟩ := hB _ hB1
    cases x with
    | false =>
      refine lv_if_eq (tgt := 17) hx hb dL_write_10 (by decide) (fun _ => ?_) (fun h => absurd rfl h)
      refine lv_lconst (v := 0) hx hb dL_write_17 (by decide) ?_
      refine sm_lst hx hb hK hP hD hS 33 hg 0 rfl (by decide) (by decide) dL_write_18 (fun H locs hP hD hS => ?_)
      refine lv_goto (tgt := 30) hx hb dL_write_19 (by decide) ?_
      refine lv_iconst (v := 0) hx hb dL_write_30 (by decide) ?_
      exact sm_retH hC hP hD hS (Or.inl ⟨_, _, _, _, hr1, rfl, hB1, hg, ⟨false, g, rfl, rfl, rfl⟩, rfl⟩) (Nat.le_of_ble_eq_true rfl) (Nat.le_of_ble_eq_true rfl) dL_write_31
    | true =>
      refine lv_if_eq (tgt := 17) hx hb dL_write_10 (by decide) (fun h => absurd h (by decide)) (fun _ => ?_)
      refine lv_lconst (v := 1) hx hb dL_write_13 (by decide) ?_
      refine lv_goto (tgt := 18) hx hb dL_write_14 (by decide) ?_
      refine sm_lst hx hb hK hP hD hS 33 hg 0 rfl (by decide) (by decide) dL_write_18 (fun H locs hP hD hS => ?_)
      refine lv_goto (tgt := 30) hx hb dL_write_19 (by decide) ?_
      refine lv_iconst (v := 0) hx hb dL_write_30 (by decide) ?_
      exact sm_retH hC hP hD hS (Or.inl ⟨_, _, _, _, hr1, rfl, hB1, hg, ⟨true, g, rfl, rfl, rfl⟩, rfl⟩) (Nat.le_of_ble_eq_true rfl) (Nat.le_of_ble_eq_true rfl) dL_write_31
theorem qyL_write : sm_yH yL_write cL_write 6 [(0, 19, 22, 13), (0, 19, 26, 15)] 5 := ⟨(wr_21 _ (List.mem_of_getElem? (i := 18) rfl)), (wr_6 _ (List.mem_of_getElem? (i := 3) rfl)), (wr_21 _ (List.mem_of_getElem? (i := 19) rfl)), by decide +kernel, by decide +kernel, by decide +kernel⟩
