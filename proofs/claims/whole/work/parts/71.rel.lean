/-! the operations that change more -/
section
variable {P : sm_Sp} {S : sm_Rw} {T : sm_Tg} {L M : sm_Lg} {C : sm_Pt} {ph : Int32} {fo ne no : Nat} {U : sm_Tg} {nm : Nat → Bool} {Z : sm_Qt} {n2 rd np pw ev od : Nat}
/-- following n changes -/
theorem sm_RlFo {n : Nat} (hn : fo + n ≤ L.1) {x : Int32} (hx : sm_phOK x) (h : sm_Rel P S T L M C ph fo ne no U nm Z n2 rd np pw ev od) : sm_Rel P S (sm_foG P L n T fo) L M C x (fo + n) ne no (sm_fMG P L n U fo) nm Z n2 rd np pw ev od := by
  obtain ⟨h1, h2, ⟨h3, h4, h5⟩, h6, ⟨h7, h8⟩, hr⟩ := h
  exact ⟨h1, hx, ⟨h3, h4, hn⟩, h6, ⟨sm_fGE n h7 fo, sm_fGB n h8 fo (by omega)⟩, hr⟩
theorem sm_RlSS {S2 : sm_Rw} (h : sm_Rel P S T L M C ph fo ne no U nm Z n2 rd np pw ev od) : sm_Rel P S2 T L M C ph fo ne no U nm Z n2 rd np pw ev od := h
theorem sm_appB {k : Nat} {d : Bool} {a b : Int32} (hk : k < 40) (h4 : ∀ i, L.2.1 i < 40) : ∀ i, (sm_appL L k d a b).2.1 i < 40 := fun i => by
  show va_up L.2.1 L.1 k i < 40
  by_cases g : i = L.1
  · rw [g, sm_upT]; exact hk
  · rw [sm_upF _ _ g]; exact h4 i
/-- one more change in the first log -/
theorem sm_RlLg {k : Nat} {d : Bool} {a b : Int32} (hk : k < 40) (hl : L.1 < 120) (h : sm_Rel P S T L M C ph fo ne no U nm Z n2 rd np pw ev od) : sm_Rel P S T (sm_appL L k d a b) M C ph fo ne no U nm Z n2 rd np pw ev od := by
  obtain ⟨h1, h2, ⟨h3, h4, h5⟩, hr⟩ := h
  exact ⟨h1, h2, ⟨hl, sm_appB hk h4, Nat.le_succ_of_le h5⟩, hr⟩
/-- ... and followed at once -/
theorem sm_RlF1 (hf : fo < L.1) (h : sm_Rel P S T L M C ph fo ne no U nm Z n2 rd np pw ev od) : sm_Rel P S (sm_fo1 P L T fo) L M C ph (fo + 1) ne no (sm_fM1 P L U fo) nm Z n2 rd np pw ev od := by
  obtain ⟨h1, h2, ⟨h3, h4, h5⟩, h6, ⟨h7, h8⟩, hr⟩ := h
  exact ⟨h1, h2, ⟨h3, h4, hf⟩, h6, ⟨sm_f1E h7 fo, sm_f1B h8 fo (by omega)⟩, hr⟩
/-- one more change in the second log, of a target changed alike -/
theorem sm_RlM1 {T2 U2 : sm_Tg} {k : Nat} {d : Bool} {a b : Int32} (hk : k < 40) (hm : M.1 < 120) (hT : sm_tT T2 U2) (hB : sm_tB T2) (h : sm_Rel P S T L M C ph fo ne no U nm Z n2 rd np pw ev od) : sm_Rel P S T2 L (sm_appL M k d a b) C ph fo ne no U2 (va_up nm k true) Z (n2 + 1) rd np pw ev od := by
  obtain ⟨h1, h2, h3, ⟨m1, m2, m3, m4⟩, -, hr⟩ := h
  refine ⟨h1, h2, h3, ⟨hm, sm_appB hk m2, congrArg (· + 1) m3, fun j hj => ?_⟩, ⟨hT, hB⟩, hr⟩
  constructor
  · intro hu
    by_cases g : j = k
    · refine ⟨M.1, Nat.lt_succ_self _, ?_⟩
      show va_up M.2.1 M.1 k M.1 = j
      rw [sm_upT, g]
    · rw [sm_upF _ _ g] at hu
      obtain ⟨i, i1, i2⟩ := (m4 j hj).mp hu
      refine ⟨i, Nat.lt_succ_of_lt i1, ?_⟩
      show va_up M.2.1 M.1 k i = j
      rw [sm_upF _ _ (by omega)]; exact i2
  · rintro ⟨i, i1, i2⟩
    have i2 : va_up M.2.1 M.1 k i = j := i2
    have i1 : i < M.1 + 1 := i1
    by_cases g : i = M.1
    · rw [g, sm_upT] at i2
      rw [← i2, sm_upT]
    · rw [sm_upF _ _ g] at i2
      by_cases g2 : j = k
      · rw [g2, sm_upT]
      · rw [sm_upF _ _ g2]; exact (m4 j hj).mpr ⟨i, by omega, i2⟩
/-- back again: the second log is empty -/
theorem sm_RlBk {S2 : sm_Rw} {nm2 : Nat → Bool} {x : Int32} (hx : sm_phOK x) (hn : ∀ k, k < 40 → nm2 k = false) (h : sm_Rel P S T L M C ph fo ne no U nm Z n2 rd np pw ev od) : sm_Rel P S2 T L (0, M.2) C x fo ne no U nm2 Z 0 rd np pw ev od := by
  obtain ⟨h1, h2, h3, ⟨m1, m2, m3, m4⟩, hr⟩ := h
  refine ⟨h1, hx, h3, ⟨Nat.zero_le _, m2, rfl, fun j hj => ?_⟩, hr⟩
  constructor
  · intro hu
    rw [hn j hj] at hu
    cases hu
  · rintro ⟨i, i1, -⟩
    exact absurd i1 (Nat.not_lt_zero _)
/-- a part read -/
theorem sm_RlRp {k : Nat} (hk : ¬ k < 1) (hK : sm_kRP ph C = 0) (h : sm_Rel P S T L M C ph fo ne no U nm Z n2 rd np pw ev od) : sm_Rel P S T L M (sm_takeC S C k (nI L.1)) ph fo ne no U nm (sm_rpG S rd (min (rd + k) 40) (sm_fpG Z.1 8 0) 40 0 (va_up Z.1 (sm_fpG Z.1 8 0) (nI np), va_up Z.2.1 (sm_fpG Z.1 8 0) (nI L.1), Z.2.2)) n2 (min (rd + k) 40) (np + 1) (pw + 1) ev od := by
  obtain ⟨h1, h2, h3, h4, h5, h6, r1, r2, r3, r4⟩ := h
  subst r1; subst r2; subst r3
  have w8 := sm_pR8 r4
  have x40 := r4.1
  have hx : C.2.2.2.2.2.2.2 < 40 ∧ ¬ C.2.2.2.2.2.2.1 = 8 := by
    unfold sm_kRP at hK
    by_cases a : ph = 99
    · rw [if_pos a] at hK
      by_cases b : 40 - C.2.2.2.2.2.2.2 = 0
      · rw [if_pos b] at hK; exact absurd hK (by decide)
      · rw [if_neg b] at hK
        by_cases c : C.2.2.2.2.2.2.1 < 8
        · exact ⟨by omega, by omega⟩
        · rw [if_neg c] at hK; exact absurd hK (by decide)
    · rw [if_neg a] at hK; exact absurd hK (by decide)
  have e : min (C.2.2.2.2.2.2.2 + k) 40 = C.2.2.2.2.2.2.2 + min k (40 - C.2.2.2.2.2.2.2) := by omega
  have g := sm_pRt (S := S) (n := L.1) (e := C.2.2.2.2.2.2.2 + min k (40 - C.2.2.2.2.2.2.2)) r4 hx.2 (by omega) (by omega) h3.1
  rw [e]
  exact ⟨h1, h2, h3, h4, h5, h6, rfl, rfl, rfl, g⟩
/-- a part put down -/
theorem sm_RlPd {k : Nat} (hw : C.2.2.2.2.1 k = true) (h : sm_Rel P S T L M C ph fo ne no U nm Z n2 rd np pw ev od) : sm_Rel P S (sm_pdG P C (C.2.2.2.1 k) (C.2.2.1 k - C.2.1 k) (C.2.1 k) T 0).1 L M (sm_finC C k) ph fo ne no (sm_pmG P Z (sm_plG Z.1 (nI k) 8 0) 40 0 U 0).1 nm (va_up Z.1 (sm_plG Z.1 (nI k) 8 0) (-1), Z.2) n2 rd np (pw - 1) ev od := by
  obtain ⟨h1, h2, h3, h4, ⟨h5, h9⟩, h6, r1, r2, r3, r4⟩ := h
  subst r1; subst r2; subst r3
  obtain ⟨n, n1, n2⟩ := r4.2.2.2.2.2.2.2.2 k
  refine ⟨h1, h2, h3, h4, ⟨(sm_pd2 r4 hw h5 0).1, ?_⟩, h6, rfl, rfl, rfl, sm_pRd r4 hw⟩
  rw [n2]
  exact sm_pdB n1 _ _ _ _ h9
end
