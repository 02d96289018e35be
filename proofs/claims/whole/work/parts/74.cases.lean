/-! what both come to, call by call: codes, answers, the invariant -/
section
variable {P : sm_Sp} {S : sm_Rw} {T : sm_Tg} {L M : sm_Lg} {C : sm_Pt} {ph : Int32} {fo ne no : Nat} {U : sm_Tg} {nm : Nat → Bool} {Z : sm_Qt} {n2 rd np pw ev od : Nat}
theorem sw_m3 (h : sm_Rel P S T L M C ph fo ne no U nm Z n2 rd np pw ev od) : sm_mGB ph rd pw = sm_kGB ph C ∧ (sm_kGB ph C = 0 → (if sm_mGB ph rd pw = 0 then nI (L.1 - fo) else 0) = nI (min 120 (L.1 - fo))) ∧ sm_Rel P S (if sm_kGB ph C = 0 then sm_foG P L (min 120 (L.1 - fo)) T fo else T) L M C (if sm_kGB ph C = 0 then 98 else ph) (if sm_kGB ph C = 0 then fo + min 120 (L.1 - fo) else fo) ne no (if sm_mGB ph rd pw = 0 then sm_fMG P L (L.1 - fo) U fo else U) nm Z n2 rd np pw ev od ∧ (if sm_mGB ph rd pw = 0 then (98 : Int32) else ph) = (if sm_kGB ph C = 0 then 98 else ph) ∧ (if sm_mGB ph rd pw = 0 then L.1 else fo) = (if sm_kGB ph C = 0 then fo + min 120 (L.1 - fo) else fo) := by
  have e : sm_mGB ph rd pw = sm_kGB ph C := by
    obtain ⟨-, -, -, -, -, -, r1, r2, r3, -⟩ := h
    rw [r1, r3]; exact sm_gbk
  have hl : L.1 ≤ 120 := h.2.2.1.1
  have hf : fo ≤ L.1 := h.2.2.1.2.2
  have e2 : min 120 (L.1 - fo) = L.1 - fo := by omega
  rw [e, e2]
  refine ⟨rfl, fun z => if_pos z, ?_, rfl, ?_⟩
  · by_cases hk : sm_kGB ph C = 0
    · simp only [if_pos hk]
      exact sm_RlFo (n := L.1 - fo) (by omega) (Or.inr (Or.inr (Or.inl rfl))) h
    · simp only [if_neg hk]
      exact h
  · by_cases hk : sm_kGB ph C = 0
    · rw [if_pos hk, if_pos hk]; omega
    · rw [if_neg hk, if_neg hk]
theorem sw_m4 (h : sm_Rel P S T L M C ph fo ne no U nm Z n2 rd np pw ev od) : sm_kSO P S U ph = sm_kSO P S T ph ∧ (sm_kSO P S T ph = 0 → (if sm_kSO P S U ph = 0 then nI (sm_cnG (fun i => sm_kd U i 1) 40 0 0) else 0) = nI (sm_cnG (fun i => sm_kd T i 1) 40 0 0)) ∧ sm_Rel P S T L M C (if sm_kSO P S T ph = 0 then 116 else ph) fo ne no U nm Z n2 rd np pw ev od ∧ (if sm_kSO P S U ph = 0 then (116 : Int32) else ph) = (if sm_kSO P S T ph = 0 then 116 else ph) := by
  have hT : sm_tT T U := h.2.2.2.2.1.1
  rw [sm_kSOE hT, sm_cnE hT]
  exact ⟨rfl, fun z => if_pos z, sm_RlPh (Or.inr (Or.inr (Or.inr (Or.inl rfl)))) h, rfl⟩
theorem sw_m5 (h : sm_Rel P S T L M C ph fo ne no U nm Z n2 rd np pw ev od) : sm_mBk P U nm ph = sm_kBk P T M ph ∧ (sm_kBk P T M ph = 0 → (if sm_mBk P U nm ph = 0 then nI (sm_gMG P U 40 0 S nm 0).2.2 else 0) = nI (sm_gbG P T M M.1 0 S 0).2) ∧ sm_Rel P (if sm_kBk P T M ph = 0 then (sm_gbG P T M M.1 0 S 0).1 else S) T L (if sm_kBk P T M ph = 0 then (0, M.2) else M) C (if sm_kBk P T M ph = 0 then 98 else ph) fo ne no U (if sm_mBk P U nm ph = 0 then (sm_gMG P U 40 0 S nm 0).2.1 else nm) Z (if sm_mBk P U nm ph = 0 then 0 else n2) rd np pw ev od ∧ (if sm_mBk P U nm ph = 0 then (sm_gMG P U 40 0 S nm 0).1 else S) = (if sm_kBk P T M ph = 0 then (sm_gbG P T M M.1 0 S 0).1 else S) ∧ (if sm_mBk P U nm ph = 0 then (98 : Int32) else ph) = (if sm_kBk P T M ph = 0 then 98 else ph) := by
  have hT : sm_tT T U := h.2.2.2.2.1.1
  obtain ⟨m1, m2, m3, m4⟩ := h.2.2.2.1
  obtain ⟨g1, g2, g3⟩ := sm_gb2 (P := P) (S := S) hT m2 m4
  rw [sm_bkE hT m2 m4]
  refine ⟨rfl, fun z => (if_pos z).trans (congrArg nI g2), ?_, ?_, rfl⟩
  · by_cases hk : sm_kBk P T M ph = 0
    · simp only [if_pos hk]
      exact sm_RlBk (Or.inr (Or.inr (Or.inl rfl))) g3 h
    · simp only [if_neg hk]
      exact h
  · by_cases hk : sm_kBk P T M ph = 0
    · rw [if_pos hk, if_pos hk]; exact g1
    · rw [if_neg hk, if_neg hk]
theorem sw_lfF {Lg : sm_Lg} (h : sm_full Lg = false) : Lg.1 < 120 := by
  unfold sm_full at h
  by_cases a : Lg.1 < 120
  · exact a
  · rw [if_neg a] at h; cases h
theorem sw_lff (h : sm_lf ph L M = false) : (ph = 116 → M.1 < 120) ∧ (¬ ph = 105 → ¬ ph = 116 → L.1 < 120) := by
  unfold sm_lf at h
  constructor
  · intro a
    rw [if_neg (by rw [a]; decide), if_pos a] at h
    exact sw_lfF h
  · intro a b
    rw [if_neg a, if_neg b] at h
    exact sw_lfF h
theorem sw_wr0 {a b : Int32} (h : sm_kWr ph L M a b = 0) : ¬ ph = 100 ∧ sm_lf ph L M = false := by
  unfold sm_kWr at h
  by_cases x : sm_in (sm_lim ph) a = true
  · rw [if_pos x] at h
    by_cases y : sm_in (sm_lim ph) b = true
    · rw [if_pos y] at h
      by_cases z : ph = 100
      · rw [if_pos z] at h; exact absurd h (by decide)
      · rw [if_neg z] at h
        refine ⟨z, ?_⟩
        cases g : sm_lf ph L M with
        | false => rfl
        | true => rw [g] at h; exact absurd h (by decide)
    · rw [if_neg y] at h; exact absurd h (by decide)
  · rw [if_neg x] at h; exact absurd h (by decide)
theorem sw_dl0 {k : Nat} (h : sm_kDl ph T S L M k = 0) : ¬ ph = 100 ∧ (sm_live ph T S k = true → sm_lf ph L M = false) := by
  unfold sm_kDl at h
  by_cases z : ph = 100
  · rw [if_pos z] at h; exact absurd h (by decide)
  · rw [if_neg z] at h
    refine ⟨z, fun y => ?_⟩
    rw [if_pos y] at h
    cases g : sm_lf ph L M with
    | false => rfl
    | true => rw [g] at h; exact absurd h (by decide)
/-- one more row or deletion, wherever it goes -/
theorem sw_chg {k : Nat} (hk : k < 40) {d : Bool} {a b : Int32} {T2 U2 : sm_Tg} (hT2 : sm_tT T2 U2) (hB2 : sm_tB T2) {S2 : sm_Rw} (hd : ¬ ph = 100) (hf : sm_lf ph L M = false) (h : sm_Rel P S T L M C ph fo ne no U nm Z n2 rd np pw ev od) : sm_Rel P (if ph = 116 then S else S2) (if ph = 116 then T2 else if ph = 98 then sm_fo1 P (sm_appL L k d a b) T fo else T) (if ph = 116 then L else if ph = 105 then L else sm_appL L k d a b) (if ph = 116 then sm_appL M k d a b else M) C ph (if ph = 98 then fo + 1 else fo) ne no (if ph = 116 then U2 else if ph = 98 then sm_fM1 P (sm_appL L k d a b) U fo else U) (if ph = 116 then va_up nm k true else nm) Z (if ph = 116 then n2 + 1 else n2) rd np pw ev od := by
  obtain ⟨f1, f2⟩ := sw_lff hf
  by_cases x : ph = 116
  · simp only [if_pos x, if_neg (show ¬ ph = 98 by rw [x]; decide)]
    exact sm_RlM1 hk (f1 x) hT2 hB2 h
  · simp only [if_neg x]
    by_cases y : ph = 105
    · simp only [if_pos y, if_neg (show ¬ ph = 98 by rw [y]; decide)]
      exact sm_RlSS h
    · simp only [if_neg y]
      have g := sm_RlLg (d := d) (a := a) (b := b) hk (f2 y x) h
      by_cases z : ph = 98
      · simp only [if_pos z]
        exact sm_RlSS (sm_RlF1 (Nat.lt_succ_of_le h.2.2.1.2.2) g)
      · simp only [if_neg z]
        exact sm_RlSS g
theorem sw_m7 {k : Nat} (hk : k < 40) {a b : Int32} (h : sm_Rel P S T L M C ph fo ne no U nm Z n2 rd np pw ev od) : sm_kWr ph L (n2, L.2) a b = sm_kWr ph L M a b ∧ (sm_kWr ph L M a b = 0 → (if sm_kWr ph L (n2, L.2) a b = 0 then sm_liv ph U S k else false) = sm_live ph T S k) ∧ sm_Rel P (if sm_kWr ph L M a b = 0 then (if ph = 116 then S else sm_putS S k a b) else S) (if sm_kWr ph L M a b = 0 then (if ph = 116 then sm_entT T k a b (nI L.1) else if ph = 98 then sm_fo1 P (sm_appL L k false a b) T fo else T) else T) (if sm_kWr ph L M a b = 0 then (if ph = 116 then L else if ph = 105 then L else sm_appL L k false a b) else L) (if sm_kWr ph L M a b = 0 then (if ph = 116 then sm_appL M k false a b else M) else M) C ph (if sm_kWr ph L M a b = 0 then (if ph = 98 then fo + 1 else fo) else fo) ne no (if sm_kWr ph L (n2, L.2) a b = 0 then (if ph = 116 then sm_entT U k a b (nI L.1) else if ph = 98 then sm_fM1 P (sm_appL L k false a b) U fo else U) else U) (if sm_kWr ph L (n2, L.2) a b = 0 then (if ph = 116 then va_up nm k true else nm) else nm) Z (if sm_kWr ph L (n2, L.2) a b = 0 then (if ph = 116 then n2 + 1 else n2) else n2) rd np pw ev od := by
  have e : sm_kWr ph L (n2, L.2) a b = sm_kWr ph L M a b := by
    rw [h.2.2.2.1.2.2.1]; exact sm_wrk
  have hT : sm_tT T U := h.2.2.2.2.1.1
  rw [e]
  refine ⟨rfl, fun z => (if_pos z).trans (sm_livE hT (sw_wr0 z).1), ?_⟩
  by_cases z : sm_kWr ph L M a b = 0
  · simp only [if_pos z]
    obtain ⟨c1, c2⟩ := sw_wr0 z
    exact sw_chg hk (sm_entE hT k a b (nI L.1)) (sm_entB h.2.2.2.2.1.2 k a b L.1 h.2.2.1.1) c1 c2 h
  · simp only [if_neg z]
    exact h
theorem sw_m7e {k : Nat} {a b : Int32} (h : sm_Rel P S T L M C ph fo ne no U nm Z n2 rd np pw ev od) : (if sm_kWr ph L (n2, L.2) a b = 0 then (if ph = 116 then S else sm_putS S k a b) else S) = (if sm_kWr ph L M a b = 0 then (if ph = 116 then S else sm_putS S k a b) else S) ∧ (if sm_kWr ph L (n2, L.2) a b = 0 then (if ph = 116 then L else if ph = 105 then L else sm_appL L k false a b) else L) = (if sm_kWr ph L M a b = 0 then (if ph = 116 then L else if ph = 105 then L else sm_appL L k false a b) else L) ∧ (if sm_kWr ph L (n2, L.2) a b = 0 then (if ph = 98 then fo + 1 else fo) else fo) = (if sm_kWr ph L M a b = 0 then (if ph = 98 then fo + 1 else fo) else fo) := by
  have e : sm_kWr ph L (n2, L.2) a b = sm_kWr ph L M a b := by
    rw [h.2.2.2.1.2.2.1]; exact sm_wrk
  rw [e]
  exact ⟨rfl, rfl, rfl⟩
theorem sw_m8c {k : Nat} (h : sm_Rel P S T L M C ph fo ne no U nm Z n2 rd np pw ev od) : sm_mDl ph U S L n2 k = sm_kDl ph T S L M k ∧ (sm_kDl ph T S L M k = 0 → sm_liv ph U S k = sm_live ph T S k) := by
  have e : sm_mDl ph U S L n2 k = sm_kDl ph T S L M k := by
    rw [h.2.2.2.1.2.2.1]; exact sm_dlk h.2.2.2.2.1.1
  exact ⟨e, fun z => sm_livE h.2.2.2.2.1.1 (sw_dl0 z).1⟩
theorem sw_m8 {k : Nat} (hk : k < 40) (h : sm_Rel P S T L M C ph fo ne no U nm Z n2 rd np pw ev od) : sm_mDl ph U S L n2 k = sm_kDl ph T S L M k ∧ (sm_kDl ph T S L M k = 0 → (if sm_mDl ph U S L n2 k = 0 then sm_liv ph U S k else false) = sm_live ph T S k) ∧ sm_Rel P (if sm_kDl ph T S L M k = 0 ∧ sm_live ph T S k = true then (if ph = 116 then S else sm_rmS S k) else S) (if sm_kDl ph T S L M k = 0 ∧ sm_live ph T S k = true then (if ph = 116 then sm_hldT T k 3 (nI L.1) else if ph = 98 then sm_fo1 P (sm_appL L k true 0 0) T fo else T) else T) (if sm_kDl ph T S L M k = 0 ∧ sm_live ph T S k = true then (if ph = 116 then L else if ph = 105 then L else sm_appL L k true 0 0) else L) (if sm_kDl ph T S L M k = 0 ∧ sm_live ph T S k = true then (if ph = 116 then sm_appL M k true 0 0 else M) else M) C ph (if sm_kDl ph T S L M k = 0 ∧ sm_live ph T S k = true then (if ph = 98 then fo + 1 else fo) else fo) ne no (if sm_mDl ph U S L n2 k = 0 ∧ sm_liv ph U S k = true then (if ph = 116 then sm_hldT U k 3 (nI L.1) else if ph = 98 then sm_fM1 P (sm_appL L k true 0 0) U fo else U) else U) (if sm_mDl ph U S L n2 k = 0 ∧ sm_liv ph U S k = true then (if ph = 116 then va_up nm k true else nm) else nm) Z (if sm_mDl ph U S L n2 k = 0 ∧ sm_liv ph U S k = true then (if ph = 116 then n2 + 1 else n2) else n2) rd np pw ev od ∧ (if sm_mDl ph U S L n2 k = 0 ∧ sm_liv ph U S k = true then (if ph = 116 then S else sm_rmS S k) else S) = (if sm_kDl ph T S L M k = 0 ∧ sm_live ph T S k = true then (if ph = 116 then S else sm_rmS S k) else S) ∧ (if sm_mDl ph U S L n2 k = 0 ∧ sm_liv ph U S k = true then (if ph = 116 then L else if ph = 105 then L else sm_appL L k true 0 0) else L) = (if sm_kDl ph T S L M k = 0 ∧ sm_live ph T S k = true then (if ph = 116 then L else if ph = 105 then L else sm_appL L k true 0 0) else L) ∧ (if sm_mDl ph U S L n2 k = 0 ∧ sm_liv ph U S k = true then (if ph = 98 then fo + 1 else fo) else fo) = (if sm_kDl ph T S L M k = 0 ∧ sm_live ph T S k = true then (if ph = 98 then fo + 1 else fo) else fo) := by
  obtain ⟨e, e2⟩ := sw_m8c (k := k) h
  have hT : sm_tT T U := h.2.2.2.2.1.1
  rw [e]
  refine ⟨rfl, fun z => (if_pos z).trans (e2 z), ?_⟩
  by_cases z : sm_kDl ph T S L M k = 0
  · rw [e2 z]
    refine ⟨?_, rfl, rfl, rfl⟩
    by_cases y : sm_live ph T S k = true
    · simp only [if_pos (And.intro z y)]
      obtain ⟨c1, c2⟩ := sw_dl0 z
      exact sw_chg hk (sm_hldE hT k 3 (nI L.1) (by decide)) (sm_hldB h.2.2.2.2.1.2 k 3 L.1 (Or.inr (Or.inr (Or.inr rfl))) h.2.2.1.1) c1 (c2 y) h
    · simp only [if_neg (show ¬ (sm_kDl ph T S L M k = 0 ∧ sm_live ph T S k = true) from fun q => y q.2)]
      exact h
  · have g1 : ¬ (sm_kDl ph T S L M k = 0 ∧ sm_live ph T S k = true) := fun q => z q.1
    have g2 : ¬ (sm_kDl ph T S L M k = 0 ∧ sm_liv ph U S k = true) := fun q => z q.1
    refine ⟨?_, ?_, ?_, ?_⟩
    · simp only [if_neg g1, if_neg g2]
      exact h
    · rw [if_neg g1, if_neg g2]
    · rw [if_neg g1, if_neg g2]
    · rw [if_neg g1, if_neg g2]
theorem sw_k2t {z : Bool} (h : sm_k2 z = 0) : z = true := by
  cases z with
  | true => rfl
  | false => exact absurd h (by decide)
theorem sw_m9 {k : Nat} {z : Bool} (h : sm_Rel P S T L M C ph fo ne no U nm Z n2 rd np pw ev od) : sm_k2 (sm_live ph U S k) = sm_k2 (sm_live ph T S k) ∧ (sm_k2 (sm_live ph T S k) = 0 → (if sm_k2 (sm_live ph U S k) = 0 then sm_rdF ph U S k z else 0) = sm_rdF ph T S k z) := by
  have hT : sm_tT T U := h.2.2.2.2.1.1
  rw [sm_liE hT]
  exact ⟨rfl, fun y => (if_pos y).trans (sm_rdE hT k z (sw_k2t y))⟩
theorem sw_m10 (h : sm_Rel P S T L M C ph fo ne no U nm Z n2 rd np pw ev od) : sm_kNx ph = 0 → (if sm_kNx ph = 0 then nI (if ph = 116 then 2 * (od + 1) - 1 else 2 * (ev + 1) - 2) else 0) = nI (if ph = 116 then no + 2 - 2 else ne + 2 - 2) := by
  intro z
  rw [if_pos z]
  obtain ⟨h6, h7⟩ := h.2.2.2.2.2.1
  by_cases y : ph = 116
  · rw [if_pos y, if_pos y]
    exact congrArg nI (by omega)
  · rw [if_neg y, if_neg y]
    exact congrArg nI (by omega)
theorem sw_m11 {k : Nat} (hk : ¬ k < 1) (h : sm_Rel P S T L M C ph fo ne no U nm Z n2 rd np pw ev od) : sm_mRP ph rd pw = sm_kRP ph C ∧ (sm_kRP ph C = 0 → (if sm_mRP ph rd pw = 0 then nI (np + 1 - 1) else 0) = nI C.2.2.2.2.2.1) ∧ sm_Rel P S T L M (if sm_kRP ph C = 0 then sm_takeC S C k (nI L.1) else C) ph fo ne no U nm (if sm_mRP ph rd pw = 0 then (sm_rpG S rd (min (rd + k) 40) (sm_fpG Z.1 8 0) 40 0 (va_up Z.1 (sm_fpG Z.1 8 0) (nI np), va_up Z.2.1 (sm_fpG Z.1 8 0) (nI L.1), Z.2.2)) else Z) n2 (if sm_mRP ph rd pw = 0 then min (rd + k) 40 else rd) (if sm_mRP ph rd pw = 0 then np + 1 else np) (if sm_mRP ph rd pw = 0 then pw + 1 else pw) ev od := by
  have hr := h.2.2.2.2.2.2
  have w8 := sm_pR8 hr.2.2.2
  have x40 := hr.2.2.2.1.2
  have e : sm_mRP ph rd pw = sm_kRP ph C := by
    rw [hr.1, hr.2.2.1]; exact sm_rpk x40 w8
  rw [e]
  refine ⟨rfl, fun z => (if_pos z).trans (congrArg nI (by rw [hr.2.1]; omega)), ?_⟩
  by_cases z : sm_kRP ph C = 0
  · simp only [if_pos z]
    exact sm_RlRp hk z h
  · simp only [if_neg z]
    exact h
theorem sw_m13 {k : Nat} (h : sm_Rel P S T L M C ph fo ne no U nm Z n2 rd np pw ev od) : sm_Rel P S (if sm_kFl ph = 0 then sm_foG P L (min k (L.1 - fo)) T fo else T) L M C ph (if sm_kFl ph = 0 then fo + min k (L.1 - fo) else fo) ne no (if sm_kFl ph = 0 then sm_fMG P L (min k (L.1 - fo)) U fo else U) nm Z n2 rd np pw ev od := by
  have hf : fo ≤ L.1 := h.2.2.1.2.2
  by_cases z : sm_kFl ph = 0
  · simp only [if_pos z]
    exact sm_RlFo (by omega) h.2.1 h
  · simp only [if_neg z]
    exact h
theorem sw_m18 {k : Nat} (h : sm_Rel P S T L M C ph fo ne no U nm Z n2 rd np pw ev od) : sm_k2 (sm_stmp U k) = sm_k2 (sm_stmp T k) ∧ (sm_k2 (sm_stmp T k) = 0 → (if sm_k2 (sm_stmp U k) = 0 then U.2.1 k else 0) = T.2.1 k) := by
  have hT : sm_tT T U := h.2.2.2.2.1.1
  rw [sm_stE hT, ← hT.2.1]
  exact ⟨rfl, fun y => if_pos y⟩
theorem sw_m20 {k : Nat} {z : Bool} (h : sm_Rel P S T L M C ph fo ne no U nm Z n2 rd np pw ev od) : sm_k23 (sm_kd U k 1) (sm_tb P U k) = sm_k23 (sm_kd T k 1) (sm_tb P T k) ∧ (sm_k23 (sm_kd T k 1) (sm_tb P T k) = 0 → (if sm_k23 (sm_kd U k 1) (sm_tb P U k) = 0 then sm_pk z (sm_bk P (U.2.2.1 k, U.2.2.2 k)).2 else 0) = sm_pk z (sm_bk P (T.2.2.1 k, T.2.2.2 k)).2) := by
  have hT : sm_tT T U := h.2.2.2.2.1.1
  rw [sm_kdE hT, sm_tbE hT]
  refine ⟨rfl, fun y => ?_⟩
  rw [if_pos y]
  cases g : sm_kd T k 1 with
  | false => rw [g] at y; exact absurd y (by cases sm_tb P T k <;> decide)
  | true =>
    obtain ⟨a, b⟩ := hT.2.2 k (sm_kd1 g)
    rw [a, b]
theorem sw_m22 {lo hi : Nat} (h : sm_Rel P S T L M C ph fo ne no U nm Z n2 rd np pw ev od) : sm_k2n (sm_ss P S U lo hi) = sm_k2n (sm_ss P S T lo hi) ∧ (sm_k2n (sm_ss P S T lo hi) = 0 → (if sm_k2n (sm_ss P S U lo hi) = 0 then nI (sm_fuG P S U 40 lo hi 1).1 else 0) = nI (sm_fuG P S T 40 lo hi 1).1) ∧ (if sm_ss P S U lo hi = true then 1 else (sm_fuG P S U 40 lo hi 1).2) = (if sm_ss P S T lo hi = true then 1 else (sm_fuG P S T 40 lo hi 1).2) := by
  have hT : sm_tT T U := h.2.2.2.2.1.1
  rw [sm_ssE hT, sm_fuE hT]
  exact ⟨rfl, fun y => if_pos y, rfl⟩
theorem sw_k1t {z : Bool} (h : sm_k1 z = 0) : z = true := by
  cases z with
  | true => rfl
  | false => exact absurd h (by decide)
end
-- a float's and a double's comparison with itself
def sw_okC (r : UInt32) : Bool := decide (FP.dcmp (FP.f2d r) (FP.f2d r) = some .eq)
def sw_ckC (b : Nat) : Nat → Bool
  | 0 => true
  | k + 1 => sw_okC (FP.fdiv (FP.i2f (nI k)) (FP.i2f (nI b))) && sw_ckC b k
theorem sw_ckCa {b : Nat} : ∀ {n k : Nat}, sw_ckC b n = true → k < n → sw_okC (FP.fdiv (FP.i2f (nI k)) (FP.i2f (nI b))) = true
  | n + 1, k, h, hk => by
    have h : (sw_okC (FP.fdiv (FP.i2f (nI n)) (FP.i2f (nI b))) && sw_ckC b n) = true := h
    rw [Bool.and_eq_true] at h
    by_cases e : k = n
    · rw [e]; exact h.1
    · exact sw_ckCa h.2 (by omega)
theorem sw_fqC : ∀ b, b < 40 → sw_ckC (b + 1) 41 = true := by decide +kernel
theorem sw_fq {a b : Nat} (ha : a ≤ 40) (hb : b ≤ 40) (h0 : ¬ b = 0) : FP.dcmp (FP.f2d (FP.fdiv (FP.i2f (nI a)) (FP.i2f (nI b)))) (FP.f2d (FP.fdiv (FP.i2f (nI a)) (FP.i2f (nI b)))) = some .eq := by
  obtain ⟨k, rfl⟩ : ∃ k, b = k + 1 := ⟨b - 1, by omega⟩
  exact of_decide_eq_true (sw_ckCa (sw_fqC k (by omega)) (show a < 41 by omega))
theorem sw_nz {n : Nat} (h : sm_nz n = true) : ¬ n = 0 := by
  unfold sm_nz at h
  intro z
  rw [if_pos z] at h
  cases h
