/-! sums of stamps, and what both answer in numbers -/
def sm_svG (T : sm_Tg) (g : Nat → Nat) : Nat → Nat → Nat → Nat
  | 0, _, c => c
  | n + 1, i, c => sm_svG T g n (i + 1) (if sm_kd T i 1 = true then c + g i else c)
theorem sm_sv1 {T : sm_Tg} {g : Nat → Nat} (h : ∀ k, T.2.1 k = nI (g k)) : ∀ (n i c : Nat), sm_asG T n i (nI c) = nI (sm_svG T g n i c)
  | 0, _, _ => rfl
  | n + 1, i, c => by
    show sm_asG T n (i + 1) (if sm_kd T i 1 = true then nI c + T.2.1 i else nI c) = nI (sm_svG T g n (i + 1) (if sm_kd T i 1 = true then c + g i else c))
    split
    · rw [h, nI_add]; exact sm_sv1 h n (i + 1) _
    · exact sm_sv1 h n (i + 1) _
theorem sm_sv2 {T : sm_Tg} {g : Nat → Nat} (hg : ∀ k, g k ≤ 120) : ∀ (n i c d : Nat), c ≤ 120 * d → sm_svG T g n i c ≤ 120 * sm_cnG (fun k => sm_kd T k 1) n i d
  | 0, _, _, _, h => h
  | n + 1, i, c, d, h => by
    show sm_svG T g n (i + 1) (if sm_kd T i 1 = true then c + g i else c) ≤ 120 * sm_cnG (fun k => sm_kd T k 1) n (i + 1) (if sm_kd T i 1 = true then d + 1 else d)
    have := hg i
    split
    · exact sm_sv2 hg n (i + 1) _ _ (by omega)
    · exact sm_sv2 hg n (i + 1) _ _ h
theorem sm_sv3 {T : sm_Tg} {g : Nat → Nat} (hg : ∀ k, g k ≤ 120) (h : ∀ k, T.2.1 k = nI (g k)) : ∀ (n i c : Nat), c + 120 * n < 2 ^ 31 → sm_alG T n i (nI c).toInt64 = (nI (sm_svG T g n i c)).toInt64
  | 0, _, _, _ => rfl
  | n + 1, i, c, hc => by
    show sm_alG T n (i + 1) (if sm_kd T i 1 = true then (nI c).toInt64 + (T.2.1 i).toInt64 else (nI c).toInt64) = (nI (sm_svG T g n (i + 1) (if sm_kd T i 1 = true then c + g i else c))).toInt64
    have hgi := hg i
    split
    · have e : (nI c).toInt64 + (T.2.1 i).toInt64 = (nI (c + g i)).toInt64 := by
        rw [h, nI_l (by omega), nI_l (by omega), nI_l (by omega)]
        apply Int64.toInt_inj.mp
        rw [Int64.toInt_add, lN_toInt (by omega), lN_toInt (by omega), lN_toInt (by omega)]
        rw [Int.bmod_eq_of_le (by omega) (by omega)]
        omega
      rw [e]
      exact sm_sv3 hg h n (i + 1) _ (by omega)
    · exact sm_sv3 hg h n (i + 1) _ (by omega)
theorem sm_sv {T U : sm_Tg} (hT : sm_tT T U) (hB : sm_tB T) : ∃ sv : Nat, sm_asG T 40 0 0 = nI sv ∧ sm_alG U 40 0 0 = (nI sv).toInt64 ∧ sv ≤ 120 * sm_cnG (fun i => sm_kd T i 1) 40 0 0 := by
  have hc : ∃ g : Nat → Nat, ∀ k, g k ≤ 120 ∧ T.2.1 k = nI (g k) := ⟨fun k => (hB.2 k).choose, fun k => (hB.2 k).choose_spec⟩
  obtain ⟨g, hg⟩ := hc
  have e : ∀ (n i : Nat) (c : Int64), sm_alG U n i c = sm_alG T n i c := fun n => by
    induction n with
    | zero => exact fun _ _ => rfl
    | succ n ih =>
      intro i c
      show sm_alG U n (i + 1) (if sm_kd U i 1 = true then c + (U.2.1 i).toInt64 else c) = sm_alG T n (i + 1) (if sm_kd T i 1 = true then c + (T.2.1 i).toInt64 else c)
      rw [sm_kdE hT, ← hT.2.1]
      exact ih _ _
  refine ⟨sm_svG T g 40 0 0, sm_sv1 (fun k => (hg k).2) 40 0 0, ?_, sm_sv2 (fun k => (hg k).1) 40 0 0 0 (Nat.le_refl _)⟩
  rw [e]
  exact sm_sv3 (fun k => (hg k).1) (fun k => (hg k).2) 40 0 0 (by omega)
-- the codes of both
theorem sm_rpk {ph : Int32} {C : sm_Pt} (h1 : C.2.2.2.2.2.2.2 ≤ 40) (h2 : C.2.2.2.2.2.2.1 ≤ 8) : sm_mRP ph C.2.2.2.2.2.2.2 C.2.2.2.2.2.2.1 = sm_kRP ph C := by
  unfold sm_mRP sm_kRP
  by_cases a : C.2.2.2.2.2.2.2 = 40
  · rw [if_pos a, if_pos (show 40 - C.2.2.2.2.2.2.2 = 0 by omega)]
  · rw [if_neg a, if_neg (show ¬ 40 - C.2.2.2.2.2.2.2 = 0 by omega)]
    by_cases b : C.2.2.2.2.2.2.1 = 8
    · rw [if_pos b, if_neg (show ¬ C.2.2.2.2.2.2.1 < 8 by omega)]
    · rw [if_neg b, if_pos (show C.2.2.2.2.2.2.1 < 8 by omega)]
theorem sm_gbk {ph : Int32} {C : sm_Pt} : sm_mGB ph C.2.2.2.2.2.2.2 C.2.2.2.2.2.2.1 = sm_kGB ph C := by
  unfold sm_mGB sm_kGB
  by_cases a : C.2.2.2.2.2.2.2 < 40
  · rw [if_pos a, if_pos (show 0 < 40 - C.2.2.2.2.2.2.2 by omega)]
  · rw [if_neg a, if_neg (show ¬ 0 < 40 - C.2.2.2.2.2.2.2 by omega)]
theorem sm_livE {ph : Int32} {T U : sm_Tg} {S : sm_Rw} {k : Nat} (hT : sm_tT T U) (h : ¬ ph = 100) : sm_liv ph U S k = sm_live ph T S k := by
  unfold sm_liv sm_live sm_lv
  rw [sm_kdE hT, if_neg h]
  by_cases a : ph = 116
  · rw [if_pos a, if_pos a, if_pos rfl]
  · rw [if_neg a, if_neg a, if_neg Bool.false_ne_true]
theorem sm_dlk {ph : Int32} {T U : sm_Tg} {S : sm_Rw} {L M : sm_Lg} {k : Nat} (hT : sm_tT T U) : sm_mDl ph U S L M.1 k = sm_kDl ph T S L M k := by
  unfold sm_mDl sm_kDl
  by_cases h : ph = 100
  · rw [if_pos h, if_pos h]
  · rw [if_neg h, if_neg h, sm_livE hT h]
    rfl
theorem sm_wrk {ph : Int32} {L M : sm_Lg} {a b : Int32} : sm_kWr ph L (M.1, L.2) a b = sm_kWr ph L M a b := rfl
