/-! the parts of both, as long as they wait -/
def sm_pI (r : sm_Rw) (lo en : Nat → Nat) (st : Nat → Int32) (w : Nat → Bool) (Z : sm_Qt) (pl i : Nat) : Prop := w i = true ∧ Z.1 pl = nI i ∧ Z.2.1 pl = st i ∧ ∀ j, j < 40 → Z.2.2.2.2 (40 * pl + j) = (if lo i ≤ j ∧ j < en i then r.1 j else false) ∧ (lo i ≤ j → j < en i → r.1 j = true → Z.2.2.1 (40 * pl + j) = r.2.1 j ∧ Z.2.2.2.1 (40 * pl + j) = r.2.2 j)
def sm_pR (r : sm_Rw) (lo en : Nat → Nat) (st : Nat → Int32) (w : Nat → Bool) (cnt wt nx : Nat) (Z : sm_Qt) : Prop :=
  (cnt ≤ nx ∧ nx ≤ 40) ∧ (∀ k, lo k ≤ en k ∧ en k ≤ nx) ∧ (∀ k, w k = true → k < cnt) ∧ (∀ j, nx ≤ j → r.1 j = false) ∧ (∀ pl, pl < 8 → Z.1 pl = -1 ∨ ∃ i, sm_pI r lo en st w Z pl i) ∧ (∀ i, w i = true → ∃ pl, pl < 8 ∧ Z.1 pl = nI i) ∧ (∀ a b, a < 8 → b < 8 → Z.1 a = Z.1 b → ¬ Z.1 a < 0 → a = b) ∧ wt = sm_cnG (fun pl => decide (¬ Z.1 pl < 0)) 8 0 0 ∧ ∀ i, ∃ n : Nat, n ≤ 120 ∧ st i = nI n
theorem sm_pRf {r : sm_Rw} {lo en : Nat → Nat} {st : Nat → Int32} {w : Nat → Bool} {cnt wt nx : Nat} {Z : sm_Qt} (h : sm_pR r lo en st w cnt wt nx Z) (hw : ¬ wt = 8) : sm_fpG Z.1 8 0 < 8 ∧ Z.1 (sm_fpG Z.1 8 0) < 0 := by
  obtain ⟨-, -, -, -, -, -, -, h8, -⟩ := h
  have hle := sm_cnle (fun pl => decide (¬ Z.1 pl < 0)) 8 0 0
  obtain ⟨k, a, b, z⟩ := sm_cnF (f := fun pl => decide (¬ Z.1 pl < 0)) 8 0 0 (by omega)
  exact sm_fpT 8 0 rfl ⟨k, a, by omega, by simpa using z⟩
theorem sm_pR8 {r : sm_Rw} {lo en : Nat → Nat} {st : Nat → Int32} {w : Nat → Bool} {cnt wt nx : Nat} {Z : sm_Qt} (h : sm_pR r lo en st w cnt wt nx Z) : wt ≤ 8 := by
  have hle := sm_cnle (fun pl => decide (¬ Z.1 pl < 0)) 8 0 0
  have h8 := h.2.2.2.2.2.2.2.1
  omega
theorem sm_nIp {i : Nat} (h : i ≤ 40) : ¬ nI i < 0 := nI_pos (by omega)
theorem sm_pRt {S r : sm_Rw} {lo en : Nat → Nat} {st : Nat → Int32} {w : Nat → Bool} {cnt wt nx n e : Nat} {Z : sm_Qt} (h : sm_pR r lo en st w cnt wt nx Z) (hw : ¬ wt = 8) (he1 : nx < e) (he2 : e ≤ 40) (hn : n ≤ 120) :
    sm_pR (sm_tkG S (e - nx) nx r) (va_up lo cnt nx) (va_up en cnt e) (va_up st cnt (nI n)) (va_up w cnt true) (cnt + 1) (wt + 1) e (sm_rpG S nx e (sm_fpG Z.1 8 0) 40 0 (va_up Z.1 (sm_fpG Z.1 8 0) (nI cnt), va_up Z.2.1 (sm_fpG Z.1 8 0) (nI n), Z.2.2)) := by
  obtain ⟨hp8, hp0⟩ := sm_pRf h hw
  obtain ⟨h1, h2, h3, h4, h5, h6, h7, h8, h9⟩ := h
  generalize sm_fpG Z.1 8 0 = p at hp8 hp0 ⊢
  obtain ⟨z1, z2⟩ := sm_rp1 (S := S) (rd := nx) (en := e) (pl := p) 40 0 (va_up Z.1 p (nI cnt), va_up Z.2.1 p (nI n), Z.2.2)
  have zr := fun m => sm_rp2 (S := S) (rd := nx) (en := e) (pl := p) (m := m) 40 0 (va_up Z.1 p (nI cnt), va_up Z.2.1 p (nI n), Z.2.2)
  generalize sm_rpG S nx e p 40 0 (va_up Z.1 p (nI cnt), va_up Z.2.1 p (nI n), Z.2.2) = Z2 at z1 z2 zr ⊢
  have hc0 : ¬ nI cnt < 0 := sm_nIp (by omega)
  refine ⟨⟨by omega, he2⟩, fun k => ?_, fun k hk => ?_, fun j hj => ?_, fun pl hpl => ?_, fun i hi => ?_, fun a b ha hb hab ha0 => ?_, ?_, fun i => ?_⟩
  · by_cases g : k = cnt
    · subst g; rw [sm_upT, sm_upT]; omega
    · rw [sm_upF _ _ g, sm_upF _ _ g]; have := h2 k; omega
  · by_cases g : k = cnt
    · omega
    · rw [sm_upF _ _ g] at hk; have := h3 k hk; omega
  · rw [(sm_tk1 (S := S) (j := j) (e - nx) nx r).1, if_neg (fun z => by omega)]
    exact h4 j (by omega)
  · rw [z1]
    by_cases g : pl = p
    · subst g
      refine Or.inr ⟨cnt, sm_upT _ _ _, ?_, ?_, fun j hj => ?_⟩
      · rw [z1]; exact sm_upT _ _ _
      · rw [z2, sm_upT]; exact sm_upT _ _ _
      · obtain ⟨r1, r2, r3⟩ := zr (40 * pl + j)
        rw [if_pos (by omega), show 40 * pl + j - 40 * pl = j by omega] at r1 r2 r3
        obtain ⟨t1, t2, t3⟩ := sm_tk1 (S := S) (j := j) (e - nx) nx r
        rw [sm_upT, sm_upT, r1, r2, r3, t1, t2, t3]
        unfold sm_btN
        constructor
        · by_cases a : nx ≤ j ∧ j < e
          · rw [if_pos a, if_neg (show ¬ j < nx by omega), if_neg (show ¬ e - 1 < j by omega), if_pos rfl]
            by_cases s : S.1 j = true
            · rw [if_pos ⟨a.1, by omega, s⟩, s]
            · rw [if_neg (fun z => s z.2.2), h4 j a.1]
              cases hs : S.1 j with
              | true => exact absurd hs s
              | false => rfl
          · rw [if_neg a]
            by_cases b : j < nx
            · rw [if_pos b]; rfl
            · rw [if_neg b, if_pos (show e - 1 < j by omega)]; rfl
        · intro a b hr
          by_cases s : S.1 j = true
          · have c : nx ≤ j ∧ j < nx + (e - nx) ∧ S.1 j = true := ⟨a, by omega, s⟩
            rw [if_pos c, if_pos c]
            exact ⟨rfl, rfl⟩
          · rw [if_neg (fun z => s z.2.2), h4 j a] at hr
            cases hr
    · show va_up Z.1 p (nI cnt) pl = -1 ∨ _
      rw [sm_upF _ _ g]
      rcases h5 pl hpl with q | ⟨i, q1, q2, q3, q4⟩
      · exact Or.inl q
      · have hi := h3 i q1
        have gi : ¬ i = cnt := by omega
        refine Or.inr ⟨i, ?_, ?_, ?_, fun j hj => ?_⟩
        · rw [sm_upF _ _ gi]; exact q1
        · rw [z1]
          show va_up Z.1 p (nI cnt) pl = nI i
          rw [sm_upF _ _ g]; exact q2
        · rw [z2]
          show va_up Z.2.1 p (nI n) pl = va_up st cnt (nI n) i
          rw [sm_upF _ _ g, sm_upF _ _ gi]; exact q3
        · obtain ⟨r1, r2, r3⟩ := zr (40 * pl + j)
          have hm : ¬ (40 * p + 0 ≤ 40 * pl + j ∧ 40 * pl + j < 40 * p + 0 + 40) := by omega
          rw [if_neg hm] at r1 r2 r3
          obtain ⟨t1, t2, t3⟩ := sm_tk1 (S := S) (j := j) (e - nx) nx r
          rw [sm_upF _ _ gi, sm_upF _ _ gi, r1, r2, r3, t1, t2, t3]
          obtain ⟨u1, u2⟩ := q4 j hj
          have hen := h2 i
          constructor
          · show Z.2.2.2.2 (40 * pl + j) = _
            rw [u1]
            by_cases a : lo i ≤ j ∧ j < en i
            · rw [if_pos a, if_pos a, if_neg (fun z => by omega)]
            · rw [if_neg a, if_neg a]
          · intro a b hr
            rw [if_neg (fun z => by omega)] at hr
            rw [if_neg (fun z => by omega), if_neg (fun z => by omega)]
            exact u2 a b hr
  · by_cases g : i = cnt
    · subst g
      exact ⟨p, hp8, by rw [z1]; exact sm_upT _ _ _⟩
    · rw [sm_upF _ _ g] at hi
      obtain ⟨pl, a, b⟩ := h6 i hi
      have hi2 := h3 i hi
      refine ⟨pl, a, ?_⟩
      rw [z1]
      show va_up Z.1 p (nI cnt) pl = nI i
      rw [sm_upF _ _ (fun z => by rw [z] at b; rw [b] at hp0; exact sm_nIp (by omega) hp0)]
      exact b
  · rw [z1] at hab ha0
    have hab : va_up Z.1 p (nI cnt) a = va_up Z.1 p (nI cnt) b := hab
    have ha0 : ¬ va_up Z.1 p (nI cnt) a < 0 := ha0
    have key : ∀ q, q < 8 → nI cnt = Z.1 q → False := fun q hq hz => by
      rcases h5 q hq with c | ⟨i, q1, q2, -⟩
      · rw [hz, c] at hc0
        exact hc0 (by decide)
      · have := h3 i q1
        have := (nI_eq (a := cnt) (b := i) (by omega) (by omega)).mp (hz.trans q2)
        omega
    by_cases ga : a = p
    · by_cases gb : b = p
      · rw [ga, gb]
      · rw [ga, sm_upT, sm_upF _ _ gb] at hab
        exact (key b hb hab).elim
    · by_cases gb : b = p
      · rw [gb, sm_upT, sm_upF _ _ ga] at hab
        exact (key a ha hab.symm).elim
      · rw [sm_upF _ _ ga] at hab ha0
        rw [sm_upF _ _ gb] at hab
        exact h7 a b ha hb hab ha0
  · rw [z1]
    have e9 : (fun pl => decide (¬ va_up Z.1 p (nI cnt) pl < 0)) = va_up (fun pl => decide (¬ Z.1 pl < 0)) p true := by
      funext q
      by_cases g : q = p
      · subst g; rw [sm_upT, sm_upT]; exact decide_eq_true hc0
      · rw [sm_upF _ _ g, sm_upF _ _ g]
    show wt + 1 = sm_cnG (fun pl => decide (¬ va_up Z.1 p (nI cnt) pl < 0)) 8 0 0
    rw [e9, sm_cnU (by simp [hp0]) 8 0 0 (by omega) (by omega), h8]
  · by_cases g : i = cnt
    · subst g; rw [sm_upT]; exact ⟨n, hn, rfl⟩
    · rw [sm_upF _ _ g]; exact h9 i
