/-! what holds at the law's entry: classes, arrays, links, strings, casts, statics -/
theorem sw_strOf {own tx : String} {k : Nat} {args : Array Value} {s : State} {c : ClassId} (hown : s.vm.findClass own = some c) (h : (Cond.stringRef own k tx).before args s = true) : ∃ a, vk_R own k tx a s := by
  obtain ⟨-, -, -, a, -, -, -, -, -, hev⟩ := Cond.stringRef_spec hown h
  exact ⟨a, vk_R.of h hev⟩
set_option maxRecDepth 100000 in
theorem sw_K0 {s : State} {args : Array Value} (hts : ∀ w ∈ lw_tbl, w.before args s = true) (hgv : (Jvm.Cond.and given_1 narrow_1).before args s = true) : ∃ D : sm_G, sm_K D s := by
  have hg := flat_of_before _ hgv
  obtain ⟨c0, i0, h0⟩ := u_known (C := RX0) (T := TX0) (N := 2) (n := 2) hts sw_u0 (hts _ (sw_t1 _ (List.mem_of_getElem? (i := 139) rfl)))
  obtain ⟨c1, i1, h1⟩ := u_known (C := RX1) (T := TX1) (N := 5) (n := 5) hts sw_u1 (hts _ (sw_t1 _ (List.mem_of_getElem? (i := 84) rfl)))
  obtain ⟨c2, i2, h2⟩ := u_known (C := RX2) (T := TX2) (N := 8) (n := 8) hts sw_u2 (hts _ (sw_t1 _ (List.mem_of_getElem? (i := 106) rfl)))
  obtain ⟨c3, i3, h3⟩ := u_known (C := RX3) (T := TX3) (N := 3) (n := 3) hts sw_u3 (hts _ (sw_t1 _ (List.mem_of_getElem? (i := 48) rfl)))
  obtain ⟨c4, i4, h4⟩ := u_known (C := RX4) (T := TX4) (N := 3) (n := 3) hts sw_u4 (hts _ (sw_t1 _ (List.mem_of_getElem? (i := 30) rfl)))
  obtain ⟨c5, i5, h5⟩ := u_known (C := RX5) (T := TX5) (N := 4) (n := 4) hts sw_u5 (hts _ (sw_t1 _ (List.mem_of_getElem? (i := 65) rfl)))
  obtain ⟨c6, i6, h6⟩ := u_known (C := RX6) (T := TX6) (N := 12) (n := 12) hts sw_u6 (hts _ (sw_t1 _ (List.mem_of_getElem? (i := 22) rfl)))
  obtain ⟨c7, i7, h7⟩ := u_known (C := RX7) (T := TX7) (N := 33) (n := 33) hts sw_u7 (hts _ (sw_t4 _ (List.mem_of_getElem? (i := 156) rfl)))
  obtain ⟨a0, k0, p0, x0, y0, z0⟩ := Cond.arrayClass_spec (hts (.arrayClass .int) (sw_t1 _ (List.mem_of_getElem? (i := 46) rfl)))
  obtain ⟨a1, k1, p1, x1, y1, z1⟩ := Cond.arrayClass_spec (hts (.arrayClass .boolean) (sw_t1 _ (List.mem_of_getElem? (i := 63) rfl)))
  obtain ⟨a2, k2, p2, x2, y2, z2⟩ := Cond.arrayClass_spec (hts (.arrayClass .char) (sw_t1 _ (List.mem_of_getElem? (i := 45) rfl)))
  obtain ⟨a3, k3, p3, x3, y3, z3⟩ := Cond.arrayClass_spec (hts (.arrayClass .long) (sw_t6 _ (List.mem_of_getElem? (i := 23) rfl)))
  obtain ⟨a4, k4, p4, x4, y4, z4⟩ := Cond.arrayClass_spec (hts (.arrayClass .double) (sw_t6 _ (List.mem_of_getElem? (i := 24) rfl)))
  obtain ⟨cS, kS, hcS, -⟩ := Cond.instantiable_spec (hts _ (sw_t1 _ (List.mem_of_getElem? (i := 22) rfl)))
  refine ⟨((fun k => [c0, c1, c2, c3, c4, c5, c6, c7].getD k c0, fun k => [i0, i1, i2, i3, i4, i5, i6, i7].getD k i0), fun k => [a0, a1, a2, a3, a4].getD k a0), ⟨fun k q hq => ?_, fun k q hq => ?_⟩, ?_, ?_, ?_, ?_, ?_⟩
  · match k, hq with
    | 0, hq => cases hq; exact h0
    | 1, hq => cases hq; exact h1
    | 2, hq => cases hq; exact h2
    | 3, hq => cases hq; exact h3
    | 4, hq => cases hq; exact h4
    | 5, hq => cases hq; exact h5
    | 6, hq => cases hq; exact h6
    | 7, hq => cases hq; exact h7
    | k + 8, hq => cases hq
  · match k, hq with
    | 0, hq => cases hq; exact ⟨fun n z => ⟨fun k h => (by cases h), k0, y0, p0, z0⟩, x0⟩
    | 1, hq => cases hq; exact ⟨fun n z => ⟨fun k h => (by cases h), k1, y1, p1, z1⟩, x1⟩
    | 2, hq => cases hq; exact ⟨fun n z => ⟨fun k h => (by cases h), k2, y2, p2, z2⟩, x2⟩
    | 3, hq => cases hq; exact ⟨fun n z => ⟨fun k h => (by cases h), k3, y3, p3, z3⟩, x3⟩
    | 4, hq => cases hq; exact ⟨fun n z => ⟨fun k h => (by cases h), k4, y4, p4, z4⟩, x4⟩
    | k + 5, hq => cases hq
  · exact List.forall_mem_cons.mpr ⟨va_Nw.of rfl (hts _ (sw_t2 _ (List.mem_of_getElem? (i := 11) rfl))), List.forall_mem_cons.mpr ⟨va_Nw.of rfl (hts _ (sw_t2 _ (List.mem_of_getElem? (i := 0) rfl))), List.forall_mem_cons.mpr ⟨va_Nw.of rfl (hts _ (sw_t2 _ (List.mem_of_getElem? (i := 61) rfl))), List.forall_mem_cons.mpr ⟨va_Nw.of rfl (hts _ (sw_t1 _ (List.mem_of_getElem? (i := 49) rfl))), List.forall_mem_cons.mpr ⟨va_Nw.of rfl (hts _ (sw_t1 _ (List.mem_of_getElem? (i := 66) rfl))), List.forall_mem_cons.mpr ⟨va_Nw.of rfl (hts _ (sw_t1 _ (List.mem_of_getElem? (i := 85) rfl))), List.forall_mem_cons.mpr ⟨va_Nw.of rfl (hts _ (sw_t1 _ (List.mem_of_getElem? (i := 107) rfl))), List.forall_mem_cons.mpr ⟨va_Nw.of rfl (hts _ (sw_t1 _ (List.mem_of_getElem? (i := 140) rfl))), List.forall_mem_cons.mpr ⟨va_Nw.of rfl (hts _ (sw_t1 _ (List.mem_of_getElem? (i := 31) rfl))), List.forall_mem_cons.mpr ⟨va_Nw.of rfl (hts _ (sw_t1 _ (List.mem_of_getElem? (i := 112) rfl))), fun _ h => absurd h List.not_mem_nil⟩⟩⟩⟩⟩⟩⟩⟩⟩⟩
  · exact List.forall_mem_cons.mpr ⟨sw_strOf hcS (hts _ (sw_t2 _ (List.mem_of_getElem? (i := 180) rfl))), List.forall_mem_cons.mpr ⟨sw_strOf hcS (hts _ (sw_t2 _ (List.mem_of_getElem? (i := 190) rfl))), List.forall_mem_cons.mpr ⟨sw_strOf hcS (hts _ (sw_t3 _ (List.mem_of_getElem? (i := 22) rfl))), List.forall_mem_cons.mpr ⟨sw_strOf hcS (hts _ (sw_t3 _ (List.mem_of_getElem? (i := 52) rfl))), List.forall_mem_cons.mpr ⟨sw_strOf hcS (hts _ (sw_t3 _ (List.mem_of_getElem? (i := 64) rfl))), List.forall_mem_cons.mpr ⟨sw_strOf hcS (hts _ (sw_t3 _ (List.mem_of_getElem? (i := 81) rfl))), List.forall_mem_cons.mpr ⟨sw_strOf hcS (hts _ (sw_t3 _ (List.mem_of_getElem? (i := 124) rfl))), List.forall_mem_cons.mpr ⟨sw_strOf hcS (hts _ (sw_t3 _ (List.mem_of_getElem? (i := 133) rfl))), List.forall_mem_cons.mpr ⟨sw_strOf hcS (hts _ (sw_t3 _ (List.mem_of_getElem? (i := 157) rfl))), List.forall_mem_cons.mpr ⟨sw_strOf hcS (hts _ (sw_t3 _ (List.mem_of_getElem? (i := 158) rfl))), List.forall_mem_cons.mpr ⟨sw_strOf hcS (hts _ (sw_t3 _ (List.mem_of_getElem? (i := 180) rfl))), List.forall_mem_cons.mpr ⟨sw_strOf hcS (hts _ (sw_t3 _ (List.mem_of_getElem? (i := 194) rfl))), List.forall_mem_cons.mpr ⟨sw_strOf hcS (hts _ (sw_t3 _ (List.mem_of_getElem? (i := 202) rfl))), List.forall_mem_cons.mpr ⟨sw_strOf hcS (hts _ (sw_t3 _ (List.mem_of_getElem? (i := 203) rfl))), List.forall_mem_cons.mpr ⟨sw_strOf hcS (hts _ (sw_t4 _ (List.mem_of_getElem? (i := 20) rfl))), List.forall_mem_cons.mpr ⟨sw_strOf hcS (hts _ (sw_t4 _ (List.mem_of_getElem? (i := 56) rfl))), List.forall_mem_cons.mpr ⟨sw_strOf hcS (hts _ (sw_t4 _ (List.mem_of_getElem? (i := 72) rfl))), List.forall_mem_cons.mpr ⟨sw_strOf hcS (hts _ (sw_t4 _ (List.mem_of_getElem? (i := 81) rfl))), List.forall_mem_cons.mpr ⟨sw_strOf hcS (hts _ (sw_t4 _ (List.mem_of_getElem? (i := 82) rfl))), List.forall_mem_cons.mpr ⟨sw_strOf hcS (hts _ (sw_t4 _ (List.mem_of_getElem? (i := 90) rfl))), List.forall_mem_cons.mpr ⟨sw_strOf hcS (hts _ (sw_t4 _ (List.mem_of_getElem? (i := 91) rfl))), List.forall_mem_cons.mpr ⟨sw_strOf hcS (hts _ (sw_t4 _ (List.mem_of_getElem? (i := 110) rfl))), List.forall_mem_cons.mpr ⟨sw_strOf hcS (hts _ (sw_t4 _ (List.mem_of_getElem? (i := 118) rfl))), List.forall_mem_cons.mpr ⟨sw_strOf hcS (hts _ (sw_t4 _ (List.mem_of_getElem? (i := 141) rfl))), List.forall_mem_cons.mpr ⟨sw_strOf hcS (hts _ (sw_t4 _ (List.mem_of_getElem? (i := 150) rfl))), List.forall_mem_cons.mpr ⟨sw_strOf hcS (hts _ (sw_t3 _ (List.mem_of_getElem? (i := 156) rfl))), List.forall_mem_cons.mpr ⟨sw_strOf hcS (hts _ (sw_t4 _ (List.mem_of_getElem? (i := 102) rfl))), List.forall_mem_cons.mpr ⟨sw_strOf hcS (hts _ (sw_t2 _ (List.mem_of_getElem? (i := 109) rfl))), List.forall_mem_cons.mpr ⟨sw_strOf hcS (hts _ (sw_t2 _ (List.mem_of_getElem? (i := 149) rfl))), List.forall_mem_cons.mpr ⟨sw_strOf hcS (hts _ (sw_t2 _ (List.mem_of_getElem? (i := 171) rfl))), fun _ h => absurd h List.not_mem_nil⟩⟩⟩⟩⟩⟩⟩⟩⟩⟩⟩⟩⟩⟩⟩⟩⟩⟩⟩⟩⟩⟩⟩⟩⟩⟩⟩⟩⟩⟩
  · exact List.forall_mem_cons.mpr ⟨va_Nc.of (hg _ (by decide +kernel)), List.forall_mem_cons.mpr ⟨va_Nc.of (hg _ (by decide +kernel)), List.forall_mem_cons.mpr ⟨va_Nc.of (hg _ (by decide +kernel)), List.forall_mem_cons.mpr ⟨va_Nc.of (hg _ (by decide +kernel)), List.forall_mem_cons.mpr ⟨va_Nc.of (hg _ (by decide +kernel)), fun _ h => absurd h List.not_mem_nil⟩⟩⟩⟩⟩
  · exact List.forall_mem_cons.mpr ⟨va_Nw.of rfl (hts _ (sw_t2 _ (List.mem_of_getElem? (i := 68) rfl))), List.forall_mem_cons.mpr ⟨va_Nw.of rfl (hts _ (sw_t2 _ (List.mem_of_getElem? (i := 70) rfl))), List.forall_mem_cons.mpr ⟨va_Nw.of rfl (hts _ (sw_t2 _ (List.mem_of_getElem? (i := 72) rfl))), fun _ h => absurd h List.not_mem_nil⟩⟩⟩
  · exact List.forall_mem_cons.mpr ⟨va_Nw.of rfl (hts _ (sw_t2 _ (List.mem_of_getElem? (i := 66) rfl))), List.forall_mem_cons.mpr ⟨va_Nw.of rfl (hts _ (sw_t2 _ (List.mem_of_getElem? (i := 142) rfl))), List.forall_mem_cons.mpr ⟨va_Nw.of rfl (hts _ (sw_t2 _ (List.mem_of_getElem? (i := 183) rfl))), List.forall_mem_cons.mpr ⟨va_Nw.of rfl (hts _ (sw_t3 _ (List.mem_of_getElem? (i := 173) rfl))), List.forall_mem_cons.mpr ⟨va_Nw.of rfl (hts _ (sw_t4 _ (List.mem_of_getElem? (i := 13) rfl))), List.forall_mem_cons.mpr ⟨va_Nw.of rfl (hts _ (sw_t4 _ (List.mem_of_getElem? (i := 134) rfl))), fun _ h => absurd h List.not_mem_nil⟩⟩⟩⟩⟩⟩
set_option maxRecDepth 100000 in
theorem sw_Z0 {s : State} {args : Array Value} (hts : ∀ w ∈ lw_tbl, w.before args s = true) (hgv : (Jvm.Cond.and given_1 narrow_1).before args s = true) : sm_Z (sw_A s) s s.heap := by
  have hg := flat_of_before _ hgv
  have hA : ∀ a : Nat, a < s.heap.size → ¬ sw_A s a := fun a h => Nat.not_le.mpr h
  have hU : vx_Zq Bundle.tN "UNASSIGNED_STACK" Bundle.steD (sw_A s) s s.heap := vx_Zqof (hts _ (sw_t2 _ (List.mem_of_getElem? (i := 91) rfl))) (hts _ (sw_t1 _ (List.mem_of_getElem? (i := 9) rfl))) (hg _ (by decide +kernel)) hA
  have hS : vx_Zq Bundle.tN "SUPPRESSED_SENTINEL" Bundle.listD (sw_A s) s s.heap := vx_Zqof (hts _ (sw_t2 _ (List.mem_of_getElem? (i := 93) rfl))) (hts _ (sw_t1 _ (List.mem_of_getElem? (i := 9) rfl))) (hg _ (by decide +kernel)) hA
  exact ⟨hU, hS⟩
