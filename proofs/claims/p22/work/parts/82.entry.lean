-- the law's entry: the nest mates, the classes and the array classes of the worlds, out of the tables' words
theorem ne_nw {s : State} {b : Nat} (hts : ∀ w ∈ lw_tbl, w.before #[Value.ref b] s = true) : NWp s := by
  have hall : ∀ w ∈ nwL, w ∈ lw_tbl := by decide +kernel
  intro k w hk
  have hm := List.mem_of_getElem? hk
  have h0 := hts w (hall w hm)
  simp only [nwL, List.mem_cons, List.not_mem_nil, or_false] at hm
  rcases hm with rfl | rfl | rfl | rfl | rfl | rfl | rfl | rfl | rfl | rfl | rfl | rfl | rfl | rfl <;> first | exact va_Nw.of rfl h0 | exact h0
theorem ne_arr {s : State} {b : Nat} {t : FieldType} (hR : ∀ c, s.vm.findClass ("[" ++ t.toString) = some c → va_RA s c t) (h : (Cond.arrayClass t).before #[Value.ref b] s = true) : ∃ c : ClassId, ArrOfT s c t ∧ va_RA s c t := by
  obtain ⟨c, k, comp, h1, h2, h3⟩ := Cond.arrayClass_spec h
  exact ⟨c, fun n z => ⟨fun q hq => (by cases hq), k, h2, comp, h3⟩, hR c h1⟩
theorem ne_over {s : State} {b : Nat} (h : (Cond.arrayOver (.array .int)).before #[Value.ref b] s = true) : ∃ (c : ClassId) (k : _) (comp : ClassId), s.vm.classes[c]? = some k ∧ k.kind = .array comp (.array .int) ∧ s.vm.findClass ("[" ++ (FieldType.array .int).toString) = some c := by
  have h0 : (Cond.arrayOver (.array .int)).holds #[Value.ref b] s none s [] = true := h
  simp only [Cond.holds, Cond.value, beq_iff_eq] at h0
  obtain ⟨comp, -, h1⟩ := Option.bind_eq_some_iff.mp h0
  obtain ⟨c, -, h2⟩ := Option.bind_eq_some_iff.mp h1
  obtain ⟨k, hk, h3⟩ := Option.map_eq_some_iff.mp h2
  cases hd : k.kind with
  | array z t =>
    rw [hd] at h3
    simp at h3
    exact ⟨c, k, z, hk, by rw [hd, h3.1], h3.2⟩
  | _ => rw [hd] at h3; simp at h3
theorem ne_K {s : State} {b : Nat} (hts : ∀ w ∈ lw_tbl, w.before #[Value.ref b] s = true) : ∃ (D : va_G) (cy : Nat → ClassId), va_K D vwCl (TY cy) s := by
  obtain ⟨c0, i0, k0⟩ := u_known (C := RX0) (T := TX0) (N := 7) (n := 7) hts (by decide +kernel) (hts (.instantiable RX0 7) (by decide +kernel))
  obtain ⟨c1, i1, k1⟩ := u_known (C := RX1) (T := TX1) (N := 1) (n := 1) hts (by decide +kernel) (hts (.instantiable RX1 1) (by decide +kernel))
  obtain ⟨c2, i2, k2⟩ := u_known (C := RX2) (T := TX2) (N := 6) (n := 6) hts (by decide +kernel) (hts (.instantiable RX2 6) (by decide +kernel))
  obtain ⟨c3, i3, k3⟩ := u_known (C := RX3) (T := TX3) (N := 3) (n := 3) hts (by decide +kernel) (hts (.instantiable RX3 3) (by decide +kernel))
  obtain ⟨c4, i4, k4⟩ := u_known (C := RX4) (T := TX4) (N := 2) (n := 2) hts (by decide +kernel) (hts (.instantiable RX4 2) (by decide +kernel))
  obtain ⟨c5, i5, k5⟩ := u_known (C := RX5) (T := TX5) (N := 5) (n := 5) hts (by decide +kernel) (hts (.instantiable RX5 5) (by decide +kernel))
  obtain ⟨a0, x0, y0⟩ := ne_arr (t := .int) (fun c h => h) (hts (.arrayClass .int) (by decide +kernel))
  obtain ⟨a1, x1, y1⟩ := ne_arr (t := .boolean) (fun c h => h) (hts (.arrayClass .boolean) (by decide +kernel))
  obtain ⟨a3, kk, comp, x3, x4, y3⟩ := ne_over (hts (.arrayOver (.array .int)) (by decide +kernel))
  refine ⟨(fun k => match k with | 0 => c0 | 1 => c1 | 2 => c2 | 3 => c3 | 4 => c4 | _ => c5, fun k => match k with | 0 => i0 | 1 => i1 | 2 => i2 | 3 => i3 | 4 => i4 | _ => i5), fun k => match k with | 0 => a0 | 1 => a1 | 2 => a1 | _ => a3, ?_, ?_⟩
  · intro k q hq
    match k, hq with
    | 0, hq => cases hq; exact k0
    | 1, hq => cases hq; exact k1
    | 2, hq => cases hq; exact k2
    | 3, hq => cases hq; exact k3
    | 4, hq => cases hq; exact k4
    | 5, hq => cases hq; exact k5
    | k + 6, hq => simp [vwCl] at hq
  · intro k q hq
    match k, hq with
    | 0, hq => cases hq; exact ⟨x0, y0⟩
    | 1, hq => cases hq; exact ⟨x1, y1⟩
    | 2, hq => cases hq; exact ⟨x1, y1⟩
    | 3, hq => cases hq; exact ⟨fun n z => ⟨fun q hq => (by cases hq), kk, x3, comp, x4⟩, y3⟩
    | k + 4, hq => simp [TY] at hq
