-- the law's entry: what a throw and the nest mates want, out of the tables' words and of what is given
section
variable {s : State} {b : Nat}
theorem ne_nw (hts : ∀ w ∈ lw_tbl, w.before #[Value.ref b] s = true) : NWp s := by
  have hall : ∀ w ∈ nwL, w ∈ lw_tbl := by decide +kernel
  intro k w hk
  have hm := List.mem_of_getElem? hk
  have h0 := hts w (hall w hm)
  simp only [nwL, List.mem_cons, List.not_mem_nil, or_false] at hm
  rcases hm with rfl | rfl | rfl | rfl | rfl | rfl | rfl | rfl | rfl | rfl | rfl | rfl | rfl | rfl | rfl | rfl | rfl <;> first | exact va_Nw.of rfl h0 | exact h0
theorem ne_nc (hgv : (Jvm.Cond.and given_1 narrow_1).before #[Value.ref b] s = true) : NCp s := by
  have hs := flat_of_before _ hgv
  intro k q hk
  have hm := List.mem_of_getElem? hk
  simp only [ncL, List.mem_cons, List.not_mem_nil, or_false] at hm
  rcases hm with rfl | rfl | rfl | rfl | rfl | rfl <;> exact va_Nc.of (hs _ (by decide +kernel))
theorem ne_xz (hts : ∀ w ∈ lw_tbl, w.before #[Value.ref b] s = true) (hgv : (Jvm.Cond.and given_1 narrow_1).before #[Value.ref b] s = true) {A : Nat → Prop} (hA : ∀ a : Nat, a < s.heap.size → ¬ A a) : XZ A s s.heap := by
  have hs := flat_of_before _ hgv
  exact ⟨vx_Zqof (hts _ (by decide +kernel)) (hts _ (by decide +kernel)) (hs _ (by decide +kernel)) hA, vx_Zqof (hts _ (by decide +kernel)) (hts _ (by decide +kernel)) (hs _ (by decide +kernel)) hA⟩
theorem ne_sr (hts : ∀ w ∈ lw_tbl, w.before #[Value.ref b] s = true) (hgv : (Jvm.Cond.and given_1 narrow_1).before #[Value.ref b] s = true) : SRp s := by
  have hs := flat_of_before _ hgv
  constructor
  · intro k q hk
    have hm := List.mem_of_getElem? hk
    have key : ∀ (j : Nat) (tx : String), (Cond.stringRef RX4 j tx).before #[Value.ref b] s = true → (Cond.exactly (Term.string RX4 j) "java/lang/String").before #[Value.ref b] s = true → ∃ a : Nat, vk_R RX4 j tx a s := fun j tx h1 h2 => by
      obtain ⟨a, c, cell, kk, h3, -⟩ := Cond.exactly_spec h2
      exact ⟨a, vk_R.of h1 h3⟩
    simp only [strL, List.mem_cons, List.not_mem_nil, or_false] at hm
    rcases hm with rfl | rfl | rfl | rfl | rfl | rfl | rfl <;> exact key _ _ (hts _ (by decide +kernel)) (hs _ (by decide +kernel))
  · intro w hw
    have hall : ∀ w ∈ dcL, w ∈ lw_tbl := by decide +kernel
    have h0 := hts w (hall w hw)
    simp only [dcL, List.mem_cons, List.not_mem_nil, or_false] at hw
    rcases hw with rfl | rfl | rfl <;> exact va_Nw.of rfl h0
end
