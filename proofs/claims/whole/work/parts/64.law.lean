theorem nor_rng {x lo hi : Int32} (h : ¬ (x < lo ∨ hi < x)) : ¬ x < lo ∧ x ≤ hi := ⟨fun q => h (Or.inl q), le_of_nlt (fun q => h (Or.inr q))⟩
theorem nights_nat {v : Int32} {b : Nat} (hb : b < 2 ^ 31) (h1 : ¬ v < 1) (h2 : v ≤ nI b) : ∃ k : Nat, 1 ≤ k ∧ k ≤ b ∧ v = nI k := by
  have e1 : (1 : Int32).toInt = 1 := rfl
  have e0 : (0 : Int32).toInt = 0 := rfl
  obtain ⟨k, hk, e⟩ := rng_nat hb (fun q => h1 (by rw [i_lt] at q ⊢; omega)) h2
  refine ⟨k, Nat.pos_of_ne_zero (fun z => h1 ?_), hk, e⟩
  rw [e, z]
  decide
theorem lamp_b {R G n : Nat} {nt nf : Int32} {fc : Nat → Int32} {nr : Int32} {fw fb : Nat → Int32} {ng : Int32} {gR gW gT gS gJ gY eh ew el ep en : Nat → Int32} (h : Rel R G n nt nf fc nr fw fb ng gR gW gT gS gJ gY eh ew el ep en) {r : Int32} (hb : ¬ F_X3_has nr r = 0) : (F_X5_lamp el R r).1 = 0 ∨ (F_X5_lamp el R r).1 = 1 := by
  obtain ⟨hR, hG, e, -, -, -, -, -, hr, -⟩ := h
  rw [e] at hb
  obtain ⟨k, hk, rfl⟩ := room_yes hR hb
  unfold F_X5_lamp
  rw [if_neg (room_ok hR hk), nI_clamp (by omega)]
  rcases ((hr k (by omega)).1 hk).2.2.2 with e | e <;> rw [e]
  · exact Or.inr (by rw [if_pos (show upd el k (1 - 0) k = 1 by rw [pk_us]; decide)])
  · exact Or.inl (by rw [if_neg (show ¬ upd el k (1 - 1) k = 1 by rw [pk_us]; decide)])
theorem lit_b1 {R G n : Nat} {nt nf : Int32} {fc : Nat → Int32} {nr : Int32} {fw fb : Nat → Int32} {ng : Int32} {gR gW gT gS gJ gY eh ew el ep en : Nat → Int32} (h : Rel R G n nt nf fc nr fw fb ng gR gW gT gS gJ gY eh ew el ep en) {x : Int32} (h1 : ¬ x < 0) (h2 : x ≤ 9) : (F_X5_isLit ew el R x).1 = 0 ∨ (F_X5_isLit ew el R x).1 = 1 := by
  unfold F_X5_isLit
  rw [isIn_yes h1 h2, if_neg (by decide)]
  rcases lit_b ew el x R 0 with e | e
  · exact Or.inl (by rw [if_pos (show F_X5_lit ew el R x = 0 from e)])
  · exact Or.inr (by rw [if_neg (by rw [show F_X5_lit ew el R x = 1 from e]; decide)])
