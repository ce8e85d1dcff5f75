theorem aside_rng (ew el : Nat → Int32) (R : Nat) {k : Nat} (hk : k < 10) (h : ¬ F_X5_aside ew el R (nI k) = -1) : ∃ j : Nat, j < 10 ∧ F_X5_aside ew el R (nI k) = nI j := by
  unfold F_X5_aside at h ⊢
  have up : ¬ (9 : Int32) ≤ nI k → ∃ j : Nat, j < 10 ∧ nI k + 1 = nI j := fun c => ⟨k + 1, by have := nlt_of (n := 9) c (by omega) (by omega); omega, nI_1 k⟩
  have dn : ¬ nI k ≤ 0 → ∃ j : Nat, j < 10 ∧ nI k - 1 = nI j := fun c => by
    cases k with
    | zero => exact absurd (by decide) c
    | succ k => exact ⟨k, by omega, nI_pred k⟩
  by_cases c1 : nI k ≤ 0
  · rw [if_pos c1] at h ⊢
    by_cases c2 : 9 ≤ nI k
    · rw [if_pos c2] at h; exact absurd rfl h
    · rw [if_neg c2] at h ⊢
      by_cases c3 : F_X5_lit ew el R (nI k + 1) = 0
      · rw [if_pos c3]; exact up c2
      · rw [if_neg c3] at h; exact absurd rfl h
  · rw [if_neg c1] at h ⊢
    by_cases c4 : F_X5_lit ew el R (nI k - 1) = 0
    · rw [if_pos c4]; exact dn c1
    · rw [if_neg c4] at h ⊢
      by_cases c2 : 9 ≤ nI k
      · rw [if_pos c2] at h; exact absurd rfl h
      · rw [if_neg c2] at h ⊢
        by_cases c3 : F_X5_lit ew el R (nI k + 1) = 0
        · rw [if_pos c3]; exact up c2
        · rw [if_neg c3] at h; exact absurd rfl h
