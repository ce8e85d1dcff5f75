-- the calls, one after the other: what class and model answer, and that they stay side by side
theorem isIn_no {v a b : Int32} (h : v < a ∨ b < v) : F_M_isIn v a b = 0 := by
  unfold F_M_isIn
  rcases h with h | h
  · rw [if_pos h]
  · by_cases c : v < a
    · rw [if_pos c]
    · rw [if_neg c, if_pos h]
theorem le_of_nlt {a b : Int32} (h : ¬ a < b) : b ≤ a := by rw [i_lt] at h; rw [i_le]; omega
theorem isIn_yes {v a b : Int32} (h1 : ¬ v < a) (h2 : v ≤ b) : F_M_isIn v a b = 1 := isIn_mk ⟨le_of_nlt h1, h2⟩
theorem rng_nat {v : Int32} {b : Nat} (hb : b < 2 ^ 31) (h1 : ¬ v < 0) (h2 : v ≤ nI b) : ∃ k : Nat, k ≤ b ∧ v = nI k := by
  obtain ⟨k, hk, e⟩ := i_nat (x := v) (n := b + 1) h1 (by rw [i_le, nI_toInt hb] at h2; omega)
  exact ⟨k, by omega, e⟩
section
variable {R G n : Nat} {nt nf : Int32} {fc : Nat → Int32} {nr : Int32} {fw fb : Nat → Int32} {ng : Int32} {gR gW gT gS gJ gY eh ew el ep en : Nat → Int32}
theorem cell_no {x y : Int32} (h : x < 0 ∨ 9 < x ∨ y < 0 ∨ 4 < y) : F_M_isCell x y = 0 := by
  unfold F_M_isCell
  by_cases c : F_M_isIn x 0 9 = 0
  · rw [if_pos c]
  · rw [if_neg c, isIn_no (v := y), if_pos rfl]
    rcases h with h | h | h | h
    · exact absurd (isIn_no (Or.inl h)) c
    · exact absurd (isIn_no (Or.inr h)) c
    · exact Or.inl h
    · exact Or.inr h
theorem cell_yes {x y : Int32} (h1 : ¬ x < 0) (h2 : x ≤ 9) (h3 : ¬ y < 0) (h4 : y ≤ 4) : F_M_isCell x y = 1 ∧ ∃ a b : Nat, a < 10 ∧ b < 5 ∧ x = nI a ∧ y = nI b := by
  unfold F_M_isCell
  rw [isIn_yes h1 h2, isIn_yes h3 h4]
  obtain ⟨a, ha, e⟩ := rng_nat (b := 9) (by omega) h1 h2
  obtain ⟨b, hb, e2⟩ := rng_nat (b := 4) (by omega) h3 h4
  exact ⟨by decide, a, b, by omega, by omega, e, e2⟩
theorem o_cell_bad {x y : Int32} (h : x < 0 ∨ 9 < x ∨ y < 0 ∨ 4 < y) : F_M_cell eh x y = (0, 1) := by
  unfold F_M_cell F_M_fail
  rw [cell_no h, if_pos rfl]
theorem o_cell (h : Rel R G n nt nf fc nr fw fb ng gR gW gT gS gJ gY eh ew el ep en) {x y : Int32} (h1 : ¬ x < 0) (h2 : x ≤ 9) (h3 : ¬ y < 0) (h4 : y ≤ 4) : F_M_cell eh x y = (F_X4_cell fc x y, 0) := by
  obtain ⟨-, -, -, -, -, -, -, hH, -⟩ := h
  obtain ⟨c, a, b, ha, hb, rfl, rfl⟩ := cell_yes h1 h2 h3 h4
  unfold F_M_cell F_X4_cell
  rw [c, if_neg (by decide), at_in ha hb, ten_mul, nI_clamp (by omega), (hH _ (by omega)).1]
theorem o_swarm_bad1 {x y many : Int32} (h : x < 0 ∨ 9 < x ∨ y < 0 ∨ 4 < y) : F_M_swarm eh x y many = (0, 1, eh) := by
  unfold F_M_swarm F_M_fail
  rw [cell_no h, if_pos rfl]
theorem o_swarm_bad2 {x y many : Int32} (h1 : ¬ x < 0) (h2 : x ≤ 9) (h3 : ¬ y < 0) (h4 : y ≤ 4) (h : many < 0 ∨ 40 < many) : F_M_swarm eh x y many = (0, 2, eh) := by
  unfold F_M_swarm F_M_fail
  rw [(cell_yes h1 h2 h3 h4).1, if_neg (by decide), isIn_no h, if_pos rfl]
theorem o_swarm (h : Rel R G n nt nf fc nr fw fb ng gR gW gT gS gJ gY eh ew el ep en) {x y many : Int32} (h1 : ¬ x < 0) (h2 : x ≤ 9) (h3 : ¬ y < 0) (h4 : y ≤ 4) (h5 : ¬ many < 0) (h6 : many ≤ 40) :
    (F_M_swarm eh x y many).1 = (F_X4_swarm fc x y many).1 ∧ (F_M_swarm eh x y many).2.1 = 0 ∧ Rel R G n nt nf (F_X4_swarm fc x y many).2 nr fw fb ng gR gW gT gS gJ gY (F_M_swarm eh x y many).2.2 ew el ep en := by
  obtain ⟨hR, hG, a1, a2, a3, a4, a5, hH, hr, hg⟩ := h
  obtain ⟨c, a, b, ha, hb, rfl, rfl⟩ := cell_yes h1 h2 h3 h4
  obtain ⟨v, hv, rfl⟩ := rng_nat (b := 40) (by omega) h5 h6
  unfold F_M_swarm F_X4_swarm
  rw [c, if_neg (by decide), isIn_yes h5 h6, if_neg (by decide), at_in ha hb, put_in ha hb, ten_mul, nI_clamp (by omega)]
  refine ⟨((hH _ (by omega)).1).symm, rfl, hR, hG, a1, a2, a3, a4, a5, ?_, hr, hg⟩
  dsimp only
  rw [show (40 : Int32) = nI 40 from rfl, mn_n (by omega) (by omega), Nat.min_eq_left hv]
  exact hH.upd _ hv rfl rfl
theorem o_open_bad1 {x : Int32} (h : x < 0 ∨ 9 < x) : F_M_open ew el R x = (0, 1, nI R, ew, el) := by
  unfold F_M_open F_M_fail
  rw [isIn_no h, if_pos rfl]
theorem full3 (hR : R ≤ 6) : (F_X3_isFull (nI R) = 0 ↔ R < 6) := by
  unfold F_X3_isFull
  by_cases c : R < 6
  · rw [if_pos (show nI R < 6 from nI_lt (b := 6) c (by omega))]
    exact ⟨fun _ => c, fun _ => rfl⟩
  · rw [if_neg (show ¬ nI R < 6 from nI_nlt (b := 6) (by omega) (by omega))]
    exact ⟨fun q => absurd q (by decide), fun q => absurd q c⟩
theorem o_open_bad2 (h : Rel R G n nt nf fc nr fw fb ng gR gW gT gS gJ gY eh ew el ep en) {x : Int32} (h1 : ¬ x < 0) (h2 : x ≤ 9) (hf : ¬ F_X3_isFull nr = 0) : F_M_open ew el R x = (0, 2, nI R, ew, el) := by
  obtain ⟨hR, -, rfl, -⟩ := h
  have e : R = 6 := by have : ¬ R < 6 := fun q => hf ((full3 hR).mpr q); omega
  subst e
  unfold F_M_open F_M_fail
  rw [isIn_yes h1 h2, if_neg (by decide), if_pos (by rfl)]
theorem o_open (h : Rel R G n nt nf fc nr fw fb ng gR gW gT gS gJ gY eh ew el ep en) {x : Int32} (h1 : ¬ x < 0) (h2 : x ≤ 9) (hf : F_X3_isFull nr = 0) :
    R < 6 ∧ F_M_open ew el R x = ((F_X4_open nr fw fb x).1, 0, nI (R + 1), upd ew R x, upd el R 1) ∧ Rel (R + 1) G n nt nf fc (F_X4_open nr fw fb x).2.1 (F_X4_open nr fw fb x).2.2.1 (F_X4_open nr fw fb x).2.2.2 ng gR gW gT gS gJ gY eh (upd ew R x) (upd el R 1) ep en := by
  obtain ⟨hR, hG, rfl, a2, a3, a4, a5, hH, hr, hg⟩ := h
  have hR6 := (full3 hR).mp hf
  have eC : F_X4_open (nI R) fw fb x = (nI R, nI (R + 1), upd fw R x, upd fb R 1) := by
    unfold F_X4_open F_X3_add
    rw [if_neg (nI_pos (by omega)), if_neg (show ¬ (6 : Int32) ≤ nI R from nI_ge (b := 6) hR6 (by omega)), nI_clamp (by omega), nI_1]
    rfl
  refine ⟨hR6, ?_, ?_⟩
  · unfold F_M_open
    rw [isIn_yes h1 h2, if_neg (by decide), if_neg (show ¬ nI R = 6 from fun q => by have := (nI_eq (b := 6) (by omega) (by omega)).mp q; omega), nI_pred, eC]
  · rw [eC]
    obtain ⟨w, hw, ew0⟩ := rng_nat (b := 9) (by omega) h1 h2
    refine ⟨by omega, hG, rfl, a2, a3, a4, a5, hH, fun j hj => ?_, fun g hg9 => ?_⟩
    · dsimp only
      by_cases e : j = R
      · subst e
        rw [pk_us, pk_us, pk_us, pk_us]
        exact ⟨fun _ => ⟨rfl, ⟨w, by omega, ew0⟩, rfl, Or.inr rfl⟩, fun q => absurd q (by omega)⟩
      · rw [pk_un e, pk_un e, pk_un e, pk_un e]
        exact ⟨fun q => (hr j hj).1 (by omega), fun q => (hr j hj).2 (by omega)⟩
    · obtain ⟨b1, b2⟩ := hg g hg9
      refine ⟨fun q => ?_, b2⟩
      obtain ⟨c1, ⟨r, hr9, c2⟩, c3⟩ := b1 q
      exact ⟨c1, ⟨r, by omega, c2⟩, c3⟩
theorem room_no (hR : R ≤ 6) {r : Int32} (h : F_X3_has (nI R) r = 0) : F_M_isRoom R r = 0 := by
  by_cases c : F_M_isRoom R r = 0
  · exact c
  · obtain ⟨k, hk, rfl⟩ := room_in hR c
    rw [has3 hR hk] at h
    exact absurd h (by decide)
theorem room_yes (hR : R ≤ 6) {r : Int32} (h : ¬ F_X3_has (nI R) r = 0) : ∃ k : Nat, k < R ∧ r = nI k := by
  unfold F_X3_has at h
  split at h
  · exact absurd rfl h
  split at h
  · exact absurd rfl h
  rename_i c1 c2
  obtain ⟨k, hk, e⟩ := i_nat (n := R) c1 (by rw [i_le, nI_toInt (by omega)] at c2; omega)
  exact ⟨k, hk, e⟩
theorem guest_no (hG : G ≤ 12) {r : Int32} (h : F_X0_has (nI G) r = 0) : F_M_isGuest G r = 0 := by
  by_cases c : F_M_isGuest G r = 0
  · exact c
  · obtain ⟨k, hk, rfl⟩ := guest_in hG c
    rw [has0 hG hk] at h
    exact absurd h (by decide)
theorem guest_yes (hG : G ≤ 12) {r : Int32} (h : ¬ F_X0_has (nI G) r = 0) : ∃ k : Nat, k < G ∧ r = nI k := by
  unfold F_X0_has at h
  split at h
  · exact absurd rfl h
  split at h
  · exact absurd rfl h
  rename_i c1 c2
  obtain ⟨k, hk, e⟩ := i_nat (n := G) c1 (by rw [i_le, nI_toInt (by omega)] at c2; omega)
  exact ⟨k, hk, e⟩
theorem o_lamp_bad (h : Rel R G n nt nf fc nr fw fb ng gR gW gT gS gJ gY eh ew el ep en) {r : Int32} (hb : F_X3_has nr r = 0) : F_M_lamp el R r = (0, 1, el) := by
  obtain ⟨hR, -, rfl, -⟩ := h
  unfold F_M_lamp
  rw [room_no hR hb, if_pos rfl]
theorem o_lamp (h : Rel R G n nt nf fc nr fw fb ng gR gW gT gS gJ gY eh ew el ep en) {r : Int32} (hb : ¬ F_X3_has nr r = 0) :
    (F_M_lamp el R r).1 = (F_X4_lamp nr fb r).1 ∧ (F_M_lamp el R r).2.1 = 0 ∧ Rel R G n nt nf fc nr fw (F_X4_lamp nr fb r).2 ng gR gW gT gS gJ gY eh ew (F_M_lamp el R r).2.2 ep en := by
  obtain ⟨hR, hG, rfl, a2, a3, a4, a5, hH, hr, hg⟩ := h
  obtain ⟨k, hk, rfl⟩ := room_yes hR hb
  have hk6 : k < 6 := by omega
  obtain ⟨c1, c2, c3, c4⟩ := (hr k hk6).1 hk
  have set (x : Int32) : F_X3_setBurning (nI R) fb (nI k) x = upd fb k (vp_nar .boolean x) := by
    unfold F_X3_setBurning
    rw [has3 hR hk, if_neg (by decide), nI_clamp (by omega)]
  have rr (x : Int32) (hx : x = 0 ∨ x = 1) : RR R fw (upd fb k x) ew (upd el k x) := fun j hj => by
    by_cases e : j = k
    · subst e
      rw [pk_us, pk_us]
      exact ⟨fun _ => ⟨c1, c2, rfl, hx⟩, fun q => absurd q (by omega)⟩
    · rw [pk_un e, pk_un e]
      exact hr j hj
  have bb (x : Int32) (hx : x = 0 ∨ x = 1) : F_X3_isBurning (nI R) (upd fb k x) (nI k) = x := by
    rw [burn_eq hR (rr x hx) hk, pk_us]
  unfold F_M_lamp F_X4_lamp
  rw [if_neg (room_ok hR hk), nI_clamp (by omega), set, set, nar0, nar1, burn_eq hR hr hk, bb 0 (Or.inl rfl), bb 1 (Or.inr rfl), pk_us]
  rcases c4 with e | e <;> rw [e]
  · rw [if_pos rfl, if_pos (by decide)]
    exact ⟨rfl, rfl, hR, hG, rfl, a2, a3, a4, a5, hH, rr 1 (Or.inr rfl), hg⟩
  · rw [if_neg (by decide), if_neg (by decide)]
    exact ⟨rfl, rfl, hR, hG, rfl, a2, a3, a4, a5, hH, rr 0 (Or.inl rfl), hg⟩
theorem o_isLit_bad {x : Int32} (h : x < 0 ∨ 9 < x) : F_M_isLit ew el R x = (0, 1) := by
  unfold F_M_isLit
  rw [isIn_no h, if_pos rfl]
theorem o_isLit (h : Rel R G n nt nf fc nr fw fb ng gR gW gT gS gJ gY eh ew el ep en) {x : Int32} (h1 : ¬ x < 0) (h2 : x ≤ 9) : F_M_isLit ew el R x = (F_X4_isLit fw fb x, 0) := by
  obtain ⟨hR, hG, a1, a2, a3, a4, a5, hH, hr, hg⟩ := h
  unfold F_M_isLit F_X4_isLit
  rw [isIn_yes h1 h2, if_neg (by decide), lit_eq hR hr]
  rcases lit_b ew el x R 0 with e | e
  · rw [show F_M_lit ew el R x = 0 from e, if_pos rfl]
  · rw [show F_M_lit ew el R x = 1 from e, if_neg (by decide)]
end
