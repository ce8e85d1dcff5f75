-- room, guest, count, digest, mean: what is answered
section
variable {R G n : Nat} {nt nf : Int32} {fc : Nat → Int32} {nr : Int32} {fw fb : Nat → Int32} {ng : Int32} {gR gW gT gS gJ gY eh ew el ep en : Nat → Int32}
theorem o_room_bad1 (h : Rel R G n nt nf fc nr fw fb ng gR gW gT gS gJ gY eh ew el ep en) {room : Int32} (hb : F_X3_has nr room = 0) : F_M_isRoom R room = 0 ∧ F_M_room_bad = (0, 1) := by
  obtain ⟨hR, -, rfl, -⟩ := h
  exact ⟨room_no hR hb, rfl⟩
theorem o_room_bad2 {r : Nat} {what : Int32} (hb : what < 0 ∨ 4 < what) : F_M_room ew el ep G r what = (0, 1) := by
  unfold F_M_room F_M_fail
  rw [isIn_no hb, if_pos rfl]
theorem o_room (h : Rel R G n nt nf fc nr fw fb ng gR gW gT gS gJ gY eh ew el ep en) {r : Nat} {what : Int32} (hr : r < R) (h1 : ¬ what < 0) (h2 : what ≤ 4) : F_M_room ew el ep G r what = (F_X4_room nr fw fb gR gW gJ gY (nI r) what, 0) := by
  obtain ⟨hR, hG, rfl, rfl, a3, a4, a5, hH, hrr, hg⟩ := h
  obtain ⟨w, hw, rfl⟩ := rng_nat (b := 4) (by omega) h1 h2
  unfold F_M_room F_X4_room
  rw [isIn_yes h1 h2, if_neg (by decide), told_eq hR hG hrr hg hr (by omega)]
theorem o_guest_bad (h : Rel R G n nt nf fc nr fw fb ng gR gW gT gS gJ gY eh ew el ep en) {g what : Int32} (hb : F_X0_has ng g = 0 ∨ what < 0 ∨ 5 < what) : (F_M_isGuest G g = 0 ∨ F_M_isIn what 0 5 = 0) ∧ F_M_guest_bad G g = (0, 1) := by
  obtain ⟨hR, hG, rfl, rfl, -⟩ := h
  refine ⟨hb.elim (fun q => Or.inl (guest_no hG q)) (fun q => Or.inr (isIn_no q)), ?_⟩
  unfold F_M_guest_bad F_M_fail
  split <;> rfl
theorem o_guest (h : Rel R G n nt nf fc nr fw fb ng gR gW gT gS gJ gY eh ew el ep en) {g w : Nat} (hg : g < G) (hw : w < 6) : F_M_guest ep g w = (F_X4_guest ng gR gW gT gS gJ gY (nI g) (nI w), 0) := by
  obtain ⟨hR, hG, rfl, rfl, a3, a4, a5, hH, hrr, hgg⟩ := h
  unfold F_M_guest F_X4_guest
  rw [tell_eq hG hgg hg hw]
theorem o_count_bad {what : Int32} (hb : what < 0 ∨ 8 < what) : F_M_count eh ew el ep en R G what = (0, 1) := by
  unfold F_M_count F_M_fail
  rw [isIn_no hb, if_pos rfl]
theorem o_count (h : Rel R G n nt nf fc nr fw fb ng gR gW gT gS gJ gY eh ew el ep en) (hn : n < 2 ^ 31) {what : Int32} (h1 : ¬ what < 0) (h2 : what ≤ 8) : F_M_count eh ew el ep en R G what = (F_X4_count nt nf fc nr fw fb gJ gY what, 0) := by
  obtain ⟨w, hw, rfl⟩ := rng_nat (b := 8) (by omega) h1 h2
  unfold F_M_count F_X4_count
  rw [isIn_yes h1 h2, if_neg (by decide), count_eq hn h (by omega)]
theorem o_leave_bad1 (h : Rel R G n nt nf fc nr fw fb ng gR gW gT gS gJ gY eh ew el ep en) {g : Int32} (hb : F_X0_has ng g = 0) : F_M_isGuest G g = 0 := by
  obtain ⟨hR, hG, rfl, rfl, -⟩ := h
  exact guest_no hG hb
/-- at the start: no rooms, no guests, nothing in the hedge -/
theorem Rel.start {fc fw fb gR gW gT gS gJ gY eh ew el ep en : Nat → Int32} (h1 : ∀ i, i < 50 → fc i = 0) (h2 : ∀ i, i < 50 → eh i = 0) (h3 : ∀ j, j < 6 → fb j = 0) (h4 : ∀ g, g < 12 → gT g = 0 ∧ gS g = 0 ∧ gJ g = 0 ∧ gY g = 0) (h5 : en 0 = 0) (h6 : en 1 = 0) : Rel 0 0 0 0 0 fc 0 fw fb 0 gR gW gT gS gJ gY eh ew el ep en :=
  ⟨by omega, by omega, rfl, rfl, rfl, h5, h6, fun i hi => ⟨(h1 i hi).trans (h2 i hi).symm, 0, by omega, h2 i hi⟩, fun j hj => ⟨fun q => absurd q (Nat.not_lt_zero _), fun _ => h3 j hj⟩, fun g hg => ⟨fun q => absurd q (Nat.not_lt_zero _), fun _ => h4 g hg⟩⟩
end
