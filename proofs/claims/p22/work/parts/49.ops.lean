-- the calls on guests and rooms, the nights, the dark: class beside model
section
variable {R G n : Nat} {nt nf : Int32} {fc : Nat → Int32} {nr : Int32} {fw fb : Nat → Int32} {ng : Int32} {gR gW gT gS gJ gY eh ew el ep en : Nat → Int32}
theorem o_stay_bad1 (h : Rel R G n nt nf fc nr fw fb ng gR gW gT gS gJ gY eh ew el ep en) {room whisper jar : Int32} (hb : F_X3_has nr room = 0) : F_M_stay ep R G room whisper jar = (0, 1, nI G, ep) := by
  obtain ⟨hR, -, rfl, -⟩ := h
  unfold F_M_stay F_M_fail
  rw [room_no hR hb, if_pos rfl]
theorem o_stay_bad2 (h : Rel R G n nt nf fc nr fw fb ng gR gW gT gS gJ gY eh ew el ep en) {room whisper jar : Int32} (hr : ¬ F_X3_has nr room = 0) (hb : whisper < 0 ∨ 9 < whisper) : F_M_stay ep R G room whisper jar = (0, 2, nI G, ep) := by
  obtain ⟨hR, -, rfl, -⟩ := h
  obtain ⟨k, hk, rfl⟩ := room_yes hR hr
  unfold F_M_stay F_M_fail
  rw [if_neg (room_ok hR hk), isIn_no hb, if_pos rfl]
theorem full0 (hG : G ≤ 12) : (F_X0_isFull (nI G) = 0 ↔ G < 12) := by
  unfold F_X0_isFull
  by_cases c : G < 12
  · rw [if_pos (show nI G < 12 from nI_lt (b := 12) c (by omega))]
    exact ⟨fun _ => c, fun _ => rfl⟩
  · rw [if_neg (show ¬ nI G < 12 from nI_nlt (b := 12) (by omega) (by omega))]
    exact ⟨fun q => absurd q (by decide), fun q => absurd q c⟩
theorem o_stay_bad3 (h : Rel R G n nt nf fc nr fw fb ng gR gW gT gS gJ gY eh ew el ep en) {room whisper jar : Int32} (hr : ¬ F_X3_has nr room = 0) (h1 : ¬ whisper < 0) (h2 : whisper ≤ 9) (hf : ¬ F_X0_isFull ng = 0) : F_M_stay ep R G room whisper jar = (0, 3, nI G, ep) := by
  obtain ⟨hR, hG, rfl, rfl, -⟩ := h
  obtain ⟨k, hk, rfl⟩ := room_yes hR hr
  have e : G = 12 := by have : ¬ G < 12 := fun q => hf ((full0 hG).mpr q); omega
  subst e
  unfold F_M_stay F_M_fail
  rw [if_neg (room_ok hR hk), isIn_yes h1 h2, if_neg (by decide), if_pos (by rfl)]
/-- the row of a guest that has just come -/
def rowOf (room whisper jar : Int32) : Nat → Int32 := upd (upd (upd (upd (upd (upd (fun _ => 0) 0 room) 1 whisper) 2 jar) 3 0) 4 0) 5 0
theorem o_stay (h : Rel R G n nt nf fc nr fw fb ng gR gW gT gS gJ gY eh ew el ep en) {room whisper jar : Int32} (hj : jar = 0 ∨ jar = 1) (hr : ¬ F_X3_has nr room = 0) (h1 : ¬ whisper < 0) (h2 : whisper ≤ 9) (hf : F_X0_isFull ng = 0) :
    G < 12 ∧ F_M_stay ep R G room whisper jar = ((F_X4_stay ng gR gW gJ gY room whisper jar).1, 0, nI (G + 1), va_cpy (rowOf room whisper jar) ep 0 (6 * G) 6) ∧ Rel R (G + 1) n nt nf fc nr fw fb (F_X4_stay ng gR gW gJ gY room whisper jar).2.1 (F_X4_stay ng gR gW gJ gY room whisper jar).2.2.1 (F_X4_stay ng gR gW gJ gY room whisper jar).2.2.2.1 gT gS (F_X4_stay ng gR gW gJ gY room whisper jar).2.2.2.2.1 (F_X4_stay ng gR gW gJ gY room whisper jar).2.2.2.2.2 eh ew el (va_cpy (rowOf room whisper jar) ep 0 (6 * G) 6) en := by
  obtain ⟨hR, hG, rfl, rfl, a3, a4, a5, hH, hrr, hg⟩ := h
  obtain ⟨k, hk, rfl⟩ := room_yes hR hr
  have hG12 := (full0 hG).mp hf
  have nj : vp_nar .boolean jar = jar := by rcases hj with e | e <;> rw [e] <;> rfl
  have eC : F_X4_stay (nI G) gR gW gJ gY (nI k) whisper jar = (nI G, nI (G + 1), upd gR G (nI k), upd gW G whisper, upd gJ G jar, upd gY G 1) := by
    unfold F_X4_stay F_X0_add
    rw [if_neg (nI_pos (by omega)), if_neg (show ¬ (12 : Int32) ≤ nI G from nI_ge (b := 12) hG12 (by omega)), nI_clamp (by omega), nI_1, nj]
    rfl
  refine ⟨hG12, ?_, ?_⟩
  · unfold F_M_stay
    rw [if_neg (room_ok hR hk), isIn_yes h1 h2, if_neg (by decide), if_neg (show ¬ nI G = 12 from fun q => by have := (nI_eq (b := 12) (by omega) (by omega)).mp q; omega), nI_pred, eC]
    rcases hj with e | e <;> rw [e]
    · rw [if_pos rfl]; rfl
    · rw [if_neg (by decide)]; rfl
  · rw [eC]
    refine ⟨hR, by omega, rfl, rfl, a3, a4, a5, hH, hrr, fun g hg9 => ?_⟩
    have old : ∀ w, w < 6 → g ≠ G → va_cpy (rowOf (nI k) whisper jar) ep 0 (6 * G) 6 (6 * g + w) = ep (6 * g + w) := fun w hw hne => pk_cpy_out (by omega)
    have old0 : g ≠ G → va_cpy (rowOf (nI k) whisper jar) ep 0 (6 * G) 6 (6 * g) = ep (6 * g) := old 0 (by omega)
    have new : ∀ w, w < 6 → va_cpy (rowOf (nI k) whisper jar) ep 0 (6 * G) 6 (6 * G + w) = rowOf (nI k) whisper jar w := fun w hw => by rw [pk_cpy_in (by omega) (by omega)]; exact congrArg _ (by omega)
    have new0 : va_cpy (rowOf (nI k) whisper jar) ep 0 (6 * G) 6 (6 * G) = nI k := new 0 (by omega)
    dsimp only
    by_cases e : g = G
    · subst e
      rw [pk_us, pk_us, pk_us, pk_us, new0, new 1 (by omega), new 2 (by omega), new 3 (by omega), new 4 (by omega), new 5 (by omega)]
      obtain ⟨b1, b2, -⟩ := (hg g hg9).2 (Nat.le_refl _)
      exact ⟨fun _ => ⟨rfl, ⟨k, hk, rfl⟩, rfl, rfl, hj, b1, b2, Or.inl ⟨rfl, rfl⟩⟩, fun q => absurd q (by omega)⟩
    · rw [pk_un e, pk_un e, pk_un e, pk_un e, old0 e, old 1 (by omega) e, old 2 (by omega) e, old 3 (by omega) e, old 4 (by omega) e, old 5 (by omega) e]
      exact ⟨fun q => (hg g hg9).1 (by omega), fun q => (hg g hg9).2 (by omega)⟩
-- one field of a guest's row
theorem put_at (p : Nat → Int32) {g w g' w' : Nat} (hw : w < 6) (hw' : w' < 6) (x : Int32) : F_M_put p g w x (6 * g' + w') = if g' = g ∧ w' = w then x else p (6 * g' + w') := by
  show upd p (6 * g + w) x (6 * g' + w') = _
  by_cases e : g' = g ∧ w' = w
  · obtain ⟨rfl, rfl⟩ := e
    rw [pk_us, if_pos ⟨rfl, rfl⟩]
  · rw [pk_un (by omega), if_neg e]
theorem pe_left (h : RG R G gR gW gT gS gJ gY ep) (hG : G ≤ 12) {g : Nat} (hg : g < G) : (F_X0_isStaying (nI G) gY (nI g) = 0 ↔ F_M_pe ep g 5 = 1) := by
  rw [stay_b hG h hg]
  show _ ↔ ep (6 * g + 5) = 1
  rcases ((h g (by omega)).1 hg).2.2.2.2.2.2.2 with ⟨e, -⟩ | ⟨e, -⟩ <;> rw [e] <;> decide
theorem o_move_bad1 (h : Rel R G n nt nf fc nr fw fb ng gR gW gT gS gJ gY eh ew el ep en) {g r : Int32} (hb : F_X0_has ng g = 0 ∨ F_X3_has nr r = 0) : (F_M_isGuest G g = 0 ∨ F_M_isRoom R r = 0) ∧ F_M_move_bad G g = (0, 1) := by
  obtain ⟨hR, hG, rfl, rfl, -⟩ := h
  refine ⟨hb.elim (fun q => Or.inl (guest_no hG q)) (fun q => Or.inr (room_no hR q)), ?_⟩
  unfold F_M_move_bad F_M_fail
  split <;> rfl
theorem o_move_bad2 (h : Rel R G n nt nf fc nr fw fb ng gR gW gT gS gJ gY eh ew el ep en) {g r : Nat} (hg : g < G) (hb : F_X0_isStaying ng gY (nI g) = 0) : F_M_move ep g r = (0, 2, ep) := by
  obtain ⟨hR, hG, rfl, rfl, a3, a4, a5, hH, hrr, hgg⟩ := h
  unfold F_M_move F_M_fail
  rw [if_pos ((pe_left hgg hG hg).mp hb)]
theorem o_move (h : Rel R G n nt nf fc nr fw fb ng gR gW gT gS gJ gY eh ew el ep en) {g r : Nat} (hg : g < G) (hr : r < R) (hb : ¬ F_X0_isStaying ng gY (nI g) = 0) :
    (F_M_move ep g r).1 = (F_X4_move ng gR (nI g) (nI r)).1 ∧ (F_M_move ep g r).2.1 = 0 ∧ Rel R G n nt nf fc nr fw fb ng (F_X4_move ng gR (nI g) (nI r)).2 gW gT gS gJ gY eh ew el (F_M_move ep g r).2.2 en := by
  obtain ⟨hR, hG, rfl, rfl, a3, a4, a5, hH, hrr, hgg⟩ := h
  unfold F_M_move F_X4_move F_X0_setRoom
  rw [if_neg (fun q => hb ((pe_left hgg hG hg).mpr q)), room_b hG hg, has0 hG hg, if_neg (by decide), nI_clamp (by omega)]
  refine ⟨(((hgg g (by omega)).1 hg).1).symm, rfl, hR, hG, rfl, rfl, a3, a4, a5, hH, hrr, fun j hj => ?_⟩
  dsimp only
  have q0 : F_M_put ep g 0 (nI r) (6 * j) = if j = g ∧ 0 = 0 then nI r else ep (6 * j) := put_at ep (g' := j) (w' := 0) (by omega) (by omega) (nI r)
  rw [q0, put_at ep (by omega) (by omega), put_at ep (by omega) (by omega), put_at ep (by omega) (by omega), put_at ep (by omega) (by omega), put_at ep (by omega) (by omega)]
  obtain ⟨b1, b2⟩ := hgg j hj
  refine ⟨fun q => ?_, fun q => b2 q⟩
  obtain ⟨c1, c2, c3⟩ := b1 q
  rw [if_neg (show ¬ (j = g ∧ 1 = 0) by omega), if_neg (show ¬ (j = g ∧ 2 = 0) by omega), if_neg (show ¬ (j = g ∧ 3 = 0) by omega), if_neg (show ¬ (j = g ∧ 4 = 0) by omega), if_neg (show ¬ (j = g ∧ 5 = 0) by omega)]
  by_cases e : j = g
  · subst e
    rw [pk_us, if_pos ⟨rfl, rfl⟩]
    exact ⟨rfl, ⟨r, hr, rfl⟩, c3⟩
  · rw [pk_un e, if_neg (fun z => e z.1)]
    exact ⟨c1, c2, c3⟩
theorem o_leave_bad2 (h : Rel R G n nt nf fc nr fw fb ng gR gW gT gS gJ gY eh ew el ep en) {g : Nat} (hg : g < G) (hb : F_X0_isStaying ng gY (nI g) = 0) : F_M_leave ep g = (0, 2, ep) := by
  obtain ⟨hR, hG, rfl, rfl, a3, a4, a5, hH, hrr, hgg⟩ := h
  unfold F_M_leave F_M_fail
  rw [if_pos ((pe_left hgg hG hg).mp hb)]
theorem o_leave (h : Rel R G n nt nf fc nr fw fb ng gR gW gT gS gJ gY eh ew el ep en) {g : Nat} (hg : g < G) (hb : ¬ F_X0_isStaying ng gY (nI g) = 0) :
    (F_M_leave ep g).1 = (F_X4_leave ng gS gJ gY (nI g)).1 ∧ (F_M_leave ep g).2.1 = 0 ∧ Rel R G n nt nf fc nr fw fb ng gR gW gT gS (F_X4_leave ng gS gJ gY (nI g)).2.1 (F_X4_leave ng gS gJ gY (nI g)).2.2 eh ew el (F_M_leave ep g).2.2 en := by
  obtain ⟨hR, hG, rfl, rfl, a3, a4, a5, hH, hrr, hgg⟩ := h
  unfold F_M_leave F_X4_leave F_X0_sendOff F_X0_sawOf
  rw [if_neg (fun q => hb ((pe_left hgg hG hg).mpr q)), has0 hG hg, if_neg (by decide), if_neg (by decide), nI_clamp (by omega), nar0]
  have at_ : ∀ j w, w < 6 → F_M_put (F_M_put ep g 5 1) g 2 0 (6 * j + w) = if j = g ∧ w = 2 then 0 else if j = g ∧ w = 5 then 1 else ep (6 * j + w) := fun j w hw => by
    rw [put_at _ (by omega) hw, put_at _ (by omega) hw]
  refine ⟨?_, rfl, hR, hG, rfl, rfl, a3, a4, a5, hH, hrr, fun j hj => ?_⟩
  · show F_M_put (F_M_put ep g 5 1) g 2 0 (6 * g + 4) = gS g
    rw [at_ g 4 (by omega), if_neg (fun z => absurd z.2 (by decide)), if_neg (fun z => absurd z.2 (by decide)), ((hgg g (by omega)).1 hg).2.2.2.2.2.2.1]
  · dsimp only
    have q0 : F_M_put (F_M_put ep g 5 1) g 2 0 (6 * j) = ep (6 * j) := by
      have := at_ j 0 (by omega)
      rw [if_neg (fun z => absurd z.2 (by decide)), if_neg (fun z => absurd z.2 (by decide))] at this
      exact this
    obtain ⟨b1, b2⟩ := hgg j hj
    rw [q0, at_ j 1 (by omega), at_ j 2 (by omega), at_ j 3 (by omega), at_ j 4 (by omega), at_ j 5 (by omega)]
    rw [if_neg (show ¬ (j = g ∧ 1 = 2) by omega), if_neg (show ¬ (j = g ∧ 1 = 5) by omega), if_neg (show ¬ (j = g ∧ 3 = 2) by omega), if_neg (show ¬ (j = g ∧ 3 = 5) by omega), if_neg (show ¬ (j = g ∧ 4 = 2) by omega), if_neg (show ¬ (j = g ∧ 4 = 5) by omega), if_neg (show ¬ (j = g ∧ 5 = 2) by omega), if_neg (show ¬ (j = g ∧ 2 = 5) by omega)]
    by_cases e : j = g
    · subst e
      rw [pk_us, pk_us, if_pos ⟨rfl, rfl⟩, if_pos ⟨rfl, rfl⟩]
      refine ⟨fun q => ?_, fun q => absurd q (by omega)⟩
      obtain ⟨c1, c2, c3, -, -, c6, c7, -⟩ := b1 q
      exact ⟨c1, c2, c3, rfl, Or.inl rfl, c6, c7, Or.inr ⟨rfl, rfl, rfl⟩⟩
    · rw [pk_un e, pk_un e, if_neg (fun z => e z.1), if_neg (fun z => e z.1)]
      exact ⟨b1, b2⟩
theorem o_hush_bad2 {g : Nat} {whisper : Int32} (hb : whisper < 0 ∨ 9 < whisper) : F_M_hush ep g whisper = (0, 2, ep) := by
  unfold F_M_hush F_M_fail
  rw [isIn_no hb, if_pos rfl]
theorem o_hush (h : Rel R G n nt nf fc nr fw fb ng gR gW gT gS gJ gY eh ew el ep en) {g : Nat} {whisper : Int32} (hg : g < G) (h1 : ¬ whisper < 0) (h2 : whisper ≤ 9) :
    (F_M_hush ep g whisper).1 = (F_X4_hush ng gW (nI g) whisper).1 ∧ (F_M_hush ep g whisper).2.1 = 0 ∧ Rel R G n nt nf fc nr fw fb ng gR (F_X4_hush ng gW (nI g) whisper).2 gT gS gJ gY eh ew el (F_M_hush ep g whisper).2.2 en := by
  obtain ⟨hR, hG, rfl, rfl, a3, a4, a5, hH, hrr, hgg⟩ := h
  unfold F_M_hush F_X4_hush F_X0_whisperOf F_X0_setWhisper
  rw [isIn_yes h1 h2, if_neg (by decide), has0 hG hg, if_neg (by decide), if_neg (by decide), nI_clamp (by omega)]
  refine ⟨(((hgg g (by omega)).1 hg).2.2.1).symm, rfl, hR, hG, rfl, rfl, a3, a4, a5, hH, hrr, fun j hj => ?_⟩
  dsimp only
  have q0 : F_M_put ep g 1 whisper (6 * j) = ep (6 * j) := by
    have := put_at ep (g := g) (w := 1) (g' := j) (w' := 0) (by omega) (by omega) whisper
    rw [if_neg (fun z => absurd z.2 (by decide))] at this
    exact this
  rw [q0, put_at ep (by omega) (by omega), put_at ep (by omega) (by omega), put_at ep (by omega) (by omega), put_at ep (by omega) (by omega), put_at ep (by omega) (by omega)]
  obtain ⟨b1, b2⟩ := hgg j hj
  refine ⟨fun q => ?_, fun q => b2 q⟩
  obtain ⟨c1, c2, c3, c4⟩ := b1 q
  rw [if_neg (show ¬ (j = g ∧ 2 = 1) by omega), if_neg (show ¬ (j = g ∧ 3 = 1) by omega), if_neg (show ¬ (j = g ∧ 4 = 1) by omega), if_neg (show ¬ (j = g ∧ 5 = 1) by omega)]
  by_cases e : j = g
  · subst e
    rw [pk_us, if_pos ⟨rfl, rfl⟩]
    exact ⟨c1, c2, rfl, c4⟩
  · rw [pk_un e, if_neg (fun z => e z.1)]
    exact ⟨c1, c2, c3, c4⟩
theorem o_pass (h : Rel R G n nt nf fc nr fw fb ng gR gW gT gS gJ gY eh ew el ep en) (fl eb : Nat → Int32) {nn : Nat} (hn : n + nn < 2 ^ 31) :
    (F_M_pass eh ew el ep en eb R G nn).1 = (F_X4_pass nt nf fc nr fw fb ng gR gW gT gS gJ gY fl nn).1 ∧ (F_M_pass eh ew el ep en eb R G nn).2.1 = 0 ∧ Rel R G (n + nn) (F_X4_pass nt nf fc nr fw fb ng gR gW gT gS gJ gY fl nn).2.1 (F_X4_pass nt nf fc nr fw fb ng gR gW gT gS gJ gY fl nn).2.2.1 (F_X4_pass nt nf fc nr fw fb ng gR gW gT gS gJ gY fl nn).2.2.2.1 nr fw fb ng gR gW (F_X4_pass nt nf fc nr fw fb ng gR gW gT gS gJ gY fl nn).2.2.2.2.1 (F_X4_pass nt nf fc nr fw fb ng gR gW gT gS gJ gY fl nn).2.2.2.2.2.1 (F_X4_pass nt nf fc nr fw fb ng gR gW gT gS gJ gY fl nn).2.2.2.2.2.2.1 gY (F_M_pass eh ew el ep en eb R G nn).2.2.1 ew el (F_M_pass eh ew el ep en eb R G nn).2.2.2.1 (F_M_pass eh ew el ep en eb R G nn).2.2.2.2.1 := by
  obtain ⟨q1, q2⟩ := nights_eq (eb := eb) (fl := fl) hn h
  unfold F_M_pass F_X4_pass F_X2_goThrough F_M_nightsOn
  dsimp only
  exact ⟨q1.symm, rfl, q2⟩
end
