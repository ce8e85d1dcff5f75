-- what is done to both: the program's answer, and the picture behind
theorem el_up (sr : Nat → Nat → Int32) (k : Nat) (v : Int32) : EL (up2 sr k 1 v) = upd (EL sr) k v := by
  funext j
  by_cases h : j = k
  · subst h
    rw [pk_us]
    exact up2_s _ _ _ _
  · rw [pk_un h]
    exact up2_j _ _ _ _ h
theorem ew_up (sr : Nat → Nat → Int32) (k : Nat) (v : Int32) : EW (up2 sr k 1 v) = EW sr := funext fun _ => up2_k _ _ _ _ (by decide)
theorem ew_push (sr : Nat → Nat → Int32) (R : Nat) (f : Nat → Int32) : EW (va_up sr R f) = upd (EW sr) R (f 0) := by
  funext j
  by_cases h : j = R
  · subst h
    rw [pk_us]
    exact congrFun (va_up_self _ _ _) 0
  · rw [pk_un h]
    exact congrFun (va_up_ne _ _ h) 0
theorem el_push (sr : Nat → Nat → Int32) (R : Nat) (f : Nat → Int32) : EL (va_up sr R f) = upd (EL sr) R (f 1) := by
  funext j
  by_cases h : j = R
  · subst h
    rw [pk_us]
    exact congrFun (va_up_self _ _ _) 1
  · rw [pk_un h]
    exact congrFun (va_up_ne _ _ h) 1
section
variable {R G n : Nat} {nf : Int32} {fc fw fb gR gW gT gS gJ gY : Nat → Int32} {sh sr sg : Nat → Nat → Int32} {sf : Int32}
theorem v_swarm (h : Rel R G n (nI n) nf fc (nI R) fw fb (nI G) gR gW gT gS gJ gY (EH sh) (EW sr) (EL sr) (EP sg) (EN (nI n) sf)) {a b v : Nat} (ha : a < 10) (hb : b < 5) (hv : v ≤ 40) :
    (F_X4_swarm fc (nI a) (nI b) (nI v)).1 = sh a b ∧ Rel R G n (nI n) nf (F_X4_swarm fc (nI a) (nI b) (nI v)).2 (nI R) fw fb (nI G) gR gW gT gS gJ gY (EH (up2 sh a b (nI v))) (EW sr) (EL sr) (EP sg) (EN (nI n) sf) := by
  have h1 : ¬ nI a < 0 := nI_pos (by omega)
  have h2 : nI a ≤ 9 := nI_le (a := a) (b := 9) (by omega) (by decide)
  have h3 : ¬ nI b < 0 := nI_pos (by omega)
  have h4 : nI b ≤ 4 := nI_le (a := b) (b := 4) (by omega) (by decide)
  have h5 : ¬ nI v < 0 := nI_pos (by omega)
  have h6 : nI v ≤ 40 := nI_le (a := v) (b := 40) hv (by decide)
  obtain ⟨e1, -, r⟩ := o_swarm h h1 h2 h3 h4 h5 h6
  have eM : F_M_swarm (EH sh) (nI a) (nI b) (nI v) = (sh a b, 0, upd (EH sh) (10 * b + a) (nI v)) := by
    unfold F_M_swarm
    rw [(cell_yes h1 h2 h3 h4).1, if_neg (by decide), isIn_yes h5 h6, if_neg (by decide), ten_mul, nI_clamp (by omega), eh_at sh ha]
  rw [eM] at e1 r
  exact ⟨e1.symm, by rw [eh_up sh ha]; exact r⟩
theorem v_lamp (h : Rel R G n (nI n) nf fc (nI R) fw fb (nI G) gR gW gT gS gJ gY (EH sh) (EW sr) (EL sr) (EP sg) (EN (nI n) sf)) {k : Nat} (hk : k < R) :
    (F_X4_lamp (nI R) fb (nI k)).1 = (if (up2 sr k 1 (1 - sr k 1)) k 1 = 1 then 1 else 0) ∧ Rel R G n (nI n) nf fc (nI R) fw (F_X4_lamp (nI R) fb (nI k)).2 (nI G) gR gW gT gS gJ gY (EH sh) (EW (up2 sr k 1 (1 - sr k 1))) (EL (up2 sr k 1 (1 - sr k 1))) (EP sg) (EN (nI n) sf) := by
  have hR := h.1
  obtain ⟨e1, -, r⟩ := o_lamp h (has3_ne hR hk)
  have eM : F_M_lamp (EL sr) R (nI k) = (if (1 - sr k 1) = 1 then 1 else 0, 0, upd (EL sr) k (1 - sr k 1)) := by
    unfold F_M_lamp
    rw [if_neg (room_ok hR hk), nI_clamp (by omega), pk_us, show EL sr k = sr k 1 from rfl]
    split <;> rfl
  rw [eM] at e1 r
  exact ⟨by rw [up2_s]; exact e1.symm, by rw [ew_up, el_up]; exact r⟩
theorem open_val (hR6 : R < 6) (x : Int32) : F_X4_open (nI R) fw fb x = (nI R, nI (R + 1), upd fw R x, upd fb R 1) := by
  unfold F_X4_open F_X3_add
  rw [if_neg (nI_pos (by omega)), if_neg (show ¬ (6 : Int32) ≤ nI R from nI_ge (b := 6) hR6 (by omega)), nI_clamp (by omega), nI_1]
  rfl
theorem v_open (h : Rel R G n (nI n) nf fc (nI R) fw fb (nI G) gR gW gT gS gJ gY (EH sh) (EW sr) (EL sr) (EP sg) (EN (nI n) sf)) {w : Nat} (hw : w < 10) (hR6 : R < 6) {f : Nat → Int32} (h0 : f 0 = nI w) (h1 : f 1 = 1) :
    Rel (R + 1) G n (nI n) nf fc (nI (R + 1)) (upd fw R (nI w)) (upd fb R 1) (nI G) gR gW gT gS gJ gY (EH sh) (EW (va_up sr R f)) (EL (va_up sr R f)) (EP sg) (EN (nI n) sf) := by
  obtain ⟨-, -, r⟩ := o_open h (x := nI w) (nI_pos (by omega)) (nI_le (a := w) (b := 9) (by omega) (by decide)) ((full3 h.1).mpr hR6)
  rw [open_val hR6] at r
  rw [ew_push, el_push, h0, h1]
  exact r
theorem v_stay (h : Rel R G n (nI n) nf fc (nI R) fw fb (nI G) gR gW gT gS gJ gY (EH sh) (EW sr) (EL sr) (EP sg) (EN (nI n) sf)) {k wh : Nat} {J : Int32} (hk : k < R) (hwh : wh < 10) (hJ : J = 0 ∨ J = 1) (hG12 : G < 12) {f : Nat → Int32} (hf : ∀ w, w < 6 → f w = rowOf (nI k) (nI wh) J w) :
    (F_X4_stay (nI G) gR gW gJ gY (nI k) (nI wh) J).1 = nI G ∧ (F_X4_stay (nI G) gR gW gJ gY (nI k) (nI wh) J).2.1 = nI (G + 1) ∧
    Rel R (G + 1) n (nI n) nf fc (nI R) fw fb (nI (G + 1)) (F_X4_stay (nI G) gR gW gJ gY (nI k) (nI wh) J).2.2.1 (F_X4_stay (nI G) gR gW gJ gY (nI k) (nI wh) J).2.2.2.1 gT gS (F_X4_stay (nI G) gR gW gJ gY (nI k) (nI wh) J).2.2.2.2.1 (F_X4_stay (nI G) gR gW gJ gY (nI k) (nI wh) J).2.2.2.2.2 (EH sh) (EW sr) (EL sr) (EP (va_up sg G f)) (EN (nI n) sf) := by
  have h1 : ¬ nI wh < 0 := nI_pos (by omega)
  have h2 : nI wh ≤ 9 := nI_le (a := wh) (b := 9) (by omega) (by decide)
  obtain ⟨-, e, r⟩ := o_stay h hJ (has3_ne h.1 hk) h1 h2 ((full0 h.2.1).mpr hG12)
  have e1 := congrArg Prod.fst e
  have eM : (F_M_stay (EP sg) R G (nI k) (nI wh) J).1 = nI G := by
    unfold F_M_stay
    rw [if_neg (room_ok h.1 hk), isIn_yes h1 h2, if_neg (by decide), if_neg (show ¬ nI G = 12 from fun q => by have := (nI_eq (b := 12) (by omega) (by omega)).mp q; omega)]
    split
    · exact nI_pred G
    · exact nI_pred G
  have e2 : (F_X4_stay (nI G) gR gW gJ gY (nI k) (nI wh) J).2.1 = nI (G + 1) := r.2.2.2.1
  rw [e2] at r
  refine ⟨e1.symm.trans eM, e2, r.mdl (fun _ _ => rfl) (fun _ _ => rfl) (fun i hi => ?_) (fun _ _ => rfl)⟩
  show (va_up sg G f) (i / 6) (i % 6) = if 6 * G ≤ i ∧ i < 6 * G + 6 then rowOf (nI k) (nI wh) J (0 + (i - 6 * G)) else sg (i / 6) (i % 6)
  by_cases c : i / 6 = G
  · rw [if_pos (by omega), c, va_up_self, hf _ (by omega), show 0 + (i - 6 * G) = i % 6 by omega]
  · rw [if_neg (by omega), va_up_ne _ _ c]
theorem v_here (h : Rel R G n (nI n) nf fc (nI R) fw fb (nI G) gR gW gT gS gJ gY (EH sh) (EW sr) (EL sr) (EP sg) (EN (nI n) sf)) {g : Nat} (hg : g < G) (h5 : ¬ sg g 5 = 1) : ¬ F_X0_isStaying (nI G) gY (nI g) = 0 := by
  obtain ⟨-, hG, -, -, -, -, -, -, -, hgg⟩ := h
  intro q
  have := (pe_left hgg hG hg).mp q
  exact h5 (by rw [← ep_at sg (g := g) (w := 5) (by omega)]; exact this)
theorem v_move (h : Rel R G n (nI n) nf fc (nI R) fw fb (nI G) gR gW gT gS gJ gY (EH sh) (EW sr) (EL sr) (EP sg) (EN (nI n) sf)) {g r : Nat} (hg : g < G) (hr : r < R) (h5 : ¬ sg g 5 = 1) :
    (F_X4_move (nI G) gR (nI g) (nI r)).1 = sg g 0 ∧ Rel R G n (nI n) nf fc (nI R) fw fb (nI G) (F_X4_move (nI G) gR (nI g) (nI r)).2 gW gT gS gJ gY (EH sh) (EW sr) (EL sr) (EP (up2 sg g 0 (nI r))) (EN (nI n) sf) := by
  obtain ⟨e1, -, q⟩ := o_move h hg hr (v_here h hg h5)
  have eM : F_M_move (EP sg) g r = (sg g 0, 0, upd (EP sg) (6 * g + 0) (nI r)) := by
    unfold F_M_move
    rw [if_neg (show ¬ F_M_pe (EP sg) g 5 = 1 by unfold F_M_pe; rw [ep_at sg (by omega)]; exact h5)]
    unfold F_M_pe F_M_put
    rw [ep_at sg (by omega)]
  rw [eM] at e1 q
  exact ⟨e1.symm, by rw [ep_up sg (by omega)]; exact q⟩
theorem v_leave (h : Rel R G n (nI n) nf fc (nI R) fw fb (nI G) gR gW gT gS gJ gY (EH sh) (EW sr) (EL sr) (EP sg) (EN (nI n) sf)) {g : Nat} (hg : g < G) (h5 : ¬ sg g 5 = 1) :
    (F_X4_leave (nI G) gS gJ gY (nI g)).1 = (up2 (up2 sg g 5 1) g 2 0) g 4 ∧ Rel R G n (nI n) nf fc (nI R) fw fb (nI G) gR gW gT gS (F_X4_leave (nI G) gS gJ gY (nI g)).2.1 (F_X4_leave (nI G) gS gJ gY (nI g)).2.2 (EH sh) (EW sr) (EL sr) (EP (up2 (up2 sg g 5 1) g 2 0)) (EN (nI n) sf) := by
  obtain ⟨e1, -, q⟩ := o_leave h hg (v_here h hg h5)
  have eP : F_M_put (F_M_put (EP sg) g 5 1) g 2 0 = EP (up2 (up2 sg g 5 1) g 2 0) := by
    rw [ep_up _ (by omega), ep_up _ (by omega)]
    rfl
  have eM : F_M_leave (EP sg) g = ((up2 (up2 sg g 5 1) g 2 0) g 4, 0, EP (up2 (up2 sg g 5 1) g 2 0)) := by
    unfold F_M_leave
    rw [if_neg (show ¬ F_M_pe (EP sg) g 5 = 1 by unfold F_M_pe; rw [ep_at sg (by omega)]; exact h5), eP]
    unfold F_M_pe
    rw [ep_at _ (by omega)]
  rw [eM] at e1 q
  exact ⟨e1.symm, q⟩
theorem v_hush (h : Rel R G n (nI n) nf fc (nI R) fw fb (nI G) gR gW gT gS gJ gY (EH sh) (EW sr) (EL sr) (EP sg) (EN (nI n) sf)) {g w : Nat} (hg : g < G) (hw : w < 10) :
    (F_X4_hush (nI G) gW (nI g) (nI w)).1 = sg g 1 ∧ Rel R G n (nI n) nf fc (nI R) fw fb (nI G) gR (F_X4_hush (nI G) gW (nI g) (nI w)).2 gT gS gJ gY (EH sh) (EW sr) (EL sr) (EP (up2 sg g 1 (nI w))) (EN (nI n) sf) := by
  have h1 : ¬ nI w < 0 := nI_pos (by omega)
  have h2 : nI w ≤ 9 := nI_le (a := w) (b := 9) (by omega) (by decide)
  obtain ⟨e1, -, q⟩ := o_hush h hg h1 h2
  have eM : F_M_hush (EP sg) g (nI w) = (sg g 1, 0, upd (EP sg) (6 * g + 1) (nI w)) := by
    unfold F_M_hush
    rw [isIn_yes h1 h2, if_neg (by decide)]
    unfold F_M_pe F_M_put
    rw [ep_at sg (by omega)]
  rw [eM] at e1 q
  exact ⟨e1.symm, by rw [ep_up sg (by omega)]; exact q⟩
end
