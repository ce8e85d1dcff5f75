-- the advice and the harm: class beside model
section
variable {R G n : Nat} {nt nf : Int32} {fc : Nat → Int32} {nr : Int32} {fw fb : Nat → Int32} {ng : Int32} {gR gW gT gS gJ gY eh ew el ep en : Nat → Int32}
theorem Rel.lampoff (h : Rel R G n nt nf fc nr fw fb ng gR gW gT gS gJ gY eh ew el ep en) {j : Nat} (hj : j < R) : Rel R G n nt nf fc nr fw (F_X3_setBurning nr fb (nI j) 0) ng gR gW gT gS gJ gY eh ew (upd el j 0) ep en := by
  obtain ⟨hR, hG, rfl, a2, a3, a4, a5, hH, hr, hg⟩ := h
  have e : F_X3_setBurning (nI R) fb (nI j) 0 = upd fb j 0 := by
    unfold F_X3_setBurning
    rw [has3 hR hj, if_neg (by decide), nI_clamp (by omega)]
    rfl
  rw [e]
  refine ⟨hR, hG, rfl, a2, a3, a4, a5, hH, fun i hi => ?_, hg⟩
  by_cases q : i = j
  · subst q
    rw [pk_us, pk_us]
    obtain ⟨b1, b2, -⟩ := (hr i hi).1 hj
    exact ⟨fun _ => ⟨b1, b2, rfl, Or.inl rfl⟩, fun _ => rfl⟩
  · rw [pk_un q, pk_un q]
    exact hr i hi
theorem Rel.jaroff (h : Rel R G n nt nf fc nr fw fb ng gR gW gT gS gJ gY eh ew el ep en) {j : Nat} (hj : j < G) : Rel R G n nt nf fc nr fw fb ng gR gW gT gS (F_X0_dropJar ng gJ (nI j)) gY eh ew el (F_X5_put ep j 2 0) en := by
  obtain ⟨hR, hG, a1, rfl, a3, a4, a5, hH, hr, hg⟩ := h
  have e : F_X0_dropJar (nI G) gJ (nI j) = upd gJ j 0 := by
    unfold F_X0_dropJar
    rw [has0 hG hj, if_neg (by decide), nI_clamp (by omega)]
    rfl
  rw [e]
  refine ⟨hR, hG, a1, rfl, a3, a4, a5, hH, hr, fun i hi => ?_⟩
  have q0 : F_X5_put ep j 2 0 (6 * i) = ep (6 * i) := by
    have := put_at ep (g := j) (w := 2) (g' := i) (w' := 0) (by omega) (by omega) 0
    rw [if_neg (show ¬ (i = j ∧ 0 = 2) by omega)] at this
    exact this
  rw [q0, put_at ep (by omega) (by omega), put_at ep (by omega) (by omega), put_at ep (by omega) (by omega), put_at ep (by omega) (by omega), put_at ep (by omega) (by omega)]
  rw [if_neg (show ¬ (i = j ∧ 1 = 2) by omega), if_neg (show ¬ (i = j ∧ 3 = 2) by omega), if_neg (show ¬ (i = j ∧ 4 = 2) by omega), if_neg (show ¬ (i = j ∧ 5 = 2) by omega)]
  obtain ⟨b1, b2⟩ := hg i hi
  by_cases q : i = j
  · subst q
    rw [pk_us, if_pos ⟨rfl, rfl⟩]
    refine ⟨fun _ => ?_, fun z => absurd z (by omega)⟩
    obtain ⟨c1, c2, c3, -, -, c6, c7, c8⟩ := b1 hj
    refine ⟨c1, c2, c3, rfl, Or.inl rfl, c6, c7, ?_⟩
    rcases c8 with z | ⟨z1, z2, -⟩
    · exact Or.inl z
    · exact Or.inr ⟨z1, z2, rfl⟩
  · rw [pk_un q, if_neg (show ¬ (i = j ∧ 2 = 2) by omega)]
    exact ⟨b1, b2⟩
theorem i_nle {a b : Int32} : ¬ a ≤ b ↔ b < a := by rw [i_le, i_lt]; omega
set_option maxHeartbeats 4000000 in
theorem o_advise (h : Rel R G n nt nf fc nr fw fb ng gR gW gT gS gJ gY eh ew el ep en) (fcz fwz fbz gRz gWz gTz gSz gJz gYz flz eb : Nat → Int32) {nn : Nat} (hn : n + nn < 2 ^ 31) :
    (F_X5_advise eh ew el ep en eb R G nn).1 = (F_X4_advise nt nf fc nr fw fb ng gR gW gT gS gJ gY fcz fwz fbz gRz gWz gTz gSz gJz gYz flz nn).1 ∧ (F_X5_advise eh ew el ep en eb R G nn).2.1 = 0 ∧ Rel R G n nt nf fc nr fw fb ng gR gW gT gS gJ gY (F_X5_advise eh ew el ep en eb R G nn).2.2.1 ew (F_X5_advise eh ew el ep en eb R G nn).2.2.2.1 (F_X5_advise eh ew el ep en eb R G nn).2.2.2.2.1 (F_X5_advise eh ew el ep en eb R G nn).2.2.2.2.2.1 := by
  have key : (I_X4_advise_32 nt nf fc nr fw fb ng gR gW gT gS gJ gY fcz fwz fbz gRz gWz gTz gSz gJz gYz flz nn).1 = (I_X5_advise_43 eh ew el ep en eb R G nn).2.1 ∧ (I_X4_advise_32 nt nf fc nr fw fb ng gR gW gT gS gJ gY fcz fwz fbz gRz gWz gTz gSz gJz gYz flz nn).2.1 = (I_X5_advise_43 eh ew el ep en eb R G nn).1 ∧ Rel R G n nt nf fc nr fw fb ng gR gW gT gS gJ gY (I_X5_advise_43 eh ew el ep en eb R G nn).2.2.1 ew (I_X5_advise_43 eh ew el ep en eb R G nn).2.2.2.1 (I_X5_advise_43 eh ew el ep en eb R G nn).2.2.2.2.1 (I_X5_advise_43 eh ew el ep en eb R G nn).2.2.2.2.2.1 := by
    have hR := h.1
    have h1 := h.2.2.1
    unfold I_X4_advise_32 I_X5_advise_43
    rw [it_cut (G := R) (N := 6) hR]
    · refine it_sim (P := fun _ (a : Int32 × Int32 × Int32 × Int32 × (Nat → Int32) × Int32 × (Nat → Int32) × (Nat → Int32) × Int32 × (Nat → Int32) × (Nat → Int32) × (Nat → Int32) × (Nat → Int32) × (Nat → Int32) × (Nat → Int32) × (Nat → Int32)) (b : Int32 × Int32 × (Nat → Int32) × (Nat → Int32) × (Nat → Int32) × (Nat → Int32) × (Nat → Int32)) => a.1 = b.2.1 ∧ a.2.1 = b.1 ∧ Rel R G n nt nf fc nr fw fb ng gR gW gT gS gJ gY b.2.2.1 ew b.2.2.2.1 b.2.2.2.2.1 b.2.2.2.2.2.1) R 0 _ _ (fun j a b h3 h5 hab => ?_) ?_
      · obtain ⟨p1, p2, p3⟩ := hab
        have hj : j < R := by omega
        have el0 : F_X3_isBurning nr fb (nI j) = b.2.2.2.1 j := by rw [h1]; exact burn_eq hR p3.2.2.2.2.2.2.2.2.1 hj
        unfold S_X4_advise_32 S_X5_advise_43
        rw [el0]
        by_cases c : b.2.2.2.1 j = 0
        · rw [if_pos c, if_pos c]
          exact ⟨p1, p2, p3⟩
        · rw [if_neg c, if_neg c]
          have v := (ahead_eq ((copy_eq p3 a.2.2.2.2.1 a.2.2.2.2.2.2.1 a.2.2.2.2.2.2.2.1 a.2.2.2.2.2.2.2.2.2.1 a.2.2.2.2.2.2.2.2.2.2.1 a.2.2.2.2.2.2.2.2.2.2.2.1 a.2.2.2.2.2.2.2.2.2.2.2.2.1 a.2.2.2.2.2.2.2.2.2.2.2.2.2.1 a.2.2.2.2.2.2.2.2.2.2.2.2.2.2.1).lampoff hj) a.2.2.2.2.2.2.2.2.2.2.2.2.2.2.2 b.2.2.2.2.2.2 hn).1
          have v' : (F_X4_seenWithoutLamp nt nf fc nr fw fb ng gR gW gT gS gJ gY a.2.2.2.2.1 a.2.2.2.2.2.2.1 a.2.2.2.2.2.2.2.1 a.2.2.2.2.2.2.2.2.2.1 a.2.2.2.2.2.2.2.2.2.2.1 a.2.2.2.2.2.2.2.2.2.2.2.1 a.2.2.2.2.2.2.2.2.2.2.2.2.1 a.2.2.2.2.2.2.2.2.2.2.2.2.2.1 a.2.2.2.2.2.2.2.2.2.2.2.2.2.2.1 a.2.2.2.2.2.2.2.2.2.2.2.2.2.2.2 (nI j) nn).1 = (F_X5_nightsOn b.2.2.1 ew (upd b.2.2.2.1 j 0) b.2.2.2.2.1 b.2.2.2.2.2.1 b.2.2.2.2.2.2 R G nn).1 := v
          rw [v', p2]
          by_cases z : b.1 < (F_X5_nightsOn b.2.2.1 ew (upd b.2.2.2.1 j 0) b.2.2.2.2.1 b.2.2.2.2.2.1 b.2.2.2.2.2.2 R G nn).1
          · rw [if_pos z, if_neg (i_nle.mpr z)]
            exact ⟨rfl, by with_reducible rfl, h.back _ _ _ _⟩
          · rw [if_neg z, if_pos (Classical.not_not.mp (fun q => z (i_nle.mp q)))]
            exact ⟨p1, rfl, h.back _ _ _ _⟩
      · exact ⟨rfl, (ahead_eq (copy_eq h fcz fwz fbz gRz gWz gTz gSz gJz gYz) flz eb hn).1, h.back _ _ _ _⟩
    · intro j w h3 h5
      unfold S_X4_advise_32 F_X3_isBurning
      rw [h1, has3n hR h5 h3, if_pos rfl, if_pos rfl]
  unfold F_X5_advise F_X4_advise
  exact ⟨key.1.symm, rfl, key.2.2⟩
set_option maxHeartbeats 4000000 in
theorem o_harm (h : Rel R G n nt nf fc nr fw fb ng gR gW gT gS gJ gY eh ew el ep en) (fcz fwz fbz gRz gWz gTz gSz gJz gYz flz eb : Nat → Int32) {nn : Nat} (hn : n + nn < 2 ^ 31) :
    (F_X5_harm eh ew el ep en eb R G nn).1 = (F_X4_harm nt nf fc nr fw fb ng gR gW gT gS gJ gY fcz fwz fbz gRz gWz gTz gSz gJz gYz flz nn).1 ∧ (F_X5_harm eh ew el ep en eb R G nn).2.1 = 0 ∧ Rel R G n nt nf fc nr fw fb ng gR gW gT gS gJ gY (F_X5_harm eh ew el ep en eb R G nn).2.2.1 ew (F_X5_harm eh ew el ep en eb R G nn).2.2.2.1 (F_X5_harm eh ew el ep en eb R G nn).2.2.2.2.1 (F_X5_harm eh ew el ep en eb R G nn).2.2.2.2.2.1 := by
  have key : (I_X4_harm_43 nt nf fc nr fw fb ng gR gW gT gS gJ gY fcz fwz fbz gRz gWz gTz gSz gJz gYz flz nn).1 = (I_X5_harm_48 eh ew el ep en eb R G nn).2.1 ∧ (I_X4_harm_43 nt nf fc nr fw fb ng gR gW gT gS gJ gY fcz fwz fbz gRz gWz gTz gSz gJz gYz flz nn).2.1 = (I_X5_harm_48 eh ew el ep en eb R G nn).1 ∧ Rel R G n nt nf fc nr fw fb ng gR gW gT gS gJ gY (I_X5_harm_48 eh ew el ep en eb R G nn).2.2.1 ew (I_X5_harm_48 eh ew el ep en eb R G nn).2.2.2.1 (I_X5_harm_48 eh ew el ep en eb R G nn).2.2.2.2.1 (I_X5_harm_48 eh ew el ep en eb R G nn).2.2.2.2.2.1 := by
    have hG := h.2.1
    have h1 := h.2.2.2.1
    unfold I_X4_harm_43 I_X5_harm_48
    rw [it_cut (G := G) (N := 12) hG]
    · refine it_sim (P := fun _ (a : Int32 × Int32 × Int32 × Int32 × (Nat → Int32) × Int32 × (Nat → Int32) × (Nat → Int32) × Int32 × (Nat → Int32) × (Nat → Int32) × (Nat → Int32) × (Nat → Int32) × (Nat → Int32) × (Nat → Int32) × (Nat → Int32)) (b : Int32 × Int32 × (Nat → Int32) × (Nat → Int32) × (Nat → Int32) × (Nat → Int32) × (Nat → Int32)) => a.1 = b.2.1 ∧ a.2.1 = b.1 ∧ Rel R G n nt nf fc nr fw fb ng gR gW gT gS gJ gY b.2.2.1 ew b.2.2.2.1 b.2.2.2.2.1 b.2.2.2.2.2.1) G 0 _ _ (fun j a b h3 h5 hab => ?_) ?_
      · obtain ⟨p1, p2, p3⟩ := hab
        have hj : j < G := by omega
        have el0 : F_X0_hasJar ng gJ (nI j) = F_X5_pe b.2.2.2.2.1 j 2 := by rw [h1]; exact jar_b hG p3.2.2.2.2.2.2.2.2.2 hj
        unfold S_X4_harm_43 S_X5_harm_48
        rw [el0]
        by_cases c : F_X5_pe b.2.2.2.2.1 j 2 = 0
        · rw [if_pos c, if_pos c]
          exact ⟨p1, p2, p3⟩
        · rw [if_neg c, if_neg c]
          have v := (ahead_eq ((copy_eq p3 a.2.2.2.2.1 a.2.2.2.2.2.2.1 a.2.2.2.2.2.2.2.1 a.2.2.2.2.2.2.2.2.2.1 a.2.2.2.2.2.2.2.2.2.2.1 a.2.2.2.2.2.2.2.2.2.2.2.1 a.2.2.2.2.2.2.2.2.2.2.2.2.1 a.2.2.2.2.2.2.2.2.2.2.2.2.2.1 a.2.2.2.2.2.2.2.2.2.2.2.2.2.2.1).jaroff hj) a.2.2.2.2.2.2.2.2.2.2.2.2.2.2.2 b.2.2.2.2.2.2 hn).2.1
          have v' : (F_X4_leftWithoutJar nt nf fc nr fw fb ng gR gW gT gS gJ gY a.2.2.2.2.1 a.2.2.2.2.2.2.1 a.2.2.2.2.2.2.2.1 a.2.2.2.2.2.2.2.2.2.1 a.2.2.2.2.2.2.2.2.2.2.1 a.2.2.2.2.2.2.2.2.2.2.2.1 a.2.2.2.2.2.2.2.2.2.2.2.2.1 a.2.2.2.2.2.2.2.2.2.2.2.2.2.1 a.2.2.2.2.2.2.2.2.2.2.2.2.2.2.1 a.2.2.2.2.2.2.2.2.2.2.2.2.2.2.2 (nI j) nn).1 = F_X5_flies (F_X5_nightsOn b.2.2.1 ew b.2.2.2.1 (F_X5_put b.2.2.2.2.1 j 2 0) b.2.2.2.2.2.1 b.2.2.2.2.2.2 R G nn).2.1 := v
          rw [v', p2]
          by_cases z : b.1 < F_X5_flies (F_X5_nightsOn b.2.2.1 ew b.2.2.2.1 (F_X5_put b.2.2.2.2.1 j 2 0) b.2.2.2.2.2.1 b.2.2.2.2.2.2 R G nn).2.1
          · rw [if_pos z, if_neg (i_nle.mpr z)]
            exact ⟨rfl, by with_reducible rfl, h.back _ _ _ _⟩
          · rw [if_neg z, if_pos (Classical.not_not.mp (fun q => z (i_nle.mp q)))]
            exact ⟨p1, rfl, h.back _ _ _ _⟩
      · exact ⟨rfl, (ahead_eq (copy_eq h fcz fwz fbz gRz gWz gTz gSz gJz gYz) flz eb hn).2.1, h.back _ _ _ _⟩
    · intro j w h3 h5
      unfold S_X4_harm_43 F_X0_hasJar
      rw [h1, has0n hG h5 h3, if_pos rfl, if_pos rfl]
  unfold F_X5_harm F_X4_harm
  exact ⟨key.1.symm, rfl, key.2.2⟩
end
