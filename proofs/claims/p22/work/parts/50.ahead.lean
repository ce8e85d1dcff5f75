-- looking ahead: the trial inn is a copy; the model brings its contents back
section
variable {R G n : Nat} {nt nf : Int32} {fc : Nat → Int32} {nr : Int32} {fw fb : Nat → Int32} {ng : Int32} {gR gW gT gS gJ gY eh ew el ep en : Nat → Int32}
theorem Rel.mdl (h : Rel R G n nt nf fc nr fw fb ng gR gW gT gS gJ gY eh ew el ep en) {eh' el' ep' en' : Nat → Int32} (h1 : ∀ i, i < 50 → eh' i = eh i) (h2 : ∀ i, i < 6 → el' i = el i) (h3 : ∀ i, i < 72 → ep' i = ep i) (h4 : ∀ i, i < 2 → en' i = en i) : Rel R G n nt nf fc nr fw fb ng gR gW gT gS gJ gY eh' ew el' ep' en' := by
  obtain ⟨hR, hG, a1, a2, a3, a4, a5, hH, hr, hg⟩ := h
  refine ⟨hR, hG, a1, a2, a3, by rw [h4 0 (by omega)]; exact a4, by rw [h4 1 (by omega)]; exact a5, fun i hi => by rw [h1 i hi]; exact hH i hi, fun j hj => by rw [h2 j hj]; exact hr j hj, fun g hg9 => ?_⟩
  rw [h3 (6 * g) (by omega), h3 (6 * g + 1) (by omega), h3 (6 * g + 2) (by omega), h3 (6 * g + 3) (by omega), h3 (6 * g + 4) (by omega), h3 (6 * g + 5) (by omega)]
  exact hg g hg9
theorem Rel.back (h : Rel R G n nt nf fc nr fw fb ng gR gW gT gS gJ gY eh ew el ep en) (a b c d : Nat → Int32) : Rel R G n nt nf fc nr fw fb ng gR gW gT gS gJ gY (F_M_bringBack a b c d eh ep en el).1 ew (F_M_bringBack a b c d eh ep en el).2.1 (F_M_bringBack a b c d eh ep en el).2.2.1 (F_M_bringBack a b c d eh ep en el).2.2.2 :=
  h.mdl (fun i hi => cpy_at hi) (fun i hi => cpy_at hi) (fun i hi => cpy_at hi) (fun i hi => cpy_at hi)
theorem cp3 (fw fb fwz fbz : Nat → Int32) : ∀ j, j < 6 → (I_X3_copyFrom_2 fwz fbz fw fb).1 j = fw j ∧ (I_X3_copyFrom_2 fwz fbz fw fb).2 j = vp_nar .boolean (fb j) := by
  have key := it_ind (P := fun k (a : (Nat → Int32) × (Nat → Int32)) => ∀ j, j < k → a.1 j = fw j ∧ a.2 j = vp_nar .boolean (fb j)) (f := fun (k : Nat) (v : (Nat → Int32) × (Nat → Int32)) => S_X3_copyFrom_2 fw fb k v.1 v.2) 6 0 (fwz, fbz) (fun j a h1 h3 ha => ?_) (fun j hj => absurd hj (Nat.not_lt_zero _))
  · exact fun j hj => key j (by omega)
  · show ∀ i, i < j + 1 → upd a.1 j (fw j) i = fw i ∧ upd a.2 j (vp_nar .boolean (fb j)) i = vp_nar .boolean (fb i)
    intro i hi
    by_cases e : i = j
    · subst e
      rw [pk_us, pk_us]
      exact ⟨rfl, rfl⟩
    · rw [pk_un e, pk_un e]
      exact ha i (by omega)
theorem cp0 (gR gW gT gS gJ gY gRz gWz gTz gSz gJz gYz : Nat → Int32) : ∀ j, j < 12 → (I_X0_copyFrom_2 gRz gWz gTz gSz gJz gYz gR gW gT gS gJ gY).1 j = gR j ∧ (I_X0_copyFrom_2 gRz gWz gTz gSz gJz gYz gR gW gT gS gJ gY).2.1 j = gW j ∧ (I_X0_copyFrom_2 gRz gWz gTz gSz gJz gYz gR gW gT gS gJ gY).2.2.1 j = gT j ∧ (I_X0_copyFrom_2 gRz gWz gTz gSz gJz gYz gR gW gT gS gJ gY).2.2.2.1 j = gS j ∧ (I_X0_copyFrom_2 gRz gWz gTz gSz gJz gYz gR gW gT gS gJ gY).2.2.2.2.1 j = vp_nar .boolean (gJ j) ∧ (I_X0_copyFrom_2 gRz gWz gTz gSz gJz gYz gR gW gT gS gJ gY).2.2.2.2.2 j = vp_nar .boolean (gY j) := by
  have key := it_ind (P := fun k (a : (Nat → Int32) × (Nat → Int32) × (Nat → Int32) × (Nat → Int32) × (Nat → Int32) × (Nat → Int32)) => ∀ j, j < k → a.1 j = gR j ∧ a.2.1 j = gW j ∧ a.2.2.1 j = gT j ∧ a.2.2.2.1 j = gS j ∧ a.2.2.2.2.1 j = vp_nar .boolean (gJ j) ∧ a.2.2.2.2.2 j = vp_nar .boolean (gY j))
    (f := fun (k : Nat) (v : (Nat → Int32) × (Nat → Int32) × (Nat → Int32) × (Nat → Int32) × (Nat → Int32) × (Nat → Int32)) => S_X0_copyFrom_2 gR gW gT gS gJ gY k v.1 v.2.1 v.2.2.1 v.2.2.2.1 v.2.2.2.2.1 v.2.2.2.2.2) 12 0 (gRz, gWz, gTz, gSz, gJz, gYz) (fun j a h1 h3 ha => ?_) (fun j hj => absurd hj (Nat.not_lt_zero _))
  · exact fun j hj => key j (by omega)
  · show ∀ i, i < j + 1 → upd a.1 j (gR j) i = gR i ∧ upd a.2.1 j (gW j) i = gW i ∧ upd a.2.2.1 j (gT j) i = gT i ∧ upd a.2.2.2.1 j (gS j) i = gS i ∧ upd a.2.2.2.2.1 j (vp_nar .boolean (gJ j)) i = vp_nar .boolean (gJ i) ∧ upd a.2.2.2.2.2 j (vp_nar .boolean (gY j)) i = vp_nar .boolean (gY i)
    intro i hi
    by_cases e : i = j
    · subst e
      rw [pk_us, pk_us, pk_us, pk_us, pk_us, pk_us]
      exact ⟨rfl, rfl, rfl, rfl, rfl, rfl⟩
    · rw [pk_un e, pk_un e, pk_un e, pk_un e, pk_un e, pk_un e]
      exact ha i (by omega)
theorem nar_b {x : Int32} (h : x = 0 ∨ x = 1) : vp_nar .boolean x = x := by rcases h with e | e <;> rw [e] <;> rfl
theorem copy_eq (h : Rel R G n nt nf fc nr fw fb ng gR gW gT gS gJ gY eh ew el ep en) (fcz fwz fbz gRz gWz gTz gSz gJz gYz : Nat → Int32) :
    Rel R G n nt nf (F_X1_copyFrom fcz fc) nr (F_X3_copyFrom fwz fbz nr fw fb).2.1 (F_X3_copyFrom fwz fbz nr fw fb).2.2 ng (F_X0_copyFrom gRz gWz gTz gSz gJz gYz ng gR gW gT gS gJ gY).2.1 (F_X0_copyFrom gRz gWz gTz gSz gJz gYz ng gR gW gT gS gJ gY).2.2.1 (F_X0_copyFrom gRz gWz gTz gSz gJz gYz ng gR gW gT gS gJ gY).2.2.2.1 (F_X0_copyFrom gRz gWz gTz gSz gJz gYz ng gR gW gT gS gJ gY).2.2.2.2.1 (F_X0_copyFrom gRz gWz gTz gSz gJz gYz ng gR gW gT gS gJ gY).2.2.2.2.2.1 (F_X0_copyFrom gRz gWz gTz gSz gJz gYz ng gR gW gT gS gJ gY).2.2.2.2.2.2 eh ew el ep en := by
  obtain ⟨hR, hG, a1, a2, a3, a4, a5, hH, hr, hg⟩ := h
  refine ⟨hR, hG, a1, a2, a3, a4, a5, fun i hi => ?_, fun j hj => ?_, fun g hg9 => ?_⟩
  · show va_cpy fc fcz 0 0 50 i = eh i ∧ _
    rw [cpy_at hi]
    exact hH i hi
  · obtain ⟨c1, c2⟩ := cp3 fw fb fwz fbz j hj
    show (j < R → (I_X3_copyFrom_2 fwz fbz fw fb).1 j = ew j ∧ (∃ w, w < 10 ∧ ew j = nI w) ∧ (I_X3_copyFrom_2 fwz fbz fw fb).2 j = el j ∧ (el j = 0 ∨ el j = 1)) ∧ (R ≤ j → (I_X3_copyFrom_2 fwz fbz fw fb).2 j = 0)
    rw [c1, c2]
    obtain ⟨b1, b2⟩ := hr j hj
    refine ⟨fun q => ?_, fun q => by rw [b2 q]; rfl⟩
    obtain ⟨d1, d2, d3, d4⟩ := b1 q
    exact ⟨d1, d2, by rw [d3]; exact nar_b d4, d4⟩
  · obtain ⟨c1, c2, c3, c4, c5, c6⟩ := cp0 gR gW gT gS gJ gY gRz gWz gTz gSz gJz gYz g hg9
    have hyj : vp_nar .boolean (gJ g) = gJ g ∧ vp_nar .boolean (gY g) = gY g := by
      obtain ⟨b1, b2⟩ := hg g hg9
      by_cases q : g < G
      · obtain ⟨-, -, -, d4, d5, -, -, d8⟩ := b1 q
        refine ⟨by rw [d4]; exact nar_b d5, ?_⟩
        rcases d8 with ⟨-, e⟩ | ⟨-, e, -⟩ <;> rw [e] <;> rfl
      · obtain ⟨-, -, d3, d4⟩ := b2 (by omega)
        rw [d3, d4]
        exact ⟨rfl, rfl⟩
    rw [hyj.1] at c5
    rw [hyj.2] at c6
    dsimp only [F_X0_copyFrom]
    rw [c1, c2, c3, c4, c5, c6]
    exact hg g hg9
theorem ahead_eq (h : Rel R G n nt nf fc nr fw fb ng gR gW gT gS gJ gY eh ew el ep en) (fl eb : Nat → Int32) {nn : Nat} (hn : n + nn < 2 ^ 31) :
    (F_X2_goThrough nt nf fc nr fw fb ng gR gW gT gS gJ gY fl nn).1 = (F_M_nightsOn eh ew el ep en eb R G nn).1 ∧ F_X1_all (F_X2_goThrough nt nf fc nr fw fb ng gR gW gT gS gJ gY fl nn).2.2.2.1 = F_M_flies (F_M_nightsOn eh ew el ep en eb R G nn).2.1 ∧ F_X0_tookInAll (F_X2_goThrough nt nf fc nr fw fb ng gR gW gT gS gJ gY fl nn).2.2.2.2.1 = F_M_all (F_M_nightsOn eh ew el ep en eb R G nn).2.2.1 G 3 := by
  obtain ⟨q1, hR, hG, -, -, -, -, -, hH, hr, hg⟩ := nights_eq (eb := eb) (fl := fl) hn h
  unfold F_X2_goThrough F_M_nightsOn
  dsimp only
  exact ⟨q1, flies_eq hH, took_eq hG hg⟩
theorem o_foresee_bad2 {eb : Nat → Int32} {nn : Nat} {what : Int32} (hb : what < 0 ∨ 2 < what) : F_M_foresee eh ew el ep en eb R G nn what = (0, 2, eh, el, ep, en, eb) := by
  unfold F_M_foresee F_M_fail
  rw [isIn_no hb, if_pos rfl]
theorem o_foresee (h : Rel R G n nt nf fc nr fw fb ng gR gW gT gS gJ gY eh ew el ep en) (fcz fwz fbz gRz gWz gTz gSz gJz gYz flz eb : Nat → Int32) {nn : Nat} (hn : n + nn < 2 ^ 31) {what : Int32} (h1 : ¬ what < 0) (h2 : what ≤ 2) :
    (F_M_foresee eh ew el ep en eb R G nn what).1 = (F_X4_foresee nt nf fc nr fw fb ng gR gW gT gS gJ gY fcz fwz fbz gRz gWz gTz gSz gJz gYz flz nn what).1 ∧ (F_M_foresee eh ew el ep en eb R G nn what).2.1 = 0 ∧ Rel R G n nt nf fc nr fw fb ng gR gW gT gS gJ gY (F_M_foresee eh ew el ep en eb R G nn what).2.2.1 ew (F_M_foresee eh ew el ep en eb R G nn what).2.2.2.1 (F_M_foresee eh ew el ep en eb R G nn what).2.2.2.2.1 (F_M_foresee eh ew el ep en eb R G nn what).2.2.2.2.2.1 := by
  obtain ⟨q1, q2, q3⟩ := ahead_eq (copy_eq h fcz fwz fbz gRz gWz gTz gSz gJz gYz) flz eb hn
  have hb := h.back (F_M_nightsOn eh ew el ep en eb R G nn).2.1 el (F_M_nightsOn eh ew el ep en eb R G nn).2.2.1 (F_M_nightsOn eh ew el ep en eb R G nn).2.2.2.1
  obtain ⟨hR, hG, a1, a2, a3, a4, a5, hH, hr, hg⟩ := h
  unfold F_M_foresee F_X4_foresee
  rw [isIn_yes h1 h2, if_neg (by decide)]
  by_cases c0 : what = 0
  · rw [if_pos c0, if_pos c0]
    exact ⟨q1.symm, rfl, hb⟩
  · rw [if_neg c0, if_neg c0]
    by_cases c1 : what = 1
    · rw [if_pos c1, if_pos c1]
      exact ⟨q2.symm, rfl, hb⟩
    · rw [if_neg c1, if_neg c1]
      refine ⟨?_, rfl, hb⟩
      dsimp only
      rw [← q3, took_eq hG hg]
      rfl
theorem o_dark_bad {most : Int32} (hb : most < 0 ∨ 4 < most) : F_M_dark en most = (0, 1) := by
  unfold F_M_dark F_M_fail
  rw [isIn_no hb, if_pos rfl]
end
