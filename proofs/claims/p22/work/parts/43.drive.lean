-- the driving by lamps
def PC (R k i : Nat) (ew el e : Nat → Int32) (x y : Int32) : Prop := (¬ F_M_lit ew el R (nI (i % 10)) = 0 → (k ≤ i % 10 → x = e i ∧ y = e i) ∧ ∃ v, v ≤ 40 ∧ x = nI v ∧ y = nI v) ∧ (F_M_lit ew el R (nI (i % 10)) = 0 → ∃ v, v ≤ 40 + 20 * k ∧ y = nI v ∧ x = nI (min v 40))
theorem PC.up {R k i : Nat} {ew el e : Nat → Int32} {x y : Int32} (h : PC R k i ew el e x y) : PC R (k + 1) i ew el e x y :=
  ⟨fun q => ⟨fun z => (h.1 q).1 (by omega), (h.1 q).2⟩, fun q => by obtain ⟨v, a, b⟩ := h.2 q; exact ⟨v, by omega, b⟩⟩
theorem nI_m1 {d : Nat} (h : d < 2 ^ 31) : ¬ nI d = -1 := fun q => absurd (q ▸ (by decide : (-1 : Int32) < 0)) (nI_pos h)
theorem side_l {R : Nat} {fw fb ew el : Nat → Int32} (hR : R ≤ 6) (h : RR R fw fb ew el) (fl : Nat → Int32) {k : Nat} (hk : k + 1 < 10) : F_X2_isDarkColumn (F_X2_lookAtLamps fw fb fl) (nI (k + 1) - 1) = if F_M_lit ew el R (nI (k + 1) - 1) = 0 then 1 else 0 := by
  rw [nI_pred, dark_eq hR h fl (by omega)]
theorem dark_out {fl : Nat → Int32} : F_X2_isDarkColumn fl (nI 0 - 1) = 0 ∧ F_X2_isDarkColumn fl (nI (9 + 1)) = 0 := by
  constructor
  · unfold F_X2_isDarkColumn
    rw [if_pos (by decide)]
  · unfold F_X2_isDarkColumn
    rw [if_neg (by decide), if_pos (by decide)]
theorem drive_step {R : Nat} {fw fb ew el : Nat → Int32} (hR : R ≤ 6) (h : RR R fw fb ew el) (fl : Nat → Int32) {k : Nat} (hk : k < 10) :
    (T_M_drive_28 ew el R k = -1 ∧ ∀ a, S_X2_driveByLamps_2 (F_X2_lookAtLamps fw fb fl) k a = a) ∨
    (∃ d, d < 10 ∧ d ≠ k ∧ T_M_drive_28 ew el R k = nI d ∧ ¬ F_M_lit ew el R (nI k) = 0 ∧ F_M_lit ew el R (nI d) = 0 ∧ ∀ a, S_X2_driveByLamps_2 (F_X2_lookAtLamps fw fb fl) k a = F_X1_driveAside a (nI k) (nI d)) := by
  unfold T_M_drive_28 S_X2_driveByLamps_2
  rw [fl_eq hR h fl hk]
  by_cases c0 : F_M_lit ew el R (nI k) = 0
  · refine Or.inl ⟨by rw [if_pos c0], fun a => ?_⟩
    rw [if_pos c0, if_pos c0]
  · rw [if_neg c0]
    have right : ∀ (hk9 : k < 9), (F_M_lit ew el R (nI (k + 1)) = 0 ∧ F_X2_isDarkColumn (F_X2_lookAtLamps fw fb fl) (nI (k + 1)) = 1) ∨ (¬ F_M_lit ew el R (nI (k + 1)) = 0 ∧ F_X2_isDarkColumn (F_X2_lookAtLamps fw fb fl) (nI (k + 1)) = 0) := fun hk9 => by
      rw [dark_eq hR h fl (by omega)]
      by_cases c : F_M_lit ew el R (nI (k + 1)) = 0
      · exact Or.inl ⟨c, if_pos c⟩
      · exact Or.inr ⟨c, if_neg c⟩
    have n9 : k < 9 → ¬ (9 : Int32) ≤ nI k := fun q => nI_ge (b := 9) q (by omega)
    cases k with
    | zero =>
      unfold F_M_aside
      rw [if_pos (by decide), if_neg (by decide), nI_1]
      rcases right (by omega) with ⟨r1, r2⟩ | ⟨r1, r2⟩
      · refine Or.inr ⟨1, by omega, by omega, by rw [if_pos r1], c0, r1, fun a => ?_⟩
        rw [if_neg c0, dark_out.1, if_pos rfl, if_neg c0, r2, if_neg (by decide)]
      · refine Or.inl ⟨by rw [if_neg r1], fun a => ?_⟩
        rw [if_neg c0, dark_out.1, if_pos rfl, if_neg c0, r2, if_pos rfl]
    | succ k =>
      unfold F_M_aside
      rw [if_neg (nI_nle (by omega) (by omega)), side_l hR h fl hk]
      rw [nI_pred]
      by_cases c1 : F_M_lit ew el R (nI k) = 0
      · refine Or.inr ⟨k, by omega, by omega, by rw [if_pos c1], c0, c1, fun a => ?_⟩
        rw [if_neg c0, if_pos c1, if_neg (by decide)]
      · rw [if_neg c1]
        by_cases h9 : k + 1 = 9
        · refine Or.inl ⟨by rw [if_pos (by rw [h9]; decide)], fun a => ?_⟩
          rw [if_neg c0, if_neg c1, if_pos rfl, if_neg c0, h9, dark_out.2, if_pos rfl]
        · rw [if_neg (n9 (by omega)), nI_1]
          rcases right (by omega) with ⟨r1, r2⟩ | ⟨r1, r2⟩
          · refine Or.inr ⟨k + 1 + 1, by omega, by omega, by rw [if_pos r1], c0, r1, fun a => ?_⟩
            rw [if_neg c0, if_neg c1, if_pos rfl, if_neg c0, r2, if_neg (by decide)]
          · refine Or.inl ⟨by rw [if_neg r1], fun a => ?_⟩
            rw [if_neg c0, if_neg c1, if_pos rfl, if_neg c0, r2, if_pos rfl]
/-- one column's flies go over to the next: row after row -/
theorem aside_eq {R k d : Nat} {ew el eh eb a b : Nat → Int32} (hk : k < 10) (hd : d < 10) (hdk : d ≠ k) (hT : T_M_drive_28 ew el R k = nI d) (hlk : ¬ F_M_lit ew el R (nI k) = 0) (hld : F_M_lit ew el R (nI d) = 0) (h : ∀ i, i < 50 → PC R k i ew el eh (a i) (b i)) :
    ∀ i, i < 50 → PC R (k + 1) i ew el eh (F_X1_driveAside a (nI k) (nI d) i) (I_M_drive_43 eh ew el eb R k b i) := by
  have key := it_sim (P := fun j (x y : Nat → Int32) => ∀ i, i < 50 → (i < 10 * j → PC R (k + 1) i ew el eh (x i) (y i)) ∧ (10 * j ≤ i → PC R k i ew el eh (x i) (y i)))
    (f := fun (k1 : Nat) (v : Nat → Int32) => S_X1_driveAside_2 (nI k) (nI d) k1 v) (g := fun (k1 : Nat) (v : Nat → Int32) => S_M_drive_43 eh ew el eb R k k1 v) 5 0 a b (fun j x y h1 h3 hxy => ?_) (fun i hi => ⟨fun q => absurd q (by omega), fun _ => h i hi⟩)
  · intro i hi
    exact (key i hi).1 (by omega)
  · show ∀ i, i < 50 → (i < 10 * (j + 1) → PC R (k + 1) i ew el eh (S_X1_driveAside_2 (nI k) (nI d) j x i) (S_M_drive_43 eh ew el eb R k j y i)) ∧ (10 * (j + 1) ≤ i → PC R k i ew el eh (S_X1_driveAside_2 (nI k) (nI d) j x i) (S_M_drive_43 eh ew el eb R k j y i))
    have m1 : (10 * j + k) % 10 = k := by omega
    have m2 : (10 * j + d) % 10 = d := by omega
    have ps := (hxy (10 * j + k) (by omega)).2 (by omega)
    have pd := (hxy (10 * j + d) (by omega)).2 (by omega)
    unfold PC at ps pd
    rw [m1] at ps
    rw [m2] at pd
    obtain ⟨q1, v, hv, q2, q3⟩ := ps.1 hlk
    obtain ⟨q4, q5⟩ := q1 (Nat.le_refl _)
    obtain ⟨u, hu, q6, q7⟩ := pd.2 hld
    have n1 : ¬ 10 * j + d = 10 * j + k := by omega
    have eS : S_X1_driveAside_2 (nI k) (nI d) j x = upd (upd x (10 * j + k) (nI (v - v / 2))) (10 * j + d) (nI (min (u + v / 2) 40)) := by
      unfold S_X1_driveAside_2 C_X1_driveAside_44
      simp only [at_in hk (show j < 5 by omega), at_in hd (show j < 5 by omega), put_in hk (show j < 5 by omega), put_in hd (show j < 5 by omega)]
      rw [pk_un n1, q2, q7, show (2 : Int32) = nI 2 from rfl, show (40 : Int32) = nI 40 from rfl, pk_div (by omega) (by omega) (by omega), pk_sub (Nat.div_le_self _ _), nI_add, mn_n (by omega) (by omega), mn_n (by omega) (by omega)]
      rw [show min (v - v / 2) 40 = v - v / 2 by omega, show min (min u 40 + v / 2) 40 = min (u + v / 2) 40 by omega]
    have eT : S_M_drive_43 eh ew el eb R k j y = upd (upd y (10 * j + k) (nI (v - v / 2))) (10 * j + d) (nI (u + v / 2)) := by
      unfold S_M_drive_43
      rw [hT, if_neg (nI_m1 (by omega)), nI_add, nI_clamp (by omega), cpy_at (by omega), pk_un n1, ← q5, q3, q6, show (2 : Int32) = nI 2 from rfl, pk_div (by omega) (by omega) (by omega), pk_sub (Nat.div_le_self _ _), nI_add]
    rw [eS, eT]
    intro i hi
    by_cases e1 : i = 10 * j + d
    · subst e1
      rw [pk_us, pk_us]
      refine ⟨fun _ => ⟨fun q => absurd (by rw [m2]; exact hld) q, fun _ => ⟨u + v / 2, by omega, rfl, rfl⟩⟩, fun q => absurd q (by omega)⟩
    · rw [pk_un e1, pk_un e1]
      by_cases e2 : i = 10 * j + k
      · subst e2
        rw [pk_us, pk_us]
        refine ⟨fun _ => ⟨fun _ => ⟨fun q => absurd q (by omega), v - v / 2, by omega, rfl, rfl⟩, fun q => absurd (by rw [m1] at q; exact q) hlk⟩, fun q => absurd q (by omega)⟩
      · rw [pk_un e2, pk_un e2]
        refine ⟨fun q => ?_, fun q => (hxy i hi).2 (by omega)⟩
        by_cases z : i < 10 * j
        · exact (hxy i hi).1 z
        · exact ((hxy i hi).2 (by omega)).up
theorem clamp_all (b : Nat → Int32) : ∀ i, i < 50 → (it (fun (k : Nat) (v : Nat → Int32) => S_M_drive_114 k v) 50 0 b) i = mn 40 (b i) := by
  have key := it_ind (P := fun k (a : Nat → Int32) => ∀ i, i < 50 → a i = if i < k then mn 40 (b i) else b i) (f := fun (k : Nat) (v : Nat → Int32) => S_M_drive_114 k v) 50 0 b (fun j a h1 h3 ha => ?_) (fun i _ => by rw [if_neg (Nat.not_lt_zero _)])
  · intro i hi
    rw [key i hi, if_pos (by omega)]
  · show ∀ i, i < 50 → S_M_drive_114 j a i = _
    intro i hi
    unfold S_M_drive_114
    by_cases e : i = j
    · subst e
      rw [pk_us, if_pos (by omega), ha i hi, if_neg (Nat.lt_irrefl _)]
    · rw [pk_un e, ha i hi]
      by_cases z : i < j
      · rw [if_pos z, if_pos (by omega)]
      · rw [if_neg z, if_neg (by omega)]
theorem drive_eq {R : Nat} {fw fb ew el fc eh fl eb : Nat → Int32} (hR : R ≤ 6) (hr : RR R fw fb ew el) (h : RH fc eh) : RH (F_X2_driveByLamps fc (F_X2_lookAtLamps fw fb fl)) (F_M_drive eh ew el eb R).1 := by
  have key := it_sim (P := fun k (x y : Nat → Int32) => ∀ i, i < 50 → PC R k i ew el eh (x i) (y i)) (f := fun (k : Nat) (v : Nat → Int32) => S_X2_driveByLamps_2 (F_X2_lookAtLamps fw fb fl) k v) (g := fun (k : Nat) (v : Nat → Int32) => S_M_drive_17 eh ew el eb R k v) 10 0 fc eh (fun j x y h1 h3 hxy => ?_)
    (fun i hi => by
      obtain ⟨v, hv, e1, e2⟩ := h.at hi
      exact ⟨fun _ => ⟨fun _ => ⟨e1.trans e2.symm, rfl⟩, v, hv, e1, e2⟩, fun _ => ⟨v, by omega, e2, by rw [e1, Nat.min_eq_left hv]⟩⟩)
  · intro i hi
    show F_X2_driveByLamps fc (F_X2_lookAtLamps fw fb fl) i = I_M_drive_114 eh ew el eb R i ∧ _
    have k0 := key i hi
    have e1 : (F_M_drive eh ew el eb R).1 i = mn 40 ((it (fun (k : Nat) (v : Nat → Int32) => S_M_drive_17 eh ew el eb R k v) 10 0 eh) i) := clamp_all _ i hi
    have e2 : I_M_drive_114 eh ew el eb R i = (F_M_drive eh ew el eb R).1 i := rfl
    rw [e2, e1]
    show (it (fun (k : Nat) (v : Nat → Int32) => S_X2_driveByLamps_2 (F_X2_lookAtLamps fw fb fl) k v) 10 0 fc) i = _ ∧ _
    generalize (it (fun (k : Nat) (v : Nat → Int32) => S_X2_driveByLamps_2 (F_X2_lookAtLamps fw fb fl) k v) 10 0 fc) i = p at k0 ⊢
    generalize (it (fun (k : Nat) (v : Nat → Int32) => S_M_drive_17 eh ew el eb R k v) 10 0 eh) i = q at k0 ⊢
    by_cases c : F_M_lit ew el R (nI (i % 10)) = 0
    · obtain ⟨v, hv, a1, a2⟩ := k0.2 c
      rw [a1, a2, show (40 : Int32) = nI 40 from rfl, mn_n (by omega) (by omega), Nat.min_comm 40 v]
      exact ⟨rfl, _, Nat.min_le_right _ _, rfl⟩
    · obtain ⟨-, v, hv, a1, a2⟩ := k0.1 c
      rw [a1, a2, show (40 : Int32) = nI 40 from rfl, mn_n (by omega) (by omega), Nat.min_eq_right hv]
      exact ⟨rfl, _, hv, rfl⟩
  · show ∀ i, i < 50 → PC R (j + 1) i ew el eh (S_X2_driveByLamps_2 (F_X2_lookAtLamps fw fb fl) j x i) (I_M_drive_43 eh ew el eb R j y i)
    rcases drive_step hR hr fl (k := j) (by omega) with ⟨t1, t2⟩ | ⟨d, d1, d2, d3, d4, d5, d6⟩
    · rw [t2]
      have : I_M_drive_43 eh ew el eb R j y = y := by
        refine it_fix (fun k => ?_) _ _
        show S_M_drive_43 eh ew el eb R j k y = y
        unfold S_M_drive_43
        rw [if_pos t1]
      rw [this]
      exact fun i hi => (hxy i hi).up
    · rw [d6]
      exact aside_eq (by omega) d1 d2 d3 d4 d5 hxy
