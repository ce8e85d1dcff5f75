-- pieces of a night, class beside model: whispers, the fall, the growing
theorem it_ind {σ : Type} {P : Nat → σ → Prop} {f : Nat → σ → σ} (n k : Nat) (v : σ) (h : ∀ (j : Nat) (a : σ), k ≤ j → j < k + n → P j a → P (j + 1) (f j a)) (h0 : P k v) : P (k + n) (it f n k v) :=
  it_sim (τ := Unit) (P := fun j a _ => P j a) (g := fun _ _ => ()) n k v () (fun j a _ h1 h2 h3 => h j a h1 h2 h3) h0
theorem there_eq {ep : Nat → Int32} {g : Nat} {x : Int32} : F_M_isThere ep g x = if ep (6 * g + 5) = 0 then (if ep (6 * g) = x then 1 else 0) else 0 := rfl
section
variable {R G : Nat} {fw fb ew el gR gW gT gS gJ gY ep : Nat → Int32}
theorem told2 (hG : G ≤ 12) (h2 : RG R G gR gW gT gS gJ gY ep) (r : Nat) : F_X0_stayingIn gR gY (nI r) = F_M_roomTold ew el ep G r 2 := by
  show it _ 12 0 0 = it _ G 0 0
  rw [it_cut (G := G) hG (fun j w h1 h3 => by
    show S_X0_stayingIn_4 gR gY (nI r) j w = w
    unfold S_X0_stayingIn_4
    rw [if_pos ((h2 j h3).2 h1).2.2.2])]
  refine it_congr _ _ _ (fun j w h1 h3 => ?_)
  show S_X0_stayingIn_4 gR gY (nI r) j w = S_M_roomTold_30 ep r 2 j w
  obtain ⟨a1, -, a3, a4, -, -, -, a8⟩ := (h2 j (by omega)).1 (by omega)
  unfold S_X0_stayingIn_4 S_M_roomTold_30
  rw [there_eq, a1]
  rcases a8 with ⟨e1, e2⟩ | ⟨e1, e2, -⟩
  · rw [e1, e2, if_neg (by decide), if_pos rfl]
    by_cases q : ep (6 * j) = nI r
    · rw [if_pos q, if_pos q, if_neg (by decide), if_pos rfl]
    · rw [if_neg q, if_neg q, if_pos rfl]
  · rw [e1, e2, if_pos rfl, if_neg (show ¬ (1 : Int32) = 0 by decide), if_pos rfl]
theorem told3 (hG : G ≤ 12) (h2 : RG R G gR gW gT gS gJ gY ep) (r : Nat) : F_X0_whispersIn gR gW gY (nI r) = F_M_roomTold ew el ep G r 3 := by
  show it _ 12 0 0 = it _ G 0 0
  rw [it_cut (G := G) hG (fun j w h1 h3 => by
    show S_X0_whispersIn_4 gR gW gY (nI r) j w = w
    unfold S_X0_whispersIn_4
    rw [if_pos ((h2 j h3).2 h1).2.2.2])]
  refine it_congr _ _ _ (fun j w h1 h3 => ?_)
  show S_X0_whispersIn_4 gR gW gY (nI r) j w = S_M_roomTold_30 ep r 3 j w
  obtain ⟨a1, -, a3, a4, -, -, -, a8⟩ := (h2 j (by omega)).1 (by omega)
  unfold S_X0_whispersIn_4 S_M_roomTold_30
  rw [there_eq, a1, a3]
  rcases a8 with ⟨e1, e2⟩ | ⟨e1, e2, -⟩
  · rw [e1, e2, if_neg (by decide), if_pos rfl]
    by_cases q : ep (6 * j) = nI r
    · rw [if_pos q, if_pos q, if_neg (by decide), if_neg (by decide), if_pos rfl]
      rfl
    · rw [if_neg q, if_neg q, if_pos rfl]
  · rw [e1, e2, if_pos rfl, if_neg (show ¬ (1 : Int32) = 0 by decide), if_pos rfl]
theorem told4 (hG : G ≤ 12) (h2 : RG R G gR gW gT gS gJ gY ep) (r : Nat) : F_X0_jarsIn gR gJ (nI r) = F_M_roomTold ew el ep G r 4 := by
  show it _ 12 0 0 = it _ G 0 0
  rw [it_cut (G := G) hG (fun j w h1 h3 => by
    show S_X0_jarsIn_4 gR gJ (nI r) j w = w
    unfold S_X0_jarsIn_4
    rw [if_pos ((h2 j h3).2 h1).2.2.1])]
  refine it_congr _ _ _ (fun j w h1 h3 => ?_)
  show S_X0_jarsIn_4 gR gJ (nI r) j w = S_M_roomTold_30 ep r 4 j w
  obtain ⟨a1, -, -, a4, a5, -, -, a8⟩ := (h2 j (by omega)).1 (by omega)
  unfold S_X0_jarsIn_4 S_M_roomTold_30
  rw [there_eq, a1, a4]
  show _ = if _ then _ else if _ then _ else if _ then _ else w + ep (6 * j + 2)
  rcases a8 with ⟨e1, -⟩ | ⟨e1, -, e3⟩
  · rw [e1, if_pos rfl]
    by_cases q : ep (6 * j) = nI r
    · rw [if_pos q, if_pos q, if_neg (show ¬ (1 : Int32) = 0 by decide), if_neg (show ¬ (4 : Int32) = 2 by decide), if_neg (show ¬ (4 : Int32) = 3 by decide)]
      rcases a5 with e | e <;> rw [e]
      · rw [if_pos rfl, Int32.add_zero]
      · rw [if_neg (by decide)]
    · rw [if_neg q, if_neg q, if_pos rfl]
      split <;> rfl
  · rw [e1, e3, if_pos rfl, if_neg (show ¬ (1 : Int32) = 0 by decide), if_pos rfl]
end
theorem RH.at {fc eh : Nat → Int32} (h : RH fc eh) {i : Nat} (hi : i < 50) : ∃ v, v ≤ 40 ∧ fc i = nI v ∧ eh i = nI v := by
  obtain ⟨e, v, hv, e2⟩ := h i hi
  exact ⟨v, hv, e.trans e2, e2⟩
theorem RH.upd {fc eh : Nat → Int32} (h : RH fc eh) (i : Nat) {x y : Int32} {v : Nat} (hv : v ≤ 40) (hx : x = nI v) (hy : y = nI v) : RH (upd fc i x) (upd eh i y) := by
  subst hx; subst hy
  intro j hj
  by_cases e : j = i
  · subst e
    rw [pk_us, pk_us]
    exact ⟨rfl, v, hv, rfl⟩
  · rw [pk_un e, pk_un e]
    exact h j hj
theorem fall_eq {fc eh : Nat → Int32} {w : Nat} (hw : w < 10) (h : RH fc eh) : RH (F_X1_driveDown fc (nI w)) (F_M_fall eh (nI w)) := by
  refine itd_sim (P := fun _ a b => RH a b) 4 fc eh (fun j a b hj hab => ?_) h
  show RH (S_X1_driveDown_2 (nI w) j a) (S_M_fall_2 (nI w) j b)
  unfold S_X1_driveDown_2 C_X1_driveDown_56 S_M_fall_2
  obtain ⟨p, hp, ea, eb⟩ := hab.at (i := 10 * j + w) (by omega)
  obtain ⟨q, hq, ea2, eb2⟩ := hab.at (i := 10 * (j + 1) + w) (by omega)
  have i1 : (nI (10 * j) + nI w).toNatClampNeg = 10 * j + w := by rw [nI_add, nI_clamp (by omega)]
  have i2 : (nI (10 * j + 10) + nI w).toNatClampNeg = 10 * (j + 1) + w := by rw [nI_add, nI_clamp (by omega)]; omega
  rw [i1, i2]
  simp only [at_in hw (show j < 5 by omega), at_in hw (show j + 1 < 5 by omega), put_in hw (show j < 5 by omega), put_in hw (show j + 1 < 5 by omega)]
  have n1 : ¬ 10 * (j + 1) + w = 10 * j + w := by omega
  rw [pk_un n1, pk_un n1, ea, ea2, eb, eb2]
  rw [show (40 : Int32) = nI 40 from rfl, pk_sub hq, mn_n (by omega) (by omega)]
  have hm : min p (40 - q) ≤ p := Nat.min_le_left _ _
  have hm2 : min p (40 - q) ≤ 40 - q := Nat.min_le_right _ _
  generalize min p (40 - q) = d at hm hm2
  rw [pk_sub hm, nI_add, mn_n (by omega) (by omega), mn_n (by omega) (by omega), Nat.min_eq_left (by omega), Nat.min_eq_left (by omega)]
  exact (hab.upd (10 * j + w) (v := p - d) (by omega) rfl rfl).upd (10 * (j + 1) + w) (v := q + d) (by omega) rfl rfl
-- lamps by columns
theorem lit_b (ew el : Nat → Int32) (x : Int32) : ∀ (n k : Nat), L_M_lit_2 ew el x n k = 0 ∨ L_M_lit_2 ew el x n k = 1 := by
  intro n
  induction n with
  | zero => intro k; exact Or.inl rfl
  | succ n ih =>
    intro k
    unfold L_M_lit_2
    repeat' split
    all_goals first | exact Or.inl rfl | exact Or.inr rfl | exact ih _
theorem fl_eq {R : Nat} {fw fb ew el : Nat → Int32} (hR : R ≤ 6) (h : RR R fw fb ew el) (fl : Nat → Int32) {k : Nat} (hk : k < 10) : F_X2_lookAtLamps fw fb fl k = F_M_lit ew el R (nI k) := by
  have key : ∀ j, j < 0 + 10 → (it (fun (k : Nat) (v : Nat → Int32) => S_X2_lookAtLamps_2 fw fb k v) 10 0 fl) j = F_M_lit ew el R (nI j) := by
    refine it_ind (P := fun k a => ∀ j, j < k → a j = F_M_lit ew el R (nI j)) 10 0 fl (fun j a h1 h3 ha => ?_) (fun j hj => absurd hj (Nat.not_lt_zero _))
    show ∀ i, i < j + 1 → S_X2_lookAtLamps_2 fw fb j a i = F_M_lit ew el R (nI i)
    intro i hi
    unfold S_X2_lookAtLamps_2
    by_cases e : i = j
    · subst e
      rw [pk_us, lit_eq hR h]
      rcases lit_b ew el (nI i) R 0 with q | q
      · rw [show F_M_lit ew el R (nI i) = 0 from q]; rfl
      · rw [show F_M_lit ew el R (nI i) = 1 from q]; rfl
    · rw [pk_un e]
      exact ha i (by omega)
  exact key k (by omega)
