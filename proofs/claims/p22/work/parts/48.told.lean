-- what is told of a room, a guest, the whole; the digest; the mean
section
variable {R G n : Nat} {nt nf : Int32} {fc : Nat → Int32} {nr : Int32} {fw fb : Nat → Int32} {ng : Int32} {gR gW gT gS gJ gY eh ew el ep en : Nat → Int32}
theorem told_eq (hR : R ≤ 6) (hG : G ≤ 12) (hr : RR R fw fb ew el) (hg : RG R G gR gW gT gS gJ gY ep) {r w : Nat} (hr9 : r < R) (hw : w < 5) : F_X2_tellRoom (nI R) fw fb gR gW gJ gY (nI r) (nI w) = F_M_roomTold ew el ep G r (nI w) := by
  rcases (show w = 0 ∨ w = 1 ∨ w = 2 ∨ w = 3 ∨ w = 4 by omega) with rfl | rfl | rfl | rfl | rfl
  · unfold F_X2_tellRoom F_M_roomTold
    rw [if_pos (by decide), if_neg (by decide), if_pos (by decide)]
    exact win_eq hR hr hr9
  · show (if F_X3_isBurning (nI R) fb (nI r) = 0 then (0 : Int32) else 1) = el r
    rw [burn_eq hR hr hr9]
    rcases ((hr r (by omega)).1 hr9).2.2.2 with e | e <;> rw [e] <;> decide
  · show _ = F_M_roomTold ew el ep G r 2
    rw [← told2 hG hg]
    rfl
  · show _ = F_M_roomTold ew el ep G r 3
    rw [← told3 hG hg]
    rfl
  · show _ = F_M_roomTold ew el ep G r 4
    rw [← told4 hG hg]
    rfl
theorem tell_eq (hG : G ≤ 12) (hg : RG R G gR gW gT gS gJ gY ep) {g w : Nat} (hg9 : g < G) (hw : w < 6) : F_X0_tell (nI G) gR gW gT gS gJ gY (nI g) (nI w) = F_M_pe ep g w := by
  obtain ⟨a1, a2, a3, a4, a5, a6, a7, a8⟩ := (hg g (by omega)).1 hg9
  have hh := has0 hG hg9
  have cl : (nI g).toNatClampNeg = g := nI_clamp (by omega)
  rcases (show w = 0 ∨ w = 1 ∨ w = 2 ∨ w = 3 ∨ w = 4 ∨ w = 5 by omega) with rfl | rfl | rfl | rfl | rfl | rfl
  · show F_X0_roomOf (nI G) gR (nI g) = ep (6 * g)
    rw [room_b hG hg9, a1]
  · show F_X0_whisperOf (nI G) gW (nI g) = ep (6 * g + 1)
    unfold F_X0_whisperOf
    rw [hh, if_neg (by decide), cl, a3]
  · show (if F_X0_hasJar (nI G) gJ (nI g) = 0 then (0 : Int32) else 1) = ep (6 * g + 2)
    rw [jar_b hG hg hg9]
    rcases a5 with e | e <;> rw [e] <;> decide
  · show F_X0_tookOf (nI G) gT (nI g) = ep (6 * g + 3)
    unfold F_X0_tookOf
    rw [hh, if_neg (by decide), cl, a6]
  · show F_X0_sawOf (nI G) gS (nI g) = ep (6 * g + 4)
    unfold F_X0_sawOf
    rw [hh, if_neg (by decide), cl, a7]
  · show (if F_X0_isStaying (nI G) gY (nI g) = 0 then (1 : Int32) else 0) = ep (6 * g + 5)
    rw [stay_b hG hg hg9]
    rcases a8 with ⟨e, -⟩ | ⟨e, -⟩ <;> rw [e] <;> decide
theorem flies_eq (h : RH fc eh) : F_X1_all fc = F_M_flies eh := by
  show it (fun (k : Nat) (v : Int32) => S_X4_sum_4 fc k v) 50 0 0 = it (fun (k : Nat) (v : Int32) => S_M_flies_13 eh k v) 50 0 0
  refine it_congr _ _ _ (fun j w h1 h2 => ?_)
  show w + fc j = w + eh j
  rw [(h j (by omega)).1]
theorem took_eq (hG : G ≤ 12) (hg : RG R G gR gW gT gS gJ gY ep) : F_X0_tookInAll gT = F_M_all ep G 3 := by
  show it (fun (k : Nat) (v : Int32) => S_X4_sum_4 gT k v) 12 0 0 = it (fun (k : Nat) (v : Int32) => S_M_all_4 ep 3 k v) G 0 0
  rw [it_cut (G := G) hG (fun j w h1 h3 => by
    show w + gT j = w
    rw [((hg j h3).2 h1).1, Int32.add_zero])]
  refine it_congr _ _ _ (fun j w h1 h2 => ?_)
  show w + gT j = w + ep (6 * j + 3)
  rw [((hg j (by omega)).1 (by omega)).2.2.2.2.2.1]
theorem saw_eq (hG : G ≤ 12) (hg : RG R G gR gW gT gS gJ gY ep) : F_X0_sawInAll gS = F_M_all ep G 4 := by
  show it (fun (k : Nat) (v : Int32) => S_X4_sum_4 gS k v) 12 0 0 = it (fun (k : Nat) (v : Int32) => S_M_all_4 ep 4 k v) G 0 0
  rw [it_cut (G := G) hG (fun j w h1 h3 => by
    show w + gS j = w
    rw [((hg j h3).2 h1).2.1, Int32.add_zero])]
  refine it_congr _ _ _ (fun j w h1 h2 => ?_)
  show w + gS j = w + ep (6 * j + 4)
  rw [((hg j (by omega)).1 (by omega)).2.2.2.2.2.2.1]
theorem jars_all (hG : G ≤ 12) (hg : RG R G gR gW gT gS gJ gY ep) : F_X0_jarsInAll gJ = F_M_all ep G 2 := by
  show it (fun (k : Nat) (v : Int32) => S_X4_countTrue_4 gJ k v) 12 0 0 = it (fun (k : Nat) (v : Int32) => S_M_all_4 ep 2 k v) G 0 0
  rw [it_cut (G := G) hG (fun j w h1 h3 => by
    show S_X4_countTrue_4 gJ j w = w
    unfold S_X4_countTrue_4
    rw [if_pos ((hg j h3).2 h1).2.2.1])]
  refine it_congr _ _ _ (fun j w h1 h2 => ?_)
  show S_X4_countTrue_4 gJ j w = w + ep (6 * j + 2)
  obtain ⟨-, -, -, a4, a5, -⟩ := (hg j (by omega)).1 (by omega)
  unfold S_X4_countTrue_4
  rw [a4]
  rcases a5 with e | e <;> rw [e]
  · rw [if_pos rfl, Int32.add_zero]
  · rw [if_neg (by decide)]
theorem lamps_all (hR : R ≤ 6) (hr : RR R fw fb ew el) : F_X3_lampsBurning fb = I_M_counted_77 el R := by
  show it (fun (k : Nat) (v : Int32) => S_X4_countTrue_4 fb k v) 6 0 0 = it (fun (k : Nat) (v : Int32) => S_M_counted_77 el k v) R 0 0
  rw [it_cut (G := R) hR (fun j w h1 h3 => by
    show S_X4_countTrue_4 fb j w = w
    unfold S_X4_countTrue_4
    rw [if_pos ((hr j h3).2 h1)])]
  refine it_congr _ _ _ (fun j w h1 h2 => ?_)
  show S_X4_countTrue_4 fb j w = w + el j
  obtain ⟨-, -, a4, a5⟩ := (hr j (by omega)).1 (by omega)
  unfold S_X4_countTrue_4
  rw [a4]
  rcases a5 with e | e <;> rw [e]
  · rw [if_pos rfl, Int32.add_zero]
  · rw [if_neg (by decide)]
theorem stay_all (hG : G ≤ 12) (hg : RG R G gR gW gT gS gJ gY ep) : F_X0_stayingInAll gY = nI G - F_M_all ep G 5 := by
  show it (fun (k : Nat) (v : Int32) => S_X4_countTrue_4 gY k v) 12 0 0 = nI G - it (fun (k : Nat) (v : Int32) => S_M_all_4 ep 5 k v) G 0 0
  rw [it_cut (G := G) hG (fun j w h1 h3 => by
    show S_X4_countTrue_4 gY j w = w
    unfold S_X4_countTrue_4
    rw [if_pos ((hg j h3).2 h1).2.2.2])]
  have key := it_sim (P := fun j (a b : Int32) => a = nI j - b) (f := fun (k : Nat) (v : Int32) => S_X4_countTrue_4 gY k v) (g := fun (k : Nat) (v : Int32) => S_M_all_4 ep 5 k v) G 0 0 0 (fun j a b h1 h2 hab => ?_) (by decide)
  · rw [Nat.zero_add] at key
    exact key
  · show S_X4_countTrue_4 gY j a = nI (j + 1) - (b + ep (6 * j + 5))
    have hab : a = nI j - b := hab
    unfold S_X4_countTrue_4
    rw [hab, ← nI_1]
    rcases ((hg j (by omega)).1 (by omega)).2.2.2.2.2.2.2 with ⟨e1, e2⟩ | ⟨e1, e2, -⟩ <;> rw [e1, e2]
    · rw [if_neg (by decide), Int32.add_zero, Int32.sub_eq_add_neg, Int32.sub_eq_add_neg]
      ac_rfl
    · rw [if_pos rfl, Int32.sub_eq_add_neg, Int32.sub_eq_add_neg, Int32.neg_add, Int32.sub_eq_add_neg]
      rw [show nI j + 1 + (-b + -1) = (nI j + -b) + (1 + -1) by ac_rfl, show (1 : Int32) + -1 = 0 by decide, Int32.add_zero]
theorem litc_all (hR : R ≤ 6) (hr : RR R fw fb ew el) : F_X2_litColumns fw fb = I_M_counted_128 ew el R := by
  show it (fun (k : Nat) (v : Int32) => S_X2_litColumns_4 fw fb k v) 10 0 0 = it (fun (k : Nat) (v : Int32) => S_M_counted_128 ew el R k v) 10 0 0
  refine it_congr _ _ _ (fun j w h1 h2 => ?_)
  show S_X2_litColumns_4 fw fb j w = S_M_counted_128 ew el R j w
  unfold S_X2_litColumns_4 S_M_counted_128
  rw [lit_eq hR hr]
  split
  · rw [Int32.add_zero]
  · rfl
theorem count_eq (hn : n < 2 ^ 31) (h : Rel R G n nt nf fc nr fw fb ng gR gW gT gS gJ gY eh ew el ep en) {w : Nat} (hw : w < 9) : F_X2_tellCount nt nf fc nr fw fb gJ gY (nI w) = F_M_counted eh ew el ep en R G (nI w) := by
  obtain ⟨hR, hG, rfl, rfl, rfl, a4, a5, hH, hr, hg⟩ := h
  unfold F_X2_tellCount F_M_counted
  rcases (show w = 0 ∨ w = 1 ∨ w = 2 ∨ w = 3 ∨ w = 4 ∨ w = 5 ∨ w = 6 ∨ w = 7 ∨ w = 8 by omega) with rfl | rfl | rfl | rfl | rfl | rfl | rfl | rfl | rfl
  · rw [if_pos (show nI 0 = 0 by decide), if_pos (show nI 0 = 0 by decide)]
    exact a4.symm
  · rw [if_neg (show ¬ nI 1 = 0 by decide), if_neg (show ¬ nI 1 = 0 by decide), if_pos (show nI 1 = 1 by decide), if_pos (show nI 1 = 1 by decide)]
    rw [a4, cmoon hn, mmoon hn]
  · rw [if_neg (show ¬ nI 2 = 0 by decide), if_neg (show ¬ nI 2 = 0 by decide), if_neg (show ¬ nI 2 = 1 by decide), if_neg (show ¬ nI 2 = 1 by decide), if_pos (show nI 2 = 2 by decide), if_pos (show nI 2 = 2 by decide)]
    exact flies_eq hH
  · rw [if_neg (show ¬ nI 3 = 0 by decide), if_neg (show ¬ nI 3 = 0 by decide), if_neg (show ¬ nI 3 = 1 by decide), if_neg (show ¬ nI 3 = 1 by decide), if_neg (show ¬ nI 3 = 2 by decide), if_neg (show ¬ nI 3 = 2 by decide), if_pos (show nI 3 = 3 by decide), if_pos (show nI 3 = 3 by decide)]
    rfl
  · rw [if_neg (show ¬ nI 4 = 0 by decide), if_neg (show ¬ nI 4 = 0 by decide), if_neg (show ¬ nI 4 = 1 by decide), if_neg (show ¬ nI 4 = 1 by decide), if_neg (show ¬ nI 4 = 2 by decide), if_neg (show ¬ nI 4 = 2 by decide), if_neg (show ¬ nI 4 = 3 by decide), if_neg (show ¬ nI 4 = 3 by decide), if_pos (show nI 4 = 4 by decide), if_pos (show nI 4 = 4 by decide)]
    exact lamps_all hR hr
  · rw [if_neg (show ¬ nI 5 = 0 by decide), if_neg (show ¬ nI 5 = 0 by decide), if_neg (show ¬ nI 5 = 1 by decide), if_neg (show ¬ nI 5 = 1 by decide), if_neg (show ¬ nI 5 = 2 by decide), if_neg (show ¬ nI 5 = 2 by decide), if_neg (show ¬ nI 5 = 3 by decide), if_neg (show ¬ nI 5 = 3 by decide), if_neg (show ¬ nI 5 = 4 by decide), if_neg (show ¬ nI 5 = 4 by decide), if_pos (show nI 5 = 5 by decide), if_pos (show nI 5 = 5 by decide)]
    exact stay_all hG hg
  · rw [if_neg (show ¬ nI 6 = 0 by decide), if_neg (show ¬ nI 6 = 0 by decide), if_neg (show ¬ nI 6 = 1 by decide), if_neg (show ¬ nI 6 = 1 by decide), if_neg (show ¬ nI 6 = 2 by decide), if_neg (show ¬ nI 6 = 2 by decide), if_neg (show ¬ nI 6 = 3 by decide), if_neg (show ¬ nI 6 = 3 by decide), if_neg (show ¬ nI 6 = 4 by decide), if_neg (show ¬ nI 6 = 4 by decide), if_neg (show ¬ nI 6 = 5 by decide), if_neg (show ¬ nI 6 = 5 by decide), if_pos (show nI 6 = 6 by decide), if_pos (show nI 6 = 6 by decide)]
    exact jars_all hG hg
  · rw [if_neg (show ¬ nI 7 = 0 by decide), if_neg (show ¬ nI 7 = 0 by decide), if_neg (show ¬ nI 7 = 1 by decide), if_neg (show ¬ nI 7 = 1 by decide), if_neg (show ¬ nI 7 = 2 by decide), if_neg (show ¬ nI 7 = 2 by decide), if_neg (show ¬ nI 7 = 3 by decide), if_neg (show ¬ nI 7 = 3 by decide), if_neg (show ¬ nI 7 = 4 by decide), if_neg (show ¬ nI 7 = 4 by decide), if_neg (show ¬ nI 7 = 5 by decide), if_neg (show ¬ nI 7 = 5 by decide), if_neg (show ¬ nI 7 = 6 by decide), if_neg (show ¬ nI 7 = 6 by decide), if_pos (show nI 7 = 7 by decide), if_pos (show nI 7 = 7 by decide)]
    exact a5.symm
  · rw [if_neg (show ¬ nI 8 = 0 by decide), if_neg (show ¬ nI 8 = 0 by decide), if_neg (show ¬ nI 8 = 1 by decide), if_neg (show ¬ nI 8 = 1 by decide), if_neg (show ¬ nI 8 = 2 by decide), if_neg (show ¬ nI 8 = 2 by decide), if_neg (show ¬ nI 8 = 3 by decide), if_neg (show ¬ nI 8 = 3 by decide), if_neg (show ¬ nI 8 = 4 by decide), if_neg (show ¬ nI 8 = 4 by decide), if_neg (show ¬ nI 8 = 5 by decide), if_neg (show ¬ nI 8 = 5 by decide), if_neg (show ¬ nI 8 = 6 by decide), if_neg (show ¬ nI 8 = 6 by decide), if_neg (show ¬ nI 8 = 7 by decide), if_neg (show ¬ nI 8 = 7 by decide)]
    exact litc_all hR hr
theorem mean_eq (h : Rel R G n nt nf fc nr fw fb ng gR gW gT gS gJ gY eh ew el ep en) : F_M_mean ep G = (F_X4_mean gS G, 0) := by
  obtain ⟨hR, hG, rfl, rfl, rfl, a4, a5, hH, hr, hg⟩ := h
  unfold F_M_mean F_X4_mean
  rw [saw_eq hG hg]
  split <;> rfl
theorem it_mul {σ : Type} (f : Nat → σ → σ) (m : Nat) : ∀ (a k : Nat) (v : σ), it f (m * a) (m * k) v = it (fun y w => it f m (m * y) w) a k v := by
  intro a
  induction a with
  | zero => intro k v; rfl
  | succ a ih =>
    intro k v
    rw [Nat.mul_succ, Nat.add_comm, it_add, show m * k + m = m * (k + 1) by rw [Nat.mul_succ], ih]
    rfl
theorem it_shift {σ : Type} (f : Nat → σ → σ) (c : Nat) : ∀ (a k : Nat) (v : σ), it f a (c + k) v = it (fun y w => f (c + y) w) a k v := by
  intro a
  induction a with
  | zero => intro k v; rfl
  | succ a ih =>
    intro k v
    show it f a (c + (k + 1)) (f (c + k) v) = it _ a (k + 1) (f (c + k) v)
    rw [ih]
end
