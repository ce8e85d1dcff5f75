-- what is seen from a window; what changes in a guest's row
theorem ab_n {a b : Nat} (ha : a < 1000) (hb : b < 1000) : (ab (nI a - nI b)).toInt = if b ≤ a then (a : Int) - b else (b : Int) - a := by
  have e : (nI a - nI b).toInt = (a : Int) - b := pk_sub_toInt (by omega) (by omega)
  unfold ab
  by_cases h : b ≤ a
  · rw [if_pos (show 0 ≤ nI a - nI b by rw [i_le, e]; show (0 : Int) ≤ _; omega), if_pos h, e]
  · rw [if_neg (show ¬ 0 ≤ nI a - nI b by rw [i_le, e]; show ¬ (0 : Int) ≤ _; omega), if_neg h, i_sub (by rw [e]; show _ ≤ (0 : Int) - _; omega) (by rw [e]; show (0 : Int) - _ < _; omega), e]
    show (0 : Int) - _ = _
    omega
theorem near_step {eh : Nat → Int32} {w k : Nat} {v : Int32} (hw : w < 10) (hk : k < 50) : S_M_near_4 eh (nI w) k v = if k % 10 ≤ w + 1 ∧ w ≤ k % 10 + 1 then v + eh k else v := by
  unfold S_M_near_4
  rw [show rmd (nI k) 10 = nI (k % 10) from pk_rem (d := 10) (by omega) (by omega) (by omega)]
  have e := ab_n (a := k % 10) (b := w) (by omega) (by omega)
  by_cases h : k % 10 ≤ w + 1 ∧ w ≤ k % 10 + 1
  · rw [if_pos h, if_neg]
    rw [i_lt, e]
    show ¬ (1 : Int) < _
    split <;> omega
  · rw [if_neg h, if_pos, Int32.add_zero]
    rw [i_lt, e]
    show (1 : Int) < _
    split <;> omega
theorem col_in {fc eh : Nat → Int32} (h : RH fc eh) {c : Nat} (hc : c < 10) : F_X1_inColumn fc (nI c) = 0 + eh (10 * 0 + c) + eh (10 * 1 + c) + eh (10 * 2 + c) + eh (10 * 3 + c) + eh (10 * 4 + c) := by
  show it (fun (k : Nat) (v : Int32) => S_X1_inColumn_4 fc (nI c) k v) 5 0 0 = _
  rw [it_congr (g := fun (k : Nat) (v : Int32) => v + eh (10 * k + c)) 5 0 0 (fun j w h1 h2 => by
    show S_X1_inColumn_4 fc (nI c) j w = _
    unfold S_X1_inColumn_4
    rw [at_in hc (by omega), (h _ (by omega)).1])]
  rfl
theorem col_out {fc : Nat → Int32} {x : Int32} (h : ∀ y, F_X1_isInside x y = 0) : F_X1_inColumn fc x = 0 := by
  show it (fun (k : Nat) (v : Int32) => S_X1_inColumn_4 fc x k v) 5 0 0 = _
  refine it_fix (fun k => ?_) _ _
  show S_X1_inColumn_4 fc x k 0 = 0
  unfold S_X1_inColumn_4 F_X1_at
  rw [h, if_pos rfl]
  rfl
theorem out_l (y : Int32) : F_X1_isInside (nI 0 - 1) y = 0 := by unfold F_X1_isInside; rw [if_pos (by decide)]
theorem out_r (y : Int32) : F_X1_isInside (nI 9 + 1) y = 0 := by unfold F_X1_isInside; rw [if_neg (by decide), if_pos (by decide)]
theorem near_0 (eh : Nat → Int32) : F_M_near eh (nI 0) = 0 + eh 0 + eh 1 + eh 10 + eh 11 + eh 20 + eh 21 + eh 30 + eh 31 + eh 40 + eh 41 := by
  show it (fun (k : Nat) (v : Int32) => S_M_near_4 eh (nI 0) k v) 50 0 0 = _
  rw [it_congr (g := fun (k : Nat) (v : Int32) => if k % 10 ≤ 0 + 1 ∧ 0 ≤ k % 10 + 1 then v + eh k else v) 50 0 0 (fun j w h1 h2 => near_step (by omega) (by omega))]
  rfl
theorem near_1 (eh : Nat → Int32) : F_M_near eh (nI 1) = 0 + eh 0 + eh 1 + eh 2 + eh 10 + eh 11 + eh 12 + eh 20 + eh 21 + eh 22 + eh 30 + eh 31 + eh 32 + eh 40 + eh 41 + eh 42 := by
  show it (fun (k : Nat) (v : Int32) => S_M_near_4 eh (nI 1) k v) 50 0 0 = _
  rw [it_congr (g := fun (k : Nat) (v : Int32) => if k % 10 ≤ 1 + 1 ∧ 1 ≤ k % 10 + 1 then v + eh k else v) 50 0 0 (fun j w h1 h2 => near_step (by omega) (by omega))]
  rfl
theorem near_2 (eh : Nat → Int32) : F_M_near eh (nI 2) = 0 + eh 1 + eh 2 + eh 3 + eh 11 + eh 12 + eh 13 + eh 21 + eh 22 + eh 23 + eh 31 + eh 32 + eh 33 + eh 41 + eh 42 + eh 43 := by
  show it (fun (k : Nat) (v : Int32) => S_M_near_4 eh (nI 2) k v) 50 0 0 = _
  rw [it_congr (g := fun (k : Nat) (v : Int32) => if k % 10 ≤ 2 + 1 ∧ 2 ≤ k % 10 + 1 then v + eh k else v) 50 0 0 (fun j w h1 h2 => near_step (by omega) (by omega))]
  rfl
theorem near_3 (eh : Nat → Int32) : F_M_near eh (nI 3) = 0 + eh 2 + eh 3 + eh 4 + eh 12 + eh 13 + eh 14 + eh 22 + eh 23 + eh 24 + eh 32 + eh 33 + eh 34 + eh 42 + eh 43 + eh 44 := by
  show it (fun (k : Nat) (v : Int32) => S_M_near_4 eh (nI 3) k v) 50 0 0 = _
  rw [it_congr (g := fun (k : Nat) (v : Int32) => if k % 10 ≤ 3 + 1 ∧ 3 ≤ k % 10 + 1 then v + eh k else v) 50 0 0 (fun j w h1 h2 => near_step (by omega) (by omega))]
  rfl
theorem near_4 (eh : Nat → Int32) : F_M_near eh (nI 4) = 0 + eh 3 + eh 4 + eh 5 + eh 13 + eh 14 + eh 15 + eh 23 + eh 24 + eh 25 + eh 33 + eh 34 + eh 35 + eh 43 + eh 44 + eh 45 := by
  show it (fun (k : Nat) (v : Int32) => S_M_near_4 eh (nI 4) k v) 50 0 0 = _
  rw [it_congr (g := fun (k : Nat) (v : Int32) => if k % 10 ≤ 4 + 1 ∧ 4 ≤ k % 10 + 1 then v + eh k else v) 50 0 0 (fun j w h1 h2 => near_step (by omega) (by omega))]
  rfl
theorem near_5 (eh : Nat → Int32) : F_M_near eh (nI 5) = 0 + eh 4 + eh 5 + eh 6 + eh 14 + eh 15 + eh 16 + eh 24 + eh 25 + eh 26 + eh 34 + eh 35 + eh 36 + eh 44 + eh 45 + eh 46 := by
  show it (fun (k : Nat) (v : Int32) => S_M_near_4 eh (nI 5) k v) 50 0 0 = _
  rw [it_congr (g := fun (k : Nat) (v : Int32) => if k % 10 ≤ 5 + 1 ∧ 5 ≤ k % 10 + 1 then v + eh k else v) 50 0 0 (fun j w h1 h2 => near_step (by omega) (by omega))]
  rfl
theorem near_6 (eh : Nat → Int32) : F_M_near eh (nI 6) = 0 + eh 5 + eh 6 + eh 7 + eh 15 + eh 16 + eh 17 + eh 25 + eh 26 + eh 27 + eh 35 + eh 36 + eh 37 + eh 45 + eh 46 + eh 47 := by
  show it (fun (k : Nat) (v : Int32) => S_M_near_4 eh (nI 6) k v) 50 0 0 = _
  rw [it_congr (g := fun (k : Nat) (v : Int32) => if k % 10 ≤ 6 + 1 ∧ 6 ≤ k % 10 + 1 then v + eh k else v) 50 0 0 (fun j w h1 h2 => near_step (by omega) (by omega))]
  rfl
theorem near_7 (eh : Nat → Int32) : F_M_near eh (nI 7) = 0 + eh 6 + eh 7 + eh 8 + eh 16 + eh 17 + eh 18 + eh 26 + eh 27 + eh 28 + eh 36 + eh 37 + eh 38 + eh 46 + eh 47 + eh 48 := by
  show it (fun (k : Nat) (v : Int32) => S_M_near_4 eh (nI 7) k v) 50 0 0 = _
  rw [it_congr (g := fun (k : Nat) (v : Int32) => if k % 10 ≤ 7 + 1 ∧ 7 ≤ k % 10 + 1 then v + eh k else v) 50 0 0 (fun j w h1 h2 => near_step (by omega) (by omega))]
  rfl
theorem near_8 (eh : Nat → Int32) : F_M_near eh (nI 8) = 0 + eh 7 + eh 8 + eh 9 + eh 17 + eh 18 + eh 19 + eh 27 + eh 28 + eh 29 + eh 37 + eh 38 + eh 39 + eh 47 + eh 48 + eh 49 := by
  show it (fun (k : Nat) (v : Int32) => S_M_near_4 eh (nI 8) k v) 50 0 0 = _
  rw [it_congr (g := fun (k : Nat) (v : Int32) => if k % 10 ≤ 8 + 1 ∧ 8 ≤ k % 10 + 1 then v + eh k else v) 50 0 0 (fun j w h1 h2 => near_step (by omega) (by omega))]
  rfl
theorem near_9 (eh : Nat → Int32) : F_M_near eh (nI 9) = 0 + eh 8 + eh 9 + eh 18 + eh 19 + eh 28 + eh 29 + eh 38 + eh 39 + eh 48 + eh 49 := by
  show it (fun (k : Nat) (v : Int32) => S_M_near_4 eh (nI 9) k v) 50 0 0 = _
  rw [it_congr (g := fun (k : Nat) (v : Int32) => if k % 10 ≤ 9 + 1 ∧ 9 ≤ k % 10 + 1 then v + eh k else v) 50 0 0 (fun j w h1 h2 => near_step (by omega) (by omega))]
  rfl
theorem seen_eq {fc eh : Nat → Int32} (h : RH fc eh) {w : Nat} (hw : w < 10) : F_X1_seenFrom fc (nI w) = F_M_near eh (nI w) := by
  unfold F_X1_seenFrom
  rcases (show w = 0 ∨ w = 1 ∨ w = 2 ∨ w = 3 ∨ w = 4 ∨ w = 5 ∨ w = 6 ∨ w = 7 ∨ w = 8 ∨ w = 9 by omega) with rfl | rfl | rfl | rfl | rfl | rfl | rfl | rfl | rfl | rfl
  · rw [col_out (x := nI 0 - 1) out_l, show nI 0 + 1 = nI 1 from nI_1 0, col_in h (c := 1) (by omega), col_in h (c := 0) (by omega), near_0]
    simp only [Int32.zero_add, Int32.add_zero, Nat.reduceMul, Nat.reduceAdd]
    ac_rfl
  · rw [show nI 1 - 1 = nI 0 from nI_pred 0, col_in h (c := 0) (by omega), show nI 1 + 1 = nI 2 from nI_1 1, col_in h (c := 2) (by omega), col_in h (c := 1) (by omega), near_1]
    simp only [Int32.zero_add, Int32.add_zero, Nat.reduceMul, Nat.reduceAdd]
    ac_rfl
  · rw [show nI 2 - 1 = nI 1 from nI_pred 1, col_in h (c := 1) (by omega), show nI 2 + 1 = nI 3 from nI_1 2, col_in h (c := 3) (by omega), col_in h (c := 2) (by omega), near_2]
    simp only [Int32.zero_add, Int32.add_zero, Nat.reduceMul, Nat.reduceAdd]
    ac_rfl
  · rw [show nI 3 - 1 = nI 2 from nI_pred 2, col_in h (c := 2) (by omega), show nI 3 + 1 = nI 4 from nI_1 3, col_in h (c := 4) (by omega), col_in h (c := 3) (by omega), near_3]
    simp only [Int32.zero_add, Int32.add_zero, Nat.reduceMul, Nat.reduceAdd]
    ac_rfl
  · rw [show nI 4 - 1 = nI 3 from nI_pred 3, col_in h (c := 3) (by omega), show nI 4 + 1 = nI 5 from nI_1 4, col_in h (c := 5) (by omega), col_in h (c := 4) (by omega), near_4]
    simp only [Int32.zero_add, Int32.add_zero, Nat.reduceMul, Nat.reduceAdd]
    ac_rfl
  · rw [show nI 5 - 1 = nI 4 from nI_pred 4, col_in h (c := 4) (by omega), show nI 5 + 1 = nI 6 from nI_1 5, col_in h (c := 6) (by omega), col_in h (c := 5) (by omega), near_5]
    simp only [Int32.zero_add, Int32.add_zero, Nat.reduceMul, Nat.reduceAdd]
    ac_rfl
  · rw [show nI 6 - 1 = nI 5 from nI_pred 5, col_in h (c := 5) (by omega), show nI 6 + 1 = nI 7 from nI_1 6, col_in h (c := 7) (by omega), col_in h (c := 6) (by omega), near_6]
    simp only [Int32.zero_add, Int32.add_zero, Nat.reduceMul, Nat.reduceAdd]
    ac_rfl
  · rw [show nI 7 - 1 = nI 6 from nI_pred 6, col_in h (c := 6) (by omega), show nI 7 + 1 = nI 8 from nI_1 7, col_in h (c := 8) (by omega), col_in h (c := 7) (by omega), near_7]
    simp only [Int32.zero_add, Int32.add_zero, Nat.reduceMul, Nat.reduceAdd]
    ac_rfl
  · rw [show nI 8 - 1 = nI 7 from nI_pred 7, col_in h (c := 7) (by omega), show nI 8 + 1 = nI 9 from nI_1 8, col_in h (c := 9) (by omega), col_in h (c := 8) (by omega), near_8]
    simp only [Int32.zero_add, Int32.add_zero, Nat.reduceMul, Nat.reduceAdd]
    ac_rfl
  · rw [show nI 9 - 1 = nI 8 from nI_pred 8, col_in h (c := 8) (by omega), col_out (x := nI 9 + 1) out_r, col_in h (c := 9) (by omega), near_9]
    simp only [Int32.zero_add, Int32.add_zero, Nat.reduceMul, Nat.reduceAdd]
    ac_rfl
section
variable {R G : Nat} {gR gW gT gS gJ gY ep : Nat → Int32}
theorem RG.seen (h : RG R G gR gW gT gS gJ gY ep) {k : Nat} (hk : k < G) (x : Int32) : RG R G gR gW gT (upd gS k x) gJ gY (F_M_put ep k 4 x) := by
  intro g hg
  have n : ∀ w, w < 6 → w ≠ 4 → F_M_put ep k 4 x (6 * g + w) = ep (6 * g + w) := fun w h1 h2 => pk_un (by omega)
  have n0 : F_M_put ep k 4 x (6 * g) = ep (6 * g) := n 0 (by omega) (by omega)
  obtain ⟨a, b⟩ := h g hg
  refine ⟨fun q => ?_, fun q => ?_⟩
  · obtain ⟨a1, a2, a3, a4, a5, a6, a7, a8⟩ := a q
    rw [n0, n 1 (by omega) (by omega), n 2 (by omega) (by omega), n 3 (by omega) (by omega), n 5 (by omega) (by omega)]
    refine ⟨a1, a2, a3, a4, a5, a6, ?_, a8⟩
    by_cases e : g = k
    · subst e
      show upd gS g x g = upd ep (6 * g + 4) x (6 * g + 4)
      rw [pk_us, pk_us]
    · rw [pk_un e, a7]
      exact (pk_un (by omega)).symm
  · obtain ⟨b1, b2, b3, b4⟩ := b q
    exact ⟨b1, (pk_un (by omega)).trans b2, b3, b4⟩
theorem RG.took (h : RG R G gR gW gT gS gJ gY ep) {k : Nat} (hk : k < G) (x : Int32) : RG R G gR gW (upd gT k x) gS gJ gY (F_M_put ep k 3 x) := by
  intro g hg
  have n : ∀ w, w < 6 → w ≠ 3 → F_M_put ep k 3 x (6 * g + w) = ep (6 * g + w) := fun w h1 h2 => pk_un (by omega)
  have n0 : F_M_put ep k 3 x (6 * g) = ep (6 * g) := n 0 (by omega) (by omega)
  obtain ⟨a, b⟩ := h g hg
  refine ⟨fun q => ?_, fun q => ?_⟩
  · obtain ⟨a1, a2, a3, a4, a5, a6, a7, a8⟩ := a q
    rw [n0, n 1 (by omega) (by omega), n 2 (by omega) (by omega), n 4 (by omega) (by omega), n 5 (by omega) (by omega)]
    refine ⟨a1, a2, a3, a4, a5, ?_, a7, a8⟩
    by_cases e : g = k
    · subst e
      show upd gT g x g = upd ep (6 * g + 3) x (6 * g + 3)
      rw [pk_us, pk_us]
    · rw [pk_un e, a6]
      exact (pk_un (by omega)).symm
  · obtain ⟨b1, b2, b3, b4⟩ := b q
    exact ⟨(pk_un (by omega)).trans b1, b2, b3, b4⟩
end
theorem all_put (ep : Nat → Int32) {G g : Nat} (hg : g < G) (d : Int32) : F_M_all (F_M_put ep g 4 (F_M_pe ep g 4 + d)) G 4 = F_M_all ep G 4 + d := by
  have key := it_sim (P := fun j (a b : Int32) => b = a + (if g < j then d else 0)) (f := fun (k : Nat) (v : Int32) => S_M_all_4 ep 4 k v) (g := fun (k : Nat) (v : Int32) => S_M_all_4 (F_M_put ep g 4 (F_M_pe ep g 4 + d)) 4 k v) G 0 0 0 (fun j a b h1 h3 hab => ?_) (by rw [if_neg (Nat.not_lt_zero _)]; rfl)
  · show (it (fun (k : Nat) (v : Int32) => S_M_all_4 (F_M_put ep g 4 (F_M_pe ep g 4 + d)) 4 k v) G 0 0) = (it (fun (k : Nat) (v : Int32) => S_M_all_4 ep 4 k v) G 0 0) + d
    rw [key, if_pos (by omega)]
  · show b + upd ep (6 * g + 4) (ep (6 * g + 4) + d) (6 * j + 4) = a + ep (6 * j + 4) + (if g < j + 1 then d else 0)
    have hab : b = a + (if g < j then d else 0) := hab
    rw [hab]
    by_cases e : j = g
    · subst e
      rw [pk_us, if_neg (Nat.lt_irrefl _), if_pos (Nat.lt_succ_self _), Int32.add_zero, Int32.add_assoc]
    · rw [pk_un (by omega)]
      by_cases z : g < j
      · rw [if_pos z, if_pos (by omega)]
        ac_rfl
      · rw [if_neg z, if_neg (by omega), Int32.add_zero, Int32.add_zero]
