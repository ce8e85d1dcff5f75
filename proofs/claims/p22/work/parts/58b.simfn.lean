-- what the law's own class tells, in the words of the night
theorem s_lit_L {R k : Nat} {sr : Nat → Nat → Int32} (hk : k < 10) (hW : ∀ j, j < R → ∃ w, w < 10 ∧ sr j 0 = nI w) : ∀ (n j : Nat), j + n ≤ R → L_X5_lit_11 sr (nI k) n j = L_M_lit_2 (EW sr) (EL sr) (nI k) n j := by
  have e0 : (1 : Int32).toInt = 1 := rfl
  have ek : (nI k).toInt = k := nI_toInt (by omega)
  have e1 : (nI k - 1).toInt = (k : Int) - 1 := by rw [i_sub (by rw [ek, e0]; omega) (by rw [ek, e0]; omega), ek, e0]
  have e2 : (nI k + 1).toInt = (k : Int) + 1 := by rw [i_add (by rw [ek, e0]; omega) (by rw [ek, e0]; omega), ek, e0]
  intro n
  induction n with
  | zero => intro j _; rfl
  | succ n ih =>
    intro j hj
    obtain ⟨w, hw, e⟩ := hW j (by omega)
    unfold L_X5_lit_11 L_M_lit_2
    rw [show EL sr j = sr j 1 from rfl, show EW sr j = sr j 0 from rfl, e, ih (j + 1) (by omega)]
    have ha := ab_n (a := w) (b := k) (by omega) (by omega)
    have ew : (nI w).toInt = w := nI_toInt (by omega)
    by_cases c : sr j 1 = 1
    · rw [if_pos c, if_pos c]
      by_cases c1 : nI w < nI k - 1
      · rw [if_pos c1, if_pos]
        rw [i_lt, ew, e1] at c1
        rw [i_lt, ha, e0]
        split <;> omega
      · rw [if_neg c1]
        rw [i_lt, ew, e1] at c1
        by_cases c2 : nI k + 1 < nI w
        · rw [if_pos c2, if_pos]
          rw [i_lt, ew, e2] at c2
          rw [i_lt, ha, e0]
          split <;> omega
        · rw [if_neg c2, if_neg]
          rw [i_lt, ew, e2] at c2
          rw [i_lt, ha, e0]
          split <;> omega
    · rw [if_neg c, if_neg c]
theorem s_lit {R G k : Nat} {sr sg : Nat → Nat → Int32} (h : SI R G sr sg) (hk : k < 10) : F_X5_lit sr R (nI k) = F_M_lit (EW sr) (EL sr) R (nI k) := s_lit_L hk h.1 R 0 (by omega)
theorem s_in (sg : Nat → Nat → Int32) (g : Nat) (room : Int32) : F_X5_isIn sg g room = F_M_isThere (EP sg) g room := by
  rw [there_eq, ep_at sg (g := g) (w := 5) (by omega), ep_0]
  rfl
theorem s_whisp (sg : Nat → Nat → Int32) (G r : Nat) : F_X5_whispers sg G (nI r) = I_M_roomTold_30 (EP sg) G r 3 := by
  show it (fun (k : Nat) (v : Int32) => S_X5_whispers_14 sg (nI r) k v) G 0 0 = it (fun (k : Nat) (v : Int32) => S_M_roomTold_30 (EP sg) r 3 k v) G 0 0
  refine it_congr _ _ _ (fun j w _ _ => ?_)
  show S_X5_whispers_14 sg (nI r) j w = S_M_roomTold_30 (EP sg) r 3 j w
  unfold S_X5_whispers_14 S_M_roomTold_30 F_M_pe
  rw [s_in, if_neg (show ¬ (3 : Int32) = 2 by decide), if_pos rfl, ep_at sg (g := j) (w := 1) (by omega)]
theorem s_flies (sh : Nat → Nat → Int32) : F_X5_flies sh = F_M_flies (EH sh) := by
  have e1 : F_X5_flies sh = 0 + sm (fun x => sm (fun y => sh x y) 5) 10 := by
    show it (fun (k : Nat) (v : Int32) => S_X5_flies_13 sh k v) 10 0 0 = _
    rw [it_congr (f := fun (k : Nat) (v : Int32) => S_X5_flies_13 sh k v) (g := fun (k : Nat) (v : Int32) => v + sm (fun y => sh k y) 5) 10 0 0 (fun j w _ _ => show S_X5_flies_13 sh j w = w + sm (fun y => sh j y) 5 from it_sm (fun y => sh j y) w 5)]
    exact it_sm (fun k => sm (fun y => sh k y) 5) 0 10
  have e2 : F_M_flies (EH sh) = 0 + sm (EH sh) (10 * 5) := it_sm (EH sh) 0 50
  have e3 : sm (fun x => sm (fun y => sh x y) 5) 10 = sm (EH sh) (10 * 5) := by
    rw [sm_rows (EH sh) 10 5, sm_swap (fun x y => sh x y) 5 10]
    exact sm_congr (fun y _ => sm_congr (fun x hx => (eh_at sh hx).symm))
  rw [e1, e2, e3]
theorem s_sum (sg : Nat → Nat → Int32) (G : Nat) {w : Nat} (hw : w < 6) : F_X5_sum sg G w = F_M_all (EP sg) G w := by
  show it (fun (k : Nat) (v : Int32) => S_X5_sum_14 sg w k v) G 0 0 = it (fun (k : Nat) (v : Int32) => S_M_all_4 (EP sg) w k v) G 0 0
  refine it_congr _ _ _ (fun j v _ _ => ?_)
  show v + sg j w = v + EP sg (6 * j + w)
  rw [ep_at sg hw]
theorem s_moon {n : Nat} (hn : n < 2 ^ 31) : F_X5_moon n = F_M_moon (nI n) := by
  unfold F_M_moon
  rw [show rmd (nI n) 8 = nI (n % 8) from pk_rem (d := 8) hn (by omega) (by omega)]
  unfold F_X5_moon
  rcases (show n % 8 = 0 ∨ n % 8 = 1 ∨ n % 8 = 2 ∨ n % 8 = 3 ∨ n % 8 = 4 ∨ n % 8 = 5 ∨ n % 8 = 6 ∨ n % 8 = 7 by omega) with h | h | h | h | h | h | h | h <;> rw [h] <;> decide
-- the program beside the picture
section
variable {R G n : Nat} {nf : Int32} {fc fw fb gR gW gT gS gJ gY : Nat → Int32} {sh sr sg : Nat → Nat → Int32} {sf : Int32}
theorem sm_lit (h : Rel R G n (nI n) nf fc (nI R) fw fb (nI G) gR gW gT gS gJ gY (EH sh) (EW sr) (EL sr) (EP sg) (EN (nI n) sf)) {k : Nat} (hk : k < 10) : F_X4_isLit fw fb (nI k) = F_X5_lit sr R (nI k) := by
  rw [s_lit h.si hk]
  obtain ⟨hR, -, -, -, -, -, -, -, hr, -⟩ := h
  exact lit_eq hR hr _
theorem sm_cell (h : Rel R G n (nI n) nf fc (nI R) fw fb (nI G) gR gW gT gS gJ gY (EH sh) (EW sr) (EL sr) (EP sg) (EN (nI n) sf)) {x y : Nat} (hx : x < 10) (hy : y < 5) : F_X4_cell fc (nI x) (nI y) = sh x y := by
  obtain ⟨-, -, -, -, -, -, -, hH, -⟩ := h
  unfold F_X4_cell
  rw [at_in hx hy, (hH _ (by omega)).1, eh_at sh hx]
theorem sm_guest (h : Rel R G n (nI n) nf fc (nI R) fw fb (nI G) gR gW gT gS gJ gY (EH sh) (EW sr) (EL sr) (EP sg) (EN (nI n) sf)) {g w : Nat} (hg : g < G) (hw : w < 6) : F_X4_guest (nI G) gR gW gT gS gJ gY (nI g) (nI w) = sg g w := by
  obtain ⟨-, hG, -, -, -, -, -, -, -, hg9⟩ := h
  unfold F_X4_guest
  rw [tell_eq hG hg9 hg hw]
  exact ep_at sg hw
/-- what is told of a room, out of the picture -/
def rt (sr sg : Nat → Nat → Int32) (G k w : Nat) : Int32 := F_M_roomTold (EW sr) (EL sr) (EP sg) G k (nI w)
theorem sm_rt (h : Rel R G n (nI n) nf fc (nI R) fw fb (nI G) gR gW gT gS gJ gY (EH sh) (EW sr) (EL sr) (EP sg) (EN (nI n) sf)) {k w : Nat} (hk : k < R) (hw : w < 5) : F_X4_room (nI R) fw fb gR gW gJ gY (nI k) (nI w) = rt sr sg G k w := by
  obtain ⟨hR, hG, -, -, -, -, -, -, hr, hg⟩ := h
  unfold F_X4_room
  exact told_eq hR hG hr hg hk hw
theorem sm_ct (h : Rel R G n (nI n) nf fc (nI R) fw fb (nI G) gR gW gT gS gJ gY (EH sh) (EW sr) (EL sr) (EP sg) (EN (nI n) sf)) (hn : n < 2 ^ 30) {w : Nat} (hw : w < 9) : F_X4_count (nI n) nf fc (nI R) fw fb gJ gY (nI w) = F_M_counted (EH sh) (EW sr) (EL sr) (EP sg) (EN (nI n) sf) R G (nI w) := by
  unfold F_X4_count
  exact count_eq (by omega) h hw
theorem sm_room (h : Rel R G n (nI n) nf fc (nI R) fw fb (nI G) gR gW gT gS gJ gY (EH sh) (EW sr) (EL sr) (EP sg) (EN (nI n) sf)) {k w : Nat} (hk : k < R) (hw : w < 5) : F_X4_room (nI R) fw fb gR gW gJ gY (nI k) (nI w) = (I_X5_isSame_158 sr sg G k) w := by
  rw [sm_rt h hk hw]
  have key := it_ind (P := fun j (f : Nat → Int32) => f 0 = sr k 0 ∧ f 1 = sr k 1 ∧ f 2 = it (fun (i : Nat) (v : Int32) => S_M_roomTold_30 (EP sg) k 2 i v) j 0 0 ∧ f 3 = F_X5_whispers sg G (nI k) ∧ f 4 = it (fun (i : Nat) (v : Int32) => S_M_roomTold_30 (EP sg) k 4 i v) j 0 0) (f := fun (i : Nat) (v : Nat → Int32) => S_X5_isSame_158 sg k i v) G 0 (upd (upd (upd (upd (upd (fun _ => 0) 0 (sr k 0)) 1 (sr k 1)) 2 0) 3 (F_X5_whispers sg G (nI k))) 4 0) (fun j f h1 h3 hf => ?_) ⟨rfl, rfl, rfl, rfl, rfl⟩
  · rw [Nat.zero_add] at key
    obtain ⟨k0, k1, k2, k3, k4⟩ := key
    unfold I_X5_isSame_158 rt
    rcases (show w = 0 ∨ w = 1 ∨ w = 2 ∨ w = 3 ∨ w = 4 by omega) with rfl | rfl | rfl | rfl | rfl
    · rw [k0]
      rfl
    · rw [k1]
      rfl
    · rw [k2]
      rfl
    · rw [k3, s_whisp]
      rfl
    · rw [k4]
      rfl
  · obtain ⟨k0, k1, k2, k3, k4⟩ := hf
    show (S_X5_isSame_158 sg k j f) 0 = _ ∧ (S_X5_isSame_158 sg k j f) 1 = _ ∧ (S_X5_isSame_158 sg k j f) 2 = _ ∧ (S_X5_isSame_158 sg k j f) 3 = _ ∧ (S_X5_isSame_158 sg k j f) 4 = _
    unfold S_X5_isSame_158
    rw [pk_un (by decide), pk_un (by decide), pk_un (by decide), pk_un (by decide), pk_un (by decide), pk_us, pk_un (by decide), pk_un (by decide), pk_us, pk_un (by decide), it_last, it_last, Nat.zero_add, k0, k1, k2, k3, k4]
    unfold T_X5_isSame_185 T_X5_isSame_208 S_M_roomTold_30 F_M_pe
    rw [s_in, ep_at sg (g := j) (w := 2) (by omega), if_pos (show (2 : Int32) = 2 from rfl), if_neg (show ¬ (4 : Int32) = 2 by decide), if_neg (show ¬ (4 : Int32) = 3 by decide)]
    refine ⟨rfl, rfl, ?_, rfl, ?_⟩
    · by_cases c : F_M_isThere (EP sg) j (nI k) = 0
      · rw [if_pos c, if_pos c, Int32.add_zero]
      · rw [if_neg c, if_neg c]
    · by_cases c : F_M_isThere (EP sg) j (nI k) = 0
      · rw [if_pos c, if_pos c, Int32.add_zero]
      · rw [if_neg c, if_neg c]
theorem same_lamps (sr : Nat → Nat → Int32) (R : Nat) : I_X5_isSame_88 sr R = I_M_counted_77 (EL sr) R := rfl
theorem same_lit (h : SI R G sr sg) : I_X5_isSame_4 sr R = I_M_counted_128 (EW sr) (EL sr) R := by
  show it (fun (k : Nat) (v : Int32) => S_X5_isSame_4 sr R k v) 10 0 0 = it (fun (k : Nat) (v : Int32) => S_M_counted_128 (EW sr) (EL sr) R k v) 10 0 0
  refine it_congr _ _ _ (fun j v _ hj => ?_)
  show S_X5_isSame_4 sr R j v = S_M_counted_128 (EW sr) (EL sr) R j v
  unfold S_X5_isSame_4 T_X5_isSame_16 S_M_counted_128
  rw [s_lit h (by omega)]
  split <;> rfl
theorem sm_count (h : Rel R G n (nI n) nf fc (nI R) fw fb (nI G) gR gW gT gS gJ gY (EH sh) (EW sr) (EL sr) (EP sg) (EN (nI n) sf)) (hn : n < 2 ^ 30) {w : Nat} (hw : w < 9) : F_X4_count (nI n) nf fc (nI R) fw fb gJ gY (nI w) = (upd (upd (upd (upd (upd (upd (upd (upd (upd (fun _ => 0) 0 (nI n)) 1 (F_X5_moon n)) 2 (F_X5_flies sh)) 3 (nI R)) 4 (I_X5_isSame_88 sr R)) 5 ((nI G) - (F_X5_sum sg G 5))) 6 (F_X5_sum sg G 2)) 7 sf) 8 (I_X5_isSame_4 sr R)) w := by
  rw [sm_ct h hn hw, s_moon (by omega), s_flies, s_sum sg G (by omega), s_sum sg G (by omega), same_lamps, same_lit h.si]
  rcases (show w = 0 ∨ w = 1 ∨ w = 2 ∨ w = 3 ∨ w = 4 ∨ w = 5 ∨ w = 6 ∨ w = 7 ∨ w = 8 by omega) with rfl | rfl | rfl | rfl | rfl | rfl | rfl | rfl | rfl <;> rfl
theorem mean_same (x : UInt64) (h : FP.Core.decode FP.Core.b64 x.toNat ≠ .nan) : Op.cmpValue (FP.dcmp x x) .l = 0 := by
  rw [dq_self h]
  rfl
theorem sm_mean0 (h : Rel R G n (nI n) nf fc (nI R) fw fb (nI G) gR gW gT gS gJ gY (EH sh) (EW sr) (EL sr) (EP sg) (EN (nI n) sf)) (c : nI G = 0) : Op.cmpValue (FP.dcmp (F_X4_mean gS G) FP.dconst0) .l = 0 := by
  unfold F_X4_mean
  rw [if_pos c]
  exact mean_same _ (by decide +kernel)
theorem sm_mean1 (h : Rel R G n (nI n) nf fc (nI R) fw fb (nI G) gR gW gT gS gJ gY (EH sh) (EW sr) (EL sr) (EP sg) (EN (nI n) sf)) (c : ¬ nI G = 0) : Op.cmpValue (FP.dcmp (F_X4_mean gS G) (FP.ddiv (FP.i2d (F_X5_sum sg G 4)) (FP.i2d (nI G)))) .l = 0 := by
  have e := congrArg Prod.fst (mean_eq h)
  have hG := h.2.1
  unfold F_M_mean at e
  rw [if_neg c] at e
  have e2 : FP.ddiv (FP.i2d (F_M_all (EP sg) G 4)) (FP.i2d (nI G)) = F_X4_mean gS G := e
  rw [s_sum sg G (by omega), e2, ← e2]
  exact mean_same _ (dq_div _ (pos_of c) hG).2
end
