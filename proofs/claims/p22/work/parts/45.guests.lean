-- whispers, looking out, jars, the search: class beside model
theorem cmoon {n : Nat} (hn : n < 2 ^ 31) : F_X2_moonLight (nI n) = nI (tri n) := by
  unfold F_X2_moonLight tri
  rw [pk_andN (by omega) 3 rfl]
  have h8 : n % 2 ^ 3 < 8 := Nat.mod_lt _ (by omega)
  rw [show n % 8 = n % 2 ^ 3 from rfl]
  generalize n % 2 ^ 3 = r at h8 ⊢
  rcases (show r = 0 ∨ r = 1 ∨ r = 2 ∨ r = 3 ∨ r = 4 ∨ r = 5 ∨ r = 6 ∨ r = 7 by omega) with rfl | rfl | rfl | rfl | rfl | rfl | rfl | rfl <;> decide
section
variable {R G : Nat} {fw fb ew el gR gW gT gS gJ gY ep : Nat → Int32}
theorem whisp0 (hG : G ≤ 12) (hR : R ≤ 6) (h2 : RG R G gR gW gT gS gJ gY ep) {r : Nat} (hr : R ≤ r) (hr6 : r < 6) : F_X0_whispersIn gR gW gY (nI r) = 0 := by
  rw [told3 (ew := ep) (el := ep) hG h2]
  show it _ G 0 0 = 0
  rw [it_congr (g := fun _ (v : Int32) => v) G 0 0 (fun j w h1 h3 => by
    show S_M_roomTold_30 ep r 3 j w = w
    obtain ⟨-, ⟨q, hq, e⟩, -⟩ := (h2 j (by omega)).1 (by omega)
    unfold S_M_roomTold_30
    rw [there_eq, e, if_neg (show ¬ nI q = nI r from fun z => by have := (nI_eq (by omega) (by omega)).mp z; omega)]
    split <;> rfl)]
  exact it_fix (fun _ => rfl) _ _
theorem whisp_eq {fc eh : Nat → Int32} (hR : R ≤ 6) (hG : G ≤ 12) (h1 : RR R fw fb ew el) (h2 : RG R G gR gW gT gS gJ gY ep) (h : RH fc eh) : RH (F_X2_driveByWhispers fc (nI R) fw gR gW gY) (it (fun (k : Nat) (v : Nat → Int32) => S_M_nightOn_6 ew el ep G k v) R 0 eh) := by
  show RH (it (fun (k : Nat) (v : Nat → Int32) => S_X2_driveByWhispers_2 (nI R) fw gR gW gY k v) 6 0 fc) _
  rw [it_cut (G := R) hR (fun j w h3 h4 => by
    show S_X2_driveByWhispers_2 (nI R) fw gR gW gY j w = w
    unfold S_X2_driveByWhispers_2
    rw [whisp0 hG hR h2 h3 h4, if_pos (by decide)])]
  refine it_sim (P := fun _ a b => RH a b) R 0 fc eh (fun j a b h3 h4 hab => ?_) h
  show RH (S_X2_driveByWhispers_2 (nI R) fw gR gW gY j a) (S_M_nightOn_6 ew el ep G j b)
  unfold S_X2_driveByWhispers_2 S_M_nightOn_6
  rw [told3 (ew := ew) (el := el) hG h2, win_eq hR h1 (by omega)]
  obtain ⟨-, ⟨w, hw, e⟩, -⟩ := (h1 j (by omega)).1 (by omega)
  split
  · exact hab
  · rw [e]
    exact fall_eq hw hab
theorem stay_b (hG : G ≤ 12) (h2 : RG R G gR gW gT gS gJ gY ep) {k : Nat} (hk : k < G) : F_X0_isStaying (nI G) gY (nI k) = if ep (6 * k + 5) = 0 then 1 else 0 := by
  unfold F_X0_isStaying
  rw [has0 hG hk, if_neg (by decide), nI_clamp (by omega)]
  rcases ((h2 k (by omega)).1 hk).2.2.2.2.2.2.2 with ⟨e1, e2⟩ | ⟨e1, e2, -⟩ <;> rw [e1, e2] <;> decide
theorem jar_b (hG : G ≤ 12) (h2 : RG R G gR gW gT gS gJ gY ep) {k : Nat} (hk : k < G) : F_X0_hasJar (nI G) gJ (nI k) = ep (6 * k + 2) := by
  unfold F_X0_hasJar
  obtain ⟨-, -, -, a4, a5, -⟩ := (h2 k (by omega)).1 hk
  rw [has0 hG hk, if_neg (by decide), nI_clamp (by omega), a4]
  rcases a5 with e | e <;> rw [e] <;> decide
theorem room_b (hG : G ≤ 12) {k : Nat} (hk : k < G) : F_X0_roomOf (nI G) gR (nI k) = gR k := by
  unfold F_X0_roomOf
  rw [has0 hG hk, if_neg (by decide), nI_clamp (by omega)]
/-- the class's looking out, below the light of 4, as one step for each guest -/
def lookS (nt : Int32) (fc : Nat → Int32) (nr : Int32) (fw fb : Nat → Int32) (ng : Int32) (gR gY : Nat → Int32) (k : Nat) (v : Int32 × (Nat → Int32)) : Int32 × (Nat → Int32) :=
  if (F_X0_isStaying ng gY (nI k)) = 0 then v else if (F_X3_isBurning nr fb (F_X0_roomOf ng gR (nI k))) = 0 then (v.1 + ((F_X1_seenFrom fc (F_X3_windowOf nr fw (F_X0_roomOf ng gR (nI k)))) / ((F_X2_moonLight nt) + 1)), F_X0_addSeen ng v.2 (nI k) ((F_X1_seenFrom fc (F_X3_windowOf nr fw (F_X0_roomOf ng gR (nI k)))) / ((F_X2_moonLight nt) + 1))) else v
theorem look_it {nt : Int32} {fc : Nat → Int32} {nr : Int32} {fw fb : Nat → Int32} {ng : Int32} {gR gY : Nat → Int32} (h : ¬ 4 ≤ F_X2_moonLight nt) : ∀ (n k : Nat) (v : Int32) (g : Nat → Int32), L_X2_lookOut_12 nt fc nr fw fb ng gR gY n k v g = it (lookS nt fc nr fw fb ng gR gY) n k (v, g) := by
  intro n
  induction n with
  | zero => intro k v g; rfl
  | succ n ih =>
    intro k v g
    show _ = it _ n (k + 1) (lookS nt fc nr fw fb ng gR gY k (v, g))
    unfold L_X2_lookOut_12 lookS
    rw [if_neg h]
    by_cases c1 : F_X0_isStaying ng gY (nI k) = 0
    · rw [if_pos c1, if_pos c1]; exact ih _ _ _
    · rw [if_neg c1, if_neg c1]
      by_cases c2 : F_X3_isBurning nr fb (F_X0_roomOf ng gR (nI k)) = 0
      · rw [if_pos c2, if_pos c2]; exact ih _ _ _
      · rw [if_neg c2, if_neg c2]; exact ih _ _ _
def seeS (eh ew el : Nat → Int32) (M : Int32) (k : Nat) (p : Nat → Int32) : Nat → Int32 :=
  if F_M_pe p k 5 = 0 then if el ((F_M_pe p k 0).toNatClampNeg) = 0 then if 4 ≤ M then p else F_M_put p k 4 (F_M_pe p k 4 + (F_M_near eh (ew ((F_M_pe p k 0).toNatClampNeg)) / (M + 1))) else p else p
theorem look_eq {fc eh : Nat → Int32} {n : Nat} (hn : n < 2 ^ 31) (hR : R ≤ 6) (hG : G ≤ 12) (h1 : RR R fw fb ew el) (h2 : RG R G gR gW gT gS gJ gY ep) (h : RH fc eh) :
    RG R G gR gW gT (F_X2_lookOut (nI n) fc (nI R) fw fb (nI G) gR gS gY).2 gJ gY (it (seeS eh ew el (F_M_moon (nI n))) G 0 ep) ∧ F_M_all (it (seeS eh ew el (F_M_moon (nI n))) G 0 ep) G 4 = F_M_all ep G 4 + (F_X2_lookOut (nI n) fc (nI R) fw fb (nI G) gR gS gY).1 := by
  rw [mmoon hn]
  by_cases h4 : (4 : Int32) ≤ nI (tri n)
  · have eM : it (seeS eh ew el (nI (tri n))) G 0 ep = ep := by
      rw [it_congr (g := fun _ (v : Nat → Int32) => v) G 0 ep (fun j w _ _ => by
        unfold seeS
        rw [if_pos h4]
        repeat' split
        all_goals rfl)]
      exact it_fix (fun _ => rfl) _ _
    have eC : F_X2_lookOut (nI n) fc (nI R) fw fb (nI G) gR gS gY = (0, gS) := by
      show L_X2_lookOut_12 (nI n) fc (nI R) fw fb (nI G) gR gY (11 + 1) 0 0 gS = _
      unfold L_X2_lookOut_12
      rw [cmoon hn, if_pos h4]
    rw [eM, eC]
    exact ⟨h2, (Int32.add_zero _).symm⟩
  · have hc : ¬ 4 ≤ F_X2_moonLight (nI n) := by rw [cmoon hn]; exact h4
    have eC : F_X2_lookOut (nI n) fc (nI R) fw fb (nI G) gR gS gY = it (lookS (nI n) fc (nI R) fw fb (nI G) gR gY) G 0 (0, gS) := by
      show L_X2_lookOut_12 (nI n) fc (nI R) fw fb (nI G) gR gY 12 0 0 gS = _
      rw [look_it hc]
      refine it_cut hG (fun j w h3 h5 => ?_)
      unfold lookS F_X0_isStaying
      rw [has0n hG h5 h3, if_pos rfl, if_pos rfl]
    rw [eC]
    refine it_sim (P := fun _ (a : Int32 × (Nat → Int32)) (b : Nat → Int32) => RG R G gR gW gT a.2 gJ gY b ∧ F_M_all b G 4 = F_M_all ep G 4 + a.1) G 0 (0, gS) ep (fun j a b h3 h5 hab => ?_) ⟨h2, (Int32.add_zero _).symm⟩
    obtain ⟨hb, hs⟩ := hab
    obtain ⟨a1, ⟨r, hr, a2⟩, -, -, -, -, a7, a8⟩ := (hb j (by omega)).1 (by omega)
    obtain ⟨b1, ⟨w, hw, b2⟩, b3, b4⟩ := (h1 r (by omega)).1 hr
    have hj : j < G := by omega
    unfold lookS seeS
    rw [stay_b hG hb hj, room_b hG hj, a1, a2]
    have p0 : F_M_pe b j 0 = nI r := a2
    have p5 : F_M_pe b j 5 = b (6 * j + 5) := rfl
    have p4 : F_M_pe b j 4 = a.2 j := a7.symm
    rw [p0, p5, nI_clamp (by omega), burn_eq hR h1 hr, win_eq hR h1 hr, cmoon hn]
    by_cases c1 : b (6 * j + 5) = 0
    · rw [if_pos c1, if_pos c1, if_neg (by decide)]
      by_cases c2 : el r = 0
      · rw [if_pos c2, if_pos c2, if_neg h4, b2, seen_eq h hw]
        generalize F_M_near eh (nI w) / (nI (tri n) + 1) = d
        have ea : F_X0_addSeen (nI G) a.2 (nI j) d = upd a.2 j (a.2 j + d) := by
          unfold F_X0_addSeen
          rw [has0 hG hj, if_neg (by decide), nI_clamp (by omega)]
        refine ⟨?_, ?_⟩
        · show RG R G gR gW gT (F_X0_addSeen (nI G) a.2 (nI j) d) gJ gY _
          rw [ea, p4]
          exact hb.seen hj _
        · show F_M_all (F_M_put b j 4 (F_M_pe b j 4 + d)) G 4 = F_M_all ep G 4 + (a.1 + d)
          rw [all_put b hj d, hs, Int32.add_assoc]
      · rw [if_neg c2, if_neg c2]
        exact ⟨hb, hs⟩
    · rw [if_neg c1, if_neg c1, if_pos rfl]
      exact ⟨hb, hs⟩
theorem take_eq {a b : Nat → Int32} {p : Nat → Int32} {g w : Nat} (hw : w < 10) (h : RH a b) : ∀ (n k : Nat), k + n = 5 → ∃ t : Int32, RH (L_X1_takeUppermost_2 a (nI w) 3 n k).2 (L_M_catchSome_12 b p g n (10 * k + w)).1 ∧ (L_X1_takeUppermost_2 a (nI w) 3 n k).1 = t ∧ ((L_M_catchSome_12 b p g n (10 * k + w)).2 = F_M_put p g 3 (F_M_pe p g 3 + t) ∨ (t = 0 ∧ (L_M_catchSome_12 b p g n (10 * k + w)).2 = p)) := by
  intro n
  induction n with
  | zero => intro k _; exact ⟨0, h, rfl, Or.inr ⟨rfl, rfl⟩⟩
  | succ n ih =>
    intro k hk
    obtain ⟨v, hv, e1, e2⟩ := h.at (i := 10 * k + w) (by omega)
    unfold L_X1_takeUppermost_2 L_M_catchSome_12
    rw [at_in hw (show k < 5 by omega), put_in hw (show k < 5 by omega), e1, e2, if_neg (show ¬ (50 : Int32) ≤ nI (10 * k + w) from nI_ge (b := 50) (by omega) (by omega))]
    by_cases c : v = 0
    · subst c
      rw [if_pos (show nI 0 ≤ 0 by decide), if_pos (show nI 0 = 0 by decide), show 10 * k + w + 10 = 10 * (k + 1) + w by omega]
      exact ih (k + 1) (by omega)
    · rw [if_neg (nI_nle (by omega) (by omega)), if_neg (nI_ne0 (by omega) (by omega)), show (3 : Int32) = nI 3 from rfl, mn_n (by omega) (by omega), mn_n (by omega) (by omega), Nat.min_comm v 3]
      have hm : min 3 v ≤ v := Nat.min_le_right _ _
      generalize min 3 v = d at hm
      refine ⟨nI d, ?_, rfl, Or.inl rfl⟩
      rw [pk_sub hm, show (40 : Int32) = nI 40 from rfl, mn_n (by omega) (by omega), Nat.min_eq_left (by omega)]
      exact h.upd _ (v := v - d) (by omega) rfl rfl
theorem RG.tookN (h : RG R G gR gW gT gS gJ gY ep) {k : Nat} (hk : k < G) (hG : G ≤ 12) : RG R G gR gW (upd gT k (gT k + 0)) gS gJ gY ep := by
  have e : upd gT k (gT k + 0) = gT := by
    funext j
    by_cases q : j = k
    · subst q; rw [pk_us, Int32.add_zero]
    · rw [pk_un q]
  rw [e]; exact h
theorem jars_eq {fc eh : Nat → Int32} (hR : R ≤ 6) (hG : G ≤ 12) (h1 : RR R fw fb ew el) (h2 : RG R G gR gW gT gS gJ gY ep) (h : RH fc eh) :
    RH (F_X2_fillJars fc (nI R) fw (nI G) gR gT gJ).1 (it (fun (k : Nat) (v : (Nat → Int32) × (Nat → Int32)) => S_M_nightOn_129 ew k v.1 v.2) G 0 (eh, ep)).1 ∧ RG R G gR gW (F_X2_fillJars fc (nI R) fw (nI G) gR gT gJ).2 gS gJ gY (it (fun (k : Nat) (v : (Nat → Int32) × (Nat → Int32)) => S_M_nightOn_129 ew k v.1 v.2) G 0 (eh, ep)).2 := by
  have eC : I_X2_fillJars_2 fc (nI R) fw (nI G) gR gT gJ = it (fun (k : Nat) (v : (Nat → Int32) × (Nat → Int32)) => S_X2_fillJars_2 (nI R) fw (nI G) gR gJ k v.1 v.2) G 0 (fc, gT) := by
    refine it_cut hG (fun j w h3 h5 => ?_)
    show S_X2_fillJars_2 (nI R) fw (nI G) gR gJ j w.1 w.2 = w
    unfold S_X2_fillJars_2 F_X0_hasJar
    rw [has0n hG h5 h3, if_pos rfl, if_pos rfl]
  show RH (I_X2_fillJars_2 fc (nI R) fw (nI G) gR gT gJ).1 _ ∧ RG R G gR gW (I_X2_fillJars_2 fc (nI R) fw (nI G) gR gT gJ).2 gS gJ gY _
  rw [eC]
  refine it_sim (P := fun _ (a b : (Nat → Int32) × (Nat → Int32)) => RH a.1 b.1 ∧ RG R G gR gW a.2 gS gJ gY b.2) G 0 (fc, gT) (eh, ep) (fun j a b h3 h5 hab => ?_) ⟨h, h2⟩
  obtain ⟨ha, hb⟩ := hab
  have hj : j < G := by omega
  show RH (S_X2_fillJars_2 (nI R) fw (nI G) gR gJ j a.1 a.2).1 (S_M_nightOn_129 ew j b.1 b.2).1 ∧ RG R G gR gW (S_X2_fillJars_2 (nI R) fw (nI G) gR gJ j a.1 a.2).2 gS gJ gY (S_M_nightOn_129 ew j b.1 b.2).2
  obtain ⟨a1, ⟨r, hr, a2⟩, -, -, a5, a6, -⟩ := (hb j (by omega)).1 hj
  obtain ⟨b1, ⟨w, hw, b2⟩, -⟩ := (h1 r (by omega)).1 hr
  unfold S_X2_fillJars_2 S_M_nightOn_129
  have p2 : F_M_pe b.2 j 2 = b.2 (6 * j + 2) := rfl
  rw [jar_b hG hb hj, p2]
  rcases a5 with e | e
  · rw [e, if_pos rfl, if_neg (show ¬ (0 : Int32) = 1 by decide)]
    exact ⟨ha, hb⟩
  · rw [e, if_neg (show ¬ (1 : Int32) = 0 by decide), if_pos rfl, room_b hG hj, a1, a2, win_eq hR h1 hr, b2]
    have p0 : F_M_pe b.2 j 0 = nI r := a2
    have eM : F_M_catchSome b.1 ew b.2 j = L_M_catchSome_12 b.1 b.2 j 5 (10 * 0 + w) := by
      unfold F_M_catchSome
      rw [p0, nI_clamp (by omega), b2, nI_clamp (by omega), Nat.mul_zero, Nat.zero_add]
    rw [eM]
    obtain ⟨t, t1, t2, t3⟩ := take_eq (p := b.2) (g := j) hw ha 5 0 rfl
    have ea : F_X0_addTaken (nI G) a.2 (nI j) (F_X1_takeUppermost a.1 (nI w) 3).1 = upd a.2 j (a.2 j + t) := by
      unfold F_X0_addTaken
      rw [has0 hG hj, if_neg (by decide), nI_clamp (by omega)]
      exact congrArg (fun z => upd a.2 j (a.2 j + z)) t2
    refine ⟨t1, ?_⟩
    show RG R G gR gW (F_X0_addTaken (nI G) a.2 (nI j) (F_X1_takeUppermost a.1 (nI w) 3).1) gS gJ gY _
    rw [ea]
    rcases t3 with q | ⟨q1, q2⟩
    · rw [q]
      have p3 : F_M_pe b.2 j 3 = a.2 j := a6.symm
      rw [p3]
      exact hb.took hj _
    · rw [q1, q2]
      exact hb.tookN hj hG
end
