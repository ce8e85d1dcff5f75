-- what the law asks of a night
theorem sm_nI (f : Nat → Nat) : ∀ n : Nat, sm (fun k => nI (f k)) n = nI (sn f n)
  | 0 => rfl
  | n + 1 => by
    show sm (fun k => nI (f k)) n + nI (f n) = nI (sn f n + f n)
    rw [sm_nI f n, nI_add]
theorem sm_cut {f : Nat → Int32} {G N : Nat} (h : G ≤ N) (h0 : ∀ k, G ≤ k → k < N → f k = 0) : sm f N = sm f G := by
  obtain ⟨d, rfl⟩ : ∃ d, N = G + d := ⟨N - G, by omega⟩
  rw [sm_split, sm_congr (g := fun _ => 0) (fun k hk => h0 (G + k) (by omega) (by omega)), sm_zero, Int32.add_zero]
theorem sn_cut {f : Nat → Nat} {G N : Nat} (h : G ≤ N) (h0 : ∀ k, G ≤ k → k < N → f k = 0) : sn f N = sn f G := by
  induction N with
  | zero => rw [show G = 0 by omega]
  | succ N ih =>
    by_cases c : G = N + 1
    · rw [c]
    · show sn f N + f N = _
      rw [ih (by omega) (fun k h1 h2 => h0 k h1 (by omega)), h0 N (by omega) (by omega), Nat.add_zero]
/-- the numbers of a night: what jars take (t), what guests see (z), by rooms (zr), the hedge ahead (h0) and before it grows (hg) -/
def NF (R G n : Nat) (sh sr sg sh1 sg1 : Nat → Nat → Int32) (sf sf1 seen thn takes : Int32) : Prop :=
  ∃ t z zr hg h0 : Nat → Nat,
    (∀ g, g < G → sg1 g 0 = sg g 0 ∧ sg1 g 1 = sg g 1 ∧ sg1 g 5 = sg g 5 ∧ sg1 g 3 = sg g 3 + nI (t g) ∧ sg1 g 4 = sg g 4 + nI (z g) ∧ sg1 g 2 = (if sg g 0 = nI (n % R) then 0 else sg g 2) ∧ (∃ j, j ≤ 1 ∧ sg g 2 = nI j ∧ t g ≤ 3 * j) ∧ z g = (if sg g 5 = 1 then 0 else zr (tn (sg g 0))) ∧ (sg g 5 = 1 → sg g 2 = 0)) ∧
    (∀ r, r < R → zr r ≤ 600 ∧ (sr r 1 = 1 ∨ tri n = 4 → zr r = 0)) ∧
    seen = sm (fun g => nI (z g)) G ∧ takes = sm (fun g => nI (t g)) G ∧ thn = F_M_flies (EH sh1) ∧
    (R = 0 → sf1 = sf) ∧ (0 < R → sf1 = sf + rt sr sg G (n % R) 4) ∧
    (∀ x y, x < 10 → y < 5 → hg (10 * y + x) ≤ 40 ∧ sh1 x y = nI (if F_X5_lit sr R (nI x) = 0 then min 40 (hg (10 * y + x) + hg (10 * y + x) / 10) else hg (10 * y + x))) ∧
    F_M_flies (EH sh) = nI (sn h0 50) ∧ sn h0 50 ≤ 2000 ∧ sn hg 50 + sn t G ≤ sn h0 50
section
variable {R G n : Nat} {nf : Int32} {fc fw fb gR gW gT gS gJ gY : Nat → Int32} {sh sr sg : Nat → Nat → Int32} {sf : Int32}
theorem fore_0 (hn : n < 2 ^ 30) (h : Rel R G n (nI n) nf fc (nI R) fw fb (nI G) gR gW gT gS gJ gY (EH sh) (EW sr) (EL sr) (EP sg) (EN (nI n) sf)) (fl fcz fwz fbz gRz gWz gTz gSz gJz gYz flz : Nat → Int32) : (F_X4_foresee (nI n) nf fc (nI R) fw fb (nI G) gR gW gT gS gJ gY fcz fwz fbz gRz gWz gTz gSz gJz gYz flz 1 0).1 = (F_X4_pass (nI n) nf fc (nI R) fw fb (nI G) gR gW gT gS gJ gY fl 1).1 := by
  obtain ⟨a1, -, -⟩ := o_foresee h fcz fwz fbz gRz gWz gTz gSz gJz gYz flz (fun _ => 0) (nn := 1) (by omega) (what := 0) (by decide) (by decide)
  obtain ⟨b1, -, -⟩ := o_pass h fl (fun _ => 0) (nn := 1) (by omega)
  rw [← a1, ← b1]
  unfold F_M_foresee
  rw [if_neg (show ¬ F_M_isIn 0 0 2 = 0 by decide), if_pos rfl]
  dsimp only [F_M_pass]
theorem fore_1 (hn : n < 2 ^ 30) (h : Rel R G n (nI n) nf fc (nI R) fw fb (nI G) gR gW gT gS gJ gY (EH sh) (EW sr) (EL sr) (EP sg) (EN (nI n) sf)) (fl fcz fwz fbz gRz gWz gTz gSz gJz gYz flz : Nat → Int32) : (F_X4_foresee (nI n) nf fc (nI R) fw fb (nI G) gR gW gT gS gJ gY fcz fwz fbz gRz gWz gTz gSz gJz gYz flz 1 1).1 = F_X1_all (F_X4_pass (nI n) nf fc (nI R) fw fb (nI G) gR gW gT gS gJ gY fl 1).2.2.2.1 := by
  obtain ⟨a1, -, -⟩ := o_foresee h fcz fwz fbz gRz gWz gTz gSz gJz gYz flz (fun _ => 0) (nn := 1) (by omega) (what := 1) (by decide) (by decide)
  obtain ⟨-, -, b1⟩ := o_pass h fl (fun _ => 0) (nn := 1) (by omega)
  rw [← a1, flies_eq b1.2.2.2.2.2.2.2.1]
  unfold F_M_foresee
  rw [if_neg (show ¬ F_M_isIn 1 0 2 = 0 by decide), if_neg (by decide), if_pos rfl]
  dsimp only [F_M_pass]
theorem fore_2 (hn : n < 2 ^ 30) (h : Rel R G n (nI n) nf fc (nI R) fw fb (nI G) gR gW gT gS gJ gY (EH sh) (EW sr) (EL sr) (EP sg) (EN (nI n) sf)) (fl fcz fwz fbz gRz gWz gTz gSz gJz gYz flz : Nat → Int32) : (F_X4_foresee (nI n) nf fc (nI R) fw fb (nI G) gR gW gT gS gJ gY fcz fwz fbz gRz gWz gTz gSz gJz gYz flz 1 2).1 = F_X0_tookInAll (F_X4_pass (nI n) nf fc (nI R) fw fb (nI G) gR gW gT gS gJ gY fl 1).2.2.2.2.1 - F_X0_tookInAll gT := by
  obtain ⟨a1, -, -⟩ := o_foresee h fcz fwz fbz gRz gWz gTz gSz gJz gYz flz (fun _ => 0) (nn := 1) (by omega) (what := 2) (by decide) (by decide)
  obtain ⟨-, -, b1⟩ := o_pass h fl (fun _ => 0) (nn := 1) (by omega)
  rw [← a1, took_eq b1.2.1 b1.2.2.2.2.2.2.2.2.2, took_eq h.2.1 h.2.2.2.2.2.2.2.2.2]
  unfold F_M_foresee
  rw [if_neg (show ¬ F_M_isIn 2 0 2 = 0 by decide), if_neg (by decide), if_neg (by decide)]
  dsimp only [F_M_pass]
theorem took_sum (f : Nat → Int32) : F_X0_tookInAll f = sm f 12 := by
  have e : F_X0_tookInAll f = 0 + sm f 12 := it_sm f 0 12
  rw [e, Int32.zero_add]
theorem night_NF (fl : Nat → Int32) (hn : n < 2 ^ 30) (h : Rel R G n (nI n) nf fc (nI R) fw fb (nI G) gR gW gT gS gJ gY (EH sh) (EW sr) (EL sr) (EP sg) (EN (nI n) sf)) :
    NF R G n sh sr sg (F_X5_pass sf sh sr sg R G n).2.1 (F_X5_pass sf sh sr sg R G n).2.2.1 sf (F_X5_pass sf sh sr sg R G n).2.2.2.2 (F_X4_pass (nI n) nf fc (nI R) fw fb (nI G) gR gW gT gS gJ gY fl 1).1 (F_X1_all (F_X4_pass (nI n) nf fc (nI R) fw fb (nI G) gR gW gT gS gJ gY fl 1).2.2.2.1) (F_X0_tookInAll (F_X4_pass (nI n) nf fc (nI R) fw fb (nI G) gR gW gT gS gJ gY fl 1).2.2.2.2.1 - F_X0_tookInAll gT) := by
  have h1 := sim_night fl hn h
  have hSI := h.si
  obtain ⟨t, hg, h0, f3, p1, p2, p3, p4, p5, p6, p7, p8, p9⟩ := night_facts fl hn h
  generalize F_X4_pass (nI n) nf fc (nI R) fw fb (nI G) gR gW gT gS gJ gY fl 1 = P at h1 p1 p2 p3 p4 p5 p6 p7
  generalize F_X5_pass sf sh sr sg R G n = S at h1
  obtain ⟨hR, hG, -, -, -, e0, e1, hH, hr, hgg⟩ := h
  obtain ⟨-, -, -, -, -, f0, f1, hH1, -, hg1⟩ := h1
  rw [en_1] at e1 f1
  have tz : ∀ g, G ≤ g → g < 12 → t g = 0 := fun g h1 h2 => (p1 g h2).2.2 ((hgg g h2).2 h1).2.2.1
  have zz : ∀ g, G ≤ g → g < 12 → zguest f3 fb (EW sr) gR gY G n g = 0 := fun g h1 _ => by unfold zguest; rw [if_neg (fun q => by omega)]
  refine ⟨t, zguest f3 fb (EW sr) gR gY G n, zroom f3 fb (EW sr) n, hg, h0, fun g hg9 => ?_, fun r hr9 => ⟨p3 r hr9, fun q => ?_⟩, ?_, ?_, ?_, fun q => ?_, fun q => ?_, fun x y hx hy => ?_, ?_, ?_, ?_⟩
  · obtain ⟨a1, ⟨r, hr9, a2⟩, a3, a4, a5, a6, a7, a8⟩ := (hgg g (by omega)).1 hg9
    obtain ⟨c1, -, c3, c4, c5, c6, c7, c8⟩ := (hg1 g (by omega)).1 hg9
    rw [ep_0] at a1 a2 c1
    rw [ep_at sg (by omega)] at a3 a4 a6 a7 a8
    rw [ep_at _ (by omega)] at c3 c4 c6 c7 c8
    have a5' : sg g 2 = 0 ∨ sg g 2 = 1 := by rw [← ep_at sg (g := g) (w := 2) (by omega)]; exact a5
    rw [ep_at sg (show 2 < 6 by omega)] at a8
    have y5 : S.2.2.1 g 5 = sg g 5 := by
      rcases a8 with ⟨q1, q2⟩ | ⟨q1, q2, -⟩ <;> rcases c8 with ⟨q3, q4⟩ | ⟨q3, q4, -⟩
      · rw [q1, q3]
      · rw [q2] at q4
        exact absurd q4 (by decide)
      · rw [q2] at q4
        exact absurd q4 (by decide)
      · rw [q1, q3]
    have hRp : 0 < R := by omega
    refine ⟨c1.symm.trans a1, c3.symm.trans a3, y5, ?_, ?_, ?_, ?_, ?_, ?_⟩
    · rw [← c6, (p1 g (by omega)).1, a6]
    · rw [← c7, p2 g (by omega), a7]
    · rw [← c4, (p5 hRp).1 g (by omega), a1, a4]
    · rcases a5' with q | q
      · exact ⟨0, by omega, q, by rw [(p1 g (by omega)).2.2 (a4.trans q)]; omega⟩
      · exact ⟨1, by omega, q, (p1 g (by omega)).2.1⟩
    · unfold zguest
      rcases a8 with ⟨q1, q2⟩ | ⟨q1, q2, -⟩
      · rw [if_pos ⟨hg9, q2⟩, q1, if_neg (by decide), a1]
      · rw [if_neg (fun q => by have := q.2; rw [q2] at this; exact absurd this (by decide)), q1, if_pos rfl]
    · intro q
      rcases a8 with ⟨q1, q2⟩ | ⟨q1, q2, q3⟩
      · rw [q1] at q
        exact absurd q (by decide)
      · exact q3
  · refine zroom_0 _ _ _ (q.imp (fun q1 => ?_) id)
    obtain ⟨-, -, b3, -⟩ := (hr r (by omega)).1 hr9
    exact b3.trans q1
  · rw [p4]
    exact sm_cut hG (fun k h1 h2 => by rw [zz k h1 h2]; rfl)
  · rw [took_sum, took_sum, sm_congr (f := P.2.2.2.2.1) (g := fun g => gT g + nI (t g)) (fun k hk => (p1 k hk).1), sm_add, sm_cut (f := fun g => nI (t g)) hG (fun k h1 h2 => by rw [tz k h1 h2]; rfl), Int32.add_comm, Int32.add_sub_cancel]
  · exact flies_eq hH1
  · rw [f1, p6 q, ← e1]
  · rw [f1, (p5 q).2, ← e1]
    refine congrArg (sf + ·) ?_
    have hk : n % R < R := Nat.mod_lt _ q
    have q4 := told_eq hR hG hr hgg hk (w := 4) (by omega)
    rw [show rt sr sg G (n % R) 4 = F_M_roomTold (EW sr) (EL sr) (EP sg) G (n % R) (nI 4) from rfl, ← q4]
    rfl
  · obtain ⟨q1, q2⟩ := p7 (10 * y + x) (by omega)
    refine ⟨q1, ?_⟩
    rw [← eh_at S.2.1 hx, ← (hH1 (10 * y + x) (by omega)).1, q2, show (10 * y + x) % 10 = x by omega, s_lit hSI hx]
  · have e : F_M_flies (EH sh) = 0 + sm (EH sh) 50 := it_sm (EH sh) 0 50
    rw [e, Int32.zero_add, sm_congr (g := fun i => nI (h0 i)) (fun i hi => by rw [← (hH i hi).1, (p8 i hi).1]), sm_nI]
  · exact Nat.le_trans (sn_bound (fun k hk => (p8 k hk).2)) (by omega)
  · rw [← sn_cut (f := t) hG tz]
    exact p9
theorem rt_same {sg1 : Nat → Nat → Int32} (h : ∀ g, g < G → sg1 g 0 = sg g 0 ∧ sg1 g 1 = sg g 1 ∧ sg1 g 5 = sg g 5) {k w : Nat} (hw : w < 4) : rt sr sg1 G k w = rt sr sg G k w := by
  have hj : ∀ (x : Int32), x = 2 ∨ x = 3 → I_M_roomTold_30 (EP sg1) G k x = I_M_roomTold_30 (EP sg) G k x := fun x hx => by
    show it (fun (i : Nat) (v : Int32) => S_M_roomTold_30 (EP sg1) k x i v) G 0 0 = it (fun (i : Nat) (v : Int32) => S_M_roomTold_30 (EP sg) k x i v) G 0 0
    refine it_congr _ _ _ (fun j v _ hjG => ?_)
    show S_M_roomTold_30 (EP sg1) k x j v = S_M_roomTold_30 (EP sg) k x j v
    obtain ⟨q0, q1, q5⟩ := h j (by omega)
    unfold S_M_roomTold_30 F_M_isThere F_M_pe
    rw [ep_at sg1 (w := 5) (by omega), ep_at sg (w := 5) (by omega), ep_at sg1 (w := 0) (by omega), ep_at sg (w := 0) (by omega), ep_at sg1 (w := 1) (by omega), ep_at sg (w := 1) (by omega), q0, q1, q5]
    rcases hx with rfl | rfl
    · rw [if_pos rfl, if_pos rfl]
    · rw [if_neg (show ¬ (3 : Int32) = 2 by decide), if_neg (show ¬ (3 : Int32) = 2 by decide), if_pos rfl, if_pos rfl]
  unfold rt
  rcases (show w = 0 ∨ w = 1 ∨ w = 2 ∨ w = 3 by omega) with rfl | rfl | rfl | rfl
  · rfl
  · rfl
  · exact hj 2 (Or.inl rfl)
  · exact hj 3 (Or.inr rfl)
end
