-- a night by hand, beside the words of the night: the warden, growing; the night as a whole
section
variable {R G n : Nat} {sh sr sg : Nat → Nat → Int32}
theorem search1 (h : SI R G sr sg) (hR : R ≤ 6) {s0 : Nat → Nat → Int32} {sf : Int32} {en : Nat → Int32} (h1 : en 1 = sf) (h0 : en 0 = nI n) :
    EP (it (fun (k : Nat) (v : Int32 × (Nat → Nat → Int32)) => S_X5_pass_615 R n k v.1 v.2) G 0 (sf, s0)).2 = (it (fun (k : Nat) (v : (Nat → Int32) × (Nat → Int32)) => S_M_nightOn_160 R k v.1 v.2) G 0 (EP s0, en)).1 ∧ (it (fun (k : Nat) (v : (Nat → Int32) × (Nat → Int32)) => S_M_nightOn_160 R k v.1 v.2) G 0 (EP s0, en)).2 1 = (it (fun (k : Nat) (v : Int32 × (Nat → Nat → Int32)) => S_X5_pass_615 R n k v.1 v.2) G 0 (sf, s0)).1 ∧ (it (fun (k : Nat) (v : (Nat → Int32) × (Nat → Int32)) => S_M_nightOn_160 R k v.1 v.2) G 0 (EP s0, en)).2 0 = nI n := by
  refine it_sim (P := fun _ (a : Int32 × (Nat → Nat → Int32)) (b : (Nat → Int32) × (Nat → Int32)) => EP a.2 = b.1 ∧ b.2 1 = a.1 ∧ b.2 0 = nI n) G 0 (sf, s0) (EP s0, en) (fun k a b _ hk hab => ?_) ⟨rfl, h1, h0⟩
  obtain ⟨ha, hb, hc⟩ := hab
  show EP (S_X5_pass_615 R n k a.1 a.2).2 = (S_M_nightOn_160 R k b.1 b.2).1 ∧ (S_M_nightOn_160 R k b.1 b.2).2 1 = (S_X5_pass_615 R n k a.1 a.2).1 ∧ (S_M_nightOn_160 R k b.1 b.2).2 0 = nI n
  have hRp : 0 < R := by obtain ⟨r, hr, -⟩ := h.2 k (by omega); omega
  unfold S_X5_pass_615 S_M_nightOn_160
  rw [if_neg (show ¬ nI R ≤ 0 from nI_ge (a := 0) (b := R) hRp (by omega)), hc, s_in, ha]
  by_cases c : F_M_isThere b.1 k (rmd (nI n) (nI R)) = 0
  · rw [if_pos c, if_pos c]
    exact ⟨ha, hb, hc⟩
  · rw [if_neg c, if_neg c]
    have e2 : F_M_pe b.1 k 2 = a.2 k 2 := by rw [← ha]; exact ep_at _ (by omega)
    refine ⟨?_, ?_, ?_⟩
    · show EP (up2 a.2 k 2 0) = upd b.1 (6 * k + 2) 0
      rw [ep_up _ (by omega), ha]
    · show upd b.2 1 (b.2 1 + F_M_pe b.1 k 2) 1 = a.1 + a.2 k 2
      rw [pk_us, hb, e2]
    · show upd b.2 1 (b.2 1 + F_M_pe b.1 k 2) 0 = nI n
      rw [pk_un (by decide), hc]
theorem grow1 (h : SI R G sr sg) {th : Nat → Nat → Int32} {eh : Nat → Int32} (hh : RH (EH th) eh) {i : Nat} (hi : i < 50) : EH (it (fun (k : Nat) (v : Nat → Nat → Int32) => S_X5_pass_678 sr R k v) 10 0 th) i = (it (fun (k : Nat) (v : Nat → Int32) => S_M_nightOn_227 (EW sr) (EL sr) R k v) 50 0 eh) i := by
  have g1 := grid (S := fun k j w => S_X5_pass_688 sr R k j w) (g := fun x _ v => if F_X5_lit sr R (nI x) = 0 then mn 40 (v / 10 + v) else v) (fun x y a _ _ x' y' => by
    show S_X5_pass_688 sr R x y a x' y' = _
    unfold S_X5_pass_688
    by_cases c : F_X5_lit sr R (nI x) = 0
    · rw [if_pos c]
      try dsimp only
      rw [if_pos c]
      by_cases d : x' = x ∧ y' = y
      · rw [if_pos d, d.1, d.2, up2_s]
      · rw [if_neg d]
        by_cases e : x' = x
        · exact up2_k _ _ _ _ (fun q => d ⟨e, q⟩)
        · exact up2_j _ _ _ _ e
    · rw [if_neg c]
      try dsimp only
      rw [if_neg c]
      by_cases d : x' = x ∧ y' = y
      · rw [if_pos d, d.1, d.2]
      · rw [if_neg d]) th (i % 10) (i / 10) (by omega) (by omega)
  have g2 := line (S := fun k v => S_M_nightOn_227 (EW sr) (EL sr) R k v) (N := 50) (g := fun i v => if v < 10 then v else if F_M_lit (EW sr) (EL sr) R (rmd (nI i) 10) = 0 then mn 40 (v + v / 10) else v) (fun i a hi i' => by
    show S_M_nightOn_227 (EW sr) (EL sr) R i a i' = _
    unfold S_M_nightOn_227
    try dsimp only
    by_cases c : a i < 10
    · rw [if_pos c, if_pos c]
      by_cases d : i' = i
      · rw [if_pos d, d]
      · rw [if_neg d]
    · rw [if_neg c, if_neg c]
      by_cases e : F_M_lit (EW sr) (EL sr) R (rmd (nI i) 10) = 0
      · rw [if_pos e, if_pos e]
        by_cases d : i' = i
        · rw [if_pos d, d, pk_us]
        · rw [if_neg d, pk_un d]
      · rw [if_neg e, if_neg e]
        by_cases d : i' = i
        · rw [if_pos d, d]
        · rw [if_neg d]) eh i hi
  obtain ⟨q1, v, hv, e1⟩ := hh i hi
  have e9 : th (i % 10) (i / 10) = nI v := by rw [← e1, ← q1]; rfl
  refine (show _ = _ from g1).trans (Eq.trans ?_ g2.symm)
  try dsimp only
  rw [e9, e1, show rmd (nI i) 10 = nI (i % 10) from pk_rem (d := 10) (by omega) (by omega) (by omega), s_lit h (by omega)]
  by_cases c : v < 10
  · rw [if_pos (show nI v < 10 from nI_lt (b := 10) c (by omega))]
    split
    · rw [show (10 : Int32) = nI 10 from rfl, pk_div (by omega) (by omega) (by omega), nI_add, show (40 : Int32) = nI 40 from rfl, mn_n (by omega) (by omega)]
      exact congrArg nI (by omega)
    · rfl
  · rw [if_neg (show ¬ nI v < 10 from nI_nlt (b := 10) (by omega) (by omega)), Int32.add_comm]
theorem it_1 {σ : Type} (f : Nat → σ → σ) (k : Nat) (v : σ) : it f 1 k v = f k v := rfl
theorem pass1 (eh ew el ep en eb : Nat → Int32) (R G : Nat) : (F_M_pass eh ew el ep en eb R G 1).2.2.1 = (F_M_nightOn eh ew el ep en eb R G).1 ∧ (F_M_pass eh ew el ep en eb R G 1).2.2.2.1 = (F_M_nightOn eh ew el ep en eb R G).2.1 ∧ (F_M_pass eh ew el ep en eb R G 1).2.2.2.2.1 = (F_M_nightOn eh ew el ep en eb R G).2.2.1 := by
  have e8 : I_M_nightsOn_8 eh ew el ep en eb R G 1 = ((F_M_nightOn eh ew el ep en eb R G).1, (F_M_nightOn eh ew el ep en eb R G).2.1, (F_M_nightOn eh ew el ep en eb R G).2.2.1, (F_M_nightOn eh ew el ep en eb R G).2.2.2) := by simp only [I_M_nightsOn_8, it_1, S_M_nightsOn_8]
  refine ⟨?_, ?_, ?_⟩ <;> simp only [F_M_pass, F_M_nightsOn, e8]
theorem sim_night {nf : Int32} {fc fw fb gR gW gT gS gJ gY : Nat → Int32} {sf : Int32} (fl : Nat → Int32) (hn : n < 2 ^ 30) (h : Rel R G n (nI n) nf fc (nI R) fw fb (nI G) gR gW gT gS gJ gY (EH sh) (EW sr) (EL sr) (EP sg) (EN (nI n) sf)) :
    Rel R G (n + 1) (F_X4_pass (nI n) nf fc (nI R) fw fb (nI G) gR gW gT gS gJ gY fl 1).2.1 (F_X4_pass (nI n) nf fc (nI R) fw fb (nI G) gR gW gT gS gJ gY fl 1).2.2.1 (F_X4_pass (nI n) nf fc (nI R) fw fb (nI G) gR gW gT gS gJ gY fl 1).2.2.2.1 (nI R) fw fb (nI G) gR gW (F_X4_pass (nI n) nf fc (nI R) fw fb (nI G) gR gW gT gS gJ gY fl 1).2.2.2.2.1 (F_X4_pass (nI n) nf fc (nI R) fw fb (nI G) gR gW gT gS gJ gY fl 1).2.2.2.2.2.1 (F_X4_pass (nI n) nf fc (nI R) fw fb (nI G) gR gW gT gS gJ gY fl 1).2.2.2.2.2.2.1 gY (EH (F_X5_pass sf sh sr sg R G n).2.1) (EW sr) (EL sr) (EP (F_X5_pass sf sh sr sg R G n).2.2.1) (EN (F_X5_pass sf sh sr sg R G n).2.2.2.1 (F_X5_pass sf sh sr sg R G n).2.2.2.2) := by
  obtain ⟨-, -, r⟩ := o_pass h fl (fun _ => 0) (nn := 1) (by omega)
  obtain ⟨q1, q2, q3⟩ := pass1 (EH sh) (EW sr) (EL sr) (EP sg) (EN (nI n) sf) (fun _ => 0) R G
  rw [q1, q2, q3] at r
  have hSI := h.si
  obtain ⟨hR, hG, -, -, -, -, -, hH, hr, hg⟩ := h
  have hel : ∀ r, r < R → sr r 1 = 0 ∨ sr r 1 = 1 := fun j hj => ((hr j (by omega)).1 hj).2.2.2
  have h5 : ∀ g, g < G → sg g 5 = 0 ∨ sg g 5 = 1 := fun g hg9 => by
    have q := ((hg g (by omega)).1 hg9).2.2.2.2.2.2.2
    rw [ep_at sg (by omega)] at q
    rcases q with ⟨e, -⟩ | ⟨e, -⟩
    · exact Or.inl e
    · exact Or.inr e
  have d1 := drive_eq (fl := fl) (eb := fun _ => 0) hR hr hH
  have p1 : RH (EH (I_X5_pass_140 sh sr R)) (F_M_drive (EH sh) (EW sr) (EL sr) (fun _ => 0) R).1 := fun i hi => ⟨drive2 hSI _ hi, (d1 i hi).2⟩
  have p2 : RH (EH (I_X5_pass_197 sh sr sg R G)) (I_M_nightOn_6 (EH sh) (EW sr) (EL sr) (EP sg) (fun _ => 0) R G) := whisp1 hSI p1
  obtain ⟨p3, p4⟩ := look1 hR hSI hel h5 (n := n) (by omega) p2
  have e53 : I_M_nightOn_53 (EH sh) (EW sr) (EL sr) (EP sg) (EN (nI n) sf) (fun _ => 0) R G = it (seeS (I_M_nightOn_6 (EH sh) (EW sr) (EL sr) (EP sg) (fun _ => 0) R G) (EW sr) (EL sr) (F_M_moon (nI n))) G 0 (EP sg) := by
    show it (fun (k : Nat) (v : Nat → Int32) => S_M_nightOn_53 (EH sh) (EW sr) (EL sr) (EP sg) (EN (nI n) sf) (fun _ => 0) R G k v) G 0 (EP sg) = _
    refine it_congr _ _ _ (fun j w _ _ => ?_)
    rfl
  obtain ⟨p5, p6⟩ := jars1 (sh := sh) hSI hR (s0 := (I_X5_pass_321 sh sr sg R G n).2) (fun g => p4 g 0 (by decide)) p2
  have e129 : I_M_nightOn_129 (EH sh) (EW sr) (EL sr) (EP sg) (EN (nI n) sf) (fun _ => 0) R G = it (fun (k : Nat) (v : (Nat → Int32) × (Nat → Int32)) => S_M_nightOn_129 (EW sr) k v.1 v.2) G 0 (I_M_nightOn_6 (EH sh) (EW sr) (EL sr) (EP sg) (fun _ => 0) R G, EP (I_X5_pass_321 sh sr sg R G n).2) := by
    unfold I_M_nightOn_129
    rw [e53, p3]
  obtain ⟨p7, p8, p9⟩ := search1 (sr := sr) (n := n) hSI hR (s0 := (I_X5_pass_487 sh sr sg R G n).1) (sf := sf) (en := EN (nI n) sf) rfl rfl
  have e160 : I_M_nightOn_160 (EH sh) (EW sr) (EL sr) (EP sg) (EN (nI n) sf) (fun _ => 0) R G = it (fun (k : Nat) (v : (Nat → Int32) × (Nat → Int32)) => S_M_nightOn_160 R k v.1 v.2) G 0 (EP (I_X5_pass_487 sh sr sg R G n).1, EN (nI n) sf) := by
    unfold I_M_nightOn_160
    rw [e129, ← p6]
    rfl
  have p5' : RH (EH (I_X5_pass_487 sh sr sg R G n).2) (I_M_nightOn_129 (EH sh) (EW sr) (EL sr) (EP sg) (EN (nI n) sf) (fun _ => 0) R G).1 := by
    rw [e129]
    exact p5
  have g1 : ∀ i, i < 50 → EH (I_X5_pass_678 sh sr sg R G n) i = I_M_nightOn_227 (EH sh) (EW sr) (EL sr) (EP sg) (EN (nI n) sf) (fun _ => 0) R G i := fun i hi => by
    unfold I_X5_pass_678 I_M_nightOn_227
    exact grow1 hSI p5' hi
  have g2 : EP (I_X5_pass_615 sf sh sr sg R G n).2 = (I_M_nightOn_160 (EH sh) (EW sr) (EL sr) (EP sg) (EN (nI n) sf) (fun _ => 0) R G).1 := by
    unfold I_X5_pass_615
    rw [e160, p7]
  have g3 : ∀ i, i < 2 → EN (nI (n + 1)) (I_X5_pass_615 sf sh sr sg R G n).1 i = upd (I_M_nightOn_160 (EH sh) (EW sr) (EL sr) (EP sg) (EN (nI n) sf) (fun _ => 0) R G).2 0 ((I_M_nightOn_160 (EH sh) (EW sr) (EL sr) (EP sg) (EN (nI n) sf) (fun _ => 0) R G).2 0 + 1) i := fun i hi => by
    unfold I_X5_pass_615
    rw [e160]
    rcases (show i = 0 ∨ i = 1 by omega) with rfl | rfl
    · rw [pk_us, p9, nI_1]
      rfl
    · rw [pk_un (by decide), p8]
      rfl
  dsimp only [F_M_nightOn] at r
  dsimp only [F_X5_pass]
  refine r.mdl (fun i hi => ?_) (fun _ _ => rfl) (fun i hi => ?_) (fun i hi => ?_)
  · exact g1 i hi
  · exact congrFun g2 i
  · exact g3 i hi
end
