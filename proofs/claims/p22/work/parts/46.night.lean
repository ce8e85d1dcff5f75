-- the search, one night, many nights: class beside model
section
variable {R G : Nat} {fw fb ew el gR gW gT gS gJ gY ep : Nat → Int32}
theorem drop_at (gR gJ : Nat → Int32) (r : Nat) : ∀ g, g < 12 → F_X0_dropJarsIn gR gJ (nI r) g = if gR g = nI r then 0 else gJ g := by
  have key := it_ind (P := fun k (a : Nat → Int32) => ∀ g, g < 12 → a g = if g < k ∧ gR g = nI r then 0 else gJ g) (f := fun (k : Nat) (v : Nat → Int32) => S_X0_dropJarsIn_2 gR (nI r) k v) 12 0 gJ (fun j a h1 h3 ha => ?_) (fun g _ => by rw [if_neg (fun q => Nat.not_lt_zero _ q.1)])
  · intro g hg
    show (it (fun (k : Nat) (v : Nat → Int32) => S_X0_dropJarsIn_2 gR (nI r) k v) 12 0 gJ) g = _
    rw [key g hg]
    by_cases c : gR g = nI r
    · rw [if_pos ⟨by omega, c⟩, if_pos c]
    · rw [if_neg (fun q => c q.2), if_neg c]
  · show ∀ g, g < 12 → S_X0_dropJarsIn_2 gR (nI r) j a g = _
    intro g hg
    unfold S_X0_dropJarsIn_2
    by_cases c : gR j = nI r
    · rw [if_pos c]
      by_cases e : g = j
      · subst e
        rw [pk_us, if_pos ⟨by omega, c⟩]
        rfl
      · rw [pk_un e, ha g hg]
        by_cases z : g < j ∧ gR g = nI r
        · rw [if_pos z, if_pos ⟨by omega, z.2⟩]
        · rw [if_neg z, if_neg (fun y => z ⟨by omega, y.2⟩)]
    · rw [if_neg c, ha g hg]
      by_cases z : g < j ∧ gR g = nI r
      · rw [if_pos z, if_pos ⟨by omega, z.2⟩]
      · rw [if_neg z, if_neg (fun y => z ⟨by
          by_cases e : g = j
          · exact absurd (e ▸ y.2) c
          · have := y.1; omega, y.2⟩)]
theorem search_eq {en : Nat → Int32} {n : Nat} {nf : Int32} (hn : n < 2 ^ 31) (hR : R ≤ 6) (hG : G ≤ 12) (h2 : RG R G gR gW gT gS gJ gY ep) (e0 : en 0 = nI n) (e1 : en 1 = nf) :
    RG R G gR gW gT gS (F_X2_searchJars (nI n) nf (nI R) gR gJ).2 gY (it (fun (k : Nat) (v : (Nat → Int32) × (Nat → Int32)) => S_M_nightOn_160 R k v.1 v.2) G 0 (ep, en)).1 ∧
    (it (fun (k : Nat) (v : (Nat → Int32) × (Nat → Int32)) => S_M_nightOn_160 R k v.1 v.2) G 0 (ep, en)).2 0 = nI n ∧
    (it (fun (k : Nat) (v : (Nat → Int32) × (Nat → Int32)) => S_M_nightOn_160 R k v.1 v.2) G 0 (ep, en)).2 1 = (F_X2_searchJars (nI n) nf (nI R) gR gJ).1 ∧
    F_M_all (it (fun (k : Nat) (v : (Nat → Int32) × (Nat → Int32)) => S_M_nightOn_160 R k v.1 v.2) G 0 (ep, en)).1 G 4 = F_M_all ep G 4 := by
  by_cases h0 : R = 0
  · subst h0
    have eM : it (fun (k : Nat) (v : (Nat → Int32) × (Nat → Int32)) => S_M_nightOn_160 0 k v.1 v.2) G 0 (ep, en) = (ep, en) := it_fix (fun k => by
      show S_M_nightOn_160 0 k ep en = (ep, en)
      unfold S_M_nightOn_160
      rw [if_pos (by decide)]) _ _
    have eC : F_X2_searchJars (nI n) nf (nI 0) gR gJ = (nf, gJ) := by
      unfold F_X2_searchJars F_X3_many
      rw [if_pos (by decide)]
    rw [eM, eC]
    exact ⟨h2, e0, e1, rfl⟩
  · have hR0 : ¬ nI R ≤ 0 := nI_nle (by omega) (by omega)
    have hr : n % R < R := Nat.mod_lt _ (by omega)
    have er : rmd (nI n) (nI R) = nI (n % R) := pk_rem hn (by omega) (by omega)
    have eC : F_X2_searchJars (nI n) nf (nI R) gR gJ = (nf + F_X0_jarsIn gR gJ (nI (n % R)), F_X0_dropJarsIn gR gJ (nI (n % R))) := by
      unfold F_X2_searchJars F_X3_many
      rw [if_neg hR0, er]
    rw [eC, told4 (ew := ep) (el := ep) hG h2]
    generalize n % R = r at hr er
    have key := it_sim (P := fun j (a : Int32) (b : (Nat → Int32) × (Nat → Int32)) => b.2 0 = nI n ∧ b.2 1 = nf + a ∧ ∀ g w, w < 6 → b.1 (6 * g + w) = if w = 2 ∧ g < j ∧ ep (6 * g + 5) = 0 ∧ ep (6 * g) = nI r then 0 else ep (6 * g + w))
      (f := fun (k : Nat) (v : Int32) => S_M_roomTold_30 ep r 4 k v) (g := fun (k : Nat) (v : (Nat → Int32) × (Nat → Int32)) => S_M_nightOn_160 R k v.1 v.2) G 0 0 (ep, en) (fun j a b h1 h3 hab => ?_) ⟨e0, by rw [Int32.add_zero]; exact e1, fun g w _ => by rw [if_neg (fun q => Nat.not_lt_zero _ q.2.1)]⟩
    · obtain ⟨k0, k1, k2⟩ := key
      have k2' : ∀ g w, w < 6 → w ≠ 2 → (it (fun (k : Nat) (v : (Nat → Int32) × (Nat → Int32)) => S_M_nightOn_160 R k v.1 v.2) G 0 (ep, en)).1 (6 * g + w) = ep (6 * g + w) := fun g w h h' => by rw [k2 g w h, if_neg (fun q => h' q.1)]
      refine ⟨fun g hg => ⟨fun q => ?_, fun q => ?_⟩, k0, k1, ?_⟩
      · obtain ⟨a1, a2, a3, a4, a5, a6, a7, a8⟩ := (h2 g hg).1 q
        have n0 : (it (fun (k : Nat) (v : (Nat → Int32) × (Nat → Int32)) => S_M_nightOn_160 R k v.1 v.2) G 0 (ep, en)).1 (6 * g) = ep (6 * g) := k2' g 0 (by omega) (by omega)
        rw [n0, k2' g 1 (by omega) (by omega), k2' g 3 (by omega) (by omega), k2' g 4 (by omega) (by omega), k2' g 5 (by omega) (by omega), k2 g 2 (by omega)]
        refine ⟨a1, a2, a3, ?_, ?_, a6, a7, ?_⟩
        · show F_X0_dropJarsIn gR gJ (nI r) g = _
          rw [drop_at gR gJ r g hg, a1]
          by_cases c : ep (6 * g) = nI r
          · rw [if_pos c]
            rcases a8 with ⟨z, -⟩ | ⟨z, -, z3⟩
            · rw [if_pos ⟨rfl, by omega, z, c⟩]
            · rw [if_neg (fun y => absurd (y.2.2.1.symm.trans z) (by decide)), z3]
          · rw [if_neg c, if_neg (fun y => c y.2.2.2), a4]
        · split
          · exact Or.inl rfl
          · exact a5
        · rcases a8 with z | ⟨z1, z2, z3⟩
          · exact Or.inl z
          · refine Or.inr ⟨z1, z2, ?_⟩
            rw [z3]
            split <;> rfl
      · obtain ⟨b1, b2, b3, b4⟩ := (h2 g hg).2 q
        refine ⟨b1, b2, ?_, b4⟩
        show F_X0_dropJarsIn gR gJ (nI r) g = 0
        rw [drop_at gR gJ r g hg, b3]
        split <;> rfl
      · show it (fun (k : Nat) (v : Int32) => S_M_all_4 _ 4 k v) G 0 0 = it (fun (k : Nat) (v : Int32) => S_M_all_4 ep 4 k v) G 0 0
        refine it_congr _ _ _ (fun j w _ _ => ?_)
        show w + _ = w + ep (6 * j + 4)
        rw [← k2' j 4 (by omega) (by omega)]
        rfl
    · obtain ⟨k0, k1, k2⟩ := hab
      show (S_M_nightOn_160 R j b.1 b.2).2 0 = nI n ∧ (S_M_nightOn_160 R j b.1 b.2).2 1 = nf + S_M_roomTold_30 ep r 4 j a ∧ ∀ g w, w < 6 → (S_M_nightOn_160 R j b.1 b.2).1 (6 * g + w) = _
      have p5 : b.1 (6 * j + 5) = ep (6 * j + 5) := by rw [k2 j 5 (by omega), if_neg (fun q => absurd q.1 (by decide))]
      have p0 : b.1 (6 * j) = ep (6 * j) := by
        have := k2 j 0 (by omega)
        rw [if_neg (fun q => absurd q.1 (by decide))] at this
        exact this
      have p2 : b.1 (6 * j + 2) = ep (6 * j + 2) := by rw [k2 j 2 (by omega), if_neg (fun q => Nat.lt_irrefl _ q.2.1)]
      unfold S_M_nightOn_160 S_M_roomTold_30
      rw [if_neg hR0, k0, er, there_eq, there_eq, p5, p0]
      by_cases c : ep (6 * j + 5) = 0 ∧ ep (6 * j) = nI r
      · rw [if_pos c.1, if_pos c.2, if_neg (show ¬ (1 : Int32) = 0 by decide), if_neg (show ¬ (1 : Int32) = 0 by decide), if_neg (show ¬ (4 : Int32) = 2 by decide), if_neg (show ¬ (4 : Int32) = 3 by decide)]
        refine ⟨?_, ?_, fun g w hw => ?_⟩
        · show upd b.2 1 (b.2 1 + b.1 (6 * j + 2)) 0 = nI n
          rw [pk_un (by decide), k0]
        · show upd b.2 1 (b.2 1 + b.1 (6 * j + 2)) 1 = nf + (a + ep (6 * j + 2))
          rw [pk_us, k1, p2, Int32.add_assoc]
        · show upd b.1 (6 * j + 2) 0 (6 * g + w) = _
          by_cases e : g = j ∧ w = 2
          · obtain ⟨rfl, rfl⟩ := e
            rw [pk_us, if_pos ⟨rfl, by omega, c⟩]
          · rw [pk_un (by omega), k2 g w hw]
            by_cases z : w = 2 ∧ g < j ∧ ep (6 * g + 5) = 0 ∧ ep (6 * g) = nI r
            · rw [if_pos z, if_pos ⟨z.1, by omega, z.2.2⟩]
            · rw [if_neg z, if_neg (fun y => z ⟨y.1, by omega, y.2.2⟩)]
      · have t0 : (if ep (6 * j + 5) = 0 then (if ep (6 * j) = nI r then (1 : Int32) else 0) else 0) = 0 := by
          by_cases c1 : ep (6 * j + 5) = 0
          · rw [if_pos c1, if_neg (fun q => c ⟨c1, q⟩)]
          · rw [if_neg c1]
        rw [t0, if_pos rfl, if_pos rfl]
        refine ⟨k0, k1, fun g w hw => ?_⟩
        rw [k2 g w hw]
        by_cases z : w = 2 ∧ g < j ∧ ep (6 * g + 5) = 0 ∧ ep (6 * g) = nI r
        · rw [if_pos z, if_pos ⟨z.1, by omega, z.2.2⟩]
        · rw [if_neg z, if_neg (fun y => z ⟨y.1, by
            by_cases e : g = j
            · exact absurd (e ▸ y.2.2) c
            · have := y.2.1; omega, y.2.2⟩)]
end
def Rel (R G n : Nat) (nt nf : Int32) (fc : Nat → Int32) (nr : Int32) (fw fb : Nat → Int32) (ng : Int32) (gR gW gT gS gJ gY eh ew el ep en : Nat → Int32) : Prop :=
  R ≤ 6 ∧ G ≤ 12 ∧ nr = nI R ∧ ng = nI G ∧ nt = nI n ∧ en 0 = nI n ∧ en 1 = nf ∧ RH fc eh ∧ RR R fw fb ew el ∧ RG R G gR gW gT gS gJ gY ep
theorem RG.all {R G : Nat} {gR gW gT gS gJ gY ep : Nat → Int32} (hG : G ≤ 12) (h : RG R G gR gW gT gS gJ gY ep) : F_M_all ep G 4 = it (fun k (v : Int32) => v + gS k) G 0 0 := by
  show it (fun (k : Nat) (v : Int32) => S_M_all_4 ep 4 k v) G 0 0 = _
  refine it_congr _ _ _ (fun j w h1 h2 => ?_)
  rw [((h j (by omega)).1 (by omega)).2.2.2.2.2.2.1]
  rfl
set_option maxRecDepth 20000 in
theorem night_eq {R G n : Nat} {nt nf : Int32} {fc : Nat → Int32} {nr : Int32} {fw fb : Nat → Int32} {ng : Int32} {gR gW gT gS gJ gY eh ew el ep en eb fl : Nat → Int32} (hn : n < 2 ^ 31) (h : Rel R G n nt nf fc nr fw fb ng gR gW gT gS gJ gY eh ew el ep en) (k : Nat) (v2 : Int32) :
    ∃ d : Int32, (S_X2_goThrough_8 nr fw fb ng gR gW gY fl k v2 nt nf fc gT gS gJ).1 = v2 + d ∧ F_M_all (F_M_nightOn eh ew el ep en eb R G).2.1 G 4 = F_M_all ep G 4 + d ∧
    Rel R G (n + 1) (S_X2_goThrough_8 nr fw fb ng gR gW gY fl k v2 nt nf fc gT gS gJ).2.1 (S_X2_goThrough_8 nr fw fb ng gR gW gY fl k v2 nt nf fc gT gS gJ).2.2.1 (S_X2_goThrough_8 nr fw fb ng gR gW gY fl k v2 nt nf fc gT gS gJ).2.2.2.1 nr fw fb ng gR gW (S_X2_goThrough_8 nr fw fb ng gR gW gY fl k v2 nt nf fc gT gS gJ).2.2.2.2.1 (S_X2_goThrough_8 nr fw fb ng gR gW gY fl k v2 nt nf fc gT gS gJ).2.2.2.2.2.1 (S_X2_goThrough_8 nr fw fb ng gR gW gY fl k v2 nt nf fc gT gS gJ).2.2.2.2.2.2 gY (F_M_nightOn eh ew el ep en eb R G).1 ew el (F_M_nightOn eh ew el ep en eb R G).2.1 (F_M_nightOn eh ew el ep en eb R G).2.2.1 := by
  obtain ⟨hR, hG, rfl, rfl, rfl, e0, e1, hH, hr, hg⟩ := h
  have d1 := drive_eq (fl := fl) (eb := eb) hR hr hH
  have d2 := whisp_eq hR hG hr hg d1
  obtain ⟨d3, d4⟩ := look_eq hn hR hG hr hg d2
  obtain ⟨d5, d6⟩ := jars_eq hR hG hr d3 d2
  obtain ⟨d7, d8, d9, d10⟩ := search_eq hn hR hG d6 e0 e1
  have d11 := grow_eq (fl := fl) hR hr d5
  have e53 : I_M_nightOn_53 eh ew el ep en eb R G = it (seeS (I_M_nightOn_6 eh ew el ep eb R G) ew el (F_M_moon (nI n))) G 0 ep := by
    show it (fun (k : Nat) (v : Nat → Int32) => S_M_nightOn_53 eh ew el ep en eb R G k v) G 0 ep = _
    refine it_congr _ _ _ (fun j w _ _ => ?_)
    rw [← e0]
    rfl
  have h160 : I_M_nightOn_160 eh ew el ep en eb R G = it (fun (k : Nat) (v : (Nat → Int32) × (Nat → Int32)) => S_M_nightOn_160 R k v.1 v.2) G 0 ((it (fun (k : Nat) (v : (Nat → Int32) × (Nat → Int32)) => S_M_nightOn_129 ew k v.1 v.2) G 0 (I_M_nightOn_6 eh ew el ep eb R G, it (seeS (I_M_nightOn_6 eh ew el ep eb R G) ew el (F_M_moon (nI n))) G 0 ep)).2, en) := by
    unfold I_M_nightOn_160 I_M_nightOn_129
    rw [e53]
  have h227 : I_M_nightOn_227 eh ew el ep en eb R G = it (fun (k : Nat) (v : Nat → Int32) => S_M_nightOn_227 ew el R k v) 50 0 (it (fun (k : Nat) (v : (Nat → Int32) × (Nat → Int32)) => S_M_nightOn_129 ew k v.1 v.2) G 0 (I_M_nightOn_6 eh ew el ep eb R G, it (seeS (I_M_nightOn_6 eh ew el ep eb R G) ew el (F_M_moon (nI n))) G 0 ep)).1 := by
    unfold I_M_nightOn_227 I_M_nightOn_129
    rw [e53]
  unfold F_M_nightOn S_X2_goThrough_8 C_X2_goThrough_37
  rw [h160, h227]
  unfold I_M_nightOn_6 Rel
  dsimp only
  refine ⟨_, rfl, ?_, hR, hG, rfl, rfl, nI_1 n, ?_, ?_, ?_, hr, ?_⟩
  · rw [d10, d6.all hG, ← d3.all hG, d4]
  · rw [pk_us, d8]
    exact nI_1 n
  · rw [pk_un (by decide), d9]
  · with_reducible exact d11
  · with_reducible exact d7
def NightsRel (R G n : Nat) (nr : Int32) (fw fb : Nat → Int32) (ng : Int32) (gR gW gY ew el : Nat → Int32) (base : Int32) (a : Int32 × Int32 × Int32 × (Nat → Int32) × (Nat → Int32) × (Nat → Int32) × (Nat → Int32)) (b : (Nat → Int32) × (Nat → Int32) × (Nat → Int32) × (Nat → Int32)) : Prop :=
  a.1 = F_M_all b.2.1 G 4 - base ∧ Rel R G n a.2.1 a.2.2.1 a.2.2.2.1 nr fw fb ng gR gW a.2.2.2.2.1 a.2.2.2.2.2.1 a.2.2.2.2.2.2 gY b.1 ew el b.2.1 b.2.2.1
theorem nights_eq {R G n nn : Nat} {nt nf : Int32} {fc : Nat → Int32} {nr : Int32} {fw fb : Nat → Int32} {ng : Int32} {gR gW gT gS gJ gY eh ew el ep en eb fl : Nat → Int32} (hn : n + nn < 2 ^ 31) (h : Rel R G n nt nf fc nr fw fb ng gR gW gT gS gJ gY eh ew el ep en) :
    NightsRel R G (n + nn) nr fw fb ng gR gW gY ew el (F_M_all ep G 4) (I_X2_goThrough_8 nt nf fc nr fw fb ng gR gW gT gS gJ gY fl nn) (I_M_nightsOn_8 eh ew el ep en eb R G nn) := by
  have key := it_sim (P := fun j a b => NightsRel R G (n + j) nr fw fb ng gR gW gY ew el (F_M_all ep G 4) a b) (f := fun (k : Nat) (v : Int32 × Int32 × Int32 × (Nat → Int32) × (Nat → Int32) × (Nat → Int32) × (Nat → Int32)) => S_X2_goThrough_8 nr fw fb ng gR gW gY fl k v.1 v.2.1 v.2.2.1 v.2.2.2.1 v.2.2.2.2.1 v.2.2.2.2.2.1 v.2.2.2.2.2.2) (g := fun (k : Nat) (v : (Nat → Int32) × (Nat → Int32) × (Nat → Int32) × (Nat → Int32)) => S_M_nightsOn_8 ew el R G k v.1 v.2.1 v.2.2.1 v.2.2.2) nn 0 (0, nt, nf, fc, gT, gS, gJ) (eh, ep, en, eb) (fun j a b h1 h3 hab => ?_) ⟨(Int32.sub_self _).symm, h⟩
  · rw [Nat.zero_add] at key
    exact key
  · obtain ⟨q1, q2⟩ := hab
    obtain ⟨d, r1, r2, r3⟩ := night_eq (eb := b.2.2.2) (fl := fl) (by omega) q2 j a.1
    show NightsRel R G (n + j + 1) nr fw fb ng gR gW gY ew el (F_M_all ep G 4) (S_X2_goThrough_8 nr fw fb ng gR gW gY fl j a.1 a.2.1 a.2.2.1 a.2.2.2.1 a.2.2.2.2.1 a.2.2.2.2.2.1 a.2.2.2.2.2.2) (S_M_nightsOn_8 ew el R G j b.1 b.2.1 b.2.2.1 b.2.2.2)
    unfold NightsRel S_M_nightsOn_8
    dsimp only
    refine And.intro ?_ (by with_reducible exact r3)
    rw [r1, r2, q1, Int32.sub_eq_add_neg, Int32.sub_eq_add_neg]
    ac_rfl
