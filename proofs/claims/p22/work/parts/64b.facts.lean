-- what a night does: jars, what is seen, the warden, growing
theorem sm_front (f : Nat → Int32) (n : Nat) : sm f (n + 1) = f 0 + sm (fun k => f (k + 1)) n := by
  rw [show n + 1 = 1 + n by omega, sm_split]
  show (0 + f 0) + sm (fun k => f (1 + k)) n = _
  rw [Int32.zero_add]
  exact congrArg (f 0 + ·) (sm_congr (fun k _ => by rw [Nat.add_comm]))
section
variable {R G n : Nat} {fw fb ew el gR gW gT gS gJ gY ep : Nat → Int32}
theorem HB.jars {T : Nat} {fc : Nat → Int32} (hR : R ≤ 6) (hG : G ≤ 12) (hr : RR R fw fb ew el) (hg : RG R G gR gW gT gS gJ gY ep) (h : HB T 0 fc) :
    ∃ t : Nat → Nat, HB T (sn t 12) (F_X2_fillJars fc (nI R) fw (nI G) gR gT gJ).1 ∧ ∀ g, g < 12 → (F_X2_fillJars fc (nI R) fw (nI G) gR gT gJ).2 g = gT g + nI (t g) ∧ t g ≤ 3 ∧ (gJ g = 0 → t g = 0) := by
  have key := it_ind (P := fun k (a : (Nat → Int32) × (Nat → Int32)) => ∃ t : Nat → Nat, HB T (sn t 12) a.1 ∧ ∀ g, g < 12 → a.2 g = gT g + nI (t g) ∧ t g ≤ 3 ∧ (gJ g = 0 → t g = 0) ∧ (k ≤ g → t g = 0)) (f := fun (k : Nat) (v : (Nat → Int32) × (Nat → Int32)) => S_X2_fillJars_2 (nI R) fw (nI G) gR gJ k v.1 v.2) 12 0 (fc, gT) (fun k a _ hk ha => ?_) ⟨fun _ => 0, h, fun g _ => ⟨(Int32.add_zero _).symm, Nat.zero_le _, fun _ => rfl, fun _ => rfl⟩⟩
  · obtain ⟨t, h1, h2⟩ := key
    exact ⟨t, h1, fun g hg9 => ⟨(h2 g hg9).1, (h2 g hg9).2.1, (h2 g hg9).2.2.1⟩⟩
  · obtain ⟨t, h1, h2⟩ := ha
    show ∃ t : Nat → Nat, HB T (sn t 12) (S_X2_fillJars_2 (nI R) fw (nI G) gR gJ k a.1 a.2).1 ∧ ∀ g, g < 12 → (S_X2_fillJars_2 (nI R) fw (nI G) gR gJ k a.1 a.2).2 g = gT g + nI (t g) ∧ t g ≤ 3 ∧ (gJ g = 0 → t g = 0) ∧ (k + 1 ≤ g → t g = 0)
    unfold S_X2_fillJars_2
    by_cases c : F_X0_hasJar (nI G) gJ (nI k) = 0
    · rw [if_pos c]
      exact ⟨t, h1, fun g hg9 => ⟨(h2 g hg9).1, (h2 g hg9).2.1, (h2 g hg9).2.2.1, fun q => (h2 g hg9).2.2.2 (by omega)⟩⟩
    · rw [if_neg c]
      have kG : k < G := by
        by_cases q : k < G
        · exact q
        · exact absurd (by unfold F_X0_hasJar; rw [has0n hG (by omega) (by omega), if_pos rfl]) c
      have jk : ¬ gJ k = 0 := fun q => c (by unfold F_X0_hasJar; rw [has0 hG kG, if_neg (by decide), nI_clamp (by omega), if_pos q])
      obtain ⟨b1, ⟨r, hr9, b2⟩, -⟩ := (hg k (by omega)).1 kG
      obtain ⟨-, ⟨w, hw, ew9⟩, -⟩ := (hr r (by omega)).1 hr9
      have erm : F_X0_roomOf (nI G) gR (nI k) = nI r := by unfold F_X0_roomOf; rw [has0 hG kG, if_neg (by decide), nI_clamp (by omega), b1, b2]
      have ewn : F_X3_windowOf (nI R) fw (nI r) = nI w := by rw [win_eq hR hr hr9, ew9]
      rw [erm, ewn]
      obtain ⟨tk, t3, e, hb⟩ := HB.catch h1 hw 5 0 rfl
      have e0 : t k = 0 := (h2 k (by omega)).2.2.2 (Nat.le_refl _)
      have es : sn (fun g => if g = k then tk else t g) 12 = sn t 12 + tk := by
        have := sn_put t k tk 12
        rw [if_pos (by omega), if_pos (by omega), e0] at this
        omega
      refine ⟨fun g => if g = k then tk else t g, by rw [es]; exact hb, fun g hg9 => ?_⟩
      show F_X0_addTaken (nI G) a.2 (nI k) (F_X1_takeUppermost a.1 (nI w) 3).1 g = _ ∧ _
      have ea : F_X0_addTaken (nI G) a.2 (nI k) (F_X1_takeUppermost a.1 (nI w) 3).1 = upd a.2 k (a.2 k + nI tk) := by
        unfold F_X0_addTaken
        rw [has0 hG kG, if_neg (by decide), nI_clamp (by omega), show (F_X1_takeUppermost a.1 (nI w) 3).1 = nI tk from e]
      rw [ea]
      by_cases d : g = k
      · subst d
        dsimp only
        rw [pk_us, (h2 g hg9).1, e0, if_pos rfl]
        exact ⟨by rw [show nI 0 = (0 : Int32) from rfl, Int32.add_zero], t3, fun q => absurd q jk, fun q => absurd q (by omega)⟩
      · dsimp only
        rw [pk_un d, if_neg d]
        exact ⟨(h2 g hg9).1, (h2 g hg9).2.1, (h2 g hg9).2.2.1, fun q => (h2 g hg9).2.2.2 (by omega)⟩
theorem seen_nat {fc : Nat → Int32} (hB : ∀ i, i < 50 → ∃ v, v ≤ 40 ∧ fc i = nI v) {w : Nat} (hw : w < 10) : ∃ s, s ≤ 600 ∧ F_X1_seenFrom fc (nI w) = nI s := by
  have hRH : RH fc fc := fun i hi => by obtain ⟨v, a, b⟩ := hB i hi; exact ⟨rfl, v, a, b⟩
  have cn : ∀ c, c < 10 → ∃ s, s ≤ 200 ∧ F_X1_inColumn fc (nI c) = nI s := fun c hc => by
    obtain ⟨v0, a0, b0⟩ := hB (10 * 0 + c) (by omega)
    obtain ⟨v1, a1, b1⟩ := hB (10 * 1 + c) (by omega)
    obtain ⟨v2, a2, b2⟩ := hB (10 * 2 + c) (by omega)
    obtain ⟨v3, a3, b3⟩ := hB (10 * 3 + c) (by omega)
    obtain ⟨v4, a4, b4⟩ := hB (10 * 4 + c) (by omega)
    refine ⟨0 + v0 + v1 + v2 + v3 + v4, by omega, ?_⟩
    rw [col_in hRH hc, b0, b1, b2, b3, b4, show (0 : Int32) = nI 0 from rfl, nI_add, nI_add, nI_add, nI_add, nI_add]
  unfold F_X1_seenFrom
  obtain ⟨s, hs, es⟩ := cn w hw
  have lo : ∃ s, s ≤ 200 ∧ F_X1_inColumn fc (nI w - 1) = nI s := by
    cases w with
    | zero => exact ⟨0, by omega, col_out (x := nI 0 - 1) out_l⟩
    | succ w => rw [nI_pred]; exact cn w (by omega)
  have hi : ∃ s, s ≤ 200 ∧ F_X1_inColumn fc (nI w + 1) = nI s := by
    by_cases c : w = 9
    · subst c
      exact ⟨0, by omega, col_out (x := nI 9 + 1) out_r⟩
    · rw [nI_1]
      exact cn (w + 1) (by omega)
  obtain ⟨s1, h1, e1⟩ := lo
  obtain ⟨s2, h2, e2⟩ := hi
  exact ⟨s1 + s + s2, by omega, by rw [e1, es, e2, nI_add, nI_add]⟩
/-- what is seen from a room in one night -/
def zroom (fc fb ew : Nat → Int32) (n r : Nat) : Nat := if 4 ≤ tri n then 0 else if fb r = 0 then tn (F_X1_seenFrom fc (ew r)) / (tri n + 1) else 0
/-- what a guest sees in one night -/
def zguest (fc fb ew gR gY : Nat → Int32) (G n g : Nat) : Nat := if g < G ∧ gY g = 1 then zroom fc fb ew n (tn (gR g)) else 0
theorem zroom_0 (fc fb ew : Nat → Int32) {n r : Nat} (h : fb r = 1 ∨ tri n = 4) : zroom fc fb ew n r = 0 := by
  unfold zroom
  by_cases c : 4 ≤ tri n
  · rw [if_pos c]
  · rw [if_neg c, if_neg]
    intro q
    rcases h with h | h
    · rw [h] at q
      exact absurd q (by decide)
    · omega
theorem zroom_le {fc fb ew : Nat → Int32} (hB : ∀ i, i < 50 → ∃ v, v ≤ 40 ∧ fc i = nI v) (n : Nat) {r : Nat} (hw : ∃ w, w < 10 ∧ ew r = nI w) : zroom fc fb ew n r ≤ 600 := by
  unfold zroom
  obtain ⟨w, hw, e⟩ := hw
  obtain ⟨s, hs, es⟩ := seen_nat hB hw
  split
  · omega
  · split
    · rw [e, es]
      unfold tn
      rw [nI_clamp (by omega)]
      exact Nat.le_trans (Nat.div_le_self _ _) hs
    · omega
theorem look_L (hR : R ≤ 6) (hG : G ≤ 12) (hr : RR R fw fb ew el) (hg : RG R G gR gW gT gS gJ gY ep) {fc : Nat → Int32} (hB : ∀ i, i < 50 → ∃ v, v ≤ 40 ∧ fc i = nI v) (hn : n < 2 ^ 31) (h4 : ¬ 4 ≤ tri n) : ∀ (m k : Nat) (v : Int32) (f : Nat → Int32), k + m = 12 →
    (L_X2_lookOut_12 (nI n) fc (nI R) fw fb (nI G) gR gY m k v f).1 = v + sm (fun j => nI (zguest fc fb ew gR gY G n (k + j))) m ∧ ∀ g, (L_X2_lookOut_12 (nI n) fc (nI R) fw fb (nI G) gR gY m k v f).2 g = if k ≤ g ∧ g < 12 then f g + nI (zguest fc fb ew gR gY G n g) else f g := by
  intro m
  induction m with
  | zero =>
    intro k v f hk
    exact ⟨(Int32.add_zero _).symm, fun g => by rw [if_neg (by omega)]; rfl⟩
  | succ m ih =>
    intro k v f hk
    have nz : ∀ (v' : Int32) (f' : Nat → Int32), zguest fc fb ew gR gY G n k = 0 → v' = v → f' = f → (L_X2_lookOut_12 (nI n) fc (nI R) fw fb (nI G) gR gY m (k + 1) v' f').1 = v + sm (fun j => nI (zguest fc fb ew gR gY G n (k + j))) (m + 1) ∧ ∀ g, (L_X2_lookOut_12 (nI n) fc (nI R) fw fb (nI G) gR gY m (k + 1) v' f').2 g = if k ≤ g ∧ g < 12 then f g + nI (zguest fc fb ew gR gY G n g) else f g := by
      intro v' f' ez ev ef
      subst ev
      subst ef
      obtain ⟨i1, i2⟩ := ih (k + 1) v' f' (by omega)
      refine ⟨?_, fun g => ?_⟩
      · rw [i1, sm_front, show k + 0 = k from rfl, ez, show nI 0 = (0 : Int32) from rfl, Int32.zero_add]
        exact congrArg (v' + ·) (sm_congr (fun j _ => by rw [show k + 1 + j = k + (j + 1) by omega]))
      · rw [i2]
        by_cases c : g = k
        · subst c
          rw [if_neg (by omega), if_pos (by omega), ez, show nI 0 = (0 : Int32) from rfl, Int32.add_zero]
        · by_cases d : k + 1 ≤ g ∧ g < 12
          · rw [if_pos d, if_pos (by omega)]
          · rw [if_neg d, if_neg (by omega)]
    unfold L_X2_lookOut_12
    rw [cmoon hn, if_neg (show ¬ 4 ≤ nI (tri n) from nI_ge (b := 4) (by omega) (by omega))]
    by_cases kG : k < G
    · obtain ⟨b1, ⟨r, hr9, b2⟩, -, -, -, -, -, b8⟩ := (hg k (by omega)).1 kG
      obtain ⟨-, ⟨w, hw, ew9⟩, b3, b4⟩ := (hr r (by omega)).1 hr9
      have est : F_X0_isStaying (nI G) gY (nI k) = if gY k = 0 then 0 else 1 := by unfold F_X0_isStaying; rw [has0 hG kG, if_neg (by decide), nI_clamp (by omega)]
      have erm : F_X0_roomOf (nI G) gR (nI k) = nI r := by unfold F_X0_roomOf; rw [has0 hG kG, if_neg (by decide), nI_clamp (by omega), b1, b2]
      have ert : tn (gR k) = r := by unfold tn; rw [b1, b2, nI_clamp (by omega)]
      rw [est, erm, burn_eq hR hr hr9, win_eq hR hr hr9]
      rcases b8 with ⟨-, y1⟩ | ⟨-, y0, -⟩
      · rw [y1, if_neg (show ¬ (1 : Int32) = 0 by decide), if_neg (show ¬ (1 : Int32) = 0 by decide)]
        by_cases c : el r = 0
        · rw [if_pos c]
          obtain ⟨s, hs, es⟩ := seen_nat hB hw
          have ez : zguest fc fb ew gR gY G n k = s / (tri n + 1) := by
            unfold zguest zroom
            rw [if_pos ⟨kG, y1⟩, ert, if_neg h4, if_pos (b3.trans c), ew9, es]
            unfold tn
            rw [nI_clamp (by omega)]
          have ht := tri_le n
          have eq : F_X1_seenFrom fc (ew r) / (nI (tri n) + 1) = nI (zguest fc fb ew gR gY G n k) := by rw [ew9, es, nI_1, pk_div (by omega) (by omega) (by omega), ez]
          rw [eq]
          have ea : F_X0_addSeen (nI G) f (nI k) (nI (zguest fc fb ew gR gY G n k)) = upd f k (f k + nI (zguest fc fb ew gR gY G n k)) := by unfold F_X0_addSeen; rw [has0 hG kG, if_neg (by decide), nI_clamp (by omega)]
          rw [ea]
          obtain ⟨i1, i2⟩ := ih (k + 1) (v + nI (zguest fc fb ew gR gY G n k)) (upd f k (f k + nI (zguest fc fb ew gR gY G n k))) (by omega)
          refine ⟨?_, fun g => ?_⟩
          · rw [i1, sm_front, show k + 0 = k from rfl, Int32.add_assoc]
            exact congrArg (fun q => v + (nI (zguest fc fb ew gR gY G n k) + q)) (sm_congr (fun j _ => by rw [show k + 1 + j = k + (j + 1) by omega]))
          · rw [i2]
            by_cases d : g = k
            · subst d
              rw [if_neg (by omega), if_pos (by omega), pk_us]
            · rw [pk_un d]
              by_cases d2 : k + 1 ≤ g ∧ g < 12
              · rw [if_pos d2, if_pos (by omega)]
              · rw [if_neg d2, if_neg (by omega)]
        · rw [if_neg c]
          refine nz v f ?_ rfl rfl
          unfold zguest zroom
          rw [if_pos ⟨kG, y1⟩, ert, if_neg h4, if_neg (fun q => c (b3.symm.trans q))]
      · rw [y0, if_pos rfl, if_pos rfl]
        refine nz v f ?_ rfl rfl
        unfold zguest
        rw [if_neg (fun q => by have := q.2; rw [y0] at this; exact absurd this (by decide))]
    · have est : F_X0_isStaying (nI G) gY (nI k) = 0 := by unfold F_X0_isStaying; rw [has0n hG (by omega) (by omega), if_pos rfl]
      rw [est, if_pos rfl]
      refine nz v f ?_ rfl rfl
      unfold zguest
      rw [if_neg (fun q => kG q.1)]
theorem look_facts (hR : R ≤ 6) (hG : G ≤ 12) (hr : RR R fw fb ew el) (hg : RG R G gR gW gT gS gJ gY ep) {fc : Nat → Int32} (hB : ∀ i, i < 50 → ∃ v, v ≤ 40 ∧ fc i = nI v) (hn : n < 2 ^ 31) :
    (F_X2_lookOut (nI n) fc (nI R) fw fb (nI G) gR gS gY).1 = sm (fun g => nI (zguest fc fb ew gR gY G n g)) 12 ∧ ∀ g, g < 12 → (F_X2_lookOut (nI n) fc (nI R) fw fb (nI G) gR gS gY).2 g = gS g + nI (zguest fc fb ew gR gY G n g) := by
  unfold F_X2_lookOut
  by_cases h4 : 4 ≤ tri n
  · have z0 : ∀ g, zguest fc fb ew gR gY G n g = 0 := fun g => by
      unfold zguest zroom
      split
      · first | rfl | rw [if_pos h4]
      · rfl
    unfold L_X2_lookOut_12
    have ht := tri_le n
    rw [cmoon hn, if_pos (show 4 ≤ nI (tri n) from nI_le (a := 4) h4 (by omega))]
    refine ⟨?_, fun g _ => by rw [z0]; exact (Int32.add_zero _).symm⟩
    rw [sm_congr (g := fun _ => 0) (fun k _ => by rw [z0]; rfl), sm_zero]
  · obtain ⟨l1, l2⟩ := look_L hR hG hr hg hB hn h4 12 0 0 gS rfl
    refine ⟨?_, fun g hg9 => ?_⟩
    · rw [l1, Int32.zero_add]
      exact sm_congr (fun k _ => by rw [Nat.zero_add])
    · rw [l2, if_pos ⟨Nat.zero_le _, hg9⟩]
theorem quiet (hG : G ≤ 12) (hR : R ≤ 6) (hg : RG R G gR gW gT gS gJ gY ep) {r : Nat} (h1 : R ≤ r) (h2 : r < 6) : F_X0_whispersIn gR gW gY (nI r) ≤ 9 := by
  rw [told3 (ew := fun _ => 0) (el := fun _ => 0) hG hg r, show F_M_roomTold (fun _ => 0) (fun _ => 0) ep G r 3 = I_M_roomTold_30 ep G r 3 from if_pos (by decide)]
  have e : I_M_roomTold_30 ep G r 3 = 0 := by
    show it (fun (k : Nat) (v : Int32) => S_M_roomTold_30 ep r 3 k v) G 0 0 = 0
    rw [it_congr (g := fun _ (v : Int32) => v) G 0 0 (fun k v _ hk => by
      show S_M_roomTold_30 ep r 3 k v = v
      obtain ⟨-, ⟨r', hr', b2⟩, -⟩ := (hg k (by omega)).1 (by omega)
      have et : F_M_isThere ep k (nI r) = 0 := by
        rw [there_eq, b2]
        split
        · rw [if_neg (fun q => by have := nI_ij (by omega) (by omega) q; omega)]
        · rfl
      unfold S_M_roomTold_30
      rw [et, if_pos rfl])]
    exact it_fix (fun _ => rfl) _ _
  rw [e]
  decide
theorem night_facts {nf : Int32} {fc eh en : Nat → Int32} (fl : Nat → Int32) (hn : n < 2 ^ 30) (h : Rel R G n (nI n) nf fc (nI R) fw fb (nI G) gR gW gT gS gJ gY eh ew el ep en) :
    ∃ (t hg h0 : Nat → Nat) (f3 : Nat → Int32),
      (∀ g, g < 12 → (F_X4_pass (nI n) nf fc (nI R) fw fb (nI G) gR gW gT gS gJ gY fl 1).2.2.2.2.1 g = gT g + nI (t g) ∧ t g ≤ 3 ∧ (gJ g = 0 → t g = 0)) ∧
      (∀ g, g < 12 → (F_X4_pass (nI n) nf fc (nI R) fw fb (nI G) gR gW gT gS gJ gY fl 1).2.2.2.2.2.1 g = gS g + nI (zguest f3 fb ew gR gY G n g)) ∧ (∀ r, r < R → zroom f3 fb ew n r ≤ 600) ∧
      (F_X4_pass (nI n) nf fc (nI R) fw fb (nI G) gR gW gT gS gJ gY fl 1).1 = sm (fun g => nI (zguest f3 fb ew gR gY G n g)) 12 ∧
      (0 < R → (∀ g, g < 12 → (F_X4_pass (nI n) nf fc (nI R) fw fb (nI G) gR gW gT gS gJ gY fl 1).2.2.2.2.2.2.1 g = if gR g = nI (n % R) then 0 else gJ g) ∧ (F_X4_pass (nI n) nf fc (nI R) fw fb (nI G) gR gW gT gS gJ gY fl 1).2.2.1 = nf + F_X0_jarsIn gR gJ (nI (n % R))) ∧
      (R = 0 → (F_X4_pass (nI n) nf fc (nI R) fw fb (nI G) gR gW gT gS gJ gY fl 1).2.2.1 = nf) ∧
      (∀ i, i < 50 → hg i ≤ 40 ∧ (F_X4_pass (nI n) nf fc (nI R) fw fb (nI G) gR gW gT gS gJ gY fl 1).2.2.2.1 i = nI (if F_M_lit ew el R (nI (i % 10)) = 0 then min 40 (hg i + hg i / 10) else hg i)) ∧
      (∀ i, i < 50 → fc i = nI (h0 i) ∧ h0 i ≤ 40) ∧ sn hg 50 + sn t 12 ≤ sn h0 50 := by
  obtain ⟨hR, hG, -, -, -, -, -, hH, hr, hgg⟩ := h
  have hc : ∀ i, i < 50 → ∃ v, v ≤ 40 ∧ fc i = nI v := fun i hi => by obtain ⟨q, v, a, b⟩ := hH i hi; exact ⟨v, a, q.trans b⟩
  have e0 : ∀ i, i < 50 → fc i = nI (tn (fc i)) ∧ tn (fc i) ≤ 40 := fun i hi => by
    obtain ⟨v, hv, e⟩ := hc i hi
    unfold tn
    rw [e, nI_clamp (by omega)]
    exact ⟨rfl, hv⟩
  have b0 : HB (sn (fun i => tn (fc i)) 50) 0 fc := ⟨fun i => tn (fc i), e0, Nat.le_refl _⟩
  have b3 := (b0.lamps hR hr fl).whisp (G := G) (gR := gR) (gW := gW) (gY := gY) hR hr (fun r h1 h2 => quiet hG hR hgg h1 h2)
  have hB3 := fun i (hi : i < 50) => b3.at hi
  obtain ⟨l1, l2⟩ := look_facts hR hG hr hgg hB3 (n := n) (by omega)
  obtain ⟨t, b4, j2⟩ := b3.jars hR hG hr hgg
  obtain ⟨hg, g1, g2⟩ := id b4
  refine ⟨t, hg, fun i => tn (fc i), F_X2_driveByWhispers (F_X2_driveByLamps fc (F_X2_lookAtLamps fw fb fl)) (nI R) fw gR gW gY, j2, l2, fun r hr9 => zroom_le hB3 n ((hr r (by omega)).1 hr9).2.1, ?_, fun hRp => ⟨fun g hg9 => ?_, ?_⟩, fun hR0 => ?_, fun i hi => ⟨(g1 i hi).2, ?_⟩, e0, g2⟩
  · show 0 + _ = _
    rw [Int32.zero_add]
    exact l1
  · show (F_X2_searchJars (nI n) nf (nI R) gR gJ).2 g = _
    unfold F_X2_searchJars F_X3_many
    rw [if_neg (show ¬ nI R ≤ 0 from nI_ge (a := 0) (b := R) hRp (by omega)), show rmd (nI n) (nI R) = nI (n % R) from pk_rem (by omega) hRp (by omega)]
    exact drop_at gR gJ (n % R) g hg9
  · show (F_X2_searchJars (nI n) nf (nI R) gR gJ).1 = _
    unfold F_X2_searchJars F_X3_many
    rw [if_neg (show ¬ nI R ≤ 0 from nI_ge (a := 0) (b := R) hRp (by omega)), show rmd (nI n) (nI R) = nI (n % R) from pk_rem (by omega) hRp (by omega)]
  · show (F_X2_searchJars (nI n) nf (nI R) gR gJ).1 = _
    unfold F_X2_searchJars F_X3_many
    rw [hR0, if_pos (by decide)]
  · show F_X2_growInTheDark _ (F_X2_lookAtLamps fw fb fl) i = _
    have hRH : ∀ {f : Nat → Int32}, (∀ i, i < 50 → f i = nI (hg i) ∧ hg i ≤ 40) → RH f f := fun hf i hi => ⟨rfl, hg i, (hf i hi).2, (hf i hi).1⟩
    rw [(grow_eq (fl := fl) hR hr (hRH g1) i hi).1, grow_m (fun i hi => ⟨hg i, (g1 i hi).2, (g1 i hi).1⟩) i hi]
    by_cases c : F_M_lit ew el R (nI (i % 10)) = 0
    · rw [if_pos c, if_pos c, grown_n (g1 i hi).1 (g1 i hi).2]
    · rw [if_neg c, if_neg c, (g1 i hi).1]
end
