-- a night by hand, beside the words of the night: whispers, looking out, jars
theorem tenle (v : Int32) : (10 ≤ v) ↔ ¬ v ≤ 9 := by
  have e1 : (10 : Int32).toInt = 10 := rfl
  have e2 : (9 : Int32).toInt = 9 := rfl
  rw [i_le, i_le, e1, e2]
  omega
/-- a column's fireflies more -/
def col (th : Nat → Nat → Int32) (c : Nat) (v : Int32) : Int32 := v + th c 0 + th c 1 + th c 2 + th c 3 + th c 4
/-- what is seen from a window -/
def nearP (th : Nat → Nat → Int32) (w : Nat) : Int32 := if w = 0 then col th 1 (col th 0 0) else if w = 9 then col th 9 (col th 8 0) else col th (w + 1) (col th w (col th (w - 1) 0))
theorem col_th {th : Nat → Nat → Int32} {eh : Nat → Int32} (hh : RH (EH th) eh) {c : Nat} (hc : c < 10) : F_X1_inColumn (EH th) (nI c) = col th c 0 := by
  rw [col_in hh hc]
  have e : ∀ y, y < 5 → eh (10 * y + c) = th c y := fun y hy => by rw [← (hh (10 * y + c) (by omega)).1, eh_at th hc]
  rw [e 0 (by omega), e 1 (by omega), e 2 (by omega), e 3 (by omega), e 4 (by omega)]
  rfl
theorem near_th {th : Nat → Nat → Int32} {eh : Nat → Int32} (hh : RH (EH th) eh) {w : Nat} (hw : w < 10) : F_M_near eh (nI w) = nearP th w := by
  rw [← seen_eq hh hw]
  unfold F_X1_seenFrom nearP
  by_cases c0 : w = 0
  · subst c0
    rw [if_pos rfl, col_out (x := nI 0 - 1) out_l, col_th hh (c := 0) (by omega), show nI 0 + 1 = nI 1 from nI_1 0, col_th hh (c := 1) (by omega)]
    unfold col
    simp only [Int32.zero_add]
    ac_rfl
  · obtain ⟨k, rfl⟩ : ∃ k, w = k + 1 := ⟨w - 1, by omega⟩
    rw [if_neg c0, nI_pred, col_th hh (c := k) (by omega), col_th hh (c := k + 1) (by omega)]
    by_cases c9 : k + 1 = 9
    · rw [if_pos c9]
      have e8 : k = 8 := by omega
      subst e8
      rw [show F_X1_inColumn (EH th) (nI (8 + 1) + 1) = 0 from col_out (x := nI 9 + 1) out_r]
      unfold col
      simp only [Int32.zero_add, Int32.add_zero]
      ac_rfl
    · rw [if_neg c9, nI_1, col_th hh (c := k + 1 + 1) (by omega), show k + 1 - 1 = k by omega]
      unfold col
      simp only [Int32.zero_add]
      ac_rfl
section
variable {R G n : Nat} {sh sr sg : Nat → Nat → Int32}
theorem whisp1 (h : SI R G sr sg) {th : Nat → Nat → Int32} {eh : Nat → Int32} (hh : RH (EH th) eh) : RH (EH (it (fun (k : Nat) (v : Nat → Nat → Int32) => S_X5_pass_197 sr sg G k v) R 0 th)) (it (fun (k : Nat) (v : Nat → Int32) => S_M_nightOn_6 (EW sr) (EL sr) (EP sg) G k v) R 0 eh) := by
  refine it_sim (P := fun _ (a : Nat → Nat → Int32) (b : Nat → Int32) => RH (EH a) b) R 0 th eh (fun r a b _ hr hab => ?_) hh
  show RH (EH (S_X5_pass_197 sr sg G r a)) (S_M_nightOn_6 (EW sr) (EL sr) (EP sg) G r b)
  obtain ⟨w, hw, ew⟩ := h.1 r (by omega)
  unfold S_X5_pass_197 S_M_nightOn_6
  rw [s_whisp, show F_M_roomTold (EW sr) (EL sr) (EP sg) G r 3 = I_M_roomTold_30 (EP sg) G r 3 from if_pos (by decide)]
  by_cases c : I_M_roomTold_30 (EP sg) G r 3 ≤ 9
  · rw [if_neg (fun q => (tenle _).mp q c), if_pos c]
    exact hab
  · rw [if_pos ((tenle _).mpr c), if_neg c, show EW sr r = nI w from ew]
    exact fall1 hw ew hab
theorem s400_out {k j w : Nat} {a : Nat → Nat → Int32} (ew : tn (sr (tn (a k 0)) 0) = w) (v : Int32) (h : cO w j < 0 ∨ 10 ≤ cO w j) : I_X5_pass_400 sh sr sg R G k a j v = v := by
  unfold I_X5_pass_400 L_X5_pass_400
  rw [ew]
  by_cases c : cO w j < 0
  · rw [if_pos c]
  · rw [if_neg c, if_pos (h.resolve_left c)]
theorem s400_in {k j w : Nat} {a : Nat → Nat → Int32} (ew : tn (sr (tn (a k 0)) 0) = w) (v : Int32) (h1 : ¬ cO w j < 0) (h2 : ¬ 10 ≤ cO w j) : I_X5_pass_400 sh sr sg R G k a j v = col (I_X5_pass_197 sh sr sg R G) (w + j - 1) v := by
  unfold I_X5_pass_400
  simp only [L_X5_pass_400, ew, if_neg h1, if_neg h2]
  rfl
theorem s388 {k w : Nat} {a : Nat → Nat → Int32} (hw : w < 10) (ew : tn (sr (tn (a k 0)) 0) = w) : I_X5_pass_388 sh sr sg R G k a = nearP (I_X5_pass_197 sh sr sg R G) w := by
  show I_X5_pass_400 sh sr sg R G k a 2 (I_X5_pass_400 sh sr sg R G k a 1 (I_X5_pass_400 sh sr sg R G k a 0 0)) = _
  have e0 : (0 : Int32).toInt = 0 := rfl
  have e10 : (10 : Int32).toInt = 10 := rfl
  have lo : ∀ j, j < 3 → (cO w j < 0 ↔ w + j < 1) := fun j hj => by rw [i_lt, cO_int (by omega) (by omega), e0]; omega
  have hi : ∀ j, j < 3 → (10 ≤ cO w j ↔ 11 ≤ w + j) := fun j hj => by rw [i_le, cO_int (by omega) (by omega), e10]; omega
  unfold nearP
  by_cases c0 : w = 0
  · rw [if_pos c0, s400_out (j := 0) ew _ (Or.inl ((lo 0 (by omega)).mpr (by omega))), s400_in (j := 1) ew _ (fun q => by have := (lo 1 (by omega)).mp q; omega) (fun q => by have := (hi 1 (by omega)).mp q; omega), s400_in (j := 2) ew _ (fun q => by have := (lo 2 (by omega)).mp q; omega) (fun q => by have := (hi 2 (by omega)).mp q; omega), c0]
  · rw [if_neg c0, s400_in (j := 0) ew _ (fun q => by have := (lo 0 (by omega)).mp q; omega) (fun q => by have := (hi 0 (by omega)).mp q; omega), s400_in (j := 1) ew _ (fun q => by have := (lo 1 (by omega)).mp q; omega) (fun q => by have := (hi 1 (by omega)).mp q; omega)]
    by_cases c9 : w = 9
    · rw [if_pos c9, s400_out (j := 2) ew _ (Or.inr ((hi 2 (by omega)).mpr (by omega))), c9]
    · rw [if_neg c9, s400_in (j := 2) ew _ (fun q => by have := (lo 2 (by omega)).mp q; omega) (fun q => by have := (hi 2 (by omega)).mp q; omega), show w + 0 - 1 = w - 1 by omega, show w + 1 - 1 = w by omega, show w + 2 - 1 = w + 1 by omega]
theorem look1 (hR6 : R ≤ 6) (h : SI R G sr sg) (hel : ∀ r, r < R → sr r 1 = 0 ∨ sr r 1 = 1) (h5 : ∀ g, g < G → sg g 5 = 0 ∨ sg g 5 = 1) (hn : n < 2 ^ 31) {eh : Nat → Int32} (hh : RH (EH (I_X5_pass_197 sh sr sg R G)) eh) : EP (I_X5_pass_321 sh sr sg R G n).2 = it (seeS eh (EW sr) (EL sr) (F_M_moon (nI n))) G 0 (EP sg) ∧ ∀ g w, w ≠ 4 → (I_X5_pass_321 sh sr sg R G n).2 g w = sg g w := by
  refine it_sim (P := fun _ (a : Int32 × (Nat → Nat → Int32)) (b : Nat → Int32) => EP a.2 = b ∧ ∀ g w, w ≠ 4 → a.2 g w = sg g w) G 0 (0, sg) (EP sg) (fun k a b _ hk hab => ?_) ⟨rfl, fun _ _ _ => rfl⟩
  obtain ⟨e, hu⟩ := hab
  subst e
  show EP (S_X5_pass_321 sh sr sg R G n k a.1 a.2).2 = seeS eh (EW sr) (EL sr) (F_M_moon (nI n)) k (EP a.2) ∧ ∀ g w, w ≠ 4 → (S_X5_pass_321 sh sr sg R G n k a.1 a.2).2 g w = sg g w
  obtain ⟨r, hr, er⟩ := h.2 k (by omega)
  obtain ⟨w, hw, ew⟩ := h.1 r hr
  have a0 : a.2 k 0 = nI r := (hu k 0 (by decide)).trans er
  have a5 : a.2 k 5 = sg k 5 := hu k 5 (by decide)
  have hr31 : r < 2 ^ 31 := by omega
  have et : tn (a.2 k 0) = r := by unfold tn; rw [a0, nI_clamp hr31]
  have ewt : tn (sr (tn (a.2 k 0)) 0) = w := by rw [et]; unfold tn; rw [ew, nI_clamp (by omega)]
  have eM : (F_M_pe (EP a.2) k 0).toNatClampNeg = r := by unfold F_M_pe; rw [ep_at _ (by omega), a0, nI_clamp hr31]
  have e5 : F_M_pe (EP a.2) k 5 = sg k 5 := by unfold F_M_pe; rw [ep_at _ (by omega), a5]
  unfold S_X5_pass_321 seeS
  rw [eM, e5, a5, et, s_moon hn, show EL sr r = sr r 1 from rfl, show EW sr r = nI w from ew, near_th hh hw, s388 hw ewt]
  rcases h5 k (by omega) with q5 | q5 <;> rw [q5]
  · rw [if_neg (by decide), if_pos rfl]
    rcases hel r hr with q1 | q1 <;> rw [q1]
    · rw [if_neg (by decide), if_pos rfl, mmoon hn]
      have ht := tri_le n
      by_cases c4 : tri n = 4
      · rw [c4, if_pos (by rfl), if_pos (by decide)]
        exact ⟨rfl, hu⟩
      · rw [if_neg (show ¬ nI (tri n) = 4 from fun q => c4 ((nI_eq (b := 4) (by omega) (by omega)).mp q)), if_neg (show ¬ 4 ≤ nI (tri n) from nI_ge (b := 4) (by omega) (by omega))]
        refine ⟨?_, fun g w' hw' => ?_⟩
        · show EP (up2 a.2 k 4 (a.2 k 4 + nearP (I_X5_pass_197 sh sr sg R G) w / (nI (tri n) + 1))) = F_M_put (EP a.2) k 4 (F_M_pe (EP a.2) k 4 + nearP (I_X5_pass_197 sh sr sg R G) w / (nI (tri n) + 1))
          unfold F_M_pe F_M_put
          rw [ep_up _ (by omega), ep_at _ (by omega)]
        · exact (up2_k _ _ _ _ hw').trans (hu g w' hw')
    · rw [if_pos rfl, if_neg (by decide)]
      exact ⟨rfl, hu⟩
  · rw [if_pos rfl, if_neg (by decide)]
    exact ⟨rfl, hu⟩
theorem catch1 {k w : Nat} (hw : w < 10) {s th : Nat → Nat → Int32} {eh : Nat → Int32} (ew : tn (sr (tn (s k 0)) 0) = w) (hj : s k 2 = 1) (hh : RH (EH th) eh) : ∀ m y : Nat, y + m = 5 →
    RH (EH (L_X5_pass_522 sh sr sg k s m y s th).2) (L_M_catchSome_12 eh (EP s) k m (10 * y + w)).1 ∧ EP (L_X5_pass_522 sh sr sg k s m y s th).1 = (L_M_catchSome_12 eh (EP s) k m (10 * y + w)).2 ∧ ∀ g w', w' ≠ 3 → (L_X5_pass_522 sh sr sg k s m y s th).1 g w' = s g w' := by
  intro m
  induction m with
  | zero => intro y _; exact ⟨hh, rfl, fun _ _ _ => rfl⟩
  | succ m ih =>
    intro y hy
    obtain ⟨q1, v, hv, e1⟩ := hh (10 * y + w) (by omega)
    have a1 : th w y = nI v := by rw [← eh_at th hw, q1, e1]
    unfold L_X5_pass_522 L_M_catchSome_12
    rw [if_pos hj, if_neg (show ¬ 50 ≤ nI (10 * y + w) from nI_ge (b := 50) (by omega) (by omega)), ew, a1, e1]
    by_cases c : nI v = 0
    · rw [if_pos c, if_pos c, show 10 * y + w + 10 = 10 * (y + 1) + w by omega]
      exact ih (y + 1) (by omega)
    · rw [if_neg c, if_neg c]
      have et : T_X5_pass_553 sr k s y th = nI (min 3 v) := by
        unfold T_X5_pass_553
        rw [ew, a1]
        by_cases d : 3 ≤ v
        · rw [if_pos (show 3 ≤ nI v from nI_le (a := 3) d (by omega)), Nat.min_eq_left d]
          rfl
        · rw [if_neg (show ¬ 3 ≤ nI v from nI_ge (b := 3) (by omega) (by omega)), Nat.min_eq_right (by omega)]
      rw [et, show mn 3 (nI v) = nI (min 3 v) from by rw [show (3 : Int32) = nI 3 from rfl, mn_n (by omega) (by omega)], pk_sub (by omega)]
      refine ⟨?_, ?_, fun g w' hw' => up2_k _ _ _ _ hw'⟩
      · show RH (EH (up2 th w y (nI (v - min 3 v)))) (upd eh (10 * y + w) (nI (v - min 3 v)))
        rw [eh_up _ hw]
        exact hh.upd _ (v := v - min 3 v) (by omega) rfl rfl
      · show EP (up2 s k 3 (s k 3 + nI (min 3 v))) = F_M_put (EP s) k 3 (F_M_pe (EP s) k 3 + nI (min 3 v))
        unfold F_M_pe F_M_put
        rw [ep_up _ (by omega), ep_at _ (by omega)]
theorem jars1 (h : SI R G sr sg) (hR : R ≤ 6) {s0 th : Nat → Nat → Int32} {eh : Nat → Int32} (h0 : ∀ g, s0 g 0 = sg g 0) (hh : RH (EH th) eh) :
    RH (EH (it (fun (k : Nat) (v : (Nat → Nat → Int32) × (Nat → Nat → Int32)) => S_X5_pass_487 sh sr sg k v.1 v.2) G 0 (s0, th)).2) (it (fun (k : Nat) (v : (Nat → Int32) × (Nat → Int32)) => S_M_nightOn_129 (EW sr) k v.1 v.2) G 0 (eh, EP s0)).1 ∧ EP (it (fun (k : Nat) (v : (Nat → Nat → Int32) × (Nat → Nat → Int32)) => S_X5_pass_487 sh sr sg k v.1 v.2) G 0 (s0, th)).1 = (it (fun (k : Nat) (v : (Nat → Int32) × (Nat → Int32)) => S_M_nightOn_129 (EW sr) k v.1 v.2) G 0 (eh, EP s0)).2 := by
  have key := it_sim (P := fun _ (a : (Nat → Nat → Int32) × (Nat → Nat → Int32)) (b : (Nat → Int32) × (Nat → Int32)) => (RH (EH a.2) b.1 ∧ EP a.1 = b.2) ∧ ∀ g w, w ≠ 3 → a.1 g w = s0 g w) (f := fun (k : Nat) (v : (Nat → Nat → Int32) × (Nat → Nat → Int32)) => S_X5_pass_487 sh sr sg k v.1 v.2) (g := fun (k : Nat) (v : (Nat → Int32) × (Nat → Int32)) => S_M_nightOn_129 (EW sr) k v.1 v.2) G 0 (s0, th) (eh, EP s0) (fun k a b _ hk hab => ?_) ⟨⟨hh, rfl⟩, fun _ _ _ => rfl⟩
  · exact key.1
  · obtain ⟨⟨ha, hb⟩, hu⟩ := hab
    obtain ⟨r, hr, er⟩ := h.2 k (by omega)
    obtain ⟨w, hw, ew⟩ := h.1 r hr
    have a0 : a.1 k 0 = nI r := ((hu k 0 (by decide)).trans (h0 k)).trans er
    have et : tn (a.1 k 0) = r := by unfold tn; rw [a0, nI_clamp (by omega)]
    have ewt : tn (sr (tn (a.1 k 0)) 0) = w := by rw [et]; unfold tn; rw [ew, nI_clamp (by omega)]
    show (RH (EH (I_X5_pass_522 sh sr sg k a.1 a.2).2) (S_M_nightOn_129 (EW sr) k b.1 b.2).1 ∧ EP (I_X5_pass_522 sh sr sg k a.1 a.2).1 = (S_M_nightOn_129 (EW sr) k b.1 b.2).2) ∧ ∀ g w, w ≠ 3 → (I_X5_pass_522 sh sr sg k a.1 a.2).1 g w = s0 g w
    have e2 : F_M_pe b.2 k 2 = a.1 k 2 := by rw [← hb]; exact ep_at _ (by omega)
    unfold S_M_nightOn_129
    rw [e2]
    by_cases c : a.1 k 2 = 1
    · rw [if_pos c]
      have eC : F_M_catchSome b.1 (EW sr) b.2 k = L_M_catchSome_12 b.1 (EP a.1) k 5 (10 * 0 + w) := by
        unfold F_M_catchSome
        rw [← hb, show F_M_pe (EP a.1) k 0 = nI r from (ep_at _ (by omega)).trans a0, nI_clamp (by omega), show EW sr r = nI w from ew, nI_clamp (by omega), Nat.mul_zero, Nat.zero_add]
      rw [eC]
      obtain ⟨c1, c2, c3⟩ := catch1 (sh := sh) (sg := sg) hw ewt c ha 5 0 rfl
      exact ⟨⟨c1, c2⟩, fun g w' hw' => (c3 g w' hw').trans (hu g w' hw')⟩
    · rw [if_neg c]
      have eI : I_X5_pass_522 sh sr sg k a.1 a.2 = (a.1, a.2) := by
        unfold I_X5_pass_522 L_X5_pass_522
        rw [if_neg c]
      rw [eI]
      exact ⟨⟨ha, hb⟩, hu⟩
end
