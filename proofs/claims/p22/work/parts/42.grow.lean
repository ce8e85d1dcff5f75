-- the growing in the dark and the driving by lamps
theorem dark_eq {R : Nat} {fw fb ew el : Nat → Int32} (hR : R ≤ 6) (h : RR R fw fb ew el) (fl : Nat → Int32) {k : Nat} (hk : k < 10) : F_X2_isDarkColumn (F_X2_lookAtLamps fw fb fl) (nI k) = if F_M_lit ew el R (nI k) = 0 then 1 else 0 := by
  unfold F_X2_isDarkColumn
  rw [if_neg (nI_pos (by omega)), if_neg (show ¬ (10 : Int32) ≤ nI k from nI_ge (b := 10) hk (by omega)), nI_clamp (by omega), fl_eq hR h fl hk]
def grown (e : Nat → Int32) (i : Nat) : Int32 := mn 40 (e i + e i / 10)
theorem grown_n {e : Nat → Int32} {i v : Nat} (h : e i = nI v) (hv : v ≤ 40) : grown e i = nI (min 40 (v + v / 10)) := by
  unfold grown
  rw [h, show (10 : Int32) = nI 10 from rfl, show (40 : Int32) = nI 40 from rfl, pk_div (by omega) (by omega) (by omega), nI_add, mn_n (by omega) (by omega)]
theorem grow_m {e : Nat → Int32} {ew el : Nat → Int32} {R : Nat} (h : ∀ i, i < 50 → ∃ v, v ≤ 40 ∧ e i = nI v) : ∀ i, i < 50 → (it (fun (k : Nat) (v : Nat → Int32) => S_M_nightOn_227 ew el R k v) 50 0 e) i = if F_M_lit ew el R (nI (i % 10)) = 0 then grown e i else e i := by
  have key := it_ind (P := fun k (a : Nat → Int32) => ∀ i, i < 50 → a i = if i < k ∧ F_M_lit ew el R (nI (i % 10)) = 0 then grown e i else e i) (f := fun (k : Nat) (v : Nat → Int32) => S_M_nightOn_227 ew el R k v) 50 0 e (fun j a h1 h3 ha => ?_) (fun i _ => by rw [if_neg (fun q => Nat.not_lt_zero _ q.1)])
  · intro i hi
    rw [key i hi]
    by_cases q : F_M_lit ew el R (nI (i % 10)) = 0
    · rw [if_pos ⟨by omega, q⟩, if_pos q]
    · rw [if_neg (fun z => q z.2), if_neg q]
  · show ∀ i, i < 50 → S_M_nightOn_227 ew el R j a i = _
    intro i hi
    obtain ⟨v, hv, ev⟩ := h j (by omega)
    have aj : a j = nI v := by rw [ha j (by omega), if_neg (fun q => Nat.lt_irrefl _ q.1), ev]
    have em : rmd (nI j) 10 = nI (j % 10) := pk_rem (d := 10) (by omega) (by omega) (by omega)
    have step : S_M_nightOn_227 ew el R j a = if F_M_lit ew el R (nI (j % 10)) = 0 then upd a j (grown e j) else a := by
      unfold S_M_nightOn_227
      rw [em, aj]
      have eg : grown e j = mn 40 (nI v + nI v / 10) := by unfold grown; rw [ev]
      rw [← eg]
      by_cases q : F_M_lit ew el R (nI (j % 10)) = 0
      · rw [if_pos q]
        by_cases c : v < 10
        · rw [if_pos (show nI v < 10 from nI_lt (b := 10) c (by omega))]
          funext x
          by_cases e2 : x = j
          · subst e2
            rw [pk_us, aj, grown_n ev hv]
            exact congrArg nI (by omega)
          · rw [pk_un e2]
        · rw [if_neg (show ¬ nI v < 10 from nI_nlt (b := 10) (by omega) (by omega))]
      · rw [if_neg q]
        split <;> rfl
    rw [step]
    by_cases q : F_M_lit ew el R (nI (j % 10)) = 0
    · rw [if_pos q]
      by_cases e2 : i = j
      · subst e2
        rw [pk_us, if_pos ⟨by omega, q⟩]
      · rw [pk_un e2, ha i hi]
        by_cases z : i < j
        · by_cases q2 : F_M_lit ew el R (nI (i % 10)) = 0
          · rw [if_pos ⟨z, q2⟩, if_pos ⟨by omega, q2⟩]
          · rw [if_neg (fun y => q2 y.2), if_neg (fun y => q2 y.2)]
        · rw [if_neg (fun y => z y.1), if_neg (fun y => by have := y.1; omega)]
    · rw [if_neg q, ha i hi]
      by_cases e2 : i = j
      · subst e2
        rw [if_neg (fun y => q y.2), if_neg (fun y => q y.2)]
      · by_cases z : i < j
        · by_cases q2 : F_M_lit ew el R (nI (i % 10)) = 0
          · rw [if_pos ⟨z, q2⟩, if_pos ⟨by omega, q2⟩]
          · rw [if_neg (fun y => q2 y.2), if_neg (fun y => q2 y.2)]
        · rw [if_neg (fun y => z y.1), if_neg (fun y => by have := y.1; omega)]
/-- one column of the class grows -/
theorem grow_col {a e : Nat → Int32} {x : Nat} (hx : x < 10) (h : ∀ y, y < 5 → a (10 * y + x) = e (10 * y + x) ∧ ∃ v, v ≤ 40 ∧ e (10 * y + x) = nI v) : ∀ i, i < 50 → F_X1_grow a (nI x) i = if i % 10 = x then grown e i else a i := by
  have key := it_ind (P := fun k (b : Nat → Int32) => ∀ i, i < 50 → b i = if i % 10 = x ∧ i < 10 * k then grown e i else a i) (f := fun (k : Nat) (v : Nat → Int32) => S_X1_grow_2 (nI x) k v) 5 0 a (fun j b h1 h3 hb => ?_) (fun i _ => by rw [if_neg (fun q => by have := q.2; omega)])
  · intro i hi
    show (it (fun (k : Nat) (v : Nat → Int32) => S_X1_grow_2 (nI x) k v) 5 0 a) i = _
    rw [key i hi]
    by_cases q : i % 10 = x
    · rw [if_pos ⟨q, by omega⟩, if_pos q]
    · rw [if_neg (fun z => q z.1), if_neg q]
  · show ∀ i, i < 50 → S_X1_grow_2 (nI x) j b i = _
    intro i hi
    unfold S_X1_grow_2
    obtain ⟨e1, v, hv, e2⟩ := h j (by omega)
    have hbj : b (10 * j + x) = e (10 * j + x) := by rw [hb _ (by omega), if_neg (fun q => by have := q.2; omega), e1]
    rw [at_in hx (by omega), put_in hx (by omega), hbj]
    have eg : mn (e (10 * j + x) + e (10 * j + x) / 10) 40 = grown e (10 * j + x) := by
      unfold grown
      rw [e2, show (10 : Int32) = nI 10 from rfl, show (40 : Int32) = nI 40 from rfl, pk_div (by omega) (by omega) (by omega), nI_add]
      exact mn_c (by omega) (by omega)
    rw [eg]
    by_cases q : i = 10 * j + x
    · subst q
      rw [pk_us, if_pos ⟨by omega, by omega⟩]
    · rw [pk_un q, hb i hi]
      by_cases z : i % 10 = x ∧ i < 10 * j
      · rw [if_pos z, if_pos ⟨z.1, by omega⟩]
      · rw [if_neg z, if_neg (fun y => z ⟨y.1, by omega⟩)]
theorem grow_c {R : Nat} {fw fb ew el e fl : Nat → Int32} (hR : R ≤ 6) (hr : RR R fw fb ew el) (h : ∀ i, i < 50 → ∃ v, v ≤ 40 ∧ e i = nI v) : ∀ i, i < 50 → F_X2_growInTheDark e (F_X2_lookAtLamps fw fb fl) i = if F_M_lit ew el R (nI (i % 10)) = 0 then grown e i else e i := by
  have key := it_ind (P := fun k (a : Nat → Int32) => ∀ i, i < 50 → a i = if i % 10 < k ∧ F_M_lit ew el R (nI (i % 10)) = 0 then grown e i else e i) (f := fun (k : Nat) (v : Nat → Int32) => S_X2_growInTheDark_2 (F_X2_lookAtLamps fw fb fl) k v) 10 0 e (fun j a h1 h3 ha => ?_) (fun i _ => by rw [if_neg (fun q => Nat.not_lt_zero _ q.1)])
  · intro i hi
    show (it (fun (k : Nat) (v : Nat → Int32) => S_X2_growInTheDark_2 (F_X2_lookAtLamps fw fb fl) k v) 10 0 e) i = _
    rw [key i hi]
    by_cases q : F_M_lit ew el R (nI (i % 10)) = 0
    · rw [if_pos ⟨by omega, q⟩, if_pos q]
    · rw [if_neg (fun z => q z.2), if_neg q]
  · show ∀ i, i < 50 → S_X2_growInTheDark_2 (F_X2_lookAtLamps fw fb fl) j a i = _
    intro i hi
    unfold S_X2_growInTheDark_2
    rw [dark_eq hR hr fl (by omega)]
    by_cases q : F_M_lit ew el R (nI j) = 0
    · rw [if_pos q, if_neg (by decide), grow_col (e := e) (by omega) (fun y hy => ⟨by rw [ha _ (by omega), if_neg (fun z => by have := z.1; omega)], h _ (by omega)⟩) i hi]
      by_cases z : i % 10 = j
      · rw [if_pos z, if_pos ⟨by omega, by rw [z]; exact q⟩]
      · rw [if_neg z, ha i hi]
        by_cases z2 : i % 10 < j ∧ F_M_lit ew el R (nI (i % 10)) = 0
        · rw [if_pos z2, if_pos ⟨by omega, z2.2⟩]
        · rw [if_neg z2, if_neg (fun y => z2 ⟨by omega, y.2⟩)]
    · rw [if_neg q, if_pos rfl, ha i hi]
      by_cases z2 : i % 10 < j ∧ F_M_lit ew el R (nI (i % 10)) = 0
      · rw [if_pos z2, if_pos ⟨by omega, z2.2⟩]
      · rw [if_neg z2, if_neg (fun y => z2 ⟨by
          by_cases e2 : i % 10 = j
          · exact absurd (e2 ▸ y.2) q
          · have := y.1; omega, y.2⟩)]
theorem grow_eq {R : Nat} {fw fb ew el fc eh fl : Nat → Int32} (hR : R ≤ 6) (hr : RR R fw fb ew el) (h : RH fc eh) : RH (F_X2_growInTheDark fc (F_X2_lookAtLamps fw fb fl)) (it (fun (k : Nat) (v : Nat → Int32) => S_M_nightOn_227 ew el R k v) 50 0 eh) := by
  intro i hi
  have hc : ∀ i, i < 50 → ∃ v, v ≤ 40 ∧ fc i = nI v := fun i hi => by obtain ⟨v, a, b, -⟩ := h.at hi; exact ⟨v, a, b⟩
  have he : ∀ i, i < 50 → ∃ v, v ≤ 40 ∧ eh i = nI v := fun i hi => by obtain ⟨v, a, -, b⟩ := h.at hi; exact ⟨v, a, b⟩
  rw [grow_c hR hr hc i hi, grow_m he i hi]
  obtain ⟨v, hv, e1, e2⟩ := h.at hi
  split
  · rw [grown_n e1 hv, grown_n e2 hv]
    exact ⟨rfl, _, Nat.min_le_left _ _, rfl⟩
  · rw [e1, e2]
    exact ⟨rfl, v, hv, rfl⟩
