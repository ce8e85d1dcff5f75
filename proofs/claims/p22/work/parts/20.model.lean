def F_M_isIn (v : Int32) (low : Int32) (high : Int32) : Int32 :=
  if v < low then
    0
  else
    if high < v then
      0
    else
      1
def F_M_isCell (x : Int32) (y : Int32) : Int32 :=
  if (F_M_isIn x 0 9) = 0 then
    0
  else
    if (F_M_isIn y 0 4) = 0 then
      0
    else
      1
def F_M_moon (night : Int32) : Int32 :=
  (4 - (ab ((rmd night 8) - 4)))
theorem isIn_of {v a b : Int32} (h : ¬ F_M_isIn v a b = 0) : a ≤ v ∧ v ≤ b := by
  unfold F_M_isIn at h
  split at h
  · exact absurd rfl h
  split at h
  · exact absurd rfl h
  rename_i c1 c2
  exact ⟨by rw [i_lt] at c1; rw [i_le]; omega, by rw [i_lt] at c2; rw [i_le]; omega⟩
theorem isIn_mk {v a b : Int32} (h : a ≤ v ∧ v ≤ b) : F_M_isIn v a b = 1 := by
  unfold F_M_isIn
  rw [i_le, i_le] at h
  rw [if_neg (by rw [i_lt]; omega), if_neg (by rw [i_lt]; omega)]
theorem isIn_b (v a b : Int32) : F_M_isIn v a b = 0 ∨ F_M_isIn v a b = 1 := by
  unfold F_M_isIn
  split
  · exact Or.inl rfl
  split
  · exact Or.inl rfl
  · exact Or.inr rfl
theorem isCell_in {x y : Int32} (h : ¬ F_M_isCell x y = 0) : vp_in (10 * y + x) 50 := by
  unfold F_M_isCell at h
  split at h
  · exact absurd rfl h
  split at h
  · exact absurd rfl h
  rename_i c1 c2
  obtain ⟨a1, a2⟩ := isIn_of c1
  obtain ⟨b1, b2⟩ := isIn_of c2
  rw [i_le] at a1 a2 b1 b2
  have e0 : (0 : Int32).toInt = 0 := rfl
  have e9 : (9 : Int32).toInt = 9 := rfl
  have e4 : (4 : Int32).toInt = 4 := rfl
  obtain ⟨a, ha, rfl⟩ := i_nat (x := x) (n := 10) (by rw [i_lt]; omega) (by omega)
  obtain ⟨b, hb, rfl⟩ := i_nat (x := y) (n := 5) (by rw [i_lt]; omega) (by omega)
  rw [ten_mul]
  exact vp_in_nI (by omega) (by omega)
theorem nc_of {x : Int32} {n : Nat} (h : x.toNatClampNeg < n ∧ x = nI x.toNatClampNeg) (hn : n < 2 ^ 31) : vp_in x n := by
  rw [h.2]
  exact vp_in_nI h.1 hn
/-- the model's own numbers are in order: windows of the rooms, rooms of the guests -/
def MI (R G : Nat) (ew ep : Nat → Int32) : Prop := R ≤ 6 ∧ G ≤ 12 ∧ (∀ j, j < R → (ew j).toNatClampNeg < 10 ∧ ew j = nI (ew j).toNatClampNeg) ∧ ∀ g, g < G → (ep (6 * g)).toNatClampNeg < R ∧ ep (6 * g) = nI (ep (6 * g)).toNatClampNeg
theorem nlt_of {k n : Nat} (h : ¬ nI n ≤ nI k) (hk : k < 2 ^ 31) (hn : n < 2 ^ 31) : k < n := by
  rw [nI_leI hn hk] at h
  omega

def F_M_fail (number : Int32) : Int32 × Int32 :=
  (0, number)
def F_M_thrown (th : Int32) : Int32 :=
  th
def F_M_isRoom (R : Nat) (r : Int32) : Int32 :=
  (F_M_isIn r 0 ((nI R) - 1))
def F_M_isGuest (G : Nat) (g : Int32) : Int32 :=
  (F_M_isIn g 0 ((nI G) - 1))
def F_M_pe (ep : Nat → Int32) (g : Nat) (w : Nat) : Int32 :=
  (ep ((6 * g) + w))
def F_M_put (ep : Nat → Int32) (g : Nat) (w : Nat) (val : Int32) : Nat → Int32 :=
  (upd ep ((6 * g) + w) val)
def F_M_swarm (eh : Nat → Int32) (x : Int32) (y : Int32) (many : Int32) : Int32 × Int32 × (Nat → Int32) :=
  if (F_M_isCell x y) = 0 then
    ((F_M_fail 1).1, (F_M_fail 1).2, eh)
  else
    if (F_M_isIn many 0 40) = 0 then
      ((F_M_fail 2).1, (F_M_fail 2).2, eh)
    else
      ((eh (((10 * y) + x) : Int32).toNatClampNeg), 0, (upd eh (((10 * y) + x) : Int32).toNatClampNeg many))
def F_M_cell (eh : Nat → Int32) (x : Int32) (y : Int32) : Int32 × Int32 :=
  if (F_M_isCell x y) = 0 then
    ((F_M_fail 1).1, (F_M_fail 1).2)
  else
    ((eh (((10 * y) + x) : Int32).toNatClampNeg), 0)
def F_M_open (ew : Nat → Int32) (el : Nat → Int32) (R : Nat) (x : Int32) : Int32 × Int32 × Int32 × (Nat → Int32) × (Nat → Int32) :=
  if (F_M_isIn x 0 9) = 0 then
    ((F_M_fail 1).1, (F_M_fail 1).2, (nI R), ew, el)
  else
    if (nI R) = 6 then
      ((F_M_fail 2).1, (F_M_fail 2).2, (nI R), ew, el)
    else
      (((nI (R + 1)) - 1), 0, (nI (R + 1)), (upd ew R x), (upd el R 1))
theorem room_in {R : Nat} {r : Int32} (hR : R ≤ 6) (h : ¬ F_M_isRoom R r = 0) : ∃ k : Nat, k < R ∧ r = nI k := by
  obtain ⟨a1, a2⟩ := isIn_of h
  rw [i_le] at a1 a2
  have e0 : (0 : Int32).toInt = 0 := rfl
  have e1 : (1 : Int32).toInt = 1 := rfl
  have eR : (nI R).toInt = R := nI_toInt (by omega)
  rw [i_sub (by omega) (by omega)] at a2
  exact i_nat (n := R) (by rw [i_lt]; omega) (by omega)
theorem guest_in {G : Nat} {g : Int32} (hG : G ≤ 12) (h : ¬ F_M_isGuest G g = 0) : ∃ k : Nat, k < G ∧ g = nI k := by
  obtain ⟨a1, a2⟩ := isIn_of h
  rw [i_le] at a1 a2
  have e0 : (0 : Int32).toInt = 0 := rfl
  have e1 : (1 : Int32).toInt = 1 := rfl
  have eR : (nI G).toInt = G := nI_toInt (by omega)
  rw [i_sub (by omega) (by omega)] at a2
  exact i_nat (n := G) (by rw [i_lt]; omega) (by omega)
theorem room_vp {R : Nat} {r : Int32} (hR : R ≤ 6) (h : ¬ F_M_isRoom R r = 0) : vp_in r 6 := by
  obtain ⟨k, hk, rfl⟩ := room_in hR h
  exact vp_in_nI (by omega) (by omega)

def F_M_lamp (el : Nat → Int32) (R : Nat) (room : Int32) : Int32 × Int32 × (Nat → Int32) :=
  if (F_M_isRoom R room) = 0 then
    (0, 1, el)
  else
    if ((upd el (room : Int32).toNatClampNeg (1 - (el (room : Int32).toNatClampNeg))) (room : Int32).toNatClampNeg) = 1 then
      (1, 0, (upd el (room : Int32).toNatClampNeg (1 - (el (room : Int32).toNatClampNeg))))
    else
      (0, 0, (upd el (room : Int32).toNatClampNeg (1 - (el (room : Int32).toNatClampNeg))))
def F_M_isThere (ep : Nat → Int32) (g : Nat) (room : Int32) : Int32 :=
  if (F_M_pe ep g 5) = 0 then
    if (F_M_pe ep g 0) = room then
      1
    else
      0
  else
    0
def S_M_roomTold_30 (ep : Nat → Int32) (r : Nat) (what : Int32) (k30 : Nat) (v3_30 : Int32) : Int32 :=
  if (F_M_isThere ep k30 (nI r)) = 0 then
    v3_30
  else
    if what = 2 then
      (v3_30 + 1)
    else
      if what = 3 then
        (v3_30 + (F_M_pe ep k30 1))
      else
        (v3_30 + (F_M_pe ep k30 2))
def I_M_roomTold_30 (ep : Nat → Int32) (G : Nat) (r : Nat) (what : Int32) : Int32 :=
  it (fun (k : Nat) (v : Int32) => S_M_roomTold_30 ep r what k v) G 0 0
def F_M_roomTold (ew : Nat → Int32) (el : Nat → Int32) (ep : Nat → Int32) (G : Nat) (r : Nat) (what : Int32) : Int32 :=
  if 2 ≤ what then
    (I_M_roomTold_30 ep G r what)
  else
    if what = 0 then
      (ew r)
    else
      (el r)
def L_M_lit_2 (ew : Nat → Int32) (el : Nat → Int32) (x : Int32) : Nat → Nat → Int32
  | 0, _ =>
    0
  | n2 + 1, k2 =>
    if (el k2) = 1 then
      if 1 < (ab ((ew k2) - x)) then
        L_M_lit_2 ew el x n2 (k2 + 1)
      else
        1
    else
      L_M_lit_2 ew el x n2 (k2 + 1)
def F_M_lit (ew : Nat → Int32) (el : Nat → Int32) (R : Nat) (x : Int32) : Int32 :=
  L_M_lit_2 ew el x R 0
def F_M_isLit (ew : Nat → Int32) (el : Nat → Int32) (R : Nat) (x : Int32) : Int32 × Int32 :=
  if (F_M_isIn x 0 9) = 0 then
    (0, 1)
  else
    if (F_M_lit ew el R x) = 0 then
      (0, 0)
    else
      (1, 0)
theorem guest_ok {G g : Nat} (hG : G ≤ 12) (hg : g < G) : ¬ F_M_isGuest G (nI g) = 0 := by
  unfold F_M_isGuest
  rw [isIn_mk]
  · decide
  have e1 : (1 : Int32).toInt = 1 := rfl
  have eR : (nI G).toInt = G := nI_toInt (by omega)
  have eg : (nI g).toInt = g := nI_toInt (by omega)
  have e0 : (0 : Int32).toInt = 0 := rfl
  rw [i_le, i_le, i_sub (by omega) (by omega)]
  omega
theorem room_ok {R r : Nat} (hR : R ≤ 6) (hr : r < R) : ¬ F_M_isRoom R (nI r) = 0 := by
  unfold F_M_isRoom
  rw [isIn_mk]
  · decide
  have e1 : (1 : Int32).toInt = 1 := rfl
  have eR : (nI R).toInt = R := nI_toInt (by omega)
  have eg : (nI r).toInt = r := nI_toInt (by omega)
  have e0 : (0 : Int32).toInt = 0 := rfl
  rw [i_le, i_le, i_sub (by omega) (by omega)]
  omega

def F_M_move (ep : Nat → Int32) (g : Nat) (r : Nat) : Int32 × Int32 × (Nat → Int32) :=
  if (F_M_pe ep g 5) = 1 then
    ((F_M_fail 2).1, (F_M_fail 2).2, ep)
  else
    ((F_M_pe ep g 0), 0, (F_M_put ep g 0 (nI r)))
def F_M_move_bad (G : Nat) (g : Int32) : Int32 × Int32 :=
  if (F_M_isGuest G g) = 0 then
    ((F_M_fail 1).1, (F_M_fail 1).2)
  else
    ((F_M_fail 1).1, (F_M_fail 1).2)
def F_M_leave (ep : Nat → Int32) (g : Nat) : Int32 × Int32 × (Nat → Int32) :=
  if (F_M_pe ep g 5) = 1 then
    ((F_M_fail 2).1, (F_M_fail 2).2, ep)
  else
    ((F_M_pe (F_M_put (F_M_put ep g 5 1) g 2 0) g 4), 0, (F_M_put (F_M_put ep g 5 1) g 2 0))
def F_M_leave_bad  : Int32 × Int32 :=
  ((F_M_fail 1).1, (F_M_fail 1).2)
def F_M_hush (ep : Nat → Int32) (g : Nat) (whisper : Int32) : Int32 × Int32 × (Nat → Int32) :=
  if (F_M_isIn whisper 0 9) = 0 then
    ((F_M_fail 2).1, (F_M_fail 2).2, ep)
  else
    ((F_M_pe ep g 1), 0, (F_M_put ep g 1 whisper))
def F_M_hush_bad  : Int32 × Int32 :=
  ((F_M_fail 1).1, (F_M_fail 1).2)
def F_M_guest (ep : Nat → Int32) (g : Nat) (w : Nat) : Int32 × Int32 :=
  ((F_M_pe ep g w), 0)
def F_M_guest_bad (G : Nat) (g : Int32) : Int32 × Int32 :=
  if (F_M_isGuest G g) = 0 then
    ((F_M_fail 1).1, (F_M_fail 1).2)
  else
    ((F_M_fail 1).1, (F_M_fail 1).2)
def F_M_room (ew : Nat → Int32) (el : Nat → Int32) (ep : Nat → Int32) (G : Nat) (r : Nat) (what : Int32) : Int32 × Int32 :=
  if (F_M_isIn what 0 4) = 0 then
    ((F_M_fail 1).1, (F_M_fail 1).2)
  else
    ((F_M_roomTold ew el ep G r what), 0)
def F_M_room_bad  : Int32 × Int32 :=
  ((F_M_fail 1).1, (F_M_fail 1).2)
def S_M_all_4 (ep : Nat → Int32) (w : Nat) (k4 : Nat) (v2_4 : Int32) : Int32 :=
  (v2_4 + (F_M_pe ep k4 w))
def I_M_all_4 (ep : Nat → Int32) (G : Nat) (w : Nat) : Int32 :=
  it (fun (k : Nat) (v : Int32) => S_M_all_4 ep w k v) G 0 0
def F_M_all (ep : Nat → Int32) (G : Nat) (w : Nat) : Int32 :=
  (I_M_all_4 ep G w)
def S_M_flies_13 (eh : Nat → Int32) (k13 : Nat) (v1_13 : Int32) : Int32 :=
  (v1_13 + (eh k13))
def I_M_flies_13 (eh : Nat → Int32) : Int32 :=
  it (fun (k : Nat) (v : Int32) => S_M_flies_13 eh k v) 50 0 0
def F_M_flies (eh : Nat → Int32) : Int32 :=
  (I_M_flies_13 eh)
def S_M_counted_77 (el : Nat → Int32) (k77 : Nat) (v2_77 : Int32) : Int32 :=
  (v2_77 + (el k77))
def I_M_counted_77 (el : Nat → Int32) (R : Nat) : Int32 :=
  it (fun (k : Nat) (v : Int32) => S_M_counted_77 el k v) R 0 0
def S_M_counted_128 (ew : Nat → Int32) (el : Nat → Int32) (R : Nat) (k128 : Nat) (v2_128 : Int32) : Int32 :=
  if (F_M_lit ew el R (nI k128)) = 0 then
    (v2_128 + 0)
  else
    (v2_128 + 1)
def I_M_counted_128 (ew : Nat → Int32) (el : Nat → Int32) (R : Nat) : Int32 :=
  it (fun (k : Nat) (v : Int32) => S_M_counted_128 ew el R k v) 10 0 0
def F_M_counted (eh : Nat → Int32) (ew : Nat → Int32) (el : Nat → Int32) (ep : Nat → Int32) (en : Nat → Int32) (R : Nat) (G : Nat) (what : Int32) : Int32 :=
  if what = 0 then
    (en 0)
  else
    if what = 1 then
      (F_M_moon (en 0))
    else
      if what = 2 then
        (F_M_flies eh)
      else
        if what = 3 then
          (nI R)
        else
          if what = 4 then
            (I_M_counted_77 el R)
          else
            if what = 5 then
              ((nI G) - (F_M_all ep G 5))
            else
              if what = 6 then
                (F_M_all ep G 2)
              else
                if what = 7 then
                  (en 1)
                else
                  (I_M_counted_128 ew el R)
def F_M_count (eh : Nat → Int32) (ew : Nat → Int32) (el : Nat → Int32) (ep : Nat → Int32) (en : Nat → Int32) (R : Nat) (G : Nat) (what : Int32) : Int32 × Int32 :=
  if (F_M_isIn what 0 8) = 0 then
    ((F_M_fail 1).1, (F_M_fail 1).2)
  else
    ((F_M_counted eh ew el ep en R G what), 0)
def F_M_aside (ew : Nat → Int32) (el : Nat → Int32) (R : Nat) (x : Int32) : Int32 :=
  if x ≤ 0 then
    if 9 ≤ x then
      (-1)
    else
      if (F_M_lit ew el R (x + 1)) = 0 then
        (x + 1)
      else
        (-1)
  else
    if (F_M_lit ew el R (x - 1)) = 0 then
      (x - 1)
    else
      if 9 ≤ x then
        (-1)
      else
        if (F_M_lit ew el R (x + 1)) = 0 then
          (x + 1)
        else
          (-1)
theorem aside_rng (ew el : Nat → Int32) (R : Nat) {k : Nat} (hk : k < 10) (h : ¬ F_M_aside ew el R (nI k) = -1) : ∃ j : Nat, j < 10 ∧ F_M_aside ew el R (nI k) = nI j := by
  unfold F_M_aside at h ⊢
  have up : ¬ (9 : Int32) ≤ nI k → ∃ j : Nat, j < 10 ∧ nI k + 1 = nI j := fun c => ⟨k + 1, by have := nlt_of (n := 9) c (by omega) (by omega); omega, nI_1 k⟩
  have dn : ¬ nI k ≤ 0 → ∃ j : Nat, j < 10 ∧ nI k - 1 = nI j := fun c => by
    cases k with
    | zero => exact absurd (by decide) c
    | succ k => exact ⟨k, by omega, nI_pred k⟩
  by_cases c1 : nI k ≤ 0
  · rw [if_pos c1] at h ⊢
    by_cases c2 : 9 ≤ nI k
    · rw [if_pos c2] at h; exact absurd rfl h
    · rw [if_neg c2] at h ⊢
      by_cases c3 : F_M_lit ew el R (nI k + 1) = 0
      · rw [if_pos c3]; exact up c2
      · rw [if_neg c3] at h; exact absurd rfl h
  · rw [if_neg c1] at h ⊢
    by_cases c4 : F_M_lit ew el R (nI k - 1) = 0
    · rw [if_pos c4]; exact dn c1
    · rw [if_neg c4] at h ⊢
      by_cases c2 : 9 ≤ nI k
      · rw [if_pos c2] at h; exact absurd rfl h
      · rw [if_neg c2] at h ⊢
        by_cases c3 : F_M_lit ew el R (nI k + 1) = 0
        · rw [if_pos c3]; exact up c2
        · rw [if_neg c3] at h; exact absurd rfl h

def T_M_drive_28 (ew : Nat → Int32) (el : Nat → Int32) (R : Nat) (k17 : Nat) : Int32 :=
  if (F_M_lit ew el R (nI k17)) = 0 then (-1) else (F_M_aside ew el R (nI k17))
theorem to_in {ew el : Nat → Int32} {R k y : Nat} (hy : y < 5) (hk : k < 10) (h : ¬ T_M_drive_28 ew el R k = -1) : vp_in (nI (10 * y) + T_M_drive_28 ew el R k) 50 := by
  unfold T_M_drive_28 at h ⊢
  split at h
  · exact absurd rfl h
  · rename_i c
    rw [if_neg c]
    obtain ⟨j, hj, e⟩ := aside_rng ew el R hk h
    rw [e, nI_add]
    exact vp_in_nI (by omega) (by omega)
def S_M_drive_43 (eh : Nat → Int32) (ew : Nat → Int32) (el : Nat → Int32) (eb : Nat → Int32) (R : Nat) (k17 : Nat) (k43 : Nat) (eh_43 : Nat → Int32) : Nat → Int32 :=
  if (T_M_drive_28 ew el R k17) = (-1) then
    eh_43
  else
    (upd (upd eh_43 ((10 * k43) + k17) ((eh_43 ((10 * k43) + k17)) - (((va_cpy eh eb 0 0 50) ((10 * k43) + k17)) / 2))) (((nI (10 * k43)) + (T_M_drive_28 ew el R k17)) : Int32).toNatClampNeg (((upd eh_43 ((10 * k43) + k17) ((eh_43 ((10 * k43) + k17)) - (((va_cpy eh eb 0 0 50) ((10 * k43) + k17)) / 2))) (((nI (10 * k43)) + (T_M_drive_28 ew el R k17)) : Int32).toNatClampNeg) + (((va_cpy eh eb 0 0 50) ((10 * k43) + k17)) / 2)))
def I_M_drive_43 (eh : Nat → Int32) (ew : Nat → Int32) (el : Nat → Int32) (eb : Nat → Int32) (R : Nat) (k17 : Nat) (eh_17 : Nat → Int32) : Nat → Int32 :=
  it (fun (k : Nat) (v : Nat → Int32) => S_M_drive_43 eh ew el eb R k17 k v) 5 0 eh_17
def S_M_drive_17 (eh : Nat → Int32) (ew : Nat → Int32) (el : Nat → Int32) (eb : Nat → Int32) (R : Nat) (k17 : Nat) (eh_17 : Nat → Int32) : Nat → Int32 :=
  (I_M_drive_43 eh ew el eb R k17 eh_17)
def I_M_drive_17 (eh : Nat → Int32) (ew : Nat → Int32) (el : Nat → Int32) (eb : Nat → Int32) (R : Nat) : Nat → Int32 :=
  it (fun (k : Nat) (v : Nat → Int32) => S_M_drive_17 eh ew el eb R k v) 10 0 eh
def S_M_drive_114 (k114 : Nat) (eh_114 : Nat → Int32) : Nat → Int32 :=
  (upd eh_114 k114 (mn 40 (eh_114 k114)))
def I_M_drive_114 (eh : Nat → Int32) (ew : Nat → Int32) (el : Nat → Int32) (eb : Nat → Int32) (R : Nat) : Nat → Int32 :=
  it (fun (k : Nat) (v : Nat → Int32) => S_M_drive_114 k v) 50 0 (I_M_drive_17 eh ew el eb R)
def F_M_drive (eh : Nat → Int32) (ew : Nat → Int32) (el : Nat → Int32) (eb : Nat → Int32) (R : Nat) : (Nat → Int32) × (Nat → Int32) :=
  ((I_M_drive_114 eh ew el eb R), (va_cpy eh eb 0 0 50))
theorem nx_in {m : Nat} {x : Int32} (hx : x.toNatClampNeg < 10 ∧ x = nI x.toNatClampNeg) (hm : m + 10 ≤ 50) : vp_in (nI m + x) 50 := by
  rw [hx.2, nI_add]
  exact vp_in_nI (by omega) (by omega)

def S_M_fall_2 (x : Int32) (n2 : Nat) (eh_2 : Nat → Int32) : Nat → Int32 :=
  (upd (upd eh_2 (((nI (10 * n2)) + x) : Int32).toNatClampNeg ((eh_2 (((nI (10 * n2)) + x) : Int32).toNatClampNeg) - (mn (eh_2 (((nI (10 * n2)) + x) : Int32).toNatClampNeg) (40 - (eh_2 (((nI ((10 * n2) + 10)) + x) : Int32).toNatClampNeg))))) (((nI ((10 * n2) + 10)) + x) : Int32).toNatClampNeg (((upd eh_2 (((nI (10 * n2)) + x) : Int32).toNatClampNeg ((eh_2 (((nI (10 * n2)) + x) : Int32).toNatClampNeg) - (mn (eh_2 (((nI (10 * n2)) + x) : Int32).toNatClampNeg) (40 - (eh_2 (((nI ((10 * n2) + 10)) + x) : Int32).toNatClampNeg))))) (((nI ((10 * n2) + 10)) + x) : Int32).toNatClampNeg) + (mn (eh_2 (((nI (10 * n2)) + x) : Int32).toNatClampNeg) (40 - (eh_2 (((nI ((10 * n2) + 10)) + x) : Int32).toNatClampNeg)))))
def I_M_fall_2 (eh : Nat → Int32) (x : Int32) : Nat → Int32 :=
  itd (fun (k : Nat) (v : Nat → Int32) => S_M_fall_2 x k v) 4 eh
def F_M_fall (eh : Nat → Int32) (x : Int32) : Nat → Int32 :=
  (I_M_fall_2 eh x)
def S_M_near_4 (eh : Nat → Int32) (window : Int32) (k4 : Nat) (v2_4 : Int32) : Int32 :=
  if 1 < (ab ((rmd (nI k4) 10) - window)) then
    (v2_4 + 0)
  else
    (v2_4 + (eh k4))
def I_M_near_4 (eh : Nat → Int32) (window : Int32) : Int32 :=
  it (fun (k : Nat) (v : Int32) => S_M_near_4 eh window k v) 50 0 0
def F_M_near (eh : Nat → Int32) (window : Int32) : Int32 :=
  (I_M_near_4 eh window)
def L_M_catchSome_12 (eh : Nat → Int32) (ep : Nat → Int32) (g : Nat) : Nat → Nat → ((Nat → Int32) × (Nat → Int32))
  | 0, _ =>
    (eh, ep)
  | n12 + 1, k12 =>
    if 50 ≤ (nI k12) then
      (eh, ep)
    else
      if (eh k12) = 0 then
        L_M_catchSome_12 eh ep g n12 (k12 + 10)
      else
        ((upd eh k12 ((eh k12) - (mn 3 (eh k12)))), (F_M_put ep g 3 ((F_M_pe ep g 3) + (mn 3 (eh k12)))))
def F_M_catchSome (eh : Nat → Int32) (ew : Nat → Int32) (ep : Nat → Int32) (g : Nat) : (Nat → Int32) × (Nat → Int32) :=
  L_M_catchSome_12 eh ep g 5 ((ew (F_M_pe ep g 0).toNatClampNeg).toNatClampNeg)
theorem MI_put {R G : Nat} {ew ep : Nat → Int32} (h : MI R G ew ep) {g w : Nat} {v : Int32} (h1 : 1 ≤ w) (h6 : w < 6) : MI R G ew (F_M_put ep g w v) := by
  refine ⟨h.1, h.2.1, h.2.2.1, fun j hj => ?_⟩
  have e : F_M_put ep g w v (6 * j) = ep (6 * j) := by
    show (if 6 * j = 6 * g + w then v else ep (6 * j)) = ep (6 * j)
    rw [if_neg (by omega)]
  rw [e]
  exact h.2.2.2 j hj
def tri (n : Nat) : Nat := if n % 8 ≤ 4 then n % 8 else 8 - n % 8
theorem mmoon {n : Nat} (hn : n < 2 ^ 31) : F_M_moon (nI n) = nI (tri n) := by
  unfold F_M_moon tri rmd
  rw [show (8 : Int32) = nI 8 from rfl, pk_rem hn (by omega) (by omega)]
  have h8 : n % 8 < 8 := Nat.mod_lt _ (by omega)
  generalize n % 8 = r at h8 ⊢
  rcases (show r = 0 ∨ r = 1 ∨ r = 2 ∨ r = 3 ∨ r = 4 ∨ r = 5 ∨ r = 6 ∨ r = 7 by omega) with rfl | rfl | rfl | rfl | rfl | rfl | rfl | rfl <;> decide
theorem tri_le (n : Nat) : tri n ≤ 4 := by unfold tri; split <;> omega
theorem mmoon_ne {x : Int32} {nt : Nat} (h : x = nI nt ∧ nt < 200000) : ¬ F_M_moon x + 1 = 0 := by
  rw [h.1, mmoon (by omega)]
  have := tri_le nt
  generalize tri nt = r at this ⊢
  rcases (show r = 0 ∨ r = 1 ∨ r = 2 ∨ r = 3 ∨ r = 4 by omega) with rfl | rfl | rfl | rfl | rfl <;> decide

theorem MI_catchL {R G : Nat} {ew eh ep : Nat → Int32} {g : Nat} (h : MI R G ew ep) : ∀ n k, MI R G ew (L_M_catchSome_12 eh ep g n k).2 := by
  intro n
  induction n with
  | zero => intro k; exact h
  | succ n ih =>
    intro k
    unfold L_M_catchSome_12
    split
    · exact h
    split
    · exact ih _
    · exact MI_put h (by omega) (by omega)
theorem MI_catch {R G : Nat} {ew eh ep : Nat → Int32} {g : Nat} (h : MI R G ew ep) : MI R G ew (F_M_catchSome eh ew ep g).2 := MI_catchL h 5 _

def S_M_nightOn_6 (ew : Nat → Int32) (el : Nat → Int32) (ep : Nat → Int32) (G : Nat) (k6 : Nat) (eh_6 : Nat → Int32) : Nat → Int32 :=
  if (F_M_roomTold ew el ep G k6 3) ≤ 9 then
    eh_6
  else
    (F_M_fall eh_6 (ew k6))
def I_M_nightOn_6 (eh : Nat → Int32) (ew : Nat → Int32) (el : Nat → Int32) (ep : Nat → Int32) (eb : Nat → Int32) (R : Nat) (G : Nat) : Nat → Int32 :=
  it (fun (k : Nat) (v : Nat → Int32) => S_M_nightOn_6 ew el ep G k v) R 0 (F_M_drive eh ew el eb R).1
def C_M_nightOn_118 (eh : Nat → Int32) (ew : Nat → Int32) (el : Nat → Int32) (ep : Nat → Int32) (en : Nat → Int32) (eb : Nat → Int32) (R : Nat) (G : Nat) (k53 : Nat) (ep_53 : Nat → Int32) : Nat → Int32 :=
  F_M_put ep_53 k53 4 ((F_M_pe ep_53 k53 4) + ((F_M_near (I_M_nightOn_6 eh ew el ep eb R G) (ew ((F_M_pe ep_53 k53 0).toNatClampNeg))) / ((F_M_moon (en 0)) + 1)))
def S_M_nightOn_53 (eh : Nat → Int32) (ew : Nat → Int32) (el : Nat → Int32) (ep : Nat → Int32) (en : Nat → Int32) (eb : Nat → Int32) (R : Nat) (G : Nat) (k53 : Nat) (ep_53 : Nat → Int32) : Nat → Int32 :=
  if (F_M_pe ep_53 k53 5) = 0 then
    if (el ((F_M_pe ep_53 k53 0).toNatClampNeg)) = 0 then
      if 4 ≤ (F_M_moon (en 0)) then
        ep_53
      else
        (C_M_nightOn_118 eh ew el ep en eb R G k53 ep_53)
    else
      ep_53
  else
    ep_53
def I_M_nightOn_53 (eh : Nat → Int32) (ew : Nat → Int32) (el : Nat → Int32) (ep : Nat → Int32) (en : Nat → Int32) (eb : Nat → Int32) (R : Nat) (G : Nat) : Nat → Int32 :=
  it (fun (k : Nat) (v : Nat → Int32) => S_M_nightOn_53 eh ew el ep en eb R G k v) G 0 ep
def S_M_nightOn_129 (ew : Nat → Int32) (k129 : Nat) (eh_129 : Nat → Int32) (ep_129 : Nat → Int32) : (Nat → Int32) × (Nat → Int32) :=
  if (F_M_pe ep_129 k129 2) = 1 then
    ((F_M_catchSome eh_129 ew ep_129 k129).1, (F_M_catchSome eh_129 ew ep_129 k129).2)
  else
    (eh_129, ep_129)
def I_M_nightOn_129 (eh : Nat → Int32) (ew : Nat → Int32) (el : Nat → Int32) (ep : Nat → Int32) (en : Nat → Int32) (eb : Nat → Int32) (R : Nat) (G : Nat) : (Nat → Int32) × (Nat → Int32) :=
  it (fun (k : Nat) (v : (Nat → Int32) × (Nat → Int32)) => S_M_nightOn_129 ew k v.1 v.2) G 0 ((I_M_nightOn_6 eh ew el ep eb R G), (I_M_nightOn_53 eh ew el ep en eb R G))
def S_M_nightOn_160 (R : Nat) (k160 : Nat) (ep_160 : Nat → Int32) (en_160 : Nat → Int32) : (Nat → Int32) × (Nat → Int32) :=
  if (nI R) ≤ 0 then
    (ep_160, en_160)
  else
    if (F_M_isThere ep_160 k160 (rmd (en_160 0) (nI R))) = 0 then
      (ep_160, en_160)
    else
      ((F_M_put ep_160 k160 2 0), (upd en_160 1 ((en_160 1) + (F_M_pe ep_160 k160 2))))
def I_M_nightOn_160 (eh : Nat → Int32) (ew : Nat → Int32) (el : Nat → Int32) (ep : Nat → Int32) (en : Nat → Int32) (eb : Nat → Int32) (R : Nat) (G : Nat) : (Nat → Int32) × (Nat → Int32) :=
  it (fun (k : Nat) (v : (Nat → Int32) × (Nat → Int32)) => S_M_nightOn_160 R k v.1 v.2) G 0 ((I_M_nightOn_129 eh ew el ep en eb R G).2, en)
def S_M_nightOn_227 (ew : Nat → Int32) (el : Nat → Int32) (R : Nat) (k227 : Nat) (eh_227 : Nat → Int32) : Nat → Int32 :=
  if (eh_227 k227) < 10 then
    eh_227
  else
    if (F_M_lit ew el R (rmd (nI k227) 10)) = 0 then
      (upd eh_227 k227 (mn 40 ((eh_227 k227) + ((eh_227 k227) / 10))))
    else
      eh_227
def I_M_nightOn_227 (eh : Nat → Int32) (ew : Nat → Int32) (el : Nat → Int32) (ep : Nat → Int32) (en : Nat → Int32) (eb : Nat → Int32) (R : Nat) (G : Nat) : Nat → Int32 :=
  it (fun (k : Nat) (v : Nat → Int32) => S_M_nightOn_227 ew el R k v) 50 0 (I_M_nightOn_129 eh ew el ep en eb R G).1
def F_M_nightOn (eh : Nat → Int32) (ew : Nat → Int32) (el : Nat → Int32) (ep : Nat → Int32) (en : Nat → Int32) (eb : Nat → Int32) (R : Nat) (G : Nat) : (Nat → Int32) × (Nat → Int32) × (Nat → Int32) × (Nat → Int32) :=
  ((I_M_nightOn_227 eh ew el ep en eb R G), (I_M_nightOn_160 eh ew el ep en eb R G).1, (upd ((I_M_nightOn_160 eh ew el ep en eb R G).2) 0 ((((I_M_nightOn_160 eh ew el ep en eb R G).2) 0) + 1)), (F_M_drive eh ew el eb R).2)
theorem night160 (R : Nat) {G : Nat} {ew : Nat → Int32} (j : Nat) (w : (Nat → Int32) × (Nat → Int32)) (x : Int32) (h : MI R G ew w.1 ∧ w.2 0 = x) : MI R G ew (S_M_nightOn_160 R j w.1 w.2).1 ∧ (S_M_nightOn_160 R j w.1 w.2).2 0 = x := by
  unfold S_M_nightOn_160
  split
  · exact h
  split
  · exact h
  · exact ⟨MI_put h.1 (by omega) (by omega), h.2⟩
theorem night_keeps {R G : Nat} {eh ew el ep en eb : Nat → Int32} (h : MI R G ew ep) : MI R G ew (I_M_nightOn_160 eh ew el ep en eb R G).1 ∧ (I_M_nightOn_160 eh ew el ep en eb R G).2 0 = en 0 := by
  have h53 : MI R G ew (I_M_nightOn_53 eh ew el ep en eb R G) := by
    unfold I_M_nightOn_53
    refine it_inv (P := fun v => MI R G ew v) (fun j w hw => ?_) _ _ _ h
    show MI R G ew (S_M_nightOn_53 eh ew el ep en eb R G j w)
    unfold S_M_nightOn_53
    repeat' split
    all_goals first | exact hw | (unfold C_M_nightOn_118; exact MI_put hw (by omega) (by omega))
  have h129 : MI R G ew (I_M_nightOn_129 eh ew el ep en eb R G).2 := by
    unfold I_M_nightOn_129
    refine it_inv (P := fun (v : (Nat → Int32) × (Nat → Int32)) => MI R G ew v.2) (fun j w hw => ?_) _ _ _ h53
    show MI R G ew (S_M_nightOn_129 ew j w.1 w.2).2
    unfold S_M_nightOn_129
    split
    · exact MI_catch hw
    · exact hw
  unfold I_M_nightOn_160
  exact it_inv (P := fun (v : (Nat → Int32) × (Nat → Int32)) => MI R G ew v.1 ∧ v.2 0 = en 0) (fun j w hw => night160 R j w (en 0) hw) _ _ _ ⟨h129, rfl⟩
theorem MI_night {R G : Nat} {eh ew el ep en eb : Nat → Int32} (h : MI R G ew ep) : MI R G ew (F_M_nightOn eh ew el ep en eb R G).2.1 := (night_keeps h).1
theorem NT_night {R G : Nat} {eh ew el ep en eb : Nat → Int32} {n : Nat} (h : MI R G ew ep) (hn : en 0 = nI n) : (F_M_nightOn eh ew el ep en eb R G).2.2.1 0 = nI (n + 1) := by
  show (I_M_nightOn_160 eh ew el ep en eb R G).2 0 + 1 = nI (n + 1)
  rw [(night_keeps h).2, hn]
  exact nI_1 n

def S_M_nightsOn_8 (ew : Nat → Int32) (el : Nat → Int32) (R : Nat) (G : Nat) (k8 : Nat) (eh_8 : Nat → Int32) (ep_8 : Nat → Int32) (en_8 : Nat → Int32) (eb_8 : Nat → Int32) : (Nat → Int32) × (Nat → Int32) × (Nat → Int32) × (Nat → Int32) :=
  ((F_M_nightOn eh_8 ew el ep_8 en_8 eb_8 R G).1, (F_M_nightOn eh_8 ew el ep_8 en_8 eb_8 R G).2.1, (F_M_nightOn eh_8 ew el ep_8 en_8 eb_8 R G).2.2.1, (F_M_nightOn eh_8 ew el ep_8 en_8 eb_8 R G).2.2.2)
def I_M_nightsOn_8 (eh : Nat → Int32) (ew : Nat → Int32) (el : Nat → Int32) (ep : Nat → Int32) (en : Nat → Int32) (eb : Nat → Int32) (R : Nat) (G : Nat) (nn : Nat) : (Nat → Int32) × (Nat → Int32) × (Nat → Int32) × (Nat → Int32) :=
  it (fun (k : Nat) (v : (Nat → Int32) × (Nat → Int32) × (Nat → Int32) × (Nat → Int32)) => S_M_nightsOn_8 ew el R G k v.1 v.2.1 v.2.2.1 v.2.2.2) nn 0 (eh, ep, en, eb)
def F_M_nightsOn (eh : Nat → Int32) (ew : Nat → Int32) (el : Nat → Int32) (ep : Nat → Int32) (en : Nat → Int32) (eb : Nat → Int32) (R : Nat) (G : Nat) (nn : Nat) : Int32 × (Nat → Int32) × (Nat → Int32) × (Nat → Int32) × (Nat → Int32) :=
  (((F_M_all ((I_M_nightsOn_8 eh ew el ep en eb R G nn).2.1) G 4) - (F_M_all ep G 4)), (I_M_nightsOn_8 eh ew el ep en eb R G nn).1, (I_M_nightsOn_8 eh ew el ep en eb R G nn).2.1, (I_M_nightsOn_8 eh ew el ep en eb R G nn).2.2.1, (I_M_nightsOn_8 eh ew el ep en eb R G nn).2.2.2)
def F_M_pass (eh : Nat → Int32) (ew : Nat → Int32) (el : Nat → Int32) (ep : Nat → Int32) (en : Nat → Int32) (eb : Nat → Int32) (R : Nat) (G : Nat) (nn : Nat) : Int32 × Int32 × (Nat → Int32) × (Nat → Int32) × (Nat → Int32) × (Nat → Int32) :=
  ((F_M_nightsOn eh ew el ep en eb R G nn).1, 0, (F_M_nightsOn eh ew el ep en eb R G nn).2.1, (F_M_nightsOn eh ew el ep en eb R G nn).2.2.1, (F_M_nightsOn eh ew el ep en eb R G nn).2.2.2.1, (F_M_nightsOn eh ew el ep en eb R G nn).2.2.2.2)
def F_M_pass_bad  : Int32 × Int32 :=
  ((F_M_fail 1).1, (F_M_fail 1).2)
theorem dark_end {en : Nat → Int32} {nt k : Nat} {most : Int32} (hnt : en 0 = nI nt ∧ nt ≤ 100000) (h : ((en 0).toNatClampNeg + k + 0) % 8 = 0 ∧ k + 0 ≤ 8) (h0 : 0 ≤ most) : F_M_moon (nI ((en 0).toNatClampNeg + k)) ≤ most := by
  have e : (en 0).toNatClampNeg = nt := by rw [hnt.1, nI_clamp (by omega)]
  rw [e] at h ⊢
  rw [mmoon (by omega)]
  have t : tri (nt + k) = 0 := by unfold tri; rw [if_pos (by omega)]; omega
  rw [t]
  exact h0

def L_M_dark_22 (en : Nat → Int32) (most : Int32) : Nat → Nat → (Int32 × Int32)
  | 0, k22 =>
    ((nI k22), 0)
  | n22 + 1, k22 =>
    if (F_M_moon (nI (((en 0).toNatClampNeg) + k22))) ≤ most then
      ((nI k22), 0)
    else
      L_M_dark_22 en most n22 (k22 + 1)
def F_M_dark (en : Nat → Int32) (most : Int32) : Int32 × Int32 :=
  if (F_M_isIn most 0 4) = 0 then
    ((F_M_fail 1).1, (F_M_fail 1).2)
  else
    L_M_dark_22 en most (8 - (en 0).toNatClampNeg % 8) 0
def F_M_stay (ep : Nat → Int32) (R : Nat) (G : Nat) (room : Int32) (whisper : Int32) (jar : Int32) : Int32 × Int32 × Int32 × (Nat → Int32) :=
  if (F_M_isRoom R room) = 0 then
    ((F_M_fail 1).1, (F_M_fail 1).2, (nI G), ep)
  else
    if (F_M_isIn whisper 0 9) = 0 then
      ((F_M_fail 2).1, (F_M_fail 2).2, (nI G), ep)
    else
      if (nI G) = 12 then
        ((F_M_fail 3).1, (F_M_fail 3).2, (nI G), ep)
      else
        if jar = 0 then
          (((nI (G + 1)) - 1), 0, (nI (G + 1)), (va_cpy (upd (upd (upd (upd (upd (upd (fun _ => 0) 0 room) 1 whisper) 2 0) 3 0) 4 0) 5 0) ep 0 (6 * G) 6))
        else
          (((nI (G + 1)) - 1), 0, (nI (G + 1)), (va_cpy (upd (upd (upd (upd (upd (upd (fun _ => 0) 0 room) 1 whisper) 2 1) 3 0) 4 0) 5 0) ep 0 (6 * G) 6))
def F_M_kept  : Unit :=
  ()
def F_M_bringBack (eh : Nat → Int32) (el : Nat → Int32) (ep : Nat → Int32) (en : Nat → Int32) (ke : Nat → Int32) (kp : Nat → Int32) (kn : Nat → Int32) (kl : Nat → Int32) : (Nat → Int32) × (Nat → Int32) × (Nat → Int32) × (Nat → Int32) :=
  ((va_cpy ke eh 0 0 50), (va_cpy kl el 0 0 6), (va_cpy kp ep 0 0 72), (va_cpy kn en 0 0 2))
theorem cpy_at {f g : Nat → Int32} {n i : Nat} (h : i < n) : va_cpy f g 0 0 n i = f i := by
  show (if 0 ≤ i ∧ i < 0 + n then f (0 + (i - 0)) else g i) = f i
  rw [if_pos ⟨Nat.zero_le _, by omega⟩]
  exact congrArg f (by omega)
theorem MI_back {R G : Nat} {ew f g : Nat → Int32} (h : MI R G ew f) : MI R G ew (va_cpy f g 0 0 72) := by
  refine ⟨h.1, h.2.1, h.2.2.1, fun j hj => ?_⟩
  have := h.2.1
  rw [cpy_at (by omega)]
  exact h.2.2.2 j hj
theorem NT_back {f g : Nat → Int32} {nt : Nat} (h : f 0 = nI nt) : va_cpy f g 0 0 2 0 = nI nt := by rw [cpy_at (by decide)]; exact h
theorem MI_bb {R G : Nat} {ew eh el ep en ke kp kn kl : Nat → Int32} (h : MI R G ew kp) : MI R G ew (F_M_bringBack eh el ep en ke kp kn kl).2.2.1 := MI_back h
theorem NT_bb {eh el ep en ke kp kn kl : Nat → Int32} {nt : Nat} (h : kn 0 = nI nt) : (F_M_bringBack eh el ep en ke kp kn kl).2.2.2 0 = nI nt := NT_back (f := kn) (g := en) h

def C_M_foresee_88 (eh : Nat → Int32) (ew : Nat → Int32) (el : Nat → Int32) (ep : Nat → Int32) (en : Nat → Int32) (eb : Nat → Int32) (R : Nat) (G : Nat) (nn : Nat) : (Nat → Int32) × (Nat → Int32) × (Nat → Int32) × (Nat → Int32) :=
  F_M_bringBack ((F_M_nightsOn eh ew el ep en eb R G nn).2.1) el ((F_M_nightsOn eh ew el ep en eb R G nn).2.2.1) ((F_M_nightsOn eh ew el ep en eb R G nn).2.2.2.1) eh ep en el
def F_M_foresee (eh : Nat → Int32) (ew : Nat → Int32) (el : Nat → Int32) (ep : Nat → Int32) (en : Nat → Int32) (eb : Nat → Int32) (R : Nat) (G : Nat) (nn : Nat) (what : Int32) : Int32 × Int32 × (Nat → Int32) × (Nat → Int32) × (Nat → Int32) × (Nat → Int32) × (Nat → Int32) :=
  if (F_M_isIn what 0 2) = 0 then
    ((F_M_fail 2).1, (F_M_fail 2).2, eh, el, ep, en, eb)
  else
    if what = 0 then
      ((F_M_nightsOn eh ew el ep en eb R G nn).1, 0, (C_M_foresee_88 eh ew el ep en eb R G nn).1, (C_M_foresee_88 eh ew el ep en eb R G nn).2.1, (C_M_foresee_88 eh ew el ep en eb R G nn).2.2.1, (C_M_foresee_88 eh ew el ep en eb R G nn).2.2.2, (F_M_nightsOn eh ew el ep en eb R G nn).2.2.2.2)
    else
      if what = 1 then
        ((F_M_flies ((F_M_nightsOn eh ew el ep en eb R G nn).2.1)), 0, (C_M_foresee_88 eh ew el ep en eb R G nn).1, (C_M_foresee_88 eh ew el ep en eb R G nn).2.1, (C_M_foresee_88 eh ew el ep en eb R G nn).2.2.1, (C_M_foresee_88 eh ew el ep en eb R G nn).2.2.2, (F_M_nightsOn eh ew el ep en eb R G nn).2.2.2.2)
      else
        (((F_M_all ((F_M_nightsOn eh ew el ep en eb R G nn).2.2.1) G 3) - (F_M_all ep G 3)), 0, (C_M_foresee_88 eh ew el ep en eb R G nn).1, (C_M_foresee_88 eh ew el ep en eb R G nn).2.1, (C_M_foresee_88 eh ew el ep en eb R G nn).2.2.1, (C_M_foresee_88 eh ew el ep en eb R G nn).2.2.2, (F_M_nightsOn eh ew el ep en eb R G nn).2.2.2.2)
def F_M_foresee_bad  : Int32 × Int32 :=
  ((F_M_fail 1).1, (F_M_fail 1).2)
def F_M_mean (ep : Nat → Int32) (G : Nat) : UInt64 × Int32 :=
  if (nI G) = 0 then
    (FP.dconst0, 0)
  else
    ((FP.ddiv (FP.i2d (F_M_all ep G 4)) (FP.i2d (nI G))), 0)