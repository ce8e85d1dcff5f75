def F_X5_isIn (v : Int32) (low : Int32) (high : Int32) : Int32 :=
  if v < low then
    0
  else
    if high < v then
      0
    else
      1
set_option maxHeartbeats 4000000 in
set_option maxRecDepth 100000 in
theorem k_X5_isIn (l : Launch) (D : va_G) (cy : Nat → ClassId) (sz : Nat) (v : Int32) (low : Int32) (high : Int32) : MTa l D cy yX5_isIn wsX5_isIn 0 0 0 0 [] sz [.int v, .int low, .int high] (fun A => QiT D cy (fun (t : Int32) => t) (fun (_ : Int32) => []) (F_X5_isIn v low high) A) := by
  refine ofWT (cc := cX5_isIn) (maxL := 3) (ret := (some .boolean)) (own := RX5) (by decide) rfl (Nat.le_of_ble_eq_true rfl) rfl ?_
  intro p e s m args below meth c A ls hx hb hr hml hts hown hlocks hin hN hK hP hD hA hl
  have hS : va_S A s.heap s.heap [] := va_S.rf
  have hl : lv_has ls 3 [(0, .int v), (1, .int low), (2, .int high)] := hl
  generalize hQ : MQ below ((fun A => QiT D cy (fun (t : Int32) => t) (fun (_ : Int32) => []) (F_X5_isIn v low high) A) A) args s 0 0 A = Q
  refine lv_iload_n hx hb dX5_isIn_0 rfl (lv_at hl 0 rfl) ?_
  refine lv_iload_n hx hb dX5_isIn_1 rfl (lv_at hl 1 rfl) ?_
  refine lv_icmp_lt (tgt := 14) hx hb dX5_isIn_2 (by decide) (fun c2 => ?_) (fun c2 => ?_)
  · refine lv_iconst (v := 0) hx hb dX5_isIn_14 (by decide) ?_
    subst hQ
    exact en_z (tv := 0) hx hb hr hlocks (by rw [F_X5_isIn, if_pos c2]) rfl hK (by first | with_reducible exact hP | exact hP) (by first | with_reducible exact hD | exact hD) hS (Nat.le_refl _) (Nat.le_refl _) (by decide) dX5_isIn_15
  · refine lv_iload_n hx hb dX5_isIn_5 rfl (lv_at hl 0 rfl) ?_
    refine lv_iload_n hx hb dX5_isIn_6 rfl (lv_at hl 2 rfl) ?_
    refine lv_icmp_gt (tgt := 14) hx hb dX5_isIn_7 (by decide) (fun c7 => ?_) (fun c7 => ?_)
    · refine lv_iconst (v := 0) hx hb dX5_isIn_14 (by decide) ?_
      subst hQ
      exact en_z (tv := 0) hx hb hr hlocks (by rw [F_X5_isIn, if_neg c2, if_pos c7]) rfl hK (by first | with_reducible exact hP | exact hP) (by first | with_reducible exact hD | exact hD) hS (Nat.le_refl _) (Nat.le_refl _) (by decide) dX5_isIn_15
    · refine lv_iconst (v := 1) hx hb dX5_isIn_10 (by decide) ?_
      refine lv_goto (tgt := 15) hx hb dX5_isIn_11 (by decide) ?_
      subst hQ
      exact en_z (tv := 1) hx hb hr hlocks (by rw [F_X5_isIn, if_neg c2, if_neg c7]) rfl hK (by first | with_reducible exact hP | exact hP) (by first | with_reducible exact hD | exact hD) hS (Nat.le_refl _) (Nat.le_refl _) (by decide) dX5_isIn_15

def F_X5_isCell (x : Int32) (y : Int32) : Int32 :=
  if (F_X5_isIn x 0 9) = 0 then
    0
  else
    if (F_X5_isIn y 0 4) = 0 then
      0
    else
      1
set_option maxHeartbeats 4000000 in
set_option maxRecDepth 100000 in
theorem k_X5_isCell (l : Launch) (D : va_G) (cy : Nat → ClassId) (sz : Nat) (x : Int32) (y : Int32) : MTa l D cy yX5_isCell wsX5_isCell 1 0 0 22 [] sz [.int x, .int y] (fun A => QiT D cy (fun (t : Int32) => t) (fun (_ : Int32) => []) (F_X5_isCell x y) A) := by
  refine ofWT (cc := cX5_isCell) (maxL := 2) (ret := (some .boolean)) (own := RX5) (by decide) rfl (Nat.le_of_ble_eq_true rfl) rfl ?_
  intro p e s m args below meth c A ls hx hb hr hml hts hown hlocks hin hN hK hP hD hA hl
  have hS : va_S A s.heap s.heap [] := va_S.rf
  have hl : lv_has ls 2 [(0, .int x), (1, .int y)] := hl
  generalize hQ : MQ below ((fun A => QiT D cy (fun (t : Int32) => t) (fun (_ : Int32) => []) (F_X5_isCell x y) A) A) args s 0 0 A = Q
  refine lv_iload_n hx hb dX5_isCell_0 rfl (lv_at hl 0 rfl) ?_
  refine lv_iconst (v := 0) hx hb dX5_isCell_1 (by decide) ?_
  refine lv_bipush (v := 9) hx hb dX5_isCell_2 (by decide) ?_
  refine cl_i (wr := []) (w2 := []) (rn_S (As := [.int x, .int 0, .int 9]) (rest := []) ⟨hx, hb, hml, hown, hts⟩ (k_X5_isIn l D cy _ x 0 9) (va_cwS 3 hts gX5_isCell_X5_isIn rfl rfl rfl (by decide +kernel) ⟨Nat.le_of_ble_eq_true rfl, Nat.le_of_ble_eq_true rfl⟩) hN hK hP hD [] rfl (by decide) rfl hl.1 rfl (Nat.le_of_ble_eq_true rfl) dX5_isCell_4 ⟨Nat.le_of_ble_eq_true rfl, Nat.le_of_ble_eq_true rfl⟩) hP hD hS hA [] [] [] rfl rfl (by decide) (by decide) rfl (by decide) (fun H locs hP hD hS => ?_)
  refine lv_if_eq (tgt := 23) hx hb dX5_isCell_7 (by decide) (fun c7 => ?_) (fun c7 => ?_)
  · refine lv_iconst (v := 0) hx hb dX5_isCell_23 (by decide) ?_
    subst hQ
    exact en_z (tv := 0) hx hb hr hlocks (by rw [F_X5_isCell, if_pos c7]) rfl hK (by first | with_reducible exact hP | exact hP) (by first | with_reducible exact hD | exact hD) hS (Nat.le_refl _) (Nat.le_refl _) (by decide) dX5_isCell_24
  · refine lv_iload_n hx hb dX5_isCell_10 rfl (lv_at hl 1 rfl) ?_
    refine lv_iconst (v := 0) hx hb dX5_isCell_11 (by decide) ?_
    refine lv_iconst (v := 4) hx hb dX5_isCell_12 (by decide) ?_
    refine cl_i (wr := []) (w2 := []) (rn_S (As := [.int y, .int 0, .int 4]) (rest := []) ⟨hx, hb, hml, hown, hts⟩ (k_X5_isIn l D cy _ y 0 4) (va_cwS 3 hts gX5_isCell_X5_isIn rfl rfl rfl (by decide +kernel) ⟨Nat.le_of_ble_eq_true rfl, Nat.le_of_ble_eq_true rfl⟩) hN hK hP hD [] rfl (by decide) rfl hl.1 rfl (Nat.le_of_ble_eq_true rfl) dX5_isCell_13 ⟨Nat.le_of_ble_eq_true rfl, Nat.le_of_ble_eq_true rfl⟩) hP hD hS hA [] [] [] rfl rfl (by decide) (by decide) rfl (by decide) (fun H locs hP hD hS => ?_)
    refine lv_if_eq (tgt := 23) hx hb dX5_isCell_16 (by decide) (fun c16 => ?_) (fun c16 => ?_)
    · refine lv_iconst (v := 0) hx hb dX5_isCell_23 (by decide) ?_
      subst hQ
      exact en_z (tv := 0) hx hb hr hlocks (by rw [F_X5_isCell, if_neg c7, if_pos c16]) rfl hK (by first | with_reducible exact hP | exact hP) (by first | with_reducible exact hD | exact hD) hS (Nat.le_refl _) (Nat.le_refl _) (by decide) dX5_isCell_24
    · refine lv_iconst (v := 1) hx hb dX5_isCell_19 (by decide) ?_
      refine lv_goto (tgt := 24) hx hb dX5_isCell_20 (by decide) ?_
      subst hQ
      exact en_z (tv := 1) hx hb hr hlocks (by rw [F_X5_isCell, if_neg c7, if_neg c16]) rfl hK (by first | with_reducible exact hP | exact hP) (by first | with_reducible exact hD | exact hD) hS (Nat.le_refl _) (Nat.le_refl _) (by decide) dX5_isCell_24

def F_X5_moon (night : Int32) : Int32 :=
  (4 - (ab ((rmd night 8) - 4)))
set_option maxHeartbeats 4000000 in
set_option maxRecDepth 100000 in
theorem k_X5_moon (l : Launch) (D : va_G) (cy : Nat → ClassId) (sz : Nat) (night : Int32) : MTa l D cy yX5_moon wsX5_moon 1 0 0 24 [] sz [.int night] (fun A => QiT D cy (fun (t : Int32) => t) (fun (_ : Int32) => []) (F_X5_moon night) A) := by
  refine ofWT (cc := cX5_moon) (maxL := 1) (ret := (some .int)) (own := RX5) (by decide) rfl (Nat.le_of_ble_eq_true rfl) rfl ?_
  intro p e s m args below meth c A ls hx hb hr hml hts hown hlocks hin hN hK hP hD hA hl
  have hS : va_S A s.heap s.heap [] := va_S.rf
  have hl : lv_has ls 1 [(0, .int night)] := hl
  generalize hQ : MQ below ((fun A => QiT D cy (fun (t : Int32) => t) (fun (_ : Int32) => []) (F_X5_moon night) A) A) args s 0 0 A = Q
  refine lv_iconst (v := 4) hx hb dX5_moon_0 (by decide) ?_
  refine lv_iload_n hx hb dX5_moon_1 rfl (lv_at hl 0 rfl) ?_
  refine lv_bipush (v := 8) hx hb dX5_moon_2 (by decide) ?_
  refine lv_irem hx hb dX5_moon_4 (by decide) ?_
  refine lv_iv (y := rmd night 8) rfl ?_
  refine lv_iconst (v := 4) hx hb dX5_moon_5 (by decide) ?_
  refine lv_isub hx hb dX5_moon_6 ?_
  refine va_mabs (rest := [.int 4]) hx hb (hml.trans hl.1.symm) hown (hts (.methodLink RX5 42 Lib.Math.abs.name) (List.mem_of_getElem? (i := 1) rfl)) (hts (.static Lib.Math.abs.name) (List.mem_of_getElem? (i := 2) rfl)) (hts (.initialized "java/lang/Math") (List.mem_of_getElem? (i := 3) rfl)) (hts (.code Lib.Math.abs.name Lib.Math.abs.code 1 (some .int)) (List.mem_of_getElem? (i := 4) rfl)) (Nat.le_of_ble_eq_true rfl) (Nat.le_of_ble_eq_true rfl) (Nat.le_of_ble_eq_true rfl) (Nat.le_of_ble_eq_true rfl) dX5_moon_7 ?_
  refine lv_iv (y := (ab ((rmd night 8) - 4))) rfl ?_
  refine lv_isub hx hb dX5_moon_10 ?_
  subst hQ
  exact en_i (tv := (4 - (ab ((rmd night 8) - 4)))) hx hb hr hlocks (by rw [F_X5_moon]) rfl hK (by first | with_reducible exact hP | exact hP) (by first | with_reducible exact hD | exact hD) hS (Nat.le_refl _) (Nat.le_refl _) dX5_moon_11

theorem isIn_of {v a b : Int32} (h : ¬ F_X5_isIn v a b = 0) : a ≤ v ∧ v ≤ b := by
  unfold F_X5_isIn at h
  split at h
  · exact absurd rfl h
  split at h
  · exact absurd rfl h
  rename_i c1 c2
  exact ⟨by rw [i_lt] at c1; rw [i_le]; omega, by rw [i_lt] at c2; rw [i_le]; omega⟩
theorem isIn_mk {v a b : Int32} (h : a ≤ v ∧ v ≤ b) : F_X5_isIn v a b = 1 := by
  unfold F_X5_isIn
  rw [i_le, i_le] at h
  rw [if_neg (by rw [i_lt]; omega), if_neg (by rw [i_lt]; omega)]
theorem isIn_b (v a b : Int32) : F_X5_isIn v a b = 0 ∨ F_X5_isIn v a b = 1 := by
  unfold F_X5_isIn
  split
  · exact Or.inl rfl
  split
  · exact Or.inl rfl
  · exact Or.inr rfl
theorem isCell_in {x y : Int32} (h : ¬ F_X5_isCell x y = 0) : vp_in (10 * y + x) 50 := by
  unfold F_X5_isCell at h
  split at h
  · exact absurd rfl h
  split at h
  · exact absurd rfl h
  rename_i c1 c2
  obtain ⟨a1, a2⟩ := isIn_of c1
  obtain ⟨b1, b2⟩ := isIn_of c2
  rw [i_le] at a1 a2 b1 b2
  have e0 : (0 : Int32).toInt = 0 := rfl
  have e9 : (9 : Int32).toInt = 9 := rfl
  have e4 : (4 : Int32).toInt = 4 := rfl
  obtain ⟨a, ha, rfl⟩ := i_nat (x := x) (n := 10) (by rw [i_lt]; omega) (by omega)
  obtain ⟨b, hb, rfl⟩ := i_nat (x := y) (n := 5) (by rw [i_lt]; omega) (by omega)
  rw [ten_mul]
  exact vp_in_nI (by omega) (by omega)
theorem nc_of {x : Int32} {n : Nat} (h : x.toNatClampNeg < n ∧ x = nI x.toNatClampNeg) (hn : n < 2 ^ 31) : vp_in x n := by
  rw [h.2]
  exact vp_in_nI h.1 hn
/-- the model's own numbers are in order: windows of the rooms, rooms of the guests -/
def MI (R G : Nat) (ew ep : Nat → Int32) : Prop := R ≤ 6 ∧ G ≤ 12 ∧ (∀ j, j < R → (ew j).toNatClampNeg < 10 ∧ ew j = nI (ew j).toNatClampNeg) ∧ ∀ g, g < G → (ep (6 * g)).toNatClampNeg < R ∧ ep (6 * g) = nI (ep (6 * g)).toNatClampNeg
theorem nlt_of {k n : Nat} (h : ¬ nI n ≤ nI k) (hk : k < 2 ^ 31) (hn : n < 2 ^ 31) : k < n := by
  rw [nI_leI hn hk] at h
  omega

def F_X5_fail (number : Int32) : Int32 × Int32 :=
  (0, number)
set_option maxHeartbeats 4000000 in
set_option maxRecDepth 100000 in
theorem k_X5_fail (l : Launch) (D : va_G) (cy : Nat → ClassId) (sz : Nat) (mx mh mw ml mp mq mb : Nat) (th : Int32) (eh : Nat → Int32) (ew : Nat → Int32) (el : Nat → Int32) (ep : Nat → Int32) (en : Nat → Int32) (eb : Nat → Int32) (R : Nat) (G : Nat) (number : Int32) (hR : R ≤ 6) (hG : G ≤ 12) : MTa l D cy yX5_fail wsX5_fail 0 0 0 0 [(mx, .inr (5, [.int th, .ref mh, .int (nI R), .ref mw, .ref ml, .int (nI G), .ref mp, .ref mq, .ref mb])), (mh, .inl (cy 0, 50, .inl eh)), (mw, .inl (cy 0, 6, .inl ew)), (ml, .inl (cy 0, 6, .inl el)), (mp, .inl (cy 0, 72, .inl ep)), (mq, .inl (cy 0, 2, .inl en)), (mb, .inl (cy 0, 50, .inl eb))] sz [.ref mx, .int number] (fun A => QiT D cy (fun (t : Int32 × Int32) => t.1) (fun (t : Int32 × Int32) => [(mx, .inr (5, [.int t.2, .ref mh, .int (nI R), .ref mw, .ref ml, .int (nI G), .ref mp, .ref mq, .ref mb])), (mh, .inl (cy 0, 50, .inl eh)), (mw, .inl (cy 0, 6, .inl ew)), (ml, .inl (cy 0, 6, .inl el)), (mp, .inl (cy 0, 72, .inl ep)), (mq, .inl (cy 0, 2, .inl en)), (mb, .inl (cy 0, 50, .inl eb))]) (F_X5_fail number) A) := by
  refine ofWT (cc := cX5_fail) (maxL := 2) (ret := (some .int)) (own := RX5) (by decide) rfl (Nat.le_of_ble_eq_true rfl) rfl ?_
  intro p e s m args below meth c A ls hx hb hr hml hts hown hlocks hin hN hK hP hD hA hl
  have hS : va_S A s.heap s.heap [] := va_S.rf
  have hl : lv_has ls 2 [(0, .ref mx), (1, .int number)] := hl
  have hin5 : ∀ w ∈ u_ws RX5 TX5 9, w ∈ wsX5_fail := (fun w h => List.mem_cons_of_mem _ (List.mem_append_right _ h))
  generalize hQ : MQ below ((fun A => QiT D cy (fun (t : Int32 × Int32) => t.1) (fun (t : Int32 × Int32) => [(mx, .inr (5, [.int t.2, .ref mh, .int (nI R), .ref mw, .ref ml, .int (nI G), .ref mp, .ref mq, .ref mb])), (mh, .inl (cy 0, 50, .inl eh)), (mw, .inl (cy 0, 6, .inl ew)), (ml, .inl (cy 0, 6, .inl el)), (mp, .inl (cy 0, 72, .inl ep)), (mq, .inl (cy 0, 2, .inl en)), (mb, .inl (cy 0, 50, .inl eb))]) (F_X5_fail number) A) A) args s 0 0 A = Q
  refine lv_aload_n hx hb dX5_fail_0 rfl (lv_at hl 0 rfl) ?_
  refine lv_iload_n hx hb dX5_fail_1 rfl (lv_at hl 1 rfl) ?_
  refine va_put (D := D) (ci := 5) (v := .int number) (ty := .int) (C := RX5) (T := TX5) (N := 9) hx hb hts hin5 tyX5 tyX5_ok nmX5 hown hK hP hD hS 0 rfl rfl 0 (by decide) (hts (.fieldLink RX5 28 "FireflyInnModel" "thrown" "I") (List.mem_of_getElem? (i := 1) rfl)) (fun _ h9 => h9) rfl (by decide +kernel) rfl rfl (Nat.le_of_ble_eq_true rfl) dX5_fail_2 (fun H locs hP hD hS => ?_)
  have hP : va_P D vwCl [(mx, .inr (5, [.int number, .ref mh, .int (nI R), .ref mw, .ref ml, .int (nI G), .ref mp, .ref mq, .ref mb])), (mh, .inl (cy 0, 50, .inl eh)), (mw, .inl (cy 0, 6, .inl ew)), (ml, .inl (cy 0, 6, .inl el)), (mp, .inl (cy 0, 72, .inl ep)), (mq, .inl (cy 0, 2, .inl en)), (mb, .inl (cy 0, 50, .inl eb))] H := hP
  have hD : va_D A [(mx, .inr (5, [.int number, .ref mh, .int (nI R), .ref mw, .ref ml, .int (nI G), .ref mp, .ref mq, .ref mb])), (mh, .inl (cy 0, 50, .inl eh)), (mw, .inl (cy 0, 6, .inl ew)), (ml, .inl (cy 0, 6, .inl el)), (mp, .inl (cy 0, 72, .inl ep)), (mq, .inl (cy 0, 2, .inl en)), (mb, .inl (cy 0, 50, .inl eb))] := hD
  refine lv_iconst (v := 0) hx hb dX5_fail_5 (by decide) ?_
  subst hQ
  exact en_i (tv := (0, number)) hx hb hr hlocks (by rw [F_X5_fail]) rfl hK (by first | with_reducible exact hP | exact hP) (by first | with_reducible exact hD | exact hD) hS (Nat.le_refl _) (Nat.le_refl _) dX5_fail_6

def F_X5_thrown (th : Int32) : Int32 :=
  th
set_option maxHeartbeats 4000000 in
set_option maxRecDepth 100000 in
theorem k_X5_thrown (l : Launch) (D : va_G) (cy : Nat → ClassId) (sz : Nat) (mx mh mw ml mp mq mb : Nat) (th : Int32) (eh : Nat → Int32) (ew : Nat → Int32) (el : Nat → Int32) (ep : Nat → Int32) (en : Nat → Int32) (eb : Nat → Int32) (R : Nat) (G : Nat) (hR : R ≤ 6) (hG : G ≤ 12) : MTa l D cy yX5_thrown wsX5_thrown 0 0 0 0 [(mx, .inr (5, [.int th, .ref mh, .int (nI R), .ref mw, .ref ml, .int (nI G), .ref mp, .ref mq, .ref mb])), (mh, .inl (cy 0, 50, .inl eh)), (mw, .inl (cy 0, 6, .inl ew)), (ml, .inl (cy 0, 6, .inl el)), (mp, .inl (cy 0, 72, .inl ep)), (mq, .inl (cy 0, 2, .inl en)), (mb, .inl (cy 0, 50, .inl eb))] sz [.ref mx] (fun A => QiT D cy (fun (t : Int32) => t) (fun (_ : Int32) => [(mx, .inr (5, [.int th, .ref mh, .int (nI R), .ref mw, .ref ml, .int (nI G), .ref mp, .ref mq, .ref mb])), (mh, .inl (cy 0, 50, .inl eh)), (mw, .inl (cy 0, 6, .inl ew)), (ml, .inl (cy 0, 6, .inl el)), (mp, .inl (cy 0, 72, .inl ep)), (mq, .inl (cy 0, 2, .inl en)), (mb, .inl (cy 0, 50, .inl eb))]) (F_X5_thrown th) A) := by
  refine ofWT (cc := cX5_thrown) (maxL := 1) (ret := (some .int)) (own := RX5) (by decide) rfl (Nat.le_of_ble_eq_true rfl) rfl ?_
  intro p e s m args below meth c A ls hx hb hr hml hts hown hlocks hin hN hK hP hD hA hl
  have hS : va_S A s.heap s.heap [] := va_S.rf
  have hl : lv_has ls 1 [(0, .ref mx)] := hl
  have hin5 : ∀ w ∈ u_ws RX5 TX5 9, w ∈ wsX5_thrown := (fun w h => List.mem_cons_of_mem _ (List.mem_append_right _ h))
  generalize hQ : MQ below ((fun A => QiT D cy (fun (t : Int32) => t) (fun (_ : Int32) => [(mx, .inr (5, [.int th, .ref mh, .int (nI R), .ref mw, .ref ml, .int (nI G), .ref mp, .ref mq, .ref mb])), (mh, .inl (cy 0, 50, .inl eh)), (mw, .inl (cy 0, 6, .inl ew)), (ml, .inl (cy 0, 6, .inl el)), (mp, .inl (cy 0, 72, .inl ep)), (mq, .inl (cy 0, 2, .inl en)), (mb, .inl (cy 0, 50, .inl eb))]) (F_X5_thrown th) A) A) args s 0 0 A = Q
  refine lv_aload_n hx hb dX5_thrown_0 rfl (lv_at hl 0 rfl) ?_
  refine va_get (D := D) (ci := 5) (v := .int th) (C := RX5) (T := TX5) (N := 9) hx hb hts hin5 hown hK hP 0 rfl rfl 0 (by decide) (hts (.fieldLink RX5 28 "FireflyInnModel" "thrown" "I") (List.mem_of_getElem? (i := 1) rfl)) (fun _ h9 => h9) rfl dX5_thrown_1 ?_
  subst hQ
  exact en_i (tv := th) hx hb hr hlocks (by rw [F_X5_thrown]) rfl hK (by first | with_reducible exact hP | exact hP) (by first | with_reducible exact hD | exact hD) hS (Nat.le_refl _) (Nat.le_refl _) dX5_thrown_4

def F_X5_isRoom (R : Nat) (r : Int32) : Int32 :=
  (F_X5_isIn r 0 ((nI R) - 1))
set_option maxHeartbeats 4000000 in
set_option maxRecDepth 100000 in
theorem k_X5_isRoom (l : Launch) (D : va_G) (cy : Nat → ClassId) (sz : Nat) (mx mh mw ml mp mq mb : Nat) (th : Int32) (eh : Nat → Int32) (ew : Nat → Int32) (el : Nat → Int32) (ep : Nat → Int32) (en : Nat → Int32) (eb : Nat → Int32) (R : Nat) (G : Nat) (r : Int32) (hR : R ≤ 6) (hG : G ≤ 12) : MTa l D cy yX5_isRoom wsX5_isRoom 1 0 0 22 [(mx, .inr (5, [.int th, .ref mh, .int (nI R), .ref mw, .ref ml, .int (nI G), .ref mp, .ref mq, .ref mb])), (mh, .inl (cy 0, 50, .inl eh)), (mw, .inl (cy 0, 6, .inl ew)), (ml, .inl (cy 0, 6, .inl el)), (mp, .inl (cy 0, 72, .inl ep)), (mq, .inl (cy 0, 2, .inl en)), (mb, .inl (cy 0, 50, .inl eb))] sz [.ref mx, .int r] (fun A => QiT D cy (fun (t : Int32) => t) (fun (_ : Int32) => [(mx, .inr (5, [.int th, .ref mh, .int (nI R), .ref mw, .ref ml, .int (nI G), .ref mp, .ref mq, .ref mb])), (mh, .inl (cy 0, 50, .inl eh)), (mw, .inl (cy 0, 6, .inl ew)), (ml, .inl (cy 0, 6, .inl el)), (mp, .inl (cy 0, 72, .inl ep)), (mq, .inl (cy 0, 2, .inl en)), (mb, .inl (cy 0, 50, .inl eb))]) (F_X5_isRoom R r) A) := by
  refine ofWT (cc := cX5_isRoom) (maxL := 2) (ret := (some .boolean)) (own := RX5) (by decide) rfl (Nat.le_of_ble_eq_true rfl) rfl ?_
  intro p e s m args below meth c A ls hx hb hr hml hts hown hlocks hin hN hK hP hD hA hl
  have hS : va_S A s.heap s.heap [] := va_S.rf
  have hl : lv_has ls 2 [(0, .ref mx), (1, .int r)] := hl
  have hin5 : ∀ w ∈ u_ws RX5 TX5 9, w ∈ wsX5_isRoom := (fun w h => List.mem_cons_of_mem _ (List.mem_append_right _ h))
  generalize hQ : MQ below ((fun A => QiT D cy (fun (t : Int32) => t) (fun (_ : Int32) => [(mx, .inr (5, [.int th, .ref mh, .int (nI R), .ref mw, .ref ml, .int (nI G), .ref mp, .ref mq, .ref mb])), (mh, .inl (cy 0, 50, .inl eh)), (mw, .inl (cy 0, 6, .inl ew)), (ml, .inl (cy 0, 6, .inl el)), (mp, .inl (cy 0, 72, .inl ep)), (mq, .inl (cy 0, 2, .inl en)), (mb, .inl (cy 0, 50, .inl eb))]) (F_X5_isRoom R r) A) A) args s 0 0 A = Q
  refine lv_iload_n hx hb dX5_isRoom_0 rfl (lv_at hl 1 rfl) ?_
  refine lv_iconst (v := 0) hx hb dX5_isRoom_1 (by decide) ?_
  refine lv_aload_n hx hb dX5_isRoom_2 rfl (lv_at hl 0 rfl) ?_
  refine va_get (D := D) (ci := 5) (v := .int (nI R)) (C := RX5) (T := TX5) (N := 9) hx hb hts hin5 hown hK hP 0 rfl rfl 2 (by decide) (hts (.fieldLink RX5 36 "FireflyInnModel" "rooms" "I") (List.mem_of_getElem? (i := 1) rfl)) (fun _ h9 => h9) rfl dX5_isRoom_3 ?_
  refine lv_iconst (v := 1) hx hb dX5_isRoom_6 (by decide) ?_
  refine lv_isub hx hb dX5_isRoom_7 ?_
  refine cl_i (wr := [(mx, .inr (5, [.int th, .ref mh, .int (nI R), .ref mw, .ref ml, .int (nI G), .ref mp, .ref mq, .ref mb])), (mh, .inl (cy 0, 50, .inl eh)), (mw, .inl (cy 0, 6, .inl ew)), (ml, .inl (cy 0, 6, .inl el)), (mp, .inl (cy 0, 72, .inl ep)), (mq, .inl (cy 0, 2, .inl en)), (mb, .inl (cy 0, 50, .inl eb))]) (w2 := [(mx, .inr (5, [.int th, .ref mh, .int (nI R), .ref mw, .ref ml, .int (nI G), .ref mp, .ref mq, .ref mb])), (mh, .inl (cy 0, 50, .inl eh)), (mw, .inl (cy 0, 6, .inl ew)), (ml, .inl (cy 0, 6, .inl el)), (mp, .inl (cy 0, 72, .inl ep)), (mq, .inl (cy 0, 2, .inl en)), (mb, .inl (cy 0, 50, .inl eb))]) (rn_S (As := [.int r, .int 0, .int ((nI R) - 1)]) (rest := []) ⟨hx, hb, hml, hown, hts⟩ (k_X5_isIn l D cy _ r 0 ((nI R) - 1)) (va_cwS 3 hts gX5_isRoom_X5_isIn rfl rfl rfl (by decide +kernel) ⟨Nat.le_of_ble_eq_true rfl, Nat.le_of_ble_eq_true rfl⟩) hN hK hP hD [] rfl (by decide) rfl hl.1 rfl (Nat.le_of_ble_eq_true rfl) dX5_isRoom_8 ⟨Nat.le_of_ble_eq_true rfl, Nat.le_of_ble_eq_true rfl⟩) hP hD hS hA [] [0, 1, 2, 3, 4, 5, 6] [0, 1, 2, 3, 4, 5, 6] rfl rfl (by decide) (by decide) rfl (by decide) (fun H locs hP hD hS => ?_)
  subst hQ
  exact en_z (tv := (F_X5_isIn r 0 ((nI R) - 1))) hx hb hr hlocks (by rw [F_X5_isRoom]) rfl hK (by first | with_reducible exact hP | exact hP) (by first | with_reducible exact hD | exact hD) hS (Nat.le_refl _) (Nat.le_refl _) (isIn_b _ _ _) dX5_isRoom_11

def F_X5_isGuest (G : Nat) (g : Int32) : Int32 :=
  (F_X5_isIn g 0 ((nI G) - 1))
set_option maxHeartbeats 4000000 in
set_option maxRecDepth 100000 in
theorem k_X5_isGuest (l : Launch) (D : va_G) (cy : Nat → ClassId) (sz : Nat) (mx mh mw ml mp mq mb : Nat) (th : Int32) (eh : Nat → Int32) (ew : Nat → Int32) (el : Nat → Int32) (ep : Nat → Int32) (en : Nat → Int32) (eb : Nat → Int32) (R : Nat) (G : Nat) (g : Int32) (hR : R ≤ 6) (hG : G ≤ 12) : MTa l D cy yX5_isGuest wsX5_isGuest 1 0 0 22 [(mx, .inr (5, [.int th, .ref mh, .int (nI R), .ref mw, .ref ml, .int (nI G), .ref mp, .ref mq, .ref mb])), (mh, .inl (cy 0, 50, .inl eh)), (mw, .inl (cy 0, 6, .inl ew)), (ml, .inl (cy 0, 6, .inl el)), (mp, .inl (cy 0, 72, .inl ep)), (mq, .inl (cy 0, 2, .inl en)), (mb, .inl (cy 0, 50, .inl eb))] sz [.ref mx, .int g] (fun A => QiT D cy (fun (t : Int32) => t) (fun (_ : Int32) => [(mx, .inr (5, [.int th, .ref mh, .int (nI R), .ref mw, .ref ml, .int (nI G), .ref mp, .ref mq, .ref mb])), (mh, .inl (cy 0, 50, .inl eh)), (mw, .inl (cy 0, 6, .inl ew)), (ml, .inl (cy 0, 6, .inl el)), (mp, .inl (cy 0, 72, .inl ep)), (mq, .inl (cy 0, 2, .inl en)), (mb, .inl (cy 0, 50, .inl eb))]) (F_X5_isGuest G g) A) := by
  refine ofWT (cc := cX5_isGuest) (maxL := 2) (ret := (some .boolean)) (own := RX5) (by decide) rfl (Nat.le_of_ble_eq_true rfl) rfl ?_
  intro p e s m args below meth c A ls hx hb hr hml hts hown hlocks hin hN hK hP hD hA hl
  have hS : va_S A s.heap s.heap [] := va_S.rf
  have hl : lv_has ls 2 [(0, .ref mx), (1, .int g)] := hl
  have hin5 : ∀ w ∈ u_ws RX5 TX5 9, w ∈ wsX5_isGuest := (fun w h => List.mem_cons_of_mem _ (List.mem_append_right _ h))
  generalize hQ : MQ below ((fun A => QiT D cy (fun (t : Int32) => t) (fun (_ : Int32) => [(mx, .inr (5, [.int th, .ref mh, .int (nI R), .ref mw, .ref ml, .int (nI G), .ref mp, .ref mq, .ref mb])), (mh, .inl (cy 0, 50, .inl eh)), (mw, .inl (cy 0, 6, .inl ew)), (ml, .inl (cy 0, 6, .inl el)), (mp, .inl (cy 0, 72, .inl ep)), (mq, .inl (cy 0, 2, .inl en)), (mb, .inl (cy 0, 50, .inl eb))]) (F_X5_isGuest G g) A) A) args s 0 0 A = Q
  refine lv_iload_n hx hb dX5_isGuest_0 rfl (lv_at hl 1 rfl) ?_
  refine lv_iconst (v := 0) hx hb dX5_isGuest_1 (by decide) ?_
  refine lv_aload_n hx hb dX5_isGuest_2 rfl (lv_at hl 0 rfl) ?_
  refine va_get (D := D) (ci := 5) (v := .int (nI G)) (C := RX5) (T := TX5) (N := 9) hx hb hts hin5 hown hK hP 0 rfl rfl 5 (by decide) (hts (.fieldLink RX5 39 "FireflyInnModel" "guests" "I") (List.mem_of_getElem? (i := 1) rfl)) (fun _ h9 => h9) rfl dX5_isGuest_3 ?_
  refine lv_iconst (v := 1) hx hb dX5_isGuest_6 (by decide) ?_
  refine lv_isub hx hb dX5_isGuest_7 ?_
  refine cl_i (wr := [(mx, .inr (5, [.int th, .ref mh, .int (nI R), .ref mw, .ref ml, .int (nI G), .ref mp, .ref mq, .ref mb])), (mh, .inl (cy 0, 50, .inl eh)), (mw, .inl (cy 0, 6, .inl ew)), (ml, .inl (cy 0, 6, .inl el)), (mp, .inl (cy 0, 72, .inl ep)), (mq, .inl (cy 0, 2, .inl en)), (mb, .inl (cy 0, 50, .inl eb))]) (w2 := [(mx, .inr (5, [.int th, .ref mh, .int (nI R), .ref mw, .ref ml, .int (nI G), .ref mp, .ref mq, .ref mb])), (mh, .inl (cy 0, 50, .inl eh)), (mw, .inl (cy 0, 6, .inl ew)), (ml, .inl (cy 0, 6, .inl el)), (mp, .inl (cy 0, 72, .inl ep)), (mq, .inl (cy 0, 2, .inl en)), (mb, .inl (cy 0, 50, .inl eb))]) (rn_S (As := [.int g, .int 0, .int ((nI G) - 1)]) (rest := []) ⟨hx, hb, hml, hown, hts⟩ (k_X5_isIn l D cy _ g 0 ((nI G) - 1)) (va_cwS 3 hts gX5_isGuest_X5_isIn rfl rfl rfl (by decide +kernel) ⟨Nat.le_of_ble_eq_true rfl, Nat.le_of_ble_eq_true rfl⟩) hN hK hP hD [] rfl (by decide) rfl hl.1 rfl (Nat.le_of_ble_eq_true rfl) dX5_isGuest_8 ⟨Nat.le_of_ble_eq_true rfl, Nat.le_of_ble_eq_true rfl⟩) hP hD hS hA [] [0, 1, 2, 3, 4, 5, 6] [0, 1, 2, 3, 4, 5, 6] rfl rfl (by decide) (by decide) rfl (by decide) (fun H locs hP hD hS => ?_)
  subst hQ
  exact en_z (tv := (F_X5_isIn g 0 ((nI G) - 1))) hx hb hr hlocks (by rw [F_X5_isGuest]) rfl hK (by first | with_reducible exact hP | exact hP) (by first | with_reducible exact hD | exact hD) hS (Nat.le_refl _) (Nat.le_refl _) (isIn_b _ _ _) dX5_isGuest_11

def F_X5_pe (ep : Nat → Int32) (g : Nat) (w : Nat) : Int32 :=
  (ep ((6 * g) + w))
set_option maxHeartbeats 4000000 in
set_option maxRecDepth 100000 in
theorem k_X5_pe (l : Launch) (D : va_G) (cy : Nat → ClassId) (sz : Nat) (mx mh mw ml mp mq mb : Nat) (th : Int32) (eh : Nat → Int32) (ew : Nat → Int32) (el : Nat → Int32) (ep : Nat → Int32) (en : Nat → Int32) (eb : Nat → Int32) (R : Nat) (G : Nat) (g : Nat) (w : Nat) (hR : R ≤ 6) (hG : G ≤ 12) (hgw : 6 * g + w < 72) : MTa l D cy yX5_pe wsX5_pe 0 0 0 0 [(mx, .inr (5, [.int th, .ref mh, .int (nI R), .ref mw, .ref ml, .int (nI G), .ref mp, .ref mq, .ref mb])), (mh, .inl (cy 0, 50, .inl eh)), (mw, .inl (cy 0, 6, .inl ew)), (ml, .inl (cy 0, 6, .inl el)), (mp, .inl (cy 0, 72, .inl ep)), (mq, .inl (cy 0, 2, .inl en)), (mb, .inl (cy 0, 50, .inl eb))] sz [.ref mx, .int (nI g), .int (nI w)] (fun A => QiT D cy (fun (t : Int32) => t) (fun (_ : Int32) => [(mx, .inr (5, [.int th, .ref mh, .int (nI R), .ref mw, .ref ml, .int (nI G), .ref mp, .ref mq, .ref mb])), (mh, .inl (cy 0, 50, .inl eh)), (mw, .inl (cy 0, 6, .inl ew)), (ml, .inl (cy 0, 6, .inl el)), (mp, .inl (cy 0, 72, .inl ep)), (mq, .inl (cy 0, 2, .inl en)), (mb, .inl (cy 0, 50, .inl eb))]) (F_X5_pe ep g w) A) := by
  refine ofWT (cc := cX5_pe) (maxL := 3) (ret := (some .int)) (own := RX5) (by decide) rfl (Nat.le_of_ble_eq_true rfl) rfl ?_
  intro p e s m args below meth c A ls hx hb hr hml hts hown hlocks hin hN hK hP hD hA hl
  have hS : va_S A s.heap s.heap [] := va_S.rf
  have hl : lv_has ls 3 [(0, .ref mx), (1, .int (nI g)), (2, .int (nI w))] := hl
  have hin5 : ∀ w ∈ u_ws RX5 TX5 9, w ∈ wsX5_pe := (fun w h => List.mem_cons_of_mem _ (List.mem_append_right _ h))
  generalize hQ : MQ below ((fun A => QiT D cy (fun (t : Int32) => t) (fun (_ : Int32) => [(mx, .inr (5, [.int th, .ref mh, .int (nI R), .ref mw, .ref ml, .int (nI G), .ref mp, .ref mq, .ref mb])), (mh, .inl (cy 0, 50, .inl eh)), (mw, .inl (cy 0, 6, .inl ew)), (ml, .inl (cy 0, 6, .inl el)), (mp, .inl (cy 0, 72, .inl ep)), (mq, .inl (cy 0, 2, .inl en)), (mb, .inl (cy 0, 50, .inl eb))]) (F_X5_pe ep g w) A) A) args s 0 0 A = Q
  refine lv_aload_n hx hb dX5_pe_0 rfl (lv_at hl 0 rfl) ?_
  refine va_get (D := D) (ci := 5) (v := .ref mp) (C := RX5) (T := TX5) (N := 9) hx hb hts hin5 hown hK hP 0 rfl rfl 6 (by decide) (hts (.fieldLink RX5 19 "FireflyInnModel" "people" "[I") (List.mem_of_getElem? (i := 1) rfl)) (fun _ h9 => h9) rfl dX5_pe_1 ?_
  refine lv_bipush (v := 6) hx hb dX5_pe_4 (by decide) ?_
  refine lv_iload_n hx hb dX5_pe_6 rfl (lv_at hl 1 rfl) ?_
  refine lv_imul hx hb dX5_pe_7 ?_
  refine lv_iv (y := (nI (6 * g))) (pk_mul 6 g) ?_
  refine lv_iload_n hx hb dX5_pe_8 rfl (lv_at hl 2 rfl) ?_
  refine lv_iadd hx hb dX5_pe_9 ?_
  refine lv_iv (y := (nI ((6 * g) + w))) (nI_add (6 * g) w) ?_
  refine ial_n (k := (6 * g) + w) hx hb hK hP 4 rfl (by omega) (by decide) dX5_pe_10 ?_
  subst hQ
  exact en_i (tv := (ep ((6 * g) + w))) hx hb hr hlocks (by rw [F_X5_pe]) rfl hK (by first | with_reducible exact hP | exact hP) (by first | with_reducible exact hD | exact hD) hS (Nat.le_refl _) (Nat.le_refl _) dX5_pe_11

def F_X5_put (ep : Nat → Int32) (g : Nat) (w : Nat) (val : Int32) : Nat → Int32 :=
  (upd ep ((6 * g) + w) val)
set_option maxHeartbeats 4000000 in
set_option maxRecDepth 100000 in
theorem k_X5_put (l : Launch) (D : va_G) (cy : Nat → ClassId) (sz : Nat) (mx mh mw ml mp mq mb : Nat) (th : Int32) (eh : Nat → Int32) (ew : Nat → Int32) (el : Nat → Int32) (ep : Nat → Int32) (en : Nat → Int32) (eb : Nat → Int32) (R : Nat) (G : Nat) (g : Nat) (w : Nat) (val : Int32) (hR : R ≤ 6) (hG : G ≤ 12) (hgw : 6 * g + w < 72) : MTa l D cy yX5_put wsX5_put 0 0 0 0 [(mx, .inr (5, [.int th, .ref mh, .int (nI R), .ref mw, .ref ml, .int (nI G), .ref mp, .ref mq, .ref mb])), (mh, .inl (cy 0, 50, .inl eh)), (mw, .inl (cy 0, 6, .inl ew)), (ml, .inl (cy 0, 6, .inl el)), (mp, .inl (cy 0, 72, .inl ep)), (mq, .inl (cy 0, 2, .inl en)), (mb, .inl (cy 0, 50, .inl eb))] sz [.ref mx, .int (nI g), .int (nI w), .int val] (fun A => QvT D cy (fun (t : Nat → Int32) => [(mx, .inr (5, [.int th, .ref mh, .int (nI R), .ref mw, .ref ml, .int (nI G), .ref mp, .ref mq, .ref mb])), (mh, .inl (cy 0, 50, .inl eh)), (mw, .inl (cy 0, 6, .inl ew)), (ml, .inl (cy 0, 6, .inl el)), (mp, .inl (cy 0, 72, .inl t)), (mq, .inl (cy 0, 2, .inl en)), (mb, .inl (cy 0, 50, .inl eb))]) (F_X5_put ep g w val) A) := by
  refine ofWT (cc := cX5_put) (maxL := 4) (ret := none) (own := RX5) (by decide) rfl (Nat.le_of_ble_eq_true rfl) rfl ?_
  intro p e s m args below meth c A ls hx hb hr hml hts hown hlocks hin hN hK hP hD hA hl
  have hS : va_S A s.heap s.heap [] := va_S.rf
  have hl : lv_has ls 4 [(0, .ref mx), (1, .int (nI g)), (2, .int (nI w)), (3, .int val)] := hl
  have hin5 : ∀ w ∈ u_ws RX5 TX5 9, w ∈ wsX5_put := (fun w h => List.mem_cons_of_mem _ (List.mem_append_right _ h))
  generalize hQ : MQ below ((fun A => QvT D cy (fun (t : Nat → Int32) => [(mx, .inr (5, [.int th, .ref mh, .int (nI R), .ref mw, .ref ml, .int (nI G), .ref mp, .ref mq, .ref mb])), (mh, .inl (cy 0, 50, .inl eh)), (mw, .inl (cy 0, 6, .inl ew)), (ml, .inl (cy 0, 6, .inl el)), (mp, .inl (cy 0, 72, .inl t)), (mq, .inl (cy 0, 2, .inl en)), (mb, .inl (cy 0, 50, .inl eb))]) (F_X5_put ep g w val) A) A) args s 0 0 A = Q
  refine lv_aload_n hx hb dX5_put_0 rfl (lv_at hl 0 rfl) ?_
  refine va_get (D := D) (ci := 5) (v := .ref mp) (C := RX5) (T := TX5) (N := 9) hx hb hts hin5 hown hK hP 0 rfl rfl 6 (by decide) (hts (.fieldLink RX5 19 "FireflyInnModel" "people" "[I") (List.mem_of_getElem? (i := 1) rfl)) (fun _ h9 => h9) rfl dX5_put_1 ?_
  refine lv_bipush (v := 6) hx hb dX5_put_4 (by decide) ?_
  refine lv_iload_n hx hb dX5_put_6 rfl (lv_at hl 1 rfl) ?_
  refine lv_imul hx hb dX5_put_7 ?_
  refine lv_iv (y := (nI (6 * g))) (pk_mul 6 g) ?_
  refine lv_iload_n hx hb dX5_put_8 rfl (lv_at hl 2 rfl) ?_
  refine lv_iadd hx hb dX5_put_9 ?_
  refine lv_iv (y := (nI ((6 * g) + w))) (nI_add (6 * g) w) ?_
  refine lv_iload_n hx hb dX5_put_10 rfl (lv_at hl 3 rfl) ?_
  refine ias_n (k := (6 * g) + w) hx hb hK hP hD hS 4 rfl (by omega) (by decide) dX5_put_11 (fun H locs hP hD hS => ?_)
  have hP : va_P D vwCl [(mx, .inr (5, [.int th, .ref mh, .int (nI R), .ref mw, .ref ml, .int (nI G), .ref mp, .ref mq, .ref mb])), (mh, .inl (cy 0, 50, .inl eh)), (mw, .inl (cy 0, 6, .inl ew)), (ml, .inl (cy 0, 6, .inl el)), (mp, .inl (cy 0, 72, .inl (upd ep ((6 * g) + w) val))), (mq, .inl (cy 0, 2, .inl en)), (mb, .inl (cy 0, 50, .inl eb))] H := hP
  have hD : va_D A [(mx, .inr (5, [.int th, .ref mh, .int (nI R), .ref mw, .ref ml, .int (nI G), .ref mp, .ref mq, .ref mb])), (mh, .inl (cy 0, 50, .inl eh)), (mw, .inl (cy 0, 6, .inl ew)), (ml, .inl (cy 0, 6, .inl el)), (mp, .inl (cy 0, 72, .inl (upd ep ((6 * g) + w) val))), (mq, .inl (cy 0, 2, .inl en)), (mb, .inl (cy 0, 50, .inl eb))] := hD
  subst hQ
  exact en_v (tv := (upd ep ((6 * g) + w) val)) hx hb hr hlocks (by rw [F_X5_put]) hK (by first | with_reducible exact hP | exact hP) (by first | with_reducible exact hD | exact hD) hS (Nat.le_refl _) (Nat.le_refl _) dX5_put_12

def F_X5_swarm (eh : Nat → Int32) (x : Int32) (y : Int32) (many : Int32) : Int32 × Int32 × (Nat → Int32) :=
  if (F_X5_isCell x y) = 0 then
    ((F_X5_fail 1).1, (F_X5_fail 1).2, eh)
  else
    if (F_X5_isIn many 0 40) = 0 then
      ((F_X5_fail 2).1, (F_X5_fail 2).2, eh)
    else
      ((eh (((10 * y) + x) : Int32).toNatClampNeg), 0, (upd eh (((10 * y) + x) : Int32).toNatClampNeg many))
set_option maxHeartbeats 4000000 in
set_option maxRecDepth 100000 in
theorem k_X5_swarm (l : Launch) (D : va_G) (cy : Nat → ClassId) (sz : Nat) (mx mh mw ml mp mq mb : Nat) (th : Int32) (eh : Nat → Int32) (ew : Nat → Int32) (el : Nat → Int32) (ep : Nat → Int32) (en : Nat → Int32) (eb : Nat → Int32) (R : Nat) (G : Nat) (x : Int32) (y : Int32) (many : Int32) (hR : R ≤ 6) (hG : G ≤ 12) : MTa l D cy yX5_swarm wsX5_swarm 2 0 0 43 [(mx, .inr (5, [.int th, .ref mh, .int (nI R), .ref mw, .ref ml, .int (nI G), .ref mp, .ref mq, .ref mb])), (mh, .inl (cy 0, 50, .inl eh)), (mw, .inl (cy 0, 6, .inl ew)), (ml, .inl (cy 0, 6, .inl el)), (mp, .inl (cy 0, 72, .inl ep)), (mq, .inl (cy 0, 2, .inl en)), (mb, .inl (cy 0, 50, .inl eb))] sz [.ref mx, .int x, .int y, .int many] (fun A => QiT D cy (fun (t : Int32 × Int32 × (Nat → Int32)) => t.1) (fun (t : Int32 × Int32 × (Nat → Int32)) => [(mx, .inr (5, [.int t.2.1, .ref mh, .int (nI R), .ref mw, .ref ml, .int (nI G), .ref mp, .ref mq, .ref mb])), (mh, .inl (cy 0, 50, .inl t.2.2)), (mw, .inl (cy 0, 6, .inl ew)), (ml, .inl (cy 0, 6, .inl el)), (mp, .inl (cy 0, 72, .inl ep)), (mq, .inl (cy 0, 2, .inl en)), (mb, .inl (cy 0, 50, .inl eb))]) (F_X5_swarm eh x y many) A) := by
  refine ofWT (cc := cX5_swarm) (maxL := 5) (ret := (some .int)) (own := RX5) (by decide) rfl (Nat.le_of_ble_eq_true rfl) rfl ?_
  intro p e s m args below meth c A ls hx hb hr hml hts hown hlocks hin hN hK hP hD hA hl
  have hS : va_S A s.heap s.heap [] := va_S.rf
  have hl : lv_has ls 5 [(0, .ref mx), (1, .int x), (2, .int y), (3, .int many)] := hl
  have hin5 : ∀ w ∈ u_ws RX5 TX5 9, w ∈ wsX5_swarm := (fun w h => List.mem_cons_of_mem _ (List.mem_append_right _ h))
  generalize hQ : MQ below ((fun A => QiT D cy (fun (t : Int32 × Int32 × (Nat → Int32)) => t.1) (fun (t : Int32 × Int32 × (Nat → Int32)) => [(mx, .inr (5, [.int t.2.1, .ref mh, .int (nI R), .ref mw, .ref ml, .int (nI G), .ref mp, .ref mq, .ref mb])), (mh, .inl (cy 0, 50, .inl t.2.2)), (mw, .inl (cy 0, 6, .inl ew)), (ml, .inl (cy 0, 6, .inl el)), (mp, .inl (cy 0, 72, .inl ep)), (mq, .inl (cy 0, 2, .inl en)), (mb, .inl (cy 0, 50, .inl eb))]) (F_X5_swarm eh x y many) A) A) args s 0 0 A = Q
  refine lv_aload_n hx hb dX5_swarm_0 rfl (lv_at hl 0 rfl) ?_
  refine lv_iconst (v := 0) hx hb dX5_swarm_1 (by decide) ?_
  refine va_put (D := D) (ci := 5) (v := .int 0) (ty := .int) (C := RX5) (T := TX5) (N := 9) hx hb hts hin5 tyX5 tyX5_ok nmX5 hown hK hP hD hS 0 rfl rfl 0 (by decide) (hts (.fieldLink RX5 28 "FireflyInnModel" "thrown" "I") (List.mem_of_getElem? (i := 1) rfl)) (fun _ h9 => h9) rfl (by decide +kernel) rfl rfl (Nat.le_of_ble_eq_true rfl) dX5_swarm_2 (fun H locs hP hD hS => ?_)
  have hP : va_P D vwCl [(mx, .inr (5, [.int 0, .ref mh, .int (nI R), .ref mw, .ref ml, .int (nI G), .ref mp, .ref mq, .ref mb])), (mh, .inl (cy 0, 50, .inl eh)), (mw, .inl (cy 0, 6, .inl ew)), (ml, .inl (cy 0, 6, .inl el)), (mp, .inl (cy 0, 72, .inl ep)), (mq, .inl (cy 0, 2, .inl en)), (mb, .inl (cy 0, 50, .inl eb))] H := hP
  have hD : va_D A [(mx, .inr (5, [.int 0, .ref mh, .int (nI R), .ref mw, .ref ml, .int (nI G), .ref mp, .ref mq, .ref mb])), (mh, .inl (cy 0, 50, .inl eh)), (mw, .inl (cy 0, 6, .inl ew)), (ml, .inl (cy 0, 6, .inl el)), (mp, .inl (cy 0, 72, .inl ep)), (mq, .inl (cy 0, 2, .inl en)), (mb, .inl (cy 0, 50, .inl eb))] := hD
  refine lv_iload_n hx hb dX5_swarm_5 rfl (lv_at hl 1 rfl) ?_
  refine lv_iload_n hx hb dX5_swarm_6 rfl (lv_at hl 2 rfl) ?_
  refine cl_i (wr := [(mx, .inr (5, [.int 0, .ref mh, .int (nI R), .ref mw, .ref ml, .int (nI G), .ref mp, .ref mq, .ref mb])), (mh, .inl (cy 0, 50, .inl eh)), (mw, .inl (cy 0, 6, .inl ew)), (ml, .inl (cy 0, 6, .inl el)), (mp, .inl (cy 0, 72, .inl ep)), (mq, .inl (cy 0, 2, .inl en)), (mb, .inl (cy 0, 50, .inl eb))]) (w2 := [(mx, .inr (5, [.int 0, .ref mh, .int (nI R), .ref mw, .ref ml, .int (nI G), .ref mp, .ref mq, .ref mb])), (mh, .inl (cy 0, 50, .inl eh)), (mw, .inl (cy 0, 6, .inl ew)), (ml, .inl (cy 0, 6, .inl el)), (mp, .inl (cy 0, 72, .inl ep)), (mq, .inl (cy 0, 2, .inl en)), (mb, .inl (cy 0, 50, .inl eb))]) (rn_S (As := [.int x, .int y]) (rest := []) ⟨hx, hb, hml, hown, hts⟩ (k_X5_isCell l D cy _ x y) (va_cwS 2 hts gX5_swarm_X5_isCell rfl rfl rfl (by decide +kernel) ⟨Nat.le_of_ble_eq_true rfl, Nat.le_of_ble_eq_true rfl⟩) hN hK hP hD [] rfl (by decide) rfl hl.1 rfl (Nat.le_of_ble_eq_true rfl) dX5_swarm_7 ⟨Nat.le_of_ble_eq_true rfl, Nat.le_of_ble_eq_true rfl⟩) hP hD hS hA [] [0, 1, 2, 3, 4, 5, 6] [0, 1, 2, 3, 4, 5, 6] rfl rfl (by decide) (by decide) rfl (by decide) (fun H locs hP hD hS => ?_)
  refine lv_if_ne (tgt := 19) hx hb dX5_swarm_10 (by decide) (fun c10 => ?_) (fun c10 => ?_)
  · refine lv_iload_n hx hb dX5_swarm_19 rfl (lv_at hl 3 rfl) ?_
    refine lv_iconst (v := 0) hx hb dX5_swarm_20 (by decide) ?_
    refine lv_bipush (v := 40) hx hb dX5_swarm_21 (by decide) ?_
    refine cl_i (wr := [(mx, .inr (5, [.int 0, .ref mh, .int (nI R), .ref mw, .ref ml, .int (nI G), .ref mp, .ref mq, .ref mb])), (mh, .inl (cy 0, 50, .inl eh)), (mw, .inl (cy 0, 6, .inl ew)), (ml, .inl (cy 0, 6, .inl el)), (mp, .inl (cy 0, 72, .inl ep)), (mq, .inl (cy 0, 2, .inl en)), (mb, .inl (cy 0, 50, .inl eb))]) (w2 := [(mx, .inr (5, [.int 0, .ref mh, .int (nI R), .ref mw, .ref ml, .int (nI G), .ref mp, .ref mq, .ref mb])), (mh, .inl (cy 0, 50, .inl eh)), (mw, .inl (cy 0, 6, .inl ew)), (ml, .inl (cy 0, 6, .inl el)), (mp, .inl (cy 0, 72, .inl ep)), (mq, .inl (cy 0, 2, .inl en)), (mb, .inl (cy 0, 50, .inl eb))]) (rn_S (As := [.int many, .int 0, .int 40]) (rest := []) ⟨hx, hb, hml, hown, hts⟩ (k_X5_isIn l D cy _ many 0 40) (va_cwS 3 hts gX5_swarm_X5_isIn rfl rfl rfl (by decide +kernel) ⟨Nat.le_of_ble_eq_true rfl, Nat.le_of_ble_eq_true rfl⟩) hN hK hP hD [] rfl (by decide) rfl hl.1 rfl (Nat.le_of_ble_eq_true rfl) dX5_swarm_23 ⟨Nat.le_of_ble_eq_true rfl, Nat.le_of_ble_eq_true rfl⟩) hP hD hS hA [] [0, 1, 2, 3, 4, 5, 6] [0, 1, 2, 3, 4, 5, 6] rfl rfl (by decide) (by decide) rfl (by decide) (fun H locs hP hD hS => ?_)
    refine lv_if_ne (tgt := 35) hx hb dX5_swarm_26 (by decide) (fun c26 => ?_) (fun c26 => ?_)
    · refine lv_aload_n hx hb dX5_swarm_35 rfl (lv_at hl 0 rfl) ?_
      refine va_get (D := D) (ci := 5) (v := .ref mh) (C := RX5) (T := TX5) (N := 9) hx hb hts hin5 hown hK hP 0 rfl rfl 1 (by decide) (hts (.fieldLink RX5 9 "FireflyInnModel" "hedge" "[I") (List.mem_of_getElem? (i := 2) rfl)) (fun _ h9 => h9) rfl dX5_swarm_36 ?_
      refine lv_bipush (v := 10) hx hb dX5_swarm_39 (by decide) ?_
      refine lv_iload_n hx hb dX5_swarm_41 rfl (lv_at hl 2 rfl) ?_
      refine lv_imul hx hb dX5_swarm_42 ?_
      refine lv_iload_n hx hb dX5_swarm_43 rfl (lv_at hl 1 rfl) ?_
      refine lv_iadd hx hb dX5_swarm_44 ?_
      refine va_iald hx hb hK hP 1 0 rfl rfl (isCell_in c10) dX5_swarm_45 ?_
      refine lv_istore (lv' := [(4, .int (eh (((10 * y) + x) : Int32).toNatClampNeg)), (0, .ref mx), (1, .int x), (2, .int y), (3, .int many)]) hx hb dX5_swarm_46 hl (by decide) rfl (fun ls hl => ?_)
      refine lv_aload_n hx hb dX5_swarm_48 rfl (lv_at hl 1 rfl) ?_
      refine va_get (D := D) (ci := 5) (v := .ref mh) (C := RX5) (T := TX5) (N := 9) hx hb hts hin5 hown hK hP 0 rfl rfl 1 (by decide) (hts (.fieldLink RX5 9 "FireflyInnModel" "hedge" "[I") (List.mem_of_getElem? (i := 2) rfl)) (fun _ h9 => h9) rfl dX5_swarm_49 ?_
      refine lv_bipush (v := 10) hx hb dX5_swarm_52 (by decide) ?_
      refine lv_iload_n hx hb dX5_swarm_54 rfl (lv_at hl 3 rfl) ?_
      refine lv_imul hx hb dX5_swarm_55 ?_
      refine lv_iload_n hx hb dX5_swarm_56 rfl (lv_at hl 2 rfl) ?_
      refine lv_iadd hx hb dX5_swarm_57 ?_
      refine lv_iload_n hx hb dX5_swarm_58 rfl (lv_at hl 4 rfl) ?_
      refine va_iast hx hb hK hP hD hS 1 0 rfl rfl (isCell_in c10) dX5_swarm_59 (fun H locs hP hD hS => ?_)
      have hP : va_P D vwCl [(mx, .inr (5, [.int 0, .ref mh, .int (nI R), .ref mw, .ref ml, .int (nI G), .ref mp, .ref mq, .ref mb])), (mh, .inl (cy 0, 50, .inl (upd eh (((10 * y) + x) : Int32).toNatClampNeg many))), (mw, .inl (cy 0, 6, .inl ew)), (ml, .inl (cy 0, 6, .inl el)), (mp, .inl (cy 0, 72, .inl ep)), (mq, .inl (cy 0, 2, .inl en)), (mb, .inl (cy 0, 50, .inl eb))] H := hP
      have hD : va_D A [(mx, .inr (5, [.int 0, .ref mh, .int (nI R), .ref mw, .ref ml, .int (nI G), .ref mp, .ref mq, .ref mb])), (mh, .inl (cy 0, 50, .inl (upd eh (((10 * y) + x) : Int32).toNatClampNeg many))), (mw, .inl (cy 0, 6, .inl ew)), (ml, .inl (cy 0, 6, .inl el)), (mp, .inl (cy 0, 72, .inl ep)), (mq, .inl (cy 0, 2, .inl en)), (mb, .inl (cy 0, 50, .inl eb))] := hD
      refine lv_iload hx hb dX5_swarm_60 (lv_at hl 0 rfl) ?_
      subst hQ
      exact en_i (tv := ((eh (((10 * y) + x) : Int32).toNatClampNeg), 0, (upd eh (((10 * y) + x) : Int32).toNatClampNeg many))) hx hb hr hlocks (by rw [F_X5_swarm, if_neg c10, if_neg c26]) rfl hK (by first | with_reducible exact hP | exact hP) (by first | with_reducible exact hD | exact hD) hS (Nat.le_refl _) (Nat.le_refl _) dX5_swarm_62
    · refine lv_aload_n hx hb dX5_swarm_29 rfl (lv_at hl 0 rfl) ?_
      refine lv_iconst (v := 2) hx hb dX5_swarm_30 (by decide) ?_
      refine cl_i (wr := []) (w2 := [(mx, .inr (5, [.int ((F_X5_fail 2).2), .ref mh, .int (nI R), .ref mw, .ref ml, .int (nI G), .ref mp, .ref mq, .ref mb])), (mh, .inl (cy 0, 50, .inl eh)), (mw, .inl (cy 0, 6, .inl ew)), (ml, .inl (cy 0, 6, .inl el)), (mp, .inl (cy 0, 72, .inl ep)), (mq, .inl (cy 0, 2, .inl en)), (mb, .inl (cy 0, 50, .inl eb))]) (rn_V (As := [.int 2]) (rest := []) (ci := 5) (q0 := 0) ⟨hx, hb, hml, hown, hts⟩ (k_X5_fail l D cy _ mx mh mw ml mp mq mb 0 eh ew el ep en eb R G 2 hR hG) (cwV 1 hts gX5_swarm_X5_fail rfl rfl rfl (by decide +kernel) ⟨Nat.le_of_ble_eq_true rfl, Nat.le_of_ble_eq_true rfl⟩) hN hK hP hD [0, 1, 2, 3, 4, 5, 6] rfl (by decide) rfl rfl rfl rfl hl.1 rfl (Nat.le_of_ble_eq_true rfl) dX5_swarm_31 ⟨Nat.le_of_ble_eq_true rfl, Nat.le_of_ble_eq_true rfl⟩) hP hD hS hA [0, 1, 2, 3, 4, 5, 6] [] [0, 1, 2, 3, 4, 5, 6] rfl rfl (by decide) (by decide) rfl (by decide) (fun H locs hP hD hS => ?_)
      subst hQ
      exact en_i (tv := ((F_X5_fail 2).1, (F_X5_fail 2).2, eh)) hx hb hr hlocks (by rw [F_X5_swarm, if_neg c10, if_pos c26]) rfl hK (by first | with_reducible exact hP | exact hP) (by first | with_reducible exact hD | exact hD) hS (Nat.le_refl _) (Nat.le_refl _) dX5_swarm_34
  · refine lv_aload_n hx hb dX5_swarm_13 rfl (lv_at hl 0 rfl) ?_
    refine lv_iconst (v := 1) hx hb dX5_swarm_14 (by decide) ?_
    refine cl_i (wr := []) (w2 := [(mx, .inr (5, [.int ((F_X5_fail 1).2), .ref mh, .int (nI R), .ref mw, .ref ml, .int (nI G), .ref mp, .ref mq, .ref mb])), (mh, .inl (cy 0, 50, .inl eh)), (mw, .inl (cy 0, 6, .inl ew)), (ml, .inl (cy 0, 6, .inl el)), (mp, .inl (cy 0, 72, .inl ep)), (mq, .inl (cy 0, 2, .inl en)), (mb, .inl (cy 0, 50, .inl eb))]) (rn_V (As := [.int 1]) (rest := []) (ci := 5) (q0 := 0) ⟨hx, hb, hml, hown, hts⟩ (k_X5_fail l D cy _ mx mh mw ml mp mq mb 0 eh ew el ep en eb R G 1 hR hG) (cwV 1 hts gX5_swarm_X5_fail rfl rfl rfl (by decide +kernel) ⟨Nat.le_of_ble_eq_true rfl, Nat.le_of_ble_eq_true rfl⟩) hN hK hP hD [0, 1, 2, 3, 4, 5, 6] rfl (by decide) rfl rfl rfl rfl hl.1 rfl (Nat.le_of_ble_eq_true rfl) dX5_swarm_15 ⟨Nat.le_of_ble_eq_true rfl, Nat.le_of_ble_eq_true rfl⟩) hP hD hS hA [0, 1, 2, 3, 4, 5, 6] [] [0, 1, 2, 3, 4, 5, 6] rfl rfl (by decide) (by decide) rfl (by decide) (fun H locs hP hD hS => ?_)
    subst hQ
    exact en_i (tv := ((F_X5_fail 1).1, (F_X5_fail 1).2, eh)) hx hb hr hlocks (by rw [F_X5_swarm, if_pos c10]) rfl hK (by first | with_reducible exact hP | exact hP) (by first | with_reducible exact hD | exact hD) hS (Nat.le_refl _) (Nat.le_refl _) dX5_swarm_18

def F_X5_cell (eh : Nat → Int32) (x : Int32) (y : Int32) : Int32 × Int32 :=
  if (F_X5_isCell x y) = 0 then
    ((F_X5_fail 1).1, (F_X5_fail 1).2)
  else
    ((eh (((10 * y) + x) : Int32).toNatClampNeg), 0)
set_option maxHeartbeats 4000000 in
set_option maxRecDepth 100000 in
theorem k_X5_cell (l : Launch) (D : va_G) (cy : Nat → ClassId) (sz : Nat) (mx mh mw ml mp mq mb : Nat) (th : Int32) (eh : Nat → Int32) (ew : Nat → Int32) (el : Nat → Int32) (ep : Nat → Int32) (en : Nat → Int32) (eb : Nat → Int32) (R : Nat) (G : Nat) (x : Int32) (y : Int32) (hR : R ≤ 6) (hG : G ≤ 12) : MTa l D cy yX5_cell wsX5_cell 2 0 0 43 [(mx, .inr (5, [.int th, .ref mh, .int (nI R), .ref mw, .ref ml, .int (nI G), .ref mp, .ref mq, .ref mb])), (mh, .inl (cy 0, 50, .inl eh)), (mw, .inl (cy 0, 6, .inl ew)), (ml, .inl (cy 0, 6, .inl el)), (mp, .inl (cy 0, 72, .inl ep)), (mq, .inl (cy 0, 2, .inl en)), (mb, .inl (cy 0, 50, .inl eb))] sz [.ref mx, .int x, .int y] (fun A => QiT D cy (fun (t : Int32 × Int32) => t.1) (fun (t : Int32 × Int32) => [(mx, .inr (5, [.int t.2, .ref mh, .int (nI R), .ref mw, .ref ml, .int (nI G), .ref mp, .ref mq, .ref mb])), (mh, .inl (cy 0, 50, .inl eh)), (mw, .inl (cy 0, 6, .inl ew)), (ml, .inl (cy 0, 6, .inl el)), (mp, .inl (cy 0, 72, .inl ep)), (mq, .inl (cy 0, 2, .inl en)), (mb, .inl (cy 0, 50, .inl eb))]) (F_X5_cell eh x y) A) := by
  refine ofWT (cc := cX5_cell) (maxL := 3) (ret := (some .int)) (own := RX5) (by decide) rfl (Nat.le_of_ble_eq_true rfl) rfl ?_
  intro p e s m args below meth c A ls hx hb hr hml hts hown hlocks hin hN hK hP hD hA hl
  have hS : va_S A s.heap s.heap [] := va_S.rf
  have hl : lv_has ls 3 [(0, .ref mx), (1, .int x), (2, .int y)] := hl
  have hin5 : ∀ w ∈ u_ws RX5 TX5 9, w ∈ wsX5_cell := (fun w h => List.mem_cons_of_mem _ (List.mem_append_right _ h))
  generalize hQ : MQ below ((fun A => QiT D cy (fun (t : Int32 × Int32) => t.1) (fun (t : Int32 × Int32) => [(mx, .inr (5, [.int t.2, .ref mh, .int (nI R), .ref mw, .ref ml, .int (nI G), .ref mp, .ref mq, .ref mb])), (mh, .inl (cy 0, 50, .inl eh)), (mw, .inl (cy 0, 6, .inl ew)), (ml, .inl (cy 0, 6, .inl el)), (mp, .inl (cy 0, 72, .inl ep)), (mq, .inl (cy 0, 2, .inl en)), (mb, .inl (cy 0, 50, .inl eb))]) (F_X5_cell eh x y) A) A) args s 0 0 A = Q
  refine lv_aload_n hx hb dX5_cell_0 rfl (lv_at hl 0 rfl) ?_
  refine lv_iconst (v := 0) hx hb dX5_cell_1 (by decide) ?_
  refine va_put (D := D) (ci := 5) (v := .int 0) (ty := .int) (C := RX5) (T := TX5) (N := 9) hx hb hts hin5 tyX5 tyX5_ok nmX5 hown hK hP hD hS 0 rfl rfl 0 (by decide) (hts (.fieldLink RX5 28 "FireflyInnModel" "thrown" "I") (List.mem_of_getElem? (i := 1) rfl)) (fun _ h9 => h9) rfl (by decide +kernel) rfl rfl (Nat.le_of_ble_eq_true rfl) dX5_cell_2 (fun H locs hP hD hS => ?_)
  have hP : va_P D vwCl [(mx, .inr (5, [.int 0, .ref mh, .int (nI R), .ref mw, .ref ml, .int (nI G), .ref mp, .ref mq, .ref mb])), (mh, .inl (cy 0, 50, .inl eh)), (mw, .inl (cy 0, 6, .inl ew)), (ml, .inl (cy 0, 6, .inl el)), (mp, .inl (cy 0, 72, .inl ep)), (mq, .inl (cy 0, 2, .inl en)), (mb, .inl (cy 0, 50, .inl eb))] H := hP
  have hD : va_D A [(mx, .inr (5, [.int 0, .ref mh, .int (nI R), .ref mw, .ref ml, .int (nI G), .ref mp, .ref mq, .ref mb])), (mh, .inl (cy 0, 50, .inl eh)), (mw, .inl (cy 0, 6, .inl ew)), (ml, .inl (cy 0, 6, .inl el)), (mp, .inl (cy 0, 72, .inl ep)), (mq, .inl (cy 0, 2, .inl en)), (mb, .inl (cy 0, 50, .inl eb))] := hD
  refine lv_iload_n hx hb dX5_cell_5 rfl (lv_at hl 1 rfl) ?_
  refine lv_iload_n hx hb dX5_cell_6 rfl (lv_at hl 2 rfl) ?_
  refine cl_i (wr := [(mx, .inr (5, [.int 0, .ref mh, .int (nI R), .ref mw, .ref ml, .int (nI G), .ref mp, .ref mq, .ref mb])), (mh, .inl (cy 0, 50, .inl eh)), (mw, .inl (cy 0, 6, .inl ew)), (ml, .inl (cy 0, 6, .inl el)), (mp, .inl (cy 0, 72, .inl ep)), (mq, .inl (cy 0, 2, .inl en)), (mb, .inl (cy 0, 50, .inl eb))]) (w2 := [(mx, .inr (5, [.int 0, .ref mh, .int (nI R), .ref mw, .ref ml, .int (nI G), .ref mp, .ref mq, .ref mb])), (mh, .inl (cy 0, 50, .inl eh)), (mw, .inl (cy 0, 6, .inl ew)), (ml, .inl (cy 0, 6, .inl el)), (mp, .inl (cy 0, 72, .inl ep)), (mq, .inl (cy 0, 2, .inl en)), (mb, .inl (cy 0, 50, .inl eb))]) (rn_S (As := [.int x, .int y]) (rest := []) ⟨hx, hb, hml, hown, hts⟩ (k_X5_isCell l D cy _ x y) (va_cwS 2 hts gX5_cell_X5_isCell rfl rfl rfl (by decide +kernel) ⟨Nat.le_of_ble_eq_true rfl, Nat.le_of_ble_eq_true rfl⟩) hN hK hP hD [] rfl (by decide) rfl hl.1 rfl (Nat.le_of_ble_eq_true rfl) dX5_cell_7 ⟨Nat.le_of_ble_eq_true rfl, Nat.le_of_ble_eq_true rfl⟩) hP hD hS hA [] [0, 1, 2, 3, 4, 5, 6] [0, 1, 2, 3, 4, 5, 6] rfl rfl (by decide) (by decide) rfl (by decide) (fun H locs hP hD hS => ?_)
  refine lv_if_eq (tgt := 27) hx hb dX5_cell_10 (by decide) (fun c10 => ?_) (fun c10 => ?_)
  · refine lv_aload_n hx hb dX5_cell_27 rfl (lv_at hl 0 rfl) ?_
    refine lv_iconst (v := 1) hx hb dX5_cell_28 (by decide) ?_
    refine cl_i (wr := []) (w2 := [(mx, .inr (5, [.int ((F_X5_fail 1).2), .ref mh, .int (nI R), .ref mw, .ref ml, .int (nI G), .ref mp, .ref mq, .ref mb])), (mh, .inl (cy 0, 50, .inl eh)), (mw, .inl (cy 0, 6, .inl ew)), (ml, .inl (cy 0, 6, .inl el)), (mp, .inl (cy 0, 72, .inl ep)), (mq, .inl (cy 0, 2, .inl en)), (mb, .inl (cy 0, 50, .inl eb))]) (rn_V (As := [.int 1]) (rest := []) (ci := 5) (q0 := 0) ⟨hx, hb, hml, hown, hts⟩ (k_X5_fail l D cy _ mx mh mw ml mp mq mb 0 eh ew el ep en eb R G 1 hR hG) (cwV 1 hts gX5_cell_X5_fail rfl rfl rfl (by decide +kernel) ⟨Nat.le_of_ble_eq_true rfl, Nat.le_of_ble_eq_true rfl⟩) hN hK hP hD [0, 1, 2, 3, 4, 5, 6] rfl (by decide) rfl rfl rfl rfl hl.1 rfl (Nat.le_of_ble_eq_true rfl) dX5_cell_29 ⟨Nat.le_of_ble_eq_true rfl, Nat.le_of_ble_eq_true rfl⟩) hP hD hS hA [0, 1, 2, 3, 4, 5, 6] [] [0, 1, 2, 3, 4, 5, 6] rfl rfl (by decide) (by decide) rfl (by decide) (fun H locs hP hD hS => ?_)
    subst hQ
    exact en_i (tv := ((F_X5_fail 1).1, (F_X5_fail 1).2)) hx hb hr hlocks (by rw [F_X5_cell, if_pos c10]) rfl hK (by first | with_reducible exact hP | exact hP) (by first | with_reducible exact hD | exact hD) hS (Nat.le_refl _) (Nat.le_refl _) dX5_cell_32
  · refine lv_aload_n hx hb dX5_cell_13 rfl (lv_at hl 0 rfl) ?_
    refine va_get (D := D) (ci := 5) (v := .ref mh) (C := RX5) (T := TX5) (N := 9) hx hb hts hin5 hown hK hP 0 rfl rfl 1 (by decide) (hts (.fieldLink RX5 9 "FireflyInnModel" "hedge" "[I") (List.mem_of_getElem? (i := 2) rfl)) (fun _ h9 => h9) rfl dX5_cell_14 ?_
    refine lv_bipush (v := 10) hx hb dX5_cell_17 (by decide) ?_
    refine lv_iload_n hx hb dX5_cell_19 rfl (lv_at hl 2 rfl) ?_
    refine lv_imul hx hb dX5_cell_20 ?_
    refine lv_iload_n hx hb dX5_cell_21 rfl (lv_at hl 1 rfl) ?_
    refine lv_iadd hx hb dX5_cell_22 ?_
    refine va_iald hx hb hK hP 1 0 rfl rfl (isCell_in c10) dX5_cell_23 ?_
    refine lv_goto (tgt := 32) hx hb dX5_cell_24 (by decide) ?_
    subst hQ
    exact en_i (tv := ((eh (((10 * y) + x) : Int32).toNatClampNeg), 0)) hx hb hr hlocks (by rw [F_X5_cell, if_neg c10]) rfl hK (by first | with_reducible exact hP | exact hP) (by first | with_reducible exact hD | exact hD) hS (Nat.le_refl _) (Nat.le_refl _) dX5_cell_32

def F_X5_open (ew : Nat → Int32) (el : Nat → Int32) (R : Nat) (x : Int32) : Int32 × Int32 × Int32 × (Nat → Int32) × (Nat → Int32) :=
  if (F_X5_isIn x 0 9) = 0 then
    ((F_X5_fail 1).1, (F_X5_fail 1).2, (nI R), ew, el)
  else
    if (nI R) = 6 then
      ((F_X5_fail 2).1, (F_X5_fail 2).2, (nI R), ew, el)
    else
      (((nI (R + 1)) - 1), 0, (nI (R + 1)), (upd ew R x), (upd el R 1))
set_option maxHeartbeats 4000000 in
set_option maxRecDepth 100000 in
theorem k_X5_open (l : Launch) (D : va_G) (cy : Nat → ClassId) (sz : Nat) (mx mh mw ml mp mq mb : Nat) (th : Int32) (eh : Nat → Int32) (ew : Nat → Int32) (el : Nat → Int32) (ep : Nat → Int32) (en : Nat → Int32) (eb : Nat → Int32) (R : Nat) (G : Nat) (x : Int32) (hR : R ≤ 6) (hG : G ≤ 12) : MTa l D cy yX5_open wsX5_open 1 0 0 22 [(mx, .inr (5, [.int th, .ref mh, .int (nI R), .ref mw, .ref ml, .int (nI G), .ref mp, .ref mq, .ref mb])), (mh, .inl (cy 0, 50, .inl eh)), (mw, .inl (cy 0, 6, .inl ew)), (ml, .inl (cy 0, 6, .inl el)), (mp, .inl (cy 0, 72, .inl ep)), (mq, .inl (cy 0, 2, .inl en)), (mb, .inl (cy 0, 50, .inl eb))] sz [.ref mx, .int x] (fun A => QiT D cy (fun (t : Int32 × Int32 × Int32 × (Nat → Int32) × (Nat → Int32)) => t.1) (fun (t : Int32 × Int32 × Int32 × (Nat → Int32) × (Nat → Int32)) => [(mx, .inr (5, [.int t.2.1, .ref mh, .int t.2.2.1, .ref mw, .ref ml, .int (nI G), .ref mp, .ref mq, .ref mb])), (mh, .inl (cy 0, 50, .inl eh)), (mw, .inl (cy 0, 6, .inl t.2.2.2.1)), (ml, .inl (cy 0, 6, .inl t.2.2.2.2)), (mp, .inl (cy 0, 72, .inl ep)), (mq, .inl (cy 0, 2, .inl en)), (mb, .inl (cy 0, 50, .inl eb))]) (F_X5_open ew el R x) A) := by
  refine ofWT (cc := cX5_open) (maxL := 2) (ret := (some .int)) (own := RX5) (by decide) rfl (Nat.le_of_ble_eq_true rfl) rfl ?_
  intro p e s m args below meth c A ls hx hb hr hml hts hown hlocks hin hN hK hP hD hA hl
  have hS : va_S A s.heap s.heap [] := va_S.rf
  have hl : lv_has ls 2 [(0, .ref mx), (1, .int x)] := hl
  have hin5 : ∀ w ∈ u_ws RX5 TX5 9, w ∈ wsX5_open := (fun w h => List.mem_cons_of_mem _ (List.mem_append_right _ h))
  generalize hQ : MQ below ((fun A => QiT D cy (fun (t : Int32 × Int32 × Int32 × (Nat → Int32) × (Nat → Int32)) => t.1) (fun (t : Int32 × Int32 × Int32 × (Nat → Int32) × (Nat → Int32)) => [(mx, .inr (5, [.int t.2.1, .ref mh, .int t.2.2.1, .ref mw, .ref ml, .int (nI G), .ref mp, .ref mq, .ref mb])), (mh, .inl (cy 0, 50, .inl eh)), (mw, .inl (cy 0, 6, .inl t.2.2.2.1)), (ml, .inl (cy 0, 6, .inl t.2.2.2.2)), (mp, .inl (cy 0, 72, .inl ep)), (mq, .inl (cy 0, 2, .inl en)), (mb, .inl (cy 0, 50, .inl eb))]) (F_X5_open ew el R x) A) A) args s 0 0 A = Q
  refine lv_aload_n hx hb dX5_open_0 rfl (lv_at hl 0 rfl) ?_
  refine lv_iconst (v := 0) hx hb dX5_open_1 (by decide) ?_
  refine va_put (D := D) (ci := 5) (v := .int 0) (ty := .int) (C := RX5) (T := TX5) (N := 9) hx hb hts hin5 tyX5 tyX5_ok nmX5 hown hK hP hD hS 0 rfl rfl 0 (by decide) (hts (.fieldLink RX5 28 "FireflyInnModel" "thrown" "I") (List.mem_of_getElem? (i := 1) rfl)) (fun _ h9 => h9) rfl (by decide +kernel) rfl rfl (Nat.le_of_ble_eq_true rfl) dX5_open_2 (fun H locs hP hD hS => ?_)
  have hP : va_P D vwCl [(mx, .inr (5, [.int 0, .ref mh, .int (nI R), .ref mw, .ref ml, .int (nI G), .ref mp, .ref mq, .ref mb])), (mh, .inl (cy 0, 50, .inl eh)), (mw, .inl (cy 0, 6, .inl ew)), (ml, .inl (cy 0, 6, .inl el)), (mp, .inl (cy 0, 72, .inl ep)), (mq, .inl (cy 0, 2, .inl en)), (mb, .inl (cy 0, 50, .inl eb))] H := hP
  have hD : va_D A [(mx, .inr (5, [.int 0, .ref mh, .int (nI R), .ref mw, .ref ml, .int (nI G), .ref mp, .ref mq, .ref mb])), (mh, .inl (cy 0, 50, .inl eh)), (mw, .inl (cy 0, 6, .inl ew)), (ml, .inl (cy 0, 6, .inl el)), (mp, .inl (cy 0, 72, .inl ep)), (mq, .inl (cy 0, 2, .inl en)), (mb, .inl (cy 0, 50, .inl eb))] := hD
  refine lv_iload_n hx hb dX5_open_5 rfl (lv_at hl 1 rfl) ?_
  refine lv_iconst (v := 0) hx hb dX5_open_6 (by decide) ?_
  refine lv_bipush (v := 9) hx hb dX5_open_7 (by decide) ?_
  refine cl_i (wr := [(mx, .inr (5, [.int 0, .ref mh, .int (nI R), .ref mw, .ref ml, .int (nI G), .ref mp, .ref mq, .ref mb])), (mh, .inl (cy 0, 50, .inl eh)), (mw, .inl (cy 0, 6, .inl ew)), (ml, .inl (cy 0, 6, .inl el)), (mp, .inl (cy 0, 72, .inl ep)), (mq, .inl (cy 0, 2, .inl en)), (mb, .inl (cy 0, 50, .inl eb))]) (w2 := [(mx, .inr (5, [.int 0, .ref mh, .int (nI R), .ref mw, .ref ml, .int (nI G), .ref mp, .ref mq, .ref mb])), (mh, .inl (cy 0, 50, .inl eh)), (mw, .inl (cy 0, 6, .inl ew)), (ml, .inl (cy 0, 6, .inl el)), (mp, .inl (cy 0, 72, .inl ep)), (mq, .inl (cy 0, 2, .inl en)), (mb, .inl (cy 0, 50, .inl eb))]) (rn_S (As := [.int x, .int 0, .int 9]) (rest := []) ⟨hx, hb, hml, hown, hts⟩ (k_X5_isIn l D cy _ x 0 9) (va_cwS 3 hts gX5_open_X5_isIn rfl rfl rfl (by decide +kernel) ⟨Nat.le_of_ble_eq_true rfl, Nat.le_of_ble_eq_true rfl⟩) hN hK hP hD [] rfl (by decide) rfl hl.1 rfl (Nat.le_of_ble_eq_true rfl) dX5_open_9 ⟨Nat.le_of_ble_eq_true rfl, Nat.le_of_ble_eq_true rfl⟩) hP hD hS hA [] [0, 1, 2, 3, 4, 5, 6] [0, 1, 2, 3, 4, 5, 6] rfl rfl (by decide) (by decide) rfl (by decide) (fun H locs hP hD hS => ?_)
  refine lv_if_ne (tgt := 21) hx hb dX5_open_12 (by decide) (fun c12 => ?_) (fun c12 => ?_)
  · refine lv_aload_n hx hb dX5_open_21 rfl (lv_at hl 0 rfl) ?_
    refine va_get (D := D) (ci := 5) (v := .int (nI R)) (C := RX5) (T := TX5) (N := 9) hx hb hts hin5 hown hK hP 0 rfl rfl 2 (by decide) (hts (.fieldLink RX5 36 "FireflyInnModel" "rooms" "I") (List.mem_of_getElem? (i := 2) rfl)) (fun _ h9 => h9) rfl dX5_open_22 ?_
    refine lv_bipush (v := 6) hx hb dX5_open_25 (by decide) ?_
    refine lv_icmp_ne (tgt := 36) hx hb dX5_open_27 (by decide) (fun c27 => ?_) (fun c27 => ?_)
    · refine lv_aload_n hx hb dX5_open_36 rfl (lv_at hl 0 rfl) ?_
      refine va_get (D := D) (ci := 5) (v := .ref mw) (C := RX5) (T := TX5) (N := 9) hx hb hts hin5 hown hK hP 0 rfl rfl 3 (by decide) (hts (.fieldLink RX5 13 "FireflyInnModel" "windows" "[I") (List.mem_of_getElem? (i := 3) rfl)) (fun _ h9 => h9) rfl dX5_open_37 ?_
      refine lv_aload_n hx hb dX5_open_40 rfl (lv_at hl 0 rfl) ?_
      refine va_get (D := D) (ci := 5) (v := .int (nI R)) (C := RX5) (T := TX5) (N := 9) hx hb hts hin5 hown hK hP 0 rfl rfl 2 (by decide) (hts (.fieldLink RX5 36 "FireflyInnModel" "rooms" "I") (List.mem_of_getElem? (i := 2) rfl)) (fun _ h9 => h9) rfl dX5_open_41 ?_
      refine lv_iload_n hx hb dX5_open_44 rfl (lv_at hl 1 rfl) ?_
      refine ias_n (k := R) hx hb hK hP hD hS 2 rfl (by have : ¬ R = 6 := fun h => c27 ((nI_eq (a := R) (b := 6) (by omega) (by omega)).mpr h); omega) (by decide) dX5_open_45 (fun H locs hP hD hS => ?_)
      have hP : va_P D vwCl [(mx, .inr (5, [.int 0, .ref mh, .int (nI R), .ref mw, .ref ml, .int (nI G), .ref mp, .ref mq, .ref mb])), (mh, .inl (cy 0, 50, .inl eh)), (mw, .inl (cy 0, 6, .inl (upd ew R x))), (ml, .inl (cy 0, 6, .inl el)), (mp, .inl (cy 0, 72, .inl ep)), (mq, .inl (cy 0, 2, .inl en)), (mb, .inl (cy 0, 50, .inl eb))] H := hP
      have hD : va_D A [(mx, .inr (5, [.int 0, .ref mh, .int (nI R), .ref mw, .ref ml, .int (nI G), .ref mp, .ref mq, .ref mb])), (mh, .inl (cy 0, 50, .inl eh)), (mw, .inl (cy 0, 6, .inl (upd ew R x))), (ml, .inl (cy 0, 6, .inl el)), (mp, .inl (cy 0, 72, .inl ep)), (mq, .inl (cy 0, 2, .inl en)), (mb, .inl (cy 0, 50, .inl eb))] := hD
      refine lv_aload_n hx hb dX5_open_46 rfl (lv_at hl 0 rfl) ?_
      refine va_get (D := D) (ci := 5) (v := .ref ml) (C := RX5) (T := TX5) (N := 9) hx hb hts hin5 hown hK hP 0 rfl rfl 4 (by decide) (hts (.fieldLink RX5 16 "FireflyInnModel" "lamps" "[I") (List.mem_of_getElem? (i := 4) rfl)) (fun _ h9 => h9) rfl dX5_open_47 ?_
      refine lv_aload_n hx hb dX5_open_50 rfl (lv_at hl 0 rfl) ?_
      refine va_get (D := D) (ci := 5) (v := .int (nI R)) (C := RX5) (T := TX5) (N := 9) hx hb hts hin5 hown hK hP 0 rfl rfl 2 (by decide) (hts (.fieldLink RX5 36 "FireflyInnModel" "rooms" "I") (List.mem_of_getElem? (i := 2) rfl)) (fun _ h9 => h9) rfl dX5_open_51 ?_
      refine lv_iconst (v := 1) hx hb dX5_open_54 (by decide) ?_
      refine ias_n (k := R) hx hb hK hP hD hS 3 rfl (by have : ¬ R = 6 := fun h => c27 ((nI_eq (a := R) (b := 6) (by omega) (by omega)).mpr h); omega) (by decide) dX5_open_55 (fun H locs hP hD hS => ?_)
      have hP : va_P D vwCl [(mx, .inr (5, [.int 0, .ref mh, .int (nI R), .ref mw, .ref ml, .int (nI G), .ref mp, .ref mq, .ref mb])), (mh, .inl (cy 0, 50, .inl eh)), (mw, .inl (cy 0, 6, .inl (upd ew R x))), (ml, .inl (cy 0, 6, .inl (upd el R 1))), (mp, .inl (cy 0, 72, .inl ep)), (mq, .inl (cy 0, 2, .inl en)), (mb, .inl (cy 0, 50, .inl eb))] H := hP
      have hD : va_D A [(mx, .inr (5, [.int 0, .ref mh, .int (nI R), .ref mw, .ref ml, .int (nI G), .ref mp, .ref mq, .ref mb])), (mh, .inl (cy 0, 50, .inl eh)), (mw, .inl (cy 0, 6, .inl (upd ew R x))), (ml, .inl (cy 0, 6, .inl (upd el R 1))), (mp, .inl (cy 0, 72, .inl ep)), (mq, .inl (cy 0, 2, .inl en)), (mb, .inl (cy 0, 50, .inl eb))] := hD
      refine lv_aload_n hx hb dX5_open_56 rfl (lv_at hl 0 rfl) ?_
      refine lv_dup hx hb dX5_open_57 rfl ?_
      refine va_get (D := D) (ci := 5) (v := .int (nI R)) (C := RX5) (T := TX5) (N := 9) hx hb hts hin5 hown hK hP 0 rfl rfl 2 (by decide) (hts (.fieldLink RX5 36 "FireflyInnModel" "rooms" "I") (List.mem_of_getElem? (i := 2) rfl)) (fun _ h9 => h9) rfl dX5_open_58 ?_
      refine lv_iconst (v := 1) hx hb dX5_open_61 (by decide) ?_
      refine lv_iadd hx hb dX5_open_62 ?_
      refine lv_iv (y := (nI (R + 1))) (nI_add R 1) ?_
      refine va_put (D := D) (ci := 5) (v := .int (nI (R + 1))) (ty := .int) (C := RX5) (T := TX5) (N := 9) hx hb hts hin5 tyX5 tyX5_ok nmX5 hown hK hP hD hS 0 rfl rfl 2 (by decide) (hts (.fieldLink RX5 36 "FireflyInnModel" "rooms" "I") (List.mem_of_getElem? (i := 2) rfl)) (fun _ h9 => h9) rfl (by decide +kernel) rfl rfl (Nat.le_of_ble_eq_true rfl) dX5_open_63 (fun H locs hP hD hS => ?_)
      have hP : va_P D vwCl [(mx, .inr (5, [.int 0, .ref mh, .int (nI (R + 1)), .ref mw, .ref ml, .int (nI G), .ref mp, .ref mq, .ref mb])), (mh, .inl (cy 0, 50, .inl eh)), (mw, .inl (cy 0, 6, .inl (upd ew R x))), (ml, .inl (cy 0, 6, .inl (upd el R 1))), (mp, .inl (cy 0, 72, .inl ep)), (mq, .inl (cy 0, 2, .inl en)), (mb, .inl (cy 0, 50, .inl eb))] H := hP
      have hD : va_D A [(mx, .inr (5, [.int 0, .ref mh, .int (nI (R + 1)), .ref mw, .ref ml, .int (nI G), .ref mp, .ref mq, .ref mb])), (mh, .inl (cy 0, 50, .inl eh)), (mw, .inl (cy 0, 6, .inl (upd ew R x))), (ml, .inl (cy 0, 6, .inl (upd el R 1))), (mp, .inl (cy 0, 72, .inl ep)), (mq, .inl (cy 0, 2, .inl en)), (mb, .inl (cy 0, 50, .inl eb))] := hD
      refine lv_aload_n hx hb dX5_open_66 rfl (lv_at hl 0 rfl) ?_
      refine va_get (D := D) (ci := 5) (v := .int (nI (R + 1))) (C := RX5) (T := TX5) (N := 9) hx hb hts hin5 hown hK hP 0 rfl rfl 2 (by decide) (hts (.fieldLink RX5 36 "FireflyInnModel" "rooms" "I") (List.mem_of_getElem? (i := 2) rfl)) (fun _ h9 => h9) rfl dX5_open_67 ?_
      refine lv_iconst (v := 1) hx hb dX5_open_70 (by decide) ?_
      refine lv_isub hx hb dX5_open_71 ?_
      subst hQ
      exact en_i (tv := (((nI (R + 1)) - 1), 0, (nI (R + 1)), (upd ew R x), (upd el R 1))) hx hb hr hlocks (by rw [F_X5_open, if_neg c12, if_neg c27]) rfl hK (by first | with_reducible exact hP | exact hP) (by first | with_reducible exact hD | exact hD) hS (Nat.le_refl _) (Nat.le_refl _) dX5_open_72
    · refine lv_aload_n hx hb dX5_open_30 rfl (lv_at hl 0 rfl) ?_
      refine lv_iconst (v := 2) hx hb dX5_open_31 (by decide) ?_
      refine cl_i (wr := []) (w2 := [(mx, .inr (5, [.int ((F_X5_fail 2).2), .ref mh, .int (nI R), .ref mw, .ref ml, .int (nI G), .ref mp, .ref mq, .ref mb])), (mh, .inl (cy 0, 50, .inl eh)), (mw, .inl (cy 0, 6, .inl ew)), (ml, .inl (cy 0, 6, .inl el)), (mp, .inl (cy 0, 72, .inl ep)), (mq, .inl (cy 0, 2, .inl en)), (mb, .inl (cy 0, 50, .inl eb))]) (rn_V (As := [.int 2]) (rest := []) (ci := 5) (q0 := 0) ⟨hx, hb, hml, hown, hts⟩ (k_X5_fail l D cy _ mx mh mw ml mp mq mb 0 eh ew el ep en eb R G 2 hR hG) (cwV 1 hts gX5_open_X5_fail rfl rfl rfl (by decide +kernel) ⟨Nat.le_of_ble_eq_true rfl, Nat.le_of_ble_eq_true rfl⟩) hN hK hP hD [0, 1, 2, 3, 4, 5, 6] rfl (by decide) rfl rfl rfl rfl hl.1 rfl (Nat.le_of_ble_eq_true rfl) dX5_open_32 ⟨Nat.le_of_ble_eq_true rfl, Nat.le_of_ble_eq_true rfl⟩) hP hD hS hA [0, 1, 2, 3, 4, 5, 6] [] [0, 1, 2, 3, 4, 5, 6] rfl rfl (by decide) (by decide) rfl (by decide) (fun H locs hP hD hS => ?_)
      subst hQ
      exact en_i (tv := ((F_X5_fail 2).1, (F_X5_fail 2).2, (nI R), ew, el)) hx hb hr hlocks (by rw [F_X5_open, if_neg c12, if_pos c27]) rfl hK (by first | with_reducible exact hP | exact hP) (by first | with_reducible exact hD | exact hD) hS (Nat.le_refl _) (Nat.le_refl _) dX5_open_35
  · refine lv_aload_n hx hb dX5_open_15 rfl (lv_at hl 0 rfl) ?_
    refine lv_iconst (v := 1) hx hb dX5_open_16 (by decide) ?_
    refine cl_i (wr := []) (w2 := [(mx, .inr (5, [.int ((F_X5_fail 1).2), .ref mh, .int (nI R), .ref mw, .ref ml, .int (nI G), .ref mp, .ref mq, .ref mb])), (mh, .inl (cy 0, 50, .inl eh)), (mw, .inl (cy 0, 6, .inl ew)), (ml, .inl (cy 0, 6, .inl el)), (mp, .inl (cy 0, 72, .inl ep)), (mq, .inl (cy 0, 2, .inl en)), (mb, .inl (cy 0, 50, .inl eb))]) (rn_V (As := [.int 1]) (rest := []) (ci := 5) (q0 := 0) ⟨hx, hb, hml, hown, hts⟩ (k_X5_fail l D cy _ mx mh mw ml mp mq mb 0 eh ew el ep en eb R G 1 hR hG) (cwV 1 hts gX5_open_X5_fail rfl rfl rfl (by decide +kernel) ⟨Nat.le_of_ble_eq_true rfl, Nat.le_of_ble_eq_true rfl⟩) hN hK hP hD [0, 1, 2, 3, 4, 5, 6] rfl (by decide) rfl rfl rfl rfl hl.1 rfl (Nat.le_of_ble_eq_true rfl) dX5_open_17 ⟨Nat.le_of_ble_eq_true rfl, Nat.le_of_ble_eq_true rfl⟩) hP hD hS hA [0, 1, 2, 3, 4, 5, 6] [] [0, 1, 2, 3, 4, 5, 6] rfl rfl (by decide) (by decide) rfl (by decide) (fun H locs hP hD hS => ?_)
    subst hQ
    exact en_i (tv := ((F_X5_fail 1).1, (F_X5_fail 1).2, (nI R), ew, el)) hx hb hr hlocks (by rw [F_X5_open, if_pos c12]) rfl hK (by first | with_reducible exact hP | exact hP) (by first | with_reducible exact hD | exact hD) hS (Nat.le_refl _) (Nat.le_refl _) dX5_open_20

theorem room_in {R : Nat} {r : Int32} (hR : R ≤ 6) (h : ¬ F_X5_isRoom R r = 0) : ∃ k : Nat, k < R ∧ r = nI k := by
  obtain ⟨a1, a2⟩ := isIn_of h
  rw [i_le] at a1 a2
  have e0 : (0 : Int32).toInt = 0 := rfl
  have e1 : (1 : Int32).toInt = 1 := rfl
  have eR : (nI R).toInt = R := nI_toInt (by omega)
  rw [i_sub (by omega) (by omega)] at a2
  exact i_nat (n := R) (by rw [i_lt]; omega) (by omega)
theorem guest_in {G : Nat} {g : Int32} (hG : G ≤ 12) (h : ¬ F_X5_isGuest G g = 0) : ∃ k : Nat, k < G ∧ g = nI k := by
  obtain ⟨a1, a2⟩ := isIn_of h
  rw [i_le] at a1 a2
  have e0 : (0 : Int32).toInt = 0 := rfl
  have e1 : (1 : Int32).toInt = 1 := rfl
  have eR : (nI G).toInt = G := nI_toInt (by omega)
  rw [i_sub (by omega) (by omega)] at a2
  exact i_nat (n := G) (by rw [i_lt]; omega) (by omega)
theorem room_vp {R : Nat} {r : Int32} (hR : R ≤ 6) (h : ¬ F_X5_isRoom R r = 0) : vp_in r 6 := by
  obtain ⟨k, hk, rfl⟩ := room_in hR h
  exact vp_in_nI (by omega) (by omega)

def F_X5_lamp (el : Nat → Int32) (R : Nat) (room : Int32) : Int32 × Int32 × (Nat → Int32) :=
  if (F_X5_isRoom R room) = 0 then
    (0, 1, el)
  else
    if ((upd el (room : Int32).toNatClampNeg (1 - (el (room : Int32).toNatClampNeg))) (room : Int32).toNatClampNeg) = 1 then
      (1, 0, (upd el (room : Int32).toNatClampNeg (1 - (el (room : Int32).toNatClampNeg))))
    else
      (0, 0, (upd el (room : Int32).toNatClampNeg (1 - (el (room : Int32).toNatClampNeg))))
set_option maxHeartbeats 4000000 in
set_option maxRecDepth 100000 in
theorem k_X5_lamp (l : Launch) (D : va_G) (cy : Nat → ClassId) (sz : Nat) (mx mh mw ml mp mq mb : Nat) (th : Int32) (eh : Nat → Int32) (ew : Nat → Int32) (el : Nat → Int32) (ep : Nat → Int32) (en : Nat → Int32) (eb : Nat → Int32) (R : Nat) (G : Nat) (room : Int32) (hR : R ≤ 6) (hG : G ≤ 12) : MTa l D cy yX5_lamp wsX5_lamp 2 0 0 43 [(mx, .inr (5, [.int th, .ref mh, .int (nI R), .ref mw, .ref ml, .int (nI G), .ref mp, .ref mq, .ref mb])), (mh, .inl (cy 0, 50, .inl eh)), (mw, .inl (cy 0, 6, .inl ew)), (ml, .inl (cy 0, 6, .inl el)), (mp, .inl (cy 0, 72, .inl ep)), (mq, .inl (cy 0, 2, .inl en)), (mb, .inl (cy 0, 50, .inl eb))] sz [.ref mx, .int room] (fun A => QiT D cy (fun (t : Int32 × Int32 × (Nat → Int32)) => t.1) (fun (t : Int32 × Int32 × (Nat → Int32)) => [(mx, .inr (5, [.int t.2.1, .ref mh, .int (nI R), .ref mw, .ref ml, .int (nI G), .ref mp, .ref mq, .ref mb])), (mh, .inl (cy 0, 50, .inl eh)), (mw, .inl (cy 0, 6, .inl ew)), (ml, .inl (cy 0, 6, .inl t.2.2)), (mp, .inl (cy 0, 72, .inl ep)), (mq, .inl (cy 0, 2, .inl en)), (mb, .inl (cy 0, 50, .inl eb))]) (F_X5_lamp el R room) A) := by
  refine ofWT (cc := cX5_lamp) (maxL := 2) (ret := (some .boolean)) (own := RX5) (by decide) rfl (Nat.le_of_ble_eq_true rfl) rfl ?_
  intro p e s m args below meth c A ls hx hb hr hml hts hown hlocks hin hN hK hP hD hA hl
  have hS : va_S A s.heap s.heap [] := va_S.rf
  have hl : lv_has ls 2 [(0, .ref mx), (1, .int room)] := hl
  have hin5 : ∀ w ∈ u_ws RX5 TX5 9, w ∈ wsX5_lamp := (fun w h => List.mem_cons_of_mem _ (List.mem_append_right _ h))
  generalize hQ : MQ below ((fun A => QiT D cy (fun (t : Int32 × Int32 × (Nat → Int32)) => t.1) (fun (t : Int32 × Int32 × (Nat → Int32)) => [(mx, .inr (5, [.int t.2.1, .ref mh, .int (nI R), .ref mw, .ref ml, .int (nI G), .ref mp, .ref mq, .ref mb])), (mh, .inl (cy 0, 50, .inl eh)), (mw, .inl (cy 0, 6, .inl ew)), (ml, .inl (cy 0, 6, .inl t.2.2)), (mp, .inl (cy 0, 72, .inl ep)), (mq, .inl (cy 0, 2, .inl en)), (mb, .inl (cy 0, 50, .inl eb))]) (F_X5_lamp el R room) A) A) args s 0 0 A = Q
  refine lv_aload_n hx hb dX5_lamp_0 rfl (lv_at hl 0 rfl) ?_
  refine lv_aload_n hx hb dX5_lamp_1 rfl (lv_at hl 0 rfl) ?_
  refine lv_iload_n hx hb dX5_lamp_2 rfl (lv_at hl 1 rfl) ?_
  refine cl_i (wr := []) (w2 := [(mx, .inr (5, [.int th, .ref mh, .int (nI R), .ref mw, .ref ml, .int (nI G), .ref mp, .ref mq, .ref mb])), (mh, .inl (cy 0, 50, .inl eh)), (mw, .inl (cy 0, 6, .inl ew)), (ml, .inl (cy 0, 6, .inl el)), (mp, .inl (cy 0, 72, .inl ep)), (mq, .inl (cy 0, 2, .inl en)), (mb, .inl (cy 0, 50, .inl eb))]) (rn_V (As := [.int room]) (rest := [.ref mx]) (ci := 5) (q0 := 0) ⟨hx, hb, hml, hown, hts⟩ (k_X5_isRoom l D cy _ mx mh mw ml mp mq mb th eh ew el ep en eb R G room hR hG) (cwV 1 hts gX5_lamp_X5_isRoom rfl rfl rfl (by decide +kernel) ⟨Nat.le_of_ble_eq_true rfl, Nat.le_of_ble_eq_true rfl⟩) hN hK hP hD [0, 1, 2, 3, 4, 5, 6] rfl (by decide) rfl rfl rfl rfl hl.1 rfl (Nat.le_of_ble_eq_true rfl) dX5_lamp_3 ⟨Nat.le_of_ble_eq_true rfl, Nat.le_of_ble_eq_true rfl⟩) hP hD hS hA [0, 1, 2, 3, 4, 5, 6] [] [0, 1, 2, 3, 4, 5, 6] rfl rfl (by decide) (by decide) rfl (by decide) (fun H locs hP hD hS => ?_)
  refine lv_if_eq (tgt := 13) hx hb dX5_lamp_6 (by decide) (fun c6 => ?_) (fun c6 => ?_)
  · refine lv_iconst (v := 1) hx hb dX5_lamp_13 (by decide) ?_
    refine va_put (D := D) (ci := 5) (v := .int 1) (ty := .int) (C := RX5) (T := TX5) (N := 9) hx hb hts hin5 tyX5 tyX5_ok nmX5 hown hK hP hD hS 0 rfl rfl 0 (by decide) (hts (.fieldLink RX5 28 "FireflyInnModel" "thrown" "I") (List.mem_of_getElem? (i := 1) rfl)) (fun _ h9 => h9) rfl (by decide +kernel) rfl rfl (Nat.le_of_ble_eq_true rfl) dX5_lamp_14 (fun H locs hP hD hS => ?_)
    have hP : va_P D vwCl [(mx, .inr (5, [.int 1, .ref mh, .int (nI R), .ref mw, .ref ml, .int (nI G), .ref mp, .ref mq, .ref mb])), (mh, .inl (cy 0, 50, .inl eh)), (mw, .inl (cy 0, 6, .inl ew)), (ml, .inl (cy 0, 6, .inl el)), (mp, .inl (cy 0, 72, .inl ep)), (mq, .inl (cy 0, 2, .inl en)), (mb, .inl (cy 0, 50, .inl eb))] H := hP
    have hD : va_D A [(mx, .inr (5, [.int 1, .ref mh, .int (nI R), .ref mw, .ref ml, .int (nI G), .ref mp, .ref mq, .ref mb])), (mh, .inl (cy 0, 50, .inl eh)), (mw, .inl (cy 0, 6, .inl ew)), (ml, .inl (cy 0, 6, .inl el)), (mp, .inl (cy 0, 72, .inl ep)), (mq, .inl (cy 0, 2, .inl en)), (mb, .inl (cy 0, 50, .inl eb))] := hD
    refine lv_aload_n hx hb dX5_lamp_17 rfl (lv_at hl 0 rfl) ?_
    refine va_get (D := D) (ci := 5) (v := .int 1) (C := RX5) (T := TX5) (N := 9) hx hb hts hin5 hown hK hP 0 rfl rfl 0 (by decide) (hts (.fieldLink RX5 28 "FireflyInnModel" "thrown" "I") (List.mem_of_getElem? (i := 1) rfl)) (fun _ h9 => h9) rfl dX5_lamp_18 ?_
    refine lv_if_eq (tgt := 26) hx hb dX5_lamp_21 (by decide) (fun c21 => ?_) (fun c21 => ?_)
    · exact absurd c21 (by decide)
    refine lv_iconst (v := 0) hx hb dX5_lamp_24 (by decide) ?_
    subst hQ
    exact en_z (tv := (0, 1, el)) hx hb hr hlocks (by rw [F_X5_lamp, if_pos c6]) rfl hK (by first | with_reducible exact hP | exact hP) (by first | with_reducible exact hD | exact hD) hS (Nat.le_refl _) (Nat.le_refl _) (by decide) dX5_lamp_25
  · refine lv_iconst (v := 0) hx hb dX5_lamp_9 (by decide) ?_
    refine lv_goto (tgt := 14) hx hb dX5_lamp_10 (by decide) ?_
    refine va_put (D := D) (ci := 5) (v := .int 0) (ty := .int) (C := RX5) (T := TX5) (N := 9) hx hb hts hin5 tyX5 tyX5_ok nmX5 hown hK hP hD hS 0 rfl rfl 0 (by decide) (hts (.fieldLink RX5 28 "FireflyInnModel" "thrown" "I") (List.mem_of_getElem? (i := 1) rfl)) (fun _ h9 => h9) rfl (by decide +kernel) rfl rfl (Nat.le_of_ble_eq_true rfl) dX5_lamp_14 (fun H locs hP hD hS => ?_)
    have hP : va_P D vwCl [(mx, .inr (5, [.int 0, .ref mh, .int (nI R), .ref mw, .ref ml, .int (nI G), .ref mp, .ref mq, .ref mb])), (mh, .inl (cy 0, 50, .inl eh)), (mw, .inl (cy 0, 6, .inl ew)), (ml, .inl (cy 0, 6, .inl el)), (mp, .inl (cy 0, 72, .inl ep)), (mq, .inl (cy 0, 2, .inl en)), (mb, .inl (cy 0, 50, .inl eb))] H := hP
    have hD : va_D A [(mx, .inr (5, [.int 0, .ref mh, .int (nI R), .ref mw, .ref ml, .int (nI G), .ref mp, .ref mq, .ref mb])), (mh, .inl (cy 0, 50, .inl eh)), (mw, .inl (cy 0, 6, .inl ew)), (ml, .inl (cy 0, 6, .inl el)), (mp, .inl (cy 0, 72, .inl ep)), (mq, .inl (cy 0, 2, .inl en)), (mb, .inl (cy 0, 50, .inl eb))] := hD
    refine lv_aload_n hx hb dX5_lamp_17 rfl (lv_at hl 0 rfl) ?_
    refine va_get (D := D) (ci := 5) (v := .int 0) (C := RX5) (T := TX5) (N := 9) hx hb hts hin5 hown hK hP 0 rfl rfl 0 (by decide) (hts (.fieldLink RX5 28 "FireflyInnModel" "thrown" "I") (List.mem_of_getElem? (i := 1) rfl)) (fun _ h9 => h9) rfl dX5_lamp_18 ?_
    refine lv_if_eq (tgt := 26) hx hb dX5_lamp_21 (by decide) (fun c21 => ?_) (fun c21 => ?_)
    rotate_left
    · exact absurd (by decide) c21
    refine lv_aload_n hx hb dX5_lamp_26 rfl (lv_at hl 0 rfl) ?_
    refine va_get (D := D) (ci := 5) (v := .ref ml) (C := RX5) (T := TX5) (N := 9) hx hb hts hin5 hown hK hP 0 rfl rfl 4 (by decide) (hts (.fieldLink RX5 16 "FireflyInnModel" "lamps" "[I") (List.mem_of_getElem? (i := 2) rfl)) (fun _ h9 => h9) rfl dX5_lamp_27 ?_
    refine lv_iload_n hx hb dX5_lamp_30 rfl (lv_at hl 1 rfl) ?_
    refine lv_iconst (v := 1) hx hb dX5_lamp_31 (by decide) ?_
    refine lv_aload_n hx hb dX5_lamp_32 rfl (lv_at hl 0 rfl) ?_
    refine va_get (D := D) (ci := 5) (v := .ref ml) (C := RX5) (T := TX5) (N := 9) hx hb hts hin5 hown hK hP 0 rfl rfl 4 (by decide) (hts (.fieldLink RX5 16 "FireflyInnModel" "lamps" "[I") (List.mem_of_getElem? (i := 2) rfl)) (fun _ h9 => h9) rfl dX5_lamp_33 ?_
    refine lv_iload_n hx hb dX5_lamp_36 rfl (lv_at hl 1 rfl) ?_
    refine va_iald hx hb hK hP 3 0 rfl rfl (room_vp hR c6) dX5_lamp_37 ?_
    refine lv_isub hx hb dX5_lamp_38 ?_
    refine va_iast hx hb hK hP hD hS 3 0 rfl rfl (room_vp hR c6) dX5_lamp_39 (fun H locs hP hD hS => ?_)
    have hP : va_P D vwCl [(mx, .inr (5, [.int 0, .ref mh, .int (nI R), .ref mw, .ref ml, .int (nI G), .ref mp, .ref mq, .ref mb])), (mh, .inl (cy 0, 50, .inl eh)), (mw, .inl (cy 0, 6, .inl ew)), (ml, .inl (cy 0, 6, .inl (upd el (room : Int32).toNatClampNeg (1 - (el (room : Int32).toNatClampNeg))))), (mp, .inl (cy 0, 72, .inl ep)), (mq, .inl (cy 0, 2, .inl en)), (mb, .inl (cy 0, 50, .inl eb))] H := hP
    have hD : va_D A [(mx, .inr (5, [.int 0, .ref mh, .int (nI R), .ref mw, .ref ml, .int (nI G), .ref mp, .ref mq, .ref mb])), (mh, .inl (cy 0, 50, .inl eh)), (mw, .inl (cy 0, 6, .inl ew)), (ml, .inl (cy 0, 6, .inl (upd el (room : Int32).toNatClampNeg (1 - (el (room : Int32).toNatClampNeg))))), (mp, .inl (cy 0, 72, .inl ep)), (mq, .inl (cy 0, 2, .inl en)), (mb, .inl (cy 0, 50, .inl eb))] := hD
    refine lv_aload_n hx hb dX5_lamp_40 rfl (lv_at hl 0 rfl) ?_
    refine va_get (D := D) (ci := 5) (v := .ref ml) (C := RX5) (T := TX5) (N := 9) hx hb hts hin5 hown hK hP 0 rfl rfl 4 (by decide) (hts (.fieldLink RX5 16 "FireflyInnModel" "lamps" "[I") (List.mem_of_getElem? (i := 2) rfl)) (fun _ h9 => h9) rfl dX5_lamp_41 ?_
    refine lv_iload_n hx hb dX5_lamp_44 rfl (lv_at hl 1 rfl) ?_
    refine va_iald hx hb hK hP 3 0 rfl rfl (room_vp hR c6) dX5_lamp_45 ?_
    refine lv_iconst (v := 1) hx hb dX5_lamp_46 (by decide) ?_
    refine lv_icmp_ne (tgt := 54) hx hb dX5_lamp_47 (by decide) (fun c47 => ?_) (fun c47 => ?_)
    · refine lv_iconst (v := 0) hx hb dX5_lamp_54 (by decide) ?_
      subst hQ
      exact en_z (tv := (0, 0, (upd el (room : Int32).toNatClampNeg (1 - (el (room : Int32).toNatClampNeg))))) hx hb hr hlocks (by rw [F_X5_lamp, if_neg c6, if_neg c47]) rfl hK (by first | with_reducible exact hP | exact hP) (by first | with_reducible exact hD | exact hD) hS (Nat.le_refl _) (Nat.le_refl _) (by decide) dX5_lamp_55
    · refine lv_iconst (v := 1) hx hb dX5_lamp_50 (by decide) ?_
      refine lv_goto (tgt := 55) hx hb dX5_lamp_51 (by decide) ?_
      subst hQ
      exact en_z (tv := (1, 0, (upd el (room : Int32).toNatClampNeg (1 - (el (room : Int32).toNatClampNeg))))) hx hb hr hlocks (by rw [F_X5_lamp, if_neg c6, if_pos c47]) rfl hK (by first | with_reducible exact hP | exact hP) (by first | with_reducible exact hD | exact hD) hS (Nat.le_refl _) (Nat.le_refl _) (by decide) dX5_lamp_55

def F_X5_isThere (ep : Nat → Int32) (g : Nat) (room : Int32) : Int32 :=
  if (F_X5_pe ep g 5) = 0 then
    if (F_X5_pe ep g 0) = room then
      1
    else
      0
  else
    0
set_option maxHeartbeats 4000000 in
set_option maxRecDepth 100000 in
theorem k_X5_isThere (l : Launch) (D : va_G) (cy : Nat → ClassId) (sz : Nat) (mx mh mw ml mp mq mb : Nat) (th : Int32) (eh : Nat → Int32) (ew : Nat → Int32) (el : Nat → Int32) (ep : Nat → Int32) (en : Nat → Int32) (eb : Nat → Int32) (R : Nat) (G : Nat) (g : Nat) (room : Int32) (hR : R ≤ 6) (hG : G ≤ 12) (hg : g < 12) : MTa l D cy yX5_isThere wsX5_isThere 1 0 0 22 [(mx, .inr (5, [.int th, .ref mh, .int (nI R), .ref mw, .ref ml, .int (nI G), .ref mp, .ref mq, .ref mb])), (mh, .inl (cy 0, 50, .inl eh)), (mw, .inl (cy 0, 6, .inl ew)), (ml, .inl (cy 0, 6, .inl el)), (mp, .inl (cy 0, 72, .inl ep)), (mq, .inl (cy 0, 2, .inl en)), (mb, .inl (cy 0, 50, .inl eb))] sz [.ref mx, .int (nI g), .int room] (fun A => QiT D cy (fun (t : Int32) => t) (fun (_ : Int32) => [(mx, .inr (5, [.int th, .ref mh, .int (nI R), .ref mw, .ref ml, .int (nI G), .ref mp, .ref mq, .ref mb])), (mh, .inl (cy 0, 50, .inl eh)), (mw, .inl (cy 0, 6, .inl ew)), (ml, .inl (cy 0, 6, .inl el)), (mp, .inl (cy 0, 72, .inl ep)), (mq, .inl (cy 0, 2, .inl en)), (mb, .inl (cy 0, 50, .inl eb))]) (F_X5_isThere ep g room) A) := by
  refine ofWT (cc := cX5_isThere) (maxL := 3) (ret := (some .boolean)) (own := RX5) (by decide) rfl (Nat.le_of_ble_eq_true rfl) rfl ?_
  intro p e s m args below meth c A ls hx hb hr hml hts hown hlocks hin hN hK hP hD hA hl
  have hS : va_S A s.heap s.heap [] := va_S.rf
  have hl : lv_has ls 3 [(0, .ref mx), (1, .int (nI g)), (2, .int room)] := hl
  generalize hQ : MQ below ((fun A => QiT D cy (fun (t : Int32) => t) (fun (_ : Int32) => [(mx, .inr (5, [.int th, .ref mh, .int (nI R), .ref mw, .ref ml, .int (nI G), .ref mp, .ref mq, .ref mb])), (mh, .inl (cy 0, 50, .inl eh)), (mw, .inl (cy 0, 6, .inl ew)), (ml, .inl (cy 0, 6, .inl el)), (mp, .inl (cy 0, 72, .inl ep)), (mq, .inl (cy 0, 2, .inl en)), (mb, .inl (cy 0, 50, .inl eb))]) (F_X5_isThere ep g room) A) A) args s 0 0 A = Q
  refine lv_aload_n hx hb dX5_isThere_0 rfl (lv_at hl 0 rfl) ?_
  refine lv_iload_n hx hb dX5_isThere_1 rfl (lv_at hl 1 rfl) ?_
  refine lv_iconst (v := 5) hx hb dX5_isThere_2 (by decide) ?_
  refine cl_i (wr := []) (w2 := [(mx, .inr (5, [.int th, .ref mh, .int (nI R), .ref mw, .ref ml, .int (nI G), .ref mp, .ref mq, .ref mb])), (mh, .inl (cy 0, 50, .inl eh)), (mw, .inl (cy 0, 6, .inl ew)), (ml, .inl (cy 0, 6, .inl el)), (mp, .inl (cy 0, 72, .inl ep)), (mq, .inl (cy 0, 2, .inl en)), (mb, .inl (cy 0, 50, .inl eb))]) (rn_V (As := [.int (nI g), .int 5]) (rest := []) (ci := 5) (q0 := 0) ⟨hx, hb, hml, hown, hts⟩ (k_X5_pe l D cy _ mx mh mw ml mp mq mb th eh ew el ep en eb R G g 5 hR hG (by omega)) (cwV 2 hts gX5_isThere_X5_pe rfl rfl rfl (by decide +kernel) ⟨Nat.le_of_ble_eq_true rfl, Nat.le_of_ble_eq_true rfl⟩) hN hK hP hD [0, 1, 2, 3, 4, 5, 6] rfl (by decide) rfl rfl rfl rfl hl.1 rfl (Nat.le_of_ble_eq_true rfl) dX5_isThere_3 ⟨Nat.le_of_ble_eq_true rfl, Nat.le_of_ble_eq_true rfl⟩) hP hD hS hA [0, 1, 2, 3, 4, 5, 6] [] [0, 1, 2, 3, 4, 5, 6] rfl rfl (by decide) (by decide) rfl (by decide) (fun H locs hP hD hS => ?_)
  refine lv_if_ne (tgt := 23) hx hb dX5_isThere_6 (by decide) (fun c6 => ?_) (fun c6 => ?_)
  · refine lv_iconst (v := 0) hx hb dX5_isThere_23 (by decide) ?_
    subst hQ
    exact en_z (tv := 0) hx hb hr hlocks (by rw [F_X5_isThere, if_neg c6]) rfl hK (by first | with_reducible exact hP | exact hP) (by first | with_reducible exact hD | exact hD) hS (Nat.le_refl _) (Nat.le_refl _) (by decide) dX5_isThere_24
  · refine lv_aload_n hx hb dX5_isThere_9 rfl (lv_at hl 0 rfl) ?_
    refine lv_iload_n hx hb dX5_isThere_10 rfl (lv_at hl 1 rfl) ?_
    refine lv_iconst (v := 0) hx hb dX5_isThere_11 (by decide) ?_
    refine cl_i (wr := []) (w2 := [(mx, .inr (5, [.int th, .ref mh, .int (nI R), .ref mw, .ref ml, .int (nI G), .ref mp, .ref mq, .ref mb])), (mh, .inl (cy 0, 50, .inl eh)), (mw, .inl (cy 0, 6, .inl ew)), (ml, .inl (cy 0, 6, .inl el)), (mp, .inl (cy 0, 72, .inl ep)), (mq, .inl (cy 0, 2, .inl en)), (mb, .inl (cy 0, 50, .inl eb))]) (rn_V (As := [.int (nI g), .int 0]) (rest := []) (ci := 5) (q0 := 0) ⟨hx, hb, hml, hown, hts⟩ (k_X5_pe l D cy _ mx mh mw ml mp mq mb th eh ew el ep en eb R G g 0 hR hG (by omega)) (cwV 2 hts gX5_isThere_X5_pe rfl rfl rfl (by decide +kernel) ⟨Nat.le_of_ble_eq_true rfl, Nat.le_of_ble_eq_true rfl⟩) hN hK hP hD [0, 1, 2, 3, 4, 5, 6] rfl (by decide) rfl rfl rfl rfl hl.1 rfl (Nat.le_of_ble_eq_true rfl) dX5_isThere_12 ⟨Nat.le_of_ble_eq_true rfl, Nat.le_of_ble_eq_true rfl⟩) hP hD hS hA [0, 1, 2, 3, 4, 5, 6] [] [0, 1, 2, 3, 4, 5, 6] rfl rfl (by decide) (by decide) rfl (by decide) (fun H locs hP hD hS => ?_)
    refine lv_iload_n hx hb dX5_isThere_15 rfl (lv_at hl 2 rfl) ?_
    refine lv_icmp_ne (tgt := 23) hx hb dX5_isThere_16 (by decide) (fun c16 => ?_) (fun c16 => ?_)
    · refine lv_iconst (v := 0) hx hb dX5_isThere_23 (by decide) ?_
      subst hQ
      exact en_z (tv := 0) hx hb hr hlocks (by rw [F_X5_isThere, if_pos c6, if_neg c16]) rfl hK (by first | with_reducible exact hP | exact hP) (by first | with_reducible exact hD | exact hD) hS (Nat.le_refl _) (Nat.le_refl _) (by decide) dX5_isThere_24
    · refine lv_iconst (v := 1) hx hb dX5_isThere_19 (by decide) ?_
      refine lv_goto (tgt := 24) hx hb dX5_isThere_20 (by decide) ?_
      subst hQ
      exact en_z (tv := 1) hx hb hr hlocks (by rw [F_X5_isThere, if_pos c6, if_pos c16]) rfl hK (by first | with_reducible exact hP | exact hP) (by first | with_reducible exact hD | exact hD) hS (Nat.le_refl _) (Nat.le_refl _) (by decide) dX5_isThere_24

def S_X5_roomTold_30 (ep : Nat → Int32) (r : Nat) (what : Int32) (k30 : Nat) (v3_30 : Int32) : Int32 :=
  if (F_X5_isThere ep k30 (nI r)) = 0 then
    v3_30
  else
    if what = 2 then
      (v3_30 + 1)
    else
      if what = 3 then
        (v3_30 + (F_X5_pe ep k30 1))
      else
        (v3_30 + (F_X5_pe ep k30 2))
def I_X5_roomTold_30 (ep : Nat → Int32) (G : Nat) (r : Nat) (what : Int32) : Int32 :=
  it (fun (k : Nat) (v : Int32) => S_X5_roomTold_30 ep r what k v) G 0 0
def F_X5_roomTold (ew : Nat → Int32) (el : Nat → Int32) (ep : Nat → Int32) (G : Nat) (r : Nat) (what : Int32) : Int32 :=
  if 2 ≤ what then
    (I_X5_roomTold_30 ep G r what)
  else
    if what = 0 then
      (ew r)
    else
      (el r)
set_option maxHeartbeats 4000000 in
set_option maxRecDepth 100000 in
theorem k_X5_roomTold (l : Launch) (D : va_G) (cy : Nat → ClassId) (sz : Nat) (mx mh mw ml mp mq mb : Nat) (th : Int32) (eh : Nat → Int32) (ew : Nat → Int32) (el : Nat → Int32) (ep : Nat → Int32) (en : Nat → Int32) (eb : Nat → Int32) (R : Nat) (G : Nat) (r : Nat) (what : Int32) (hR : R ≤ 6) (hG : G ≤ 12) (hr1 : r < 6) : MTa l D cy yX5_roomTold wsX5_roomTold 2 0 0 44 [(mx, .inr (5, [.int th, .ref mh, .int (nI R), .ref mw, .ref ml, .int (nI G), .ref mp, .ref mq, .ref mb])), (mh, .inl (cy 0, 50, .inl eh)), (mw, .inl (cy 0, 6, .inl ew)), (ml, .inl (cy 0, 6, .inl el)), (mp, .inl (cy 0, 72, .inl ep)), (mq, .inl (cy 0, 2, .inl en)), (mb, .inl (cy 0, 50, .inl eb))] sz [.ref mx, .int (nI r), .int what] (fun A => QiT D cy (fun (t : Int32) => t) (fun (_ : Int32) => [(mx, .inr (5, [.int th, .ref mh, .int (nI R), .ref mw, .ref ml, .int (nI G), .ref mp, .ref mq, .ref mb])), (mh, .inl (cy 0, 50, .inl eh)), (mw, .inl (cy 0, 6, .inl ew)), (ml, .inl (cy 0, 6, .inl el)), (mp, .inl (cy 0, 72, .inl ep)), (mq, .inl (cy 0, 2, .inl en)), (mb, .inl (cy 0, 50, .inl eb))]) (F_X5_roomTold ew el ep G r what) A) := by
  refine ofWT (cc := cX5_roomTold) (maxL := 5) (ret := (some .int)) (own := RX5) (by decide) rfl (Nat.le_of_ble_eq_true rfl) rfl ?_
  intro p e s m args below meth c A ls hx hb hr hml hts hown hlocks hin hN hK hP hD hA hl
  have hS : va_S A s.heap s.heap [] := va_S.rf
  have hl : lv_has ls 5 [(0, .ref mx), (1, .int (nI r)), (2, .int what)] := hl
  have hin5 : ∀ w ∈ u_ws RX5 TX5 9, w ∈ wsX5_roomTold := (fun w h => List.mem_cons_of_mem _ (List.mem_append_right _ h))
  generalize hQ : MQ below ((fun A => QiT D cy (fun (t : Int32) => t) (fun (_ : Int32) => [(mx, .inr (5, [.int th, .ref mh, .int (nI R), .ref mw, .ref ml, .int (nI G), .ref mp, .ref mq, .ref mb])), (mh, .inl (cy 0, 50, .inl eh)), (mw, .inl (cy 0, 6, .inl ew)), (ml, .inl (cy 0, 6, .inl el)), (mp, .inl (cy 0, 72, .inl ep)), (mq, .inl (cy 0, 2, .inl en)), (mb, .inl (cy 0, 50, .inl eb))]) (F_X5_roomTold ew el ep G r what) A) A) args s 0 0 A = Q
  refine lv_iload_n hx hb dX5_roomTold_0 rfl (lv_at hl 2 rfl) ?_
  refine lv_iconst (v := 2) hx hb dX5_roomTold_1 (by decide) ?_
  refine lv_icmp_ge (tgt := 25) hx hb dX5_roomTold_2 (by decide) (fun c2 => ?_) (fun c2 => ?_)
  · refine lv_iconst (v := 0) hx hb dX5_roomTold_25 (by decide) ?_
    refine lv_istore_n (lv' := [(3, .int 0), (0, .ref mx), (1, .int (nI r)), (2, .int what)]) hx hb dX5_roomTold_26 rfl hl (by decide) rfl (fun ls hl => ?_)
    refine lv_iconst (v := 0) hx hb dX5_roomTold_27 (by decide) ?_
    refine lv_istore (lv' := [(4, .int 0), (3, .int 0), (0, .ref mx), (1, .int (nI r)), (2, .int what)]) hx hb dX5_roomTold_28 hl (by decide) rfl (fun ls hl => ?_)
    obtain ⟨fin30, hfin30⟩ : ∃ z, (I_X5_roomTold_30 ep G r what) = z := ⟨_, rfl⟩
    suffices kk30 : ∀ (H : Heap) (locs : List Loc) (ls : Array Slot), va_P D vwCl [(mx, .inr (5, [.int th, .ref mh, .int (nI R), .ref mw, .ref ml, .int (nI G), .ref mp, .ref mq, .ref mb])), (mh, .inl (cy 0, 50, .inl eh)), (mw, .inl (cy 0, 6, .inl ew)), (ml, .inl (cy 0, 6, .inl el)), (mp, .inl (cy 0, 72, .inl ep)), (mq, .inl (cy 0, 2, .inl en)), (mb, .inl (cy 0, 50, .inl eb))] H → va_D A [(mx, .inr (5, [.int th, .ref mh, .int (nI R), .ref mw, .ref ml, .int (nI G), .ref mp, .ref mq, .ref mb])), (mh, .inl (cy 0, 50, .inl eh)), (mw, .inl (cy 0, 6, .inl ew)), (ml, .inl (cy 0, 6, .inl el)), (mp, .inl (cy 0, 72, .inl ep)), (mq, .inl (cy 0, 2, .inl en)), (mb, .inl (cy 0, 50, .inl eb))] → va_S A s.heap H locs → lv_has ls 5 [(4, .int (nI G)), (3, .int fin30), (0, .ref mx), (1, .int (nI r)), (2, .int what)] → W p l e (RM 2 0 0 44) s m args below meth c H locs 0 0 Q (F0 m 83 ls []) by
      have lp30 : ∀ (n30 k30 : Nat) (v3_30 : Int32) (H : Heap) (locs : List Loc) (ls : Array Slot), k30 + n30 = G → it (fun (k : Nat) (v : Int32) => S_X5_roomTold_30 ep r what k v) n30 k30 v3_30 = fin30 → va_P D vwCl [(mx, .inr (5, [.int th, .ref mh, .int (nI R), .ref mw, .ref ml, .int (nI G), .ref mp, .ref mq, .ref mb])), (mh, .inl (cy 0, 50, .inl eh)), (mw, .inl (cy 0, 6, .inl ew)), (ml, .inl (cy 0, 6, .inl el)), (mp, .inl (cy 0, 72, .inl ep)), (mq, .inl (cy 0, 2, .inl en)), (mb, .inl (cy 0, 50, .inl eb))] H → va_D A [(mx, .inr (5, [.int th, .ref mh, .int (nI R), .ref mw, .ref ml, .int (nI G), .ref mp, .ref mq, .ref mb])), (mh, .inl (cy 0, 50, .inl eh)), (mw, .inl (cy 0, 6, .inl ew)), (ml, .inl (cy 0, 6, .inl el)), (mp, .inl (cy 0, 72, .inl ep)), (mq, .inl (cy 0, 2, .inl en)), (mb, .inl (cy 0, 50, .inl eb))] → va_S A s.heap H locs → lv_has ls 5 [(4, .int (nI k30)), (3, .int v3_30), (0, .ref mx), (1, .int (nI r)), (2, .int what)] → W p l e (RM 2 0 0 44) s m args below meth c H locs 0 0 Q (F0 m 30 ls []) := by
        intro n30
        induction n30 with
        | zero =>
          intro k30 v3_30 H locs ls hkn30 hE30 hP hD hS hl
          have hk30 : G = k30 := by omega
          subst hk30
          have hE30 : v3_30 = fin30 := hE30
          subst hE30
          refine lv_iload hx hb dX5_roomTold_30 (lv_at hl 0 rfl) ?_
          refine lv_aload_n hx hb dX5_roomTold_32 rfl (lv_at hl 2 rfl) ?_
          refine va_get (D := D) (ci := 5) (v := .int (nI G)) (C := RX5) (T := TX5) (N := 9) hx hb hts hin5 hown hK hP 0 rfl rfl 5 (by decide) (hts (.fieldLink RX5 39 "FireflyInnModel" "guests" "I") (List.mem_of_getElem? (i := 3) rfl)) (fun _ h9 => h9) rfl dX5_roomTold_33 ?_
          refine lv_icmp_ge (tgt := 83) hx hb dX5_roomTold_36 (by decide) (fun c36 => ?_) (fun c36 => ?_)
          rotate_left
          · exact absurd (nI_le (a := G) (b := G) (Nat.le_refl _) (by omega)) c36
          exact kk30 _ _ _ hP hD hS (lv_sub hl [0, 1, 2, 3, 4] rfl)
        | succ n30 ih30 =>
          intro k30 v3_30 H locs ls hkn30 hE30 hP hD hS hl
          have hlt30 : k30 < G := by omega
          refine lv_iload hx hb dX5_roomTold_30 (lv_at hl 0 rfl) ?_
          refine lv_aload_n hx hb dX5_roomTold_32 rfl (lv_at hl 2 rfl) ?_
          refine va_get (D := D) (ci := 5) (v := .int (nI G)) (C := RX5) (T := TX5) (N := 9) hx hb hts hin5 hown hK hP 0 rfl rfl 5 (by decide) (hts (.fieldLink RX5 39 "FireflyInnModel" "guests" "I") (List.mem_of_getElem? (i := 3) rfl)) (fun _ h9 => h9) rfl dX5_roomTold_33 ?_
          refine lv_icmp_ge (tgt := 83) hx hb dX5_roomTold_36 (by decide) (fun c36 => ?_) (fun c36 => ?_)
          · exact absurd c36 (nI_ge (a := k30) (b := G) hlt30 (by omega))
          refine lv_aload_n hx hb dX5_roomTold_39 rfl (lv_at hl 2 rfl) ?_
          refine lv_iload hx hb dX5_roomTold_40 (lv_at hl 0 rfl) ?_
          refine lv_iload_n hx hb dX5_roomTold_42 rfl (lv_at hl 3 rfl) ?_
          refine cl_i (wr := []) (w2 := [(mx, .inr (5, [.int th, .ref mh, .int (nI R), .ref mw, .ref ml, .int (nI G), .ref mp, .ref mq, .ref mb])), (mh, .inl (cy 0, 50, .inl eh)), (mw, .inl (cy 0, 6, .inl ew)), (ml, .inl (cy 0, 6, .inl el)), (mp, .inl (cy 0, 72, .inl ep)), (mq, .inl (cy 0, 2, .inl en)), (mb, .inl (cy 0, 50, .inl eb))]) (rn_V (As := [.int (nI k30), .int (nI r)]) (rest := []) (ci := 5) (q0 := 0) ⟨hx, hb, hml, hown, hts⟩ (k_X5_isThere l D cy _ mx mh mw ml mp mq mb th eh ew el ep en eb R G k30 (nI r) hR hG (by omega)) (cwV 2 hts gX5_roomTold_X5_isThere rfl rfl rfl (by decide +kernel) ⟨Nat.le_of_ble_eq_true rfl, Nat.le_of_ble_eq_true rfl⟩) hN hK hP hD [0, 1, 2, 3, 4, 5, 6] rfl (by decide) rfl rfl rfl rfl hl.1 rfl (Nat.le_of_ble_eq_true rfl) dX5_roomTold_43 ⟨Nat.le_of_ble_eq_true rfl, Nat.le_of_ble_eq_true rfl⟩) hP hD hS hA [0, 1, 2, 3, 4, 5, 6] [] [0, 1, 2, 3, 4, 5, 6] rfl rfl (by decide) (by decide) rfl (by decide) (fun H locs hP hD hS => ?_)
          refine lv_if_eq (tgt := 77) hx hb dX5_roomTold_46 (by decide) (fun c46 => ?_) (fun c46 => ?_)
          · refine lv_iinc (v := (nI (k30 + 1))) (lv' := [(4, .int (nI (k30 + 1))), (3, .int v3_30), (0, .ref mx), (1, .int (nI r)), (2, .int what)]) hx hb dX5_roomTold_77 hl (k := 0) rfl (nI_1 k30) (by decide) rfl (fun ls hl => ?_)
            refine lv_goto (tgt := 30) hx hb dX5_roomTold_80 (by decide) ?_
            exact ih30 (k30 + 1) v3_30 _ _ _ (by omega) (it_step (f := (fun (k : Nat) (v : Int32) => S_X5_roomTold_30 ep r what k v)) (v := v3_30) (show S_X5_roomTold_30 ep r what k30 v3_30 = v3_30 from by rw [S_X5_roomTold_30, if_pos c46]) hE30) hP hD hS (lv_sub hl [0, 1, 2, 3, 4] rfl)
          · refine lv_iload_n hx hb dX5_roomTold_49 rfl (lv_at hl 1 rfl) ?_
            refine lv_iload_n hx hb dX5_roomTold_50 rfl (lv_at hl 4 rfl) ?_
            refine lv_iconst (v := 2) hx hb dX5_roomTold_51 (by decide) ?_
            refine lv_icmp_ne (tgt := 59) hx hb dX5_roomTold_52 (by decide) (fun c52 => ?_) (fun c52 => ?_)
            · refine lv_aload_n hx hb dX5_roomTold_59 rfl (lv_at hl 2 rfl) ?_
              refine lv_iload hx hb dX5_roomTold_60 (lv_at hl 0 rfl) ?_
              refine lv_iload_n hx hb dX5_roomTold_62 rfl (lv_at hl 4 rfl) ?_
              refine lv_iconst (v := 3) hx hb dX5_roomTold_63 (by decide) ?_
              refine lv_icmp_ne (tgt := 71) hx hb dX5_roomTold_64 (by decide) (fun c64 => ?_) (fun c64 => ?_)
              · refine lv_iconst (v := 2) hx hb dX5_roomTold_71 (by decide) ?_
                refine cl_i (wr := []) (w2 := [(mx, .inr (5, [.int th, .ref mh, .int (nI R), .ref mw, .ref ml, .int (nI G), .ref mp, .ref mq, .ref mb])), (mh, .inl (cy 0, 50, .inl eh)), (mw, .inl (cy 0, 6, .inl ew)), (ml, .inl (cy 0, 6, .inl el)), (mp, .inl (cy 0, 72, .inl ep)), (mq, .inl (cy 0, 2, .inl en)), (mb, .inl (cy 0, 50, .inl eb))]) (rn_V (As := [.int (nI k30), .int 2]) (rest := [.int v3_30]) (ci := 5) (q0 := 0) ⟨hx, hb, hml, hown, hts⟩ (k_X5_pe l D cy _ mx mh mw ml mp mq mb th eh ew el ep en eb R G k30 2 hR hG (by omega)) (cwV 2 hts gX5_roomTold_X5_pe rfl rfl rfl (by decide +kernel) ⟨Nat.le_of_ble_eq_true rfl, Nat.le_of_ble_eq_true rfl⟩) hN hK hP hD [0, 1, 2, 3, 4, 5, 6] rfl (by decide) rfl rfl rfl rfl hl.1 rfl (Nat.le_of_ble_eq_true rfl) dX5_roomTold_72 ⟨Nat.le_of_ble_eq_true rfl, Nat.le_of_ble_eq_true rfl⟩) hP hD hS hA [0, 1, 2, 3, 4, 5, 6] [] [0, 1, 2, 3, 4, 5, 6] rfl rfl (by decide) (by decide) rfl (by decide) (fun H locs hP hD hS => ?_)
                refine lv_iadd hx hb dX5_roomTold_75 ?_
                refine lv_istore_n (lv' := [(3, .int (v3_30 + (F_X5_pe ep k30 2))), (4, .int (nI k30)), (0, .ref mx), (1, .int (nI r)), (2, .int what)]) hx hb dX5_roomTold_76 rfl hl (by decide) rfl (fun ls hl => ?_)
                refine lv_iinc (v := (nI (k30 + 1))) (lv' := [(4, .int (nI (k30 + 1))), (3, .int (v3_30 + (F_X5_pe ep k30 2))), (0, .ref mx), (1, .int (nI r)), (2, .int what)]) hx hb dX5_roomTold_77 hl (k := 1) rfl (nI_1 k30) (by decide) rfl (fun ls hl => ?_)
                refine lv_goto (tgt := 30) hx hb dX5_roomTold_80 (by decide) ?_
                exact ih30 (k30 + 1) (v3_30 + (F_X5_pe ep k30 2)) _ _ _ (by omega) (it_step (f := (fun (k : Nat) (v : Int32) => S_X5_roomTold_30 ep r what k v)) (v := v3_30) (show S_X5_roomTold_30 ep r what k30 v3_30 = (v3_30 + (F_X5_pe ep k30 2)) from by rw [S_X5_roomTold_30, if_neg c46, if_neg c52, if_neg c64]) hE30) hP hD hS (lv_sub hl [0, 1, 2, 3, 4] rfl)
              · refine lv_iconst (v := 1) hx hb dX5_roomTold_67 (by decide) ?_
                refine lv_goto (tgt := 72) hx hb dX5_roomTold_68 (by decide) ?_
                refine cl_i (wr := []) (w2 := [(mx, .inr (5, [.int th, .ref mh, .int (nI R), .ref mw, .ref ml, .int (nI G), .ref mp, .ref mq, .ref mb])), (mh, .inl (cy 0, 50, .inl eh)), (mw, .inl (cy 0, 6, .inl ew)), (ml, .inl (cy 0, 6, .inl el)), (mp, .inl (cy 0, 72, .inl ep)), (mq, .inl (cy 0, 2, .inl en)), (mb, .inl (cy 0, 50, .inl eb))]) (rn_V (As := [.int (nI k30), .int 1]) (rest := [.int v3_30]) (ci := 5) (q0 := 0) ⟨hx, hb, hml, hown, hts⟩ (k_X5_pe l D cy _ mx mh mw ml mp mq mb th eh ew el ep en eb R G k30 1 hR hG (by omega)) (cwV 2 hts gX5_roomTold_X5_pe rfl rfl rfl (by decide +kernel) ⟨Nat.le_of_ble_eq_true rfl, Nat.le_of_ble_eq_true rfl⟩) hN hK hP hD [0, 1, 2, 3, 4, 5, 6] rfl (by decide) rfl rfl rfl rfl hl.1 rfl (Nat.le_of_ble_eq_true rfl) dX5_roomTold_72 ⟨Nat.le_of_ble_eq_true rfl, Nat.le_of_ble_eq_true rfl⟩) hP hD hS hA [0, 1, 2, 3, 4, 5, 6] [] [0, 1, 2, 3, 4, 5, 6] rfl rfl (by decide) (by decide) rfl (by decide) (fun H locs hP hD hS => ?_)
                refine lv_iadd hx hb dX5_roomTold_75 ?_
                refine lv_istore_n (lv' := [(3, .int (v3_30 + (F_X5_pe ep k30 1))), (4, .int (nI k30)), (0, .ref mx), (1, .int (nI r)), (2, .int what)]) hx hb dX5_roomTold_76 rfl hl (by decide) rfl (fun ls hl => ?_)
                refine lv_iinc (v := (nI (k30 + 1))) (lv' := [(4, .int (nI (k30 + 1))), (3, .int (v3_30 + (F_X5_pe ep k30 1))), (0, .ref mx), (1, .int (nI r)), (2, .int what)]) hx hb dX5_roomTold_77 hl (k := 1) rfl (nI_1 k30) (by decide) rfl (fun ls hl => ?_)
                refine lv_goto (tgt := 30) hx hb dX5_roomTold_80 (by decide) ?_
                exact ih30 (k30 + 1) (v3_30 + (F_X5_pe ep k30 1)) _ _ _ (by omega) (it_step (f := (fun (k : Nat) (v : Int32) => S_X5_roomTold_30 ep r what k v)) (v := v3_30) (show S_X5_roomTold_30 ep r what k30 v3_30 = (v3_30 + (F_X5_pe ep k30 1)) from by rw [S_X5_roomTold_30, if_neg c46, if_neg c52, if_pos c64]) hE30) hP hD hS (lv_sub hl [0, 1, 2, 3, 4] rfl)
            · refine lv_iconst (v := 1) hx hb dX5_roomTold_55 (by decide) ?_
              refine lv_goto (tgt := 75) hx hb dX5_roomTold_56 (by decide) ?_
              refine lv_iadd hx hb dX5_roomTold_75 ?_
              refine lv_istore_n (lv' := [(3, .int (v3_30 + 1)), (4, .int (nI k30)), (0, .ref mx), (1, .int (nI r)), (2, .int what)]) hx hb dX5_roomTold_76 rfl hl (by decide) rfl (fun ls hl => ?_)
              refine lv_iinc (v := (nI (k30 + 1))) (lv' := [(4, .int (nI (k30 + 1))), (3, .int (v3_30 + 1)), (0, .ref mx), (1, .int (nI r)), (2, .int what)]) hx hb dX5_roomTold_77 hl (k := 1) rfl (nI_1 k30) (by decide) rfl (fun ls hl => ?_)
              refine lv_goto (tgt := 30) hx hb dX5_roomTold_80 (by decide) ?_
              exact ih30 (k30 + 1) (v3_30 + 1) _ _ _ (by omega) (it_step (f := (fun (k : Nat) (v : Int32) => S_X5_roomTold_30 ep r what k v)) (v := v3_30) (show S_X5_roomTold_30 ep r what k30 v3_30 = (v3_30 + 1) from by rw [S_X5_roomTold_30, if_neg c46, if_pos c52]) hE30) hP hD hS (lv_sub hl [0, 1, 2, 3, 4] rfl)
      exact lp30 G 0 0 _ _ _ (by omega) hfin30 hP hD hS (lv_sub hl [0, 1, 2, 3, 4] rfl)
    intro H locs ls hP hD hS hl
    subst hfin30
    refine lv_iload_n hx hb dX5_roomTold_83 rfl (lv_at hl 1 rfl) ?_
    subst hQ
    exact en_i (tv := (I_X5_roomTold_30 ep G r what)) hx hb hr hlocks (by rw [F_X5_roomTold, if_pos c2]) rfl hK (by first | with_reducible exact hP | exact hP) (by first | with_reducible exact hD | exact hD) hS (Nat.le_refl _) (Nat.le_refl _) dX5_roomTold_84
  · refine lv_iload_n hx hb dX5_roomTold_5 rfl (lv_at hl 2 rfl) ?_
    refine lv_if_ne (tgt := 18) hx hb dX5_roomTold_6 (by decide) (fun c6 => ?_) (fun c6 => ?_)
    · refine lv_aload_n hx hb dX5_roomTold_18 rfl (lv_at hl 0 rfl) ?_
      refine va_get (D := D) (ci := 5) (v := .ref ml) (C := RX5) (T := TX5) (N := 9) hx hb hts hin5 hown hK hP 0 rfl rfl 4 (by decide) (hts (.fieldLink RX5 16 "FireflyInnModel" "lamps" "[I") (List.mem_of_getElem? (i := 2) rfl)) (fun _ h9 => h9) rfl dX5_roomTold_19 ?_
      refine lv_iload_n hx hb dX5_roomTold_22 rfl (lv_at hl 1 rfl) ?_
      refine ial_n (k := r) hx hb hK hP 3 rfl (by omega) (by decide) dX5_roomTold_23 ?_
      subst hQ
      exact en_i (tv := (el r)) hx hb hr hlocks (by rw [F_X5_roomTold, if_neg c2, if_neg c6]) rfl hK (by first | with_reducible exact hP | exact hP) (by first | with_reducible exact hD | exact hD) hS (Nat.le_refl _) (Nat.le_refl _) dX5_roomTold_24
    · refine lv_aload_n hx hb dX5_roomTold_9 rfl (lv_at hl 0 rfl) ?_
      refine va_get (D := D) (ci := 5) (v := .ref mw) (C := RX5) (T := TX5) (N := 9) hx hb hts hin5 hown hK hP 0 rfl rfl 3 (by decide) (hts (.fieldLink RX5 13 "FireflyInnModel" "windows" "[I") (List.mem_of_getElem? (i := 1) rfl)) (fun _ h9 => h9) rfl dX5_roomTold_10 ?_
      refine lv_iload_n hx hb dX5_roomTold_13 rfl (lv_at hl 1 rfl) ?_
      refine ial_n (k := r) hx hb hK hP 2 rfl (by omega) (by decide) dX5_roomTold_14 ?_
      refine lv_goto (tgt := 24) hx hb dX5_roomTold_15 (by decide) ?_
      subst hQ
      exact en_i (tv := (ew r)) hx hb hr hlocks (by rw [F_X5_roomTold, if_neg c2, if_pos c6]) rfl hK (by first | with_reducible exact hP | exact hP) (by first | with_reducible exact hD | exact hD) hS (Nat.le_refl _) (Nat.le_refl _) dX5_roomTold_24
