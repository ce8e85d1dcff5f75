def L_X5_lit_2 (ew : Nat → Int32) (el : Nat → Int32) (x : Int32) : Nat → Nat → Int32
  | 0, _ =>
    0
  | n2 + 1, k2 =>
    if (el k2) = 1 then
      if 1 < (ab ((ew k2) - x)) then
        L_X5_lit_2 ew el x n2 (k2 + 1)
      else
        1
    else
      L_X5_lit_2 ew el x n2 (k2 + 1)
def F_X5_lit (ew : Nat → Int32) (el : Nat → Int32) (R : Nat) (x : Int32) : Int32 :=
  L_X5_lit_2 ew el x R 0
set_option maxHeartbeats 4000000 in
set_option maxRecDepth 100000 in
theorem k_X5_lit (l : Launch) (D : va_G) (cy : Nat → ClassId) (sz : Nat) (mx mh mw ml mp mq mb : Nat) (th : Int32) (eh : Nat → Int32) (ew : Nat → Int32) (el : Nat → Int32) (ep : Nat → Int32) (en : Nat → Int32) (eb : Nat → Int32) (R : Nat) (G : Nat) (x : Int32) (hR : R ≤ 6) (hG : G ≤ 12) : MTa l D cy yX5_lit wsX5_lit 1 0 0 24 [(mx, .inr (5, [.int th, .ref mh, .int (nI R), .ref mw, .ref ml, .int (nI G), .ref mp, .ref mq, .ref mb])), (mh, .inl (cy 0, 50, .inl eh)), (mw, .inl (cy 0, 6, .inl ew)), (ml, .inl (cy 0, 6, .inl el)), (mp, .inl (cy 0, 72, .inl ep)), (mq, .inl (cy 0, 2, .inl en)), (mb, .inl (cy 0, 50, .inl eb))] sz [.ref mx, .int x] (fun A => QiT D cy (fun (t : Int32) => t) (fun (_ : Int32) => [(mx, .inr (5, [.int th, .ref mh, .int (nI R), .ref mw, .ref ml, .int (nI G), .ref mp, .ref mq, .ref mb])), (mh, .inl (cy 0, 50, .inl eh)), (mw, .inl (cy 0, 6, .inl ew)), (ml, .inl (cy 0, 6, .inl el)), (mp, .inl (cy 0, 72, .inl ep)), (mq, .inl (cy 0, 2, .inl en)), (mb, .inl (cy 0, 50, .inl eb))]) (F_X5_lit ew el R x) A) := by
  refine ofWT (cc := cX5_lit) (maxL := 3) (ret := (some .boolean)) (own := RX5) (by decide) rfl (Nat.le_of_ble_eq_true rfl) rfl ?_
  intro p e s m args below meth c A ls hx hb hr hml hts hown hlocks hin hN hK hP hD hA hl
  have hS : va_S A s.heap s.heap [] := va_S.rf
  have hl : lv_has ls 3 [(0, .ref mx), (1, .int x)] := hl
  have hin5 : ∀ w ∈ u_ws RX5 TX5 9, w ∈ wsX5_lit := (fun w h => List.mem_cons_of_mem _ (List.mem_append_right _ h))
  generalize hQ : MQ below ((fun A => QiT D cy (fun (t : Int32) => t) (fun (_ : Int32) => [(mx, .inr (5, [.int th, .ref mh, .int (nI R), .ref mw, .ref ml, .int (nI G), .ref mp, .ref mq, .ref mb])), (mh, .inl (cy 0, 50, .inl eh)), (mw, .inl (cy 0, 6, .inl ew)), (ml, .inl (cy 0, 6, .inl el)), (mp, .inl (cy 0, 72, .inl ep)), (mq, .inl (cy 0, 2, .inl en)), (mb, .inl (cy 0, 50, .inl eb))]) (F_X5_lit ew el R x) A) A) args s 0 0 A = Q
  refine lv_iconst (v := 0) hx hb dX5_lit_0 (by decide) ?_
  refine lv_istore_n (lv' := [(2, .int 0), (0, .ref mx), (1, .int x)]) hx hb dX5_lit_1 rfl hl (by decide) rfl (fun ls hl => ?_)
  have lp2 : ∀ (n2 k2 : Nat) (H : Heap) (locs : List Loc) (ls : Array Slot), k2 + n2 = R → (F_X5_lit ew el R x) = L_X5_lit_2 ew el x n2 k2 → va_P D vwCl [(mx, .inr (5, [.int th, .ref mh, .int (nI R), .ref mw, .ref ml, .int (nI G), .ref mp, .ref mq, .ref mb])), (mh, .inl (cy 0, 50, .inl eh)), (mw, .inl (cy 0, 6, .inl ew)), (ml, .inl (cy 0, 6, .inl el)), (mp, .inl (cy 0, 72, .inl ep)), (mq, .inl (cy 0, 2, .inl en)), (mb, .inl (cy 0, 50, .inl eb))] H → va_D A [(mx, .inr (5, [.int th, .ref mh, .int (nI R), .ref mw, .ref ml, .int (nI G), .ref mp, .ref mq, .ref mb])), (mh, .inl (cy 0, 50, .inl eh)), (mw, .inl (cy 0, 6, .inl ew)), (ml, .inl (cy 0, 6, .inl el)), (mp, .inl (cy 0, 72, .inl ep)), (mq, .inl (cy 0, 2, .inl en)), (mb, .inl (cy 0, 50, .inl eb))] → va_S A s.heap H locs → lv_has ls 3 [(2, .int (nI k2)), (0, .ref mx), (1, .int x)] → W p l e (RM 1 0 0 24) s m args below meth c H locs 0 0 Q (F0 m 2 ls []) := by
    intro n2
    induction n2 with
    | zero =>
      intro k2 H locs ls hkn2 hE2 hP hD hS hl
      have hk2 : R = k2 := by omega
      subst hk2
      refine lv_iload_n hx hb dX5_lit_2 rfl (lv_at hl 0 rfl) ?_
      refine lv_aload_n hx hb dX5_lit_3 rfl (lv_at hl 1 rfl) ?_
      refine va_get (D := D) (ci := 5) (v := .int (nI R)) (C := RX5) (T := TX5) (N := 9) hx hb hts hin5 hown hK hP 0 rfl rfl 2 (by decide) (hts (.fieldLink RX5 36 "FireflyInnModel" "rooms" "I") (List.mem_of_getElem? (i := 1) rfl)) (fun _ h9 => h9) rfl dX5_lit_4 ?_
      refine lv_icmp_ge (tgt := 43) hx hb dX5_lit_7 (by decide) (fun c7 => ?_) (fun c7 => ?_)
      rotate_left
      · exact absurd (nI_le (a := R) (b := R) (Nat.le_refl _) (by omega)) c7
      refine lv_iconst (v := 0) hx hb dX5_lit_43 (by decide) ?_
      subst hQ
      exact en_z (tv := 0) hx hb hr hlocks (hE2.trans (by rw [L_X5_lit_2])) rfl hK (by first | with_reducible exact hP | exact hP) (by first | with_reducible exact hD | exact hD) hS (Nat.le_refl _) (Nat.le_refl _) (by decide) dX5_lit_44
    | succ n2 ih2 =>
      intro k2 H locs ls hkn2 hE2 hP hD hS hl
      have hlt2 : k2 < R := by omega
      refine lv_iload_n hx hb dX5_lit_2 rfl (lv_at hl 0 rfl) ?_
      refine lv_aload_n hx hb dX5_lit_3 rfl (lv_at hl 1 rfl) ?_
      refine va_get (D := D) (ci := 5) (v := .int (nI R)) (C := RX5) (T := TX5) (N := 9) hx hb hts hin5 hown hK hP 0 rfl rfl 2 (by decide) (hts (.fieldLink RX5 36 "FireflyInnModel" "rooms" "I") (List.mem_of_getElem? (i := 1) rfl)) (fun _ h9 => h9) rfl dX5_lit_4 ?_
      refine lv_icmp_ge (tgt := 43) hx hb dX5_lit_7 (by decide) (fun c7 => ?_) (fun c7 => ?_)
      · exact absurd c7 (nI_ge (a := k2) (b := R) hlt2 (by omega))
      refine lv_aload_n hx hb dX5_lit_10 rfl (lv_at hl 1 rfl) ?_
      refine va_get (D := D) (ci := 5) (v := .ref ml) (C := RX5) (T := TX5) (N := 9) hx hb hts hin5 hown hK hP 0 rfl rfl 4 (by decide) (hts (.fieldLink RX5 16 "FireflyInnModel" "lamps" "[I") (List.mem_of_getElem? (i := 2) rfl)) (fun _ h9 => h9) rfl dX5_lit_11 ?_
      refine lv_iload_n hx hb dX5_lit_14 rfl (lv_at hl 0 rfl) ?_
      refine ial_n (k := k2) hx hb hK hP 3 rfl (by omega) (by decide) dX5_lit_15 ?_
      refine lv_iconst (v := 1) hx hb dX5_lit_16 (by decide) ?_
      refine lv_icmp_ne (tgt := 37) hx hb dX5_lit_17 (by decide) (fun c17 => ?_) (fun c17 => ?_)
      · refine lv_iinc (v := (nI (k2 + 1))) (lv' := [(2, .int (nI (k2 + 1))), (0, .ref mx), (1, .int x)]) hx hb dX5_lit_37 hl (k := 0) rfl (nI_1 k2) (by decide) rfl (fun ls hl => ?_)
        refine lv_goto (tgt := 2) hx hb dX5_lit_40 (by decide) ?_
        exact ih2 (k2 + 1)  _ _ _ (by omega) (hE2.trans (by rw [L_X5_lit_2, if_neg c17])) hP hD hS (lv_sub hl [0, 1, 2] rfl)
      · refine lv_aload_n hx hb dX5_lit_20 rfl (lv_at hl 1 rfl) ?_
        refine va_get (D := D) (ci := 5) (v := .ref mw) (C := RX5) (T := TX5) (N := 9) hx hb hts hin5 hown hK hP 0 rfl rfl 3 (by decide) (hts (.fieldLink RX5 13 "FireflyInnModel" "windows" "[I") (List.mem_of_getElem? (i := 3) rfl)) (fun _ h9 => h9) rfl dX5_lit_21 ?_
        refine lv_iload_n hx hb dX5_lit_24 rfl (lv_at hl 0 rfl) ?_
        refine ial_n (k := k2) hx hb hK hP 2 rfl (by omega) (by decide) dX5_lit_25 ?_
        refine lv_iload_n hx hb dX5_lit_26 rfl (lv_at hl 2 rfl) ?_
        refine lv_isub hx hb dX5_lit_27 ?_
        refine va_mabs (rest := []) hx hb (hml.trans hl.1.symm) hown (hts (.methodLink RX5 42 Lib.Math.abs.name) (List.mem_of_getElem? (i := 4) rfl)) (hts (.static Lib.Math.abs.name) (List.mem_of_getElem? (i := 5) rfl)) (hts (.initialized "java/lang/Math") (List.mem_of_getElem? (i := 6) rfl)) (hts (.code Lib.Math.abs.name Lib.Math.abs.code 1 (some .int)) (List.mem_of_getElem? (i := 7) rfl)) (Nat.le_of_ble_eq_true rfl) (Nat.le_of_ble_eq_true rfl) (Nat.le_of_ble_eq_true rfl) (Nat.le_of_ble_eq_true rfl) dX5_lit_28 ?_
        refine lv_iv (y := (ab ((ew k2) - x))) rfl ?_
        refine lv_iconst (v := 1) hx hb dX5_lit_31 (by decide) ?_
        refine lv_icmp_gt (tgt := 37) hx hb dX5_lit_32 (by decide) (fun c32 => ?_) (fun c32 => ?_)
        · refine lv_iinc (v := (nI (k2 + 1))) (lv' := [(2, .int (nI (k2 + 1))), (0, .ref mx), (1, .int x)]) hx hb dX5_lit_37 hl (k := 0) rfl (nI_1 k2) (by decide) rfl (fun ls hl => ?_)
          refine lv_goto (tgt := 2) hx hb dX5_lit_40 (by decide) ?_
          exact ih2 (k2 + 1)  _ _ _ (by omega) (hE2.trans (by rw [L_X5_lit_2, if_pos c17, if_pos c32])) hP hD hS (lv_sub hl [0, 1, 2] rfl)
        · refine lv_iconst (v := 1) hx hb dX5_lit_35 (by decide) ?_
          subst hQ
          exact en_z (tv := 1) hx hb hr hlocks (hE2.trans (by rw [L_X5_lit_2, if_pos c17, if_neg c32])) rfl hK (by first | with_reducible exact hP | exact hP) (by first | with_reducible exact hD | exact hD) hS (Nat.le_refl _) (Nat.le_refl _) (by decide) dX5_lit_36
  exact lp2 R 0  _ _ _ (by omega) (by rw [F_X5_lit]) hP hD hS (lv_sub hl [0, 1, 2] rfl)

def F_X5_isLit (ew : Nat → Int32) (el : Nat → Int32) (R : Nat) (x : Int32) : Int32 × Int32 :=
  if (F_X5_isIn x 0 9) = 0 then
    (0, 1)
  else
    if (F_X5_lit ew el R x) = 0 then
      (0, 0)
    else
      (1, 0)
set_option maxHeartbeats 4000000 in
set_option maxRecDepth 100000 in
theorem k_X5_isLit (l : Launch) (D : va_G) (cy : Nat → ClassId) (sz : Nat) (mx mh mw ml mp mq mb : Nat) (th : Int32) (eh : Nat → Int32) (ew : Nat → Int32) (el : Nat → Int32) (ep : Nat → Int32) (en : Nat → Int32) (eb : Nat → Int32) (R : Nat) (G : Nat) (x : Int32) (hR : R ≤ 6) (hG : G ≤ 12) : MTa l D cy yX5_isLit wsX5_isLit 2 0 0 46 [(mx, .inr (5, [.int th, .ref mh, .int (nI R), .ref mw, .ref ml, .int (nI G), .ref mp, .ref mq, .ref mb])), (mh, .inl (cy 0, 50, .inl eh)), (mw, .inl (cy 0, 6, .inl ew)), (ml, .inl (cy 0, 6, .inl el)), (mp, .inl (cy 0, 72, .inl ep)), (mq, .inl (cy 0, 2, .inl en)), (mb, .inl (cy 0, 50, .inl eb))] sz [.ref mx, .int x] (fun A => QiT D cy (fun (t : Int32 × Int32) => t.1) (fun (t : Int32 × Int32) => [(mx, .inr (5, [.int t.2, .ref mh, .int (nI R), .ref mw, .ref ml, .int (nI G), .ref mp, .ref mq, .ref mb])), (mh, .inl (cy 0, 50, .inl eh)), (mw, .inl (cy 0, 6, .inl ew)), (ml, .inl (cy 0, 6, .inl el)), (mp, .inl (cy 0, 72, .inl ep)), (mq, .inl (cy 0, 2, .inl en)), (mb, .inl (cy 0, 50, .inl eb))]) (F_X5_isLit ew el R x) A) := by
  refine ofWT (cc := cX5_isLit) (maxL := 2) (ret := (some .boolean)) (own := RX5) (by decide) rfl (Nat.le_of_ble_eq_true rfl) rfl ?_
  intro p e s m args below meth c A ls hx hb hr hml hts hown hlocks hin hN hK hP hD hA hl
  have hS : va_S A s.heap s.heap [] := va_S.rf
  have hl : lv_has ls 2 [(0, .ref mx), (1, .int x)] := hl
  have hin5 : ∀ w ∈ u_ws RX5 TX5 9, w ∈ wsX5_isLit := (fun w h => List.mem_cons_of_mem _ (List.mem_append_right _ h))
  generalize hQ : MQ below ((fun A => QiT D cy (fun (t : Int32 × Int32) => t.1) (fun (t : Int32 × Int32) => [(mx, .inr (5, [.int t.2, .ref mh, .int (nI R), .ref mw, .ref ml, .int (nI G), .ref mp, .ref mq, .ref mb])), (mh, .inl (cy 0, 50, .inl eh)), (mw, .inl (cy 0, 6, .inl ew)), (ml, .inl (cy 0, 6, .inl el)), (mp, .inl (cy 0, 72, .inl ep)), (mq, .inl (cy 0, 2, .inl en)), (mb, .inl (cy 0, 50, .inl eb))]) (F_X5_isLit ew el R x) A) A) args s 0 0 A = Q
  refine lv_aload_n hx hb dX5_isLit_0 rfl (lv_at hl 0 rfl) ?_
  refine lv_iload_n hx hb dX5_isLit_1 rfl (lv_at hl 1 rfl) ?_
  refine lv_iconst (v := 0) hx hb dX5_isLit_2 (by decide) ?_
  refine lv_bipush (v := 9) hx hb dX5_isLit_3 (by decide) ?_
  refine cl_i (wr := [(mx, .inr (5, [.int th, .ref mh, .int (nI R), .ref mw, .ref ml, .int (nI G), .ref mp, .ref mq, .ref mb])), (mh, .inl (cy 0, 50, .inl eh)), (mw, .inl (cy 0, 6, .inl ew)), (ml, .inl (cy 0, 6, .inl el)), (mp, .inl (cy 0, 72, .inl ep)), (mq, .inl (cy 0, 2, .inl en)), (mb, .inl (cy 0, 50, .inl eb))]) (w2 := [(mx, .inr (5, [.int th, .ref mh, .int (nI R), .ref mw, .ref ml, .int (nI G), .ref mp, .ref mq, .ref mb])), (mh, .inl (cy 0, 50, .inl eh)), (mw, .inl (cy 0, 6, .inl ew)), (ml, .inl (cy 0, 6, .inl el)), (mp, .inl (cy 0, 72, .inl ep)), (mq, .inl (cy 0, 2, .inl en)), (mb, .inl (cy 0, 50, .inl eb))]) (rn_S (As := [.int x, .int 0, .int 9]) (rest := [.ref mx]) ⟨hx, hb, hml, hown, hts⟩ (k_X5_isIn l D cy _ x 0 9) (va_cwS 3 hts gX5_isLit_X5_isIn rfl rfl rfl (by decide +kernel) ⟨Nat.le_of_ble_eq_true rfl, Nat.le_of_ble_eq_true rfl⟩) hN hK hP hD [] rfl (by decide) rfl hl.1 rfl (Nat.le_of_ble_eq_true rfl) dX5_isLit_5 ⟨Nat.le_of_ble_eq_true rfl, Nat.le_of_ble_eq_true rfl⟩) hP hD hS hA [] [0, 1, 2, 3, 4, 5, 6] [0, 1, 2, 3, 4, 5, 6] rfl rfl (by decide) (by decide) rfl (by decide) (fun H locs hP hD hS => ?_)
  refine lv_if_eq (tgt := 15) hx hb dX5_isLit_8 (by decide) (fun c8 => ?_) (fun c8 => ?_)
  · refine lv_iconst (v := 1) hx hb dX5_isLit_15 (by decide) ?_
    refine va_put (D := D) (ci := 5) (v := .int 1) (ty := .int) (C := RX5) (T := TX5) (N := 9) hx hb hts hin5 tyX5 tyX5_ok nmX5 hown hK hP hD hS 0 rfl rfl 0 (by decide) (hts (.fieldLink RX5 28 "FireflyInnModel" "thrown" "I") (List.mem_of_getElem? (i := 1) rfl)) (fun _ h9 => h9) rfl (by decide +kernel) rfl rfl (Nat.le_of_ble_eq_true rfl) dX5_isLit_16 (fun H locs hP hD hS => ?_)
    have hP : va_P D vwCl [(mx, .inr (5, [.int 1, .ref mh, .int (nI R), .ref mw, .ref ml, .int (nI G), .ref mp, .ref mq, .ref mb])), (mh, .inl (cy 0, 50, .inl eh)), (mw, .inl (cy 0, 6, .inl ew)), (ml, .inl (cy 0, 6, .inl el)), (mp, .inl (cy 0, 72, .inl ep)), (mq, .inl (cy 0, 2, .inl en)), (mb, .inl (cy 0, 50, .inl eb))] H := hP
    have hD : va_D A [(mx, .inr (5, [.int 1, .ref mh, .int (nI R), .ref mw, .ref ml, .int (nI G), .ref mp, .ref mq, .ref mb])), (mh, .inl (cy 0, 50, .inl eh)), (mw, .inl (cy 0, 6, .inl ew)), (ml, .inl (cy 0, 6, .inl el)), (mp, .inl (cy 0, 72, .inl ep)), (mq, .inl (cy 0, 2, .inl en)), (mb, .inl (cy 0, 50, .inl eb))] := hD
    refine lv_aload_n hx hb dX5_isLit_19 rfl (lv_at hl 0 rfl) ?_
    refine va_get (D := D) (ci := 5) (v := .int 1) (C := RX5) (T := TX5) (N := 9) hx hb hts hin5 hown hK hP 0 rfl rfl 0 (by decide) (hts (.fieldLink RX5 28 "FireflyInnModel" "thrown" "I") (List.mem_of_getElem? (i := 1) rfl)) (fun _ h9 => h9) rfl dX5_isLit_20 ?_
    refine lv_if_ne (tgt := 38) hx hb dX5_isLit_23 (by decide) (fun c23 => ?_) (fun c23 => ?_)
    rotate_left
    · exact absurd c23 (by decide)
    refine lv_iconst (v := 0) hx hb dX5_isLit_38 (by decide) ?_
    subst hQ
    exact en_z (tv := (0, 1)) hx hb hr hlocks (by rw [F_X5_isLit, if_pos c8]) rfl hK (by first | with_reducible exact hP | exact hP) (by first | with_reducible exact hD | exact hD) hS (Nat.le_refl _) (Nat.le_refl _) (by decide) dX5_isLit_39
  · refine lv_iconst (v := 0) hx hb dX5_isLit_11 (by decide) ?_
    refine lv_goto (tgt := 16) hx hb dX5_isLit_12 (by decide) ?_
    refine va_put (D := D) (ci := 5) (v := .int 0) (ty := .int) (C := RX5) (T := TX5) (N := 9) hx hb hts hin5 tyX5 tyX5_ok nmX5 hown hK hP hD hS 0 rfl rfl 0 (by decide) (hts (.fieldLink RX5 28 "FireflyInnModel" "thrown" "I") (List.mem_of_getElem? (i := 1) rfl)) (fun _ h9 => h9) rfl (by decide +kernel) rfl rfl (Nat.le_of_ble_eq_true rfl) dX5_isLit_16 (fun H locs hP hD hS => ?_)
    have hP : va_P D vwCl [(mx, .inr (5, [.int 0, .ref mh, .int (nI R), .ref mw, .ref ml, .int (nI G), .ref mp, .ref mq, .ref mb])), (mh, .inl (cy 0, 50, .inl eh)), (mw, .inl (cy 0, 6, .inl ew)), (ml, .inl (cy 0, 6, .inl el)), (mp, .inl (cy 0, 72, .inl ep)), (mq, .inl (cy 0, 2, .inl en)), (mb, .inl (cy 0, 50, .inl eb))] H := hP
    have hD : va_D A [(mx, .inr (5, [.int 0, .ref mh, .int (nI R), .ref mw, .ref ml, .int (nI G), .ref mp, .ref mq, .ref mb])), (mh, .inl (cy 0, 50, .inl eh)), (mw, .inl (cy 0, 6, .inl ew)), (ml, .inl (cy 0, 6, .inl el)), (mp, .inl (cy 0, 72, .inl ep)), (mq, .inl (cy 0, 2, .inl en)), (mb, .inl (cy 0, 50, .inl eb))] := hD
    refine lv_aload_n hx hb dX5_isLit_19 rfl (lv_at hl 0 rfl) ?_
    refine va_get (D := D) (ci := 5) (v := .int 0) (C := RX5) (T := TX5) (N := 9) hx hb hts hin5 hown hK hP 0 rfl rfl 0 (by decide) (hts (.fieldLink RX5 28 "FireflyInnModel" "thrown" "I") (List.mem_of_getElem? (i := 1) rfl)) (fun _ h9 => h9) rfl dX5_isLit_20 ?_
    refine lv_if_ne (tgt := 38) hx hb dX5_isLit_23 (by decide) (fun c23 => ?_) (fun c23 => ?_)
    · exact absurd (by decide) c23
    refine lv_aload_n hx hb dX5_isLit_26 rfl (lv_at hl 0 rfl) ?_
    refine lv_iload_n hx hb dX5_isLit_27 rfl (lv_at hl 1 rfl) ?_
    refine cl_i (wr := []) (w2 := [(mx, .inr (5, [.int 0, .ref mh, .int (nI R), .ref mw, .ref ml, .int (nI G), .ref mp, .ref mq, .ref mb])), (mh, .inl (cy 0, 50, .inl eh)), (mw, .inl (cy 0, 6, .inl ew)), (ml, .inl (cy 0, 6, .inl el)), (mp, .inl (cy 0, 72, .inl ep)), (mq, .inl (cy 0, 2, .inl en)), (mb, .inl (cy 0, 50, .inl eb))]) (rn_V (As := [.int x]) (rest := []) (ci := 5) (q0 := 0) ⟨hx, hb, hml, hown, hts⟩ (k_X5_lit l D cy _ mx mh mw ml mp mq mb 0 eh ew el ep en eb R G x hR hG) (cwV 1 hts gX5_isLit_X5_lit rfl rfl rfl (by decide +kernel) ⟨Nat.le_of_ble_eq_true rfl, Nat.le_of_ble_eq_true rfl⟩) hN hK hP hD [0, 1, 2, 3, 4, 5, 6] rfl (by decide) rfl rfl rfl rfl hl.1 rfl (Nat.le_of_ble_eq_true rfl) dX5_isLit_28 ⟨Nat.le_of_ble_eq_true rfl, Nat.le_of_ble_eq_true rfl⟩) hP hD hS hA [0, 1, 2, 3, 4, 5, 6] [] [0, 1, 2, 3, 4, 5, 6] rfl rfl (by decide) (by decide) rfl (by decide) (fun H locs hP hD hS => ?_)
    refine lv_if_eq (tgt := 38) hx hb dX5_isLit_31 (by decide) (fun c31 => ?_) (fun c31 => ?_)
    · refine lv_iconst (v := 0) hx hb dX5_isLit_38 (by decide) ?_
      subst hQ
      exact en_z (tv := (0, 0)) hx hb hr hlocks (by rw [F_X5_isLit, if_neg c8, if_pos c31]) rfl hK (by first | with_reducible exact hP | exact hP) (by first | with_reducible exact hD | exact hD) hS (Nat.le_refl _) (Nat.le_refl _) (by decide) dX5_isLit_39
    · refine lv_iconst (v := 1) hx hb dX5_isLit_34 (by decide) ?_
      refine lv_goto (tgt := 39) hx hb dX5_isLit_35 (by decide) ?_
      subst hQ
      exact en_z (tv := (1, 0)) hx hb hr hlocks (by rw [F_X5_isLit, if_neg c8, if_neg c31]) rfl hK (by first | with_reducible exact hP | exact hP) (by first | with_reducible exact hD | exact hD) hS (Nat.le_refl _) (Nat.le_refl _) (by decide) dX5_isLit_39

theorem guest_ok {G g : Nat} (hG : G ≤ 12) (hg : g < G) : ¬ F_X5_isGuest G (nI g) = 0 := by
  unfold F_X5_isGuest
  rw [isIn_mk]
  · decide
  have e1 : (1 : Int32).toInt = 1 := rfl
  have eR : (nI G).toInt = G := nI_toInt (by omega)
  have eg : (nI g).toInt = g := nI_toInt (by omega)
  have e0 : (0 : Int32).toInt = 0 := rfl
  rw [i_le, i_le, i_sub (by omega) (by omega)]
  omega
theorem room_ok {R r : Nat} (hR : R ≤ 6) (hr : r < R) : ¬ F_X5_isRoom R (nI r) = 0 := by
  unfold F_X5_isRoom
  rw [isIn_mk]
  · decide
  have e1 : (1 : Int32).toInt = 1 := rfl
  have eR : (nI R).toInt = R := nI_toInt (by omega)
  have eg : (nI r).toInt = r := nI_toInt (by omega)
  have e0 : (0 : Int32).toInt = 0 := rfl
  rw [i_le, i_le, i_sub (by omega) (by omega)]
  omega

def F_X5_move (ep : Nat → Int32) (g : Nat) (r : Nat) : Int32 × Int32 × (Nat → Int32) :=
  if (F_X5_pe ep g 5) = 1 then
    ((F_X5_fail 2).1, (F_X5_fail 2).2, ep)
  else
    ((F_X5_pe ep g 0), 0, (F_X5_put ep g 0 (nI r)))
set_option maxHeartbeats 4000000 in
set_option maxRecDepth 100000 in
theorem k_X5_move (l : Launch) (D : va_G) (cy : Nat → ClassId) (sz : Nat) (mx mh mw ml mp mq mb : Nat) (th : Int32) (eh : Nat → Int32) (ew : Nat → Int32) (el : Nat → Int32) (ep : Nat → Int32) (en : Nat → Int32) (eb : Nat → Int32) (R : Nat) (G : Nat) (g : Nat) (r : Nat) (hR : R ≤ 6) (hG : G ≤ 12) (hg : g < G) (hrR : r < R) : MTa l D cy yX5_move wsX5_move 2 0 0 43 [(mx, .inr (5, [.int th, .ref mh, .int (nI R), .ref mw, .ref ml, .int (nI G), .ref mp, .ref mq, .ref mb])), (mh, .inl (cy 0, 50, .inl eh)), (mw, .inl (cy 0, 6, .inl ew)), (ml, .inl (cy 0, 6, .inl el)), (mp, .inl (cy 0, 72, .inl ep)), (mq, .inl (cy 0, 2, .inl en)), (mb, .inl (cy 0, 50, .inl eb))] sz [.ref mx, .int (nI g), .int (nI r)] (fun A => QiT D cy (fun (t : Int32 × Int32 × (Nat → Int32)) => t.1) (fun (t : Int32 × Int32 × (Nat → Int32)) => [(mx, .inr (5, [.int t.2.1, .ref mh, .int (nI R), .ref mw, .ref ml, .int (nI G), .ref mp, .ref mq, .ref mb])), (mh, .inl (cy 0, 50, .inl eh)), (mw, .inl (cy 0, 6, .inl ew)), (ml, .inl (cy 0, 6, .inl el)), (mp, .inl (cy 0, 72, .inl t.2.2)), (mq, .inl (cy 0, 2, .inl en)), (mb, .inl (cy 0, 50, .inl eb))]) (F_X5_move ep g r) A) := by
  refine ofWT (cc := cX5_move) (maxL := 4) (ret := (some .int)) (own := RX5) (by decide) rfl (Nat.le_of_ble_eq_true rfl) rfl ?_
  intro p e s m args below meth c A ls hx hb hr hml hts hown hlocks hin hN hK hP hD hA hl
  have hS : va_S A s.heap s.heap [] := va_S.rf
  have hl : lv_has ls 4 [(0, .ref mx), (1, .int (nI g)), (2, .int (nI r))] := hl
  have hin5 : ∀ w ∈ u_ws RX5 TX5 9, w ∈ wsX5_move := (fun w h => List.mem_cons_of_mem _ (List.mem_append_right _ h))
  generalize hQ : MQ below ((fun A => QiT D cy (fun (t : Int32 × Int32 × (Nat → Int32)) => t.1) (fun (t : Int32 × Int32 × (Nat → Int32)) => [(mx, .inr (5, [.int t.2.1, .ref mh, .int (nI R), .ref mw, .ref ml, .int (nI G), .ref mp, .ref mq, .ref mb])), (mh, .inl (cy 0, 50, .inl eh)), (mw, .inl (cy 0, 6, .inl ew)), (ml, .inl (cy 0, 6, .inl el)), (mp, .inl (cy 0, 72, .inl t.2.2)), (mq, .inl (cy 0, 2, .inl en)), (mb, .inl (cy 0, 50, .inl eb))]) (F_X5_move ep g r) A) A) args s 0 0 A = Q
  refine lv_aload_n hx hb dX5_move_0 rfl (lv_at hl 0 rfl) ?_
  refine lv_iconst (v := 0) hx hb dX5_move_1 (by decide) ?_
  refine va_put (D := D) (ci := 5) (v := .int 0) (ty := .int) (C := RX5) (T := TX5) (N := 9) hx hb hts hin5 tyX5 tyX5_ok nmX5 hown hK hP hD hS 0 rfl rfl 0 (by decide) (hts (.fieldLink RX5 28 "FireflyInnModel" "thrown" "I") (List.mem_of_getElem? (i := 1) rfl)) (fun _ h9 => h9) rfl (by decide +kernel) rfl rfl (Nat.le_of_ble_eq_true rfl) dX5_move_2 (fun H locs hP hD hS => ?_)
  have hP : va_P D vwCl [(mx, .inr (5, [.int 0, .ref mh, .int (nI R), .ref mw, .ref ml, .int (nI G), .ref mp, .ref mq, .ref mb])), (mh, .inl (cy 0, 50, .inl eh)), (mw, .inl (cy 0, 6, .inl ew)), (ml, .inl (cy 0, 6, .inl el)), (mp, .inl (cy 0, 72, .inl ep)), (mq, .inl (cy 0, 2, .inl en)), (mb, .inl (cy 0, 50, .inl eb))] H := hP
  have hD : va_D A [(mx, .inr (5, [.int 0, .ref mh, .int (nI R), .ref mw, .ref ml, .int (nI G), .ref mp, .ref mq, .ref mb])), (mh, .inl (cy 0, 50, .inl eh)), (mw, .inl (cy 0, 6, .inl ew)), (ml, .inl (cy 0, 6, .inl el)), (mp, .inl (cy 0, 72, .inl ep)), (mq, .inl (cy 0, 2, .inl en)), (mb, .inl (cy 0, 50, .inl eb))] := hD
  refine lv_aload_n hx hb dX5_move_5 rfl (lv_at hl 0 rfl) ?_
  refine lv_iload_n hx hb dX5_move_6 rfl (lv_at hl 1 rfl) ?_
  refine cl_i (wr := []) (w2 := [(mx, .inr (5, [.int 0, .ref mh, .int (nI R), .ref mw, .ref ml, .int (nI G), .ref mp, .ref mq, .ref mb])), (mh, .inl (cy 0, 50, .inl eh)), (mw, .inl (cy 0, 6, .inl ew)), (ml, .inl (cy 0, 6, .inl el)), (mp, .inl (cy 0, 72, .inl ep)), (mq, .inl (cy 0, 2, .inl en)), (mb, .inl (cy 0, 50, .inl eb))]) (rn_V (As := [.int (nI g)]) (rest := []) (ci := 5) (q0 := 0) ⟨hx, hb, hml, hown, hts⟩ (k_X5_isGuest l D cy _ mx mh mw ml mp mq mb 0 eh ew el ep en eb R G (nI g) hR hG) (cwV 1 hts gX5_move_X5_isGuest rfl rfl rfl (by decide +kernel) ⟨Nat.le_of_ble_eq_true rfl, Nat.le_of_ble_eq_true rfl⟩) hN hK hP hD [0, 1, 2, 3, 4, 5, 6] rfl (by decide) rfl rfl rfl rfl hl.1 rfl (Nat.le_of_ble_eq_true rfl) dX5_move_7 ⟨Nat.le_of_ble_eq_true rfl, Nat.le_of_ble_eq_true rfl⟩) hP hD hS hA [0, 1, 2, 3, 4, 5, 6] [] [0, 1, 2, 3, 4, 5, 6] rfl rfl (by decide) (by decide) rfl (by decide) (fun H locs hP hD hS => ?_)
  refine lv_if_eq (tgt := 21) hx hb dX5_move_10 (by decide) (fun c10 => ?_) (fun c10 => ?_)
  · exact absurd c10 (guest_ok hG hg)
  refine lv_aload_n hx hb dX5_move_13 rfl (lv_at hl 0 rfl) ?_
  refine lv_iload_n hx hb dX5_move_14 rfl (lv_at hl 2 rfl) ?_
  refine cl_i (wr := []) (w2 := [(mx, .inr (5, [.int 0, .ref mh, .int (nI R), .ref mw, .ref ml, .int (nI G), .ref mp, .ref mq, .ref mb])), (mh, .inl (cy 0, 50, .inl eh)), (mw, .inl (cy 0, 6, .inl ew)), (ml, .inl (cy 0, 6, .inl el)), (mp, .inl (cy 0, 72, .inl ep)), (mq, .inl (cy 0, 2, .inl en)), (mb, .inl (cy 0, 50, .inl eb))]) (rn_V (As := [.int (nI r)]) (rest := []) (ci := 5) (q0 := 0) ⟨hx, hb, hml, hown, hts⟩ (k_X5_isRoom l D cy _ mx mh mw ml mp mq mb 0 eh ew el ep en eb R G (nI r) hR hG) (cwV 1 hts gX5_move_X5_isRoom rfl rfl rfl (by decide +kernel) ⟨Nat.le_of_ble_eq_true rfl, Nat.le_of_ble_eq_true rfl⟩) hN hK hP hD [0, 1, 2, 3, 4, 5, 6] rfl (by decide) rfl rfl rfl rfl hl.1 rfl (Nat.le_of_ble_eq_true rfl) dX5_move_15 ⟨Nat.le_of_ble_eq_true rfl, Nat.le_of_ble_eq_true rfl⟩) hP hD hS hA [0, 1, 2, 3, 4, 5, 6] [] [0, 1, 2, 3, 4, 5, 6] rfl rfl (by decide) (by decide) rfl (by decide) (fun H locs hP hD hS => ?_)
  refine lv_if_ne (tgt := 27) hx hb dX5_move_18 (by decide) (fun c18 => ?_) (fun c18 => ?_)
  rotate_left
  · exact absurd c18 (room_ok hR hrR)
  refine lv_aload_n hx hb dX5_move_27 rfl (lv_at hl 0 rfl) ?_
  refine lv_iload_n hx hb dX5_move_28 rfl (lv_at hl 1 rfl) ?_
  refine lv_iconst (v := 5) hx hb dX5_move_29 (by decide) ?_
  refine cl_i (wr := []) (w2 := [(mx, .inr (5, [.int 0, .ref mh, .int (nI R), .ref mw, .ref ml, .int (nI G), .ref mp, .ref mq, .ref mb])), (mh, .inl (cy 0, 50, .inl eh)), (mw, .inl (cy 0, 6, .inl ew)), (ml, .inl (cy 0, 6, .inl el)), (mp, .inl (cy 0, 72, .inl ep)), (mq, .inl (cy 0, 2, .inl en)), (mb, .inl (cy 0, 50, .inl eb))]) (rn_V (As := [.int (nI g), .int 5]) (rest := []) (ci := 5) (q0 := 0) ⟨hx, hb, hml, hown, hts⟩ (k_X5_pe l D cy _ mx mh mw ml mp mq mb 0 eh ew el ep en eb R G g 5 hR hG (by omega)) (cwV 2 hts gX5_move_X5_pe rfl rfl rfl (by decide +kernel) ⟨Nat.le_of_ble_eq_true rfl, Nat.le_of_ble_eq_true rfl⟩) hN hK hP hD [0, 1, 2, 3, 4, 5, 6] rfl (by decide) rfl rfl rfl rfl hl.1 rfl (Nat.le_of_ble_eq_true rfl) dX5_move_30 ⟨Nat.le_of_ble_eq_true rfl, Nat.le_of_ble_eq_true rfl⟩) hP hD hS hA [0, 1, 2, 3, 4, 5, 6] [] [0, 1, 2, 3, 4, 5, 6] rfl rfl (by decide) (by decide) rfl (by decide) (fun H locs hP hD hS => ?_)
  refine lv_iconst (v := 1) hx hb dX5_move_33 (by decide) ?_
  refine lv_icmp_ne (tgt := 43) hx hb dX5_move_34 (by decide) (fun c34 => ?_) (fun c34 => ?_)
  · refine lv_aload_n hx hb dX5_move_43 rfl (lv_at hl 0 rfl) ?_
    refine lv_iload_n hx hb dX5_move_44 rfl (lv_at hl 1 rfl) ?_
    refine lv_iconst (v := 0) hx hb dX5_move_45 (by decide) ?_
    refine cl_i (wr := []) (w2 := [(mx, .inr (5, [.int 0, .ref mh, .int (nI R), .ref mw, .ref ml, .int (nI G), .ref mp, .ref mq, .ref mb])), (mh, .inl (cy 0, 50, .inl eh)), (mw, .inl (cy 0, 6, .inl ew)), (ml, .inl (cy 0, 6, .inl el)), (mp, .inl (cy 0, 72, .inl ep)), (mq, .inl (cy 0, 2, .inl en)), (mb, .inl (cy 0, 50, .inl eb))]) (rn_V (As := [.int (nI g), .int 0]) (rest := []) (ci := 5) (q0 := 0) ⟨hx, hb, hml, hown, hts⟩ (k_X5_pe l D cy _ mx mh mw ml mp mq mb 0 eh ew el ep en eb R G g 0 hR hG (by omega)) (cwV 2 hts gX5_move_X5_pe rfl rfl rfl (by decide +kernel) ⟨Nat.le_of_ble_eq_true rfl, Nat.le_of_ble_eq_true rfl⟩) hN hK hP hD [0, 1, 2, 3, 4, 5, 6] rfl (by decide) rfl rfl rfl rfl hl.1 rfl (Nat.le_of_ble_eq_true rfl) dX5_move_46 ⟨Nat.le_of_ble_eq_true rfl, Nat.le_of_ble_eq_true rfl⟩) hP hD hS hA [0, 1, 2, 3, 4, 5, 6] [] [0, 1, 2, 3, 4, 5, 6] rfl rfl (by decide) (by decide) rfl (by decide) (fun H locs hP hD hS => ?_)
    refine lv_istore_n (lv' := [(3, .int (F_X5_pe ep g 0)), (0, .ref mx), (1, .int (nI g)), (2, .int (nI r))]) hx hb dX5_move_49 rfl hl (by decide) rfl (fun ls hl => ?_)
    refine lv_aload_n hx hb dX5_move_50 rfl (lv_at hl 1 rfl) ?_
    refine lv_iload_n hx hb dX5_move_51 rfl (lv_at hl 2 rfl) ?_
    refine lv_iconst (v := 0) hx hb dX5_move_52 (by decide) ?_
    refine lv_iload_n hx hb dX5_move_53 rfl (lv_at hl 3 rfl) ?_
    refine cl_v (wr := []) (w2 := [(mx, .inr (5, [.int 0, .ref mh, .int (nI R), .ref mw, .ref ml, .int (nI G), .ref mp, .ref mq, .ref mb])), (mh, .inl (cy 0, 50, .inl eh)), (mw, .inl (cy 0, 6, .inl ew)), (ml, .inl (cy 0, 6, .inl el)), (mp, .inl (cy 0, 72, .inl (F_X5_put ep g 0 (nI r)))), (mq, .inl (cy 0, 2, .inl en)), (mb, .inl (cy 0, 50, .inl eb))]) (rn_V (As := [.int (nI g), .int 0, .int (nI r)]) (rest := []) (ci := 5) (q0 := 0) ⟨hx, hb, hml, hown, hts⟩ (k_X5_put l D cy _ mx mh mw ml mp mq mb 0 eh ew el ep en eb R G g 0 (nI r) hR hG (by omega)) (cwV 3 hts gX5_move_X5_put rfl rfl rfl (by decide +kernel) ⟨Nat.le_of_ble_eq_true rfl, Nat.le_of_ble_eq_true rfl⟩) hN hK hP hD [0, 1, 2, 3, 4, 5, 6] rfl (by decide) rfl rfl rfl rfl hl.1 rfl (Nat.le_of_ble_eq_true rfl) dX5_move_54 ⟨Nat.le_of_ble_eq_true rfl, Nat.le_of_ble_eq_true rfl⟩) hP hD hS hA [0, 1, 2, 3, 4, 5, 6] [] [0, 1, 2, 3, 4, 5, 6] rfl rfl (by decide) (by decide) rfl (by decide) (fun H locs hP hD hS => ?_)
    refine lv_iload_n hx hb dX5_move_57 rfl (lv_at hl 0 rfl) ?_
    subst hQ
    exact en_i (tv := ((F_X5_pe ep g 0), 0, (F_X5_put ep g 0 (nI r)))) hx hb hr hlocks (by rw [F_X5_move, if_neg c34]) rfl hK (by first | with_reducible exact hP | exact hP) (by first | with_reducible exact hD | exact hD) hS (Nat.le_refl _) (Nat.le_refl _) dX5_move_58
  · refine lv_aload_n hx hb dX5_move_37 rfl (lv_at hl 0 rfl) ?_
    refine lv_iconst (v := 2) hx hb dX5_move_38 (by decide) ?_
    refine cl_i (wr := []) (w2 := [(mx, .inr (5, [.int ((F_X5_fail 2).2), .ref mh, .int (nI R), .ref mw, .ref ml, .int (nI G), .ref mp, .ref mq, .ref mb])), (mh, .inl (cy 0, 50, .inl eh)), (mw, .inl (cy 0, 6, .inl ew)), (ml, .inl (cy 0, 6, .inl el)), (mp, .inl (cy 0, 72, .inl ep)), (mq, .inl (cy 0, 2, .inl en)), (mb, .inl (cy 0, 50, .inl eb))]) (rn_V (As := [.int 2]) (rest := []) (ci := 5) (q0 := 0) ⟨hx, hb, hml, hown, hts⟩ (k_X5_fail l D cy _ mx mh mw ml mp mq mb 0 eh ew el ep en eb R G 2 hR hG) (cwV 1 hts gX5_move_X5_fail rfl rfl rfl (by decide +kernel) ⟨Nat.le_of_ble_eq_true rfl, Nat.le_of_ble_eq_true rfl⟩) hN hK hP hD [0, 1, 2, 3, 4, 5, 6] rfl (by decide) rfl rfl rfl rfl hl.1 rfl (Nat.le_of_ble_eq_true rfl) dX5_move_39 ⟨Nat.le_of_ble_eq_true rfl, Nat.le_of_ble_eq_true rfl⟩) hP hD hS hA [0, 1, 2, 3, 4, 5, 6] [] [0, 1, 2, 3, 4, 5, 6] rfl rfl (by decide) (by decide) rfl (by decide) (fun H locs hP hD hS => ?_)
    subst hQ
    exact en_i (tv := ((F_X5_fail 2).1, (F_X5_fail 2).2, ep)) hx hb hr hlocks (by rw [F_X5_move, if_pos c34]) rfl hK (by first | with_reducible exact hP | exact hP) (by first | with_reducible exact hD | exact hD) hS (Nat.le_refl _) (Nat.le_refl _) dX5_move_42

def F_X5_move_bad (G : Nat) (g : Int32) : Int32 × Int32 :=
  if (F_X5_isGuest G g) = 0 then
    ((F_X5_fail 1).1, (F_X5_fail 1).2)
  else
    ((F_X5_fail 1).1, (F_X5_fail 1).2)
set_option maxHeartbeats 4000000 in
set_option maxRecDepth 100000 in
theorem k_X5_move_bad (l : Launch) (D : va_G) (cy : Nat → ClassId) (sz : Nat) (mx mh mw ml mp mq mb : Nat) (th : Int32) (eh : Nat → Int32) (ew : Nat → Int32) (el : Nat → Int32) (ep : Nat → Int32) (en : Nat → Int32) (eb : Nat → Int32) (R : Nat) (G : Nat) (g : Int32) (room : Int32) (hR : R ≤ 6) (hG : G ≤ 12) (hbad : F_X5_isGuest G g = 0 ∨ F_X5_isRoom R room = 0) : MTa l D cy yX5_move wsX5_move 2 0 0 43 [(mx, .inr (5, [.int th, .ref mh, .int (nI R), .ref mw, .ref ml, .int (nI G), .ref mp, .ref mq, .ref mb])), (mh, .inl (cy 0, 50, .inl eh)), (mw, .inl (cy 0, 6, .inl ew)), (ml, .inl (cy 0, 6, .inl el)), (mp, .inl (cy 0, 72, .inl ep)), (mq, .inl (cy 0, 2, .inl en)), (mb, .inl (cy 0, 50, .inl eb))] sz [.ref mx, .int g, .int room] (fun A => QiT D cy (fun (t : Int32 × Int32) => t.1) (fun (t : Int32 × Int32) => [(mx, .inr (5, [.int t.2, .ref mh, .int (nI R), .ref mw, .ref ml, .int (nI G), .ref mp, .ref mq, .ref mb])), (mh, .inl (cy 0, 50, .inl eh)), (mw, .inl (cy 0, 6, .inl ew)), (ml, .inl (cy 0, 6, .inl el)), (mp, .inl (cy 0, 72, .inl ep)), (mq, .inl (cy 0, 2, .inl en)), (mb, .inl (cy 0, 50, .inl eb))]) (F_X5_move_bad G g) A) := by
  refine ofWT (cc := cX5_move) (maxL := 4) (ret := (some .int)) (own := RX5) (by decide) rfl (Nat.le_of_ble_eq_true rfl) rfl ?_
  intro p e s m args below meth c A ls hx hb hr hml hts hown hlocks hin hN hK hP hD hA hl
  have hS : va_S A s.heap s.heap [] := va_S.rf
  have hl : lv_has ls 4 [(0, .ref mx), (1, .int g), (2, .int room)] := hl
  have hin5 : ∀ w ∈ u_ws RX5 TX5 9, w ∈ wsX5_move := (fun w h => List.mem_cons_of_mem _ (List.mem_append_right _ h))
  generalize hQ : MQ below ((fun A => QiT D cy (fun (t : Int32 × Int32) => t.1) (fun (t : Int32 × Int32) => [(mx, .inr (5, [.int t.2, .ref mh, .int (nI R), .ref mw, .ref ml, .int (nI G), .ref mp, .ref mq, .ref mb])), (mh, .inl (cy 0, 50, .inl eh)), (mw, .inl (cy 0, 6, .inl ew)), (ml, .inl (cy 0, 6, .inl el)), (mp, .inl (cy 0, 72, .inl ep)), (mq, .inl (cy 0, 2, .inl en)), (mb, .inl (cy 0, 50, .inl eb))]) (F_X5_move_bad G g) A) A) args s 0 0 A = Q
  refine lv_aload_n hx hb dX5_move_0 rfl (lv_at hl 0 rfl) ?_
  refine lv_iconst (v := 0) hx hb dX5_move_1 (by decide) ?_
  refine va_put (D := D) (ci := 5) (v := .int 0) (ty := .int) (C := RX5) (T := TX5) (N := 9) hx hb hts hin5 tyX5 tyX5_ok nmX5 hown hK hP hD hS 0 rfl rfl 0 (by decide) (hts (.fieldLink RX5 28 "FireflyInnModel" "thrown" "I") (List.mem_of_getElem? (i := 1) rfl)) (fun _ h9 => h9) rfl (by decide +kernel) rfl rfl (Nat.le_of_ble_eq_true rfl) dX5_move_2 (fun H locs hP hD hS => ?_)
  have hP : va_P D vwCl [(mx, .inr (5, [.int 0, .ref mh, .int (nI R), .ref mw, .ref ml, .int (nI G), .ref mp, .ref mq, .ref mb])), (mh, .inl (cy 0, 50, .inl eh)), (mw, .inl (cy 0, 6, .inl ew)), (ml, .inl (cy 0, 6, .inl el)), (mp, .inl (cy 0, 72, .inl ep)), (mq, .inl (cy 0, 2, .inl en)), (mb, .inl (cy 0, 50, .inl eb))] H := hP
  have hD : va_D A [(mx, .inr (5, [.int 0, .ref mh, .int (nI R), .ref mw, .ref ml, .int (nI G), .ref mp, .ref mq, .ref mb])), (mh, .inl (cy 0, 50, .inl eh)), (mw, .inl (cy 0, 6, .inl ew)), (ml, .inl (cy 0, 6, .inl el)), (mp, .inl (cy 0, 72, .inl ep)), (mq, .inl (cy 0, 2, .inl en)), (mb, .inl (cy 0, 50, .inl eb))] := hD
  refine lv_aload_n hx hb dX5_move_5 rfl (lv_at hl 0 rfl) ?_
  refine lv_iload_n hx hb dX5_move_6 rfl (lv_at hl 1 rfl) ?_
  refine cl_i (wr := []) (w2 := [(mx, .inr (5, [.int 0, .ref mh, .int (nI R), .ref mw, .ref ml, .int (nI G), .ref mp, .ref mq, .ref mb])), (mh, .inl (cy 0, 50, .inl eh)), (mw, .inl (cy 0, 6, .inl ew)), (ml, .inl (cy 0, 6, .inl el)), (mp, .inl (cy 0, 72, .inl ep)), (mq, .inl (cy 0, 2, .inl en)), (mb, .inl (cy 0, 50, .inl eb))]) (rn_V (As := [.int g]) (rest := []) (ci := 5) (q0 := 0) ⟨hx, hb, hml, hown, hts⟩ (k_X5_isGuest l D cy _ mx mh mw ml mp mq mb 0 eh ew el ep en eb R G g hR hG) (cwV 1 hts gX5_move_X5_isGuest rfl rfl rfl (by decide +kernel) ⟨Nat.le_of_ble_eq_true rfl, Nat.le_of_ble_eq_true rfl⟩) hN hK hP hD [0, 1, 2, 3, 4, 5, 6] rfl (by decide) rfl rfl rfl rfl hl.1 rfl (Nat.le_of_ble_eq_true rfl) dX5_move_7 ⟨Nat.le_of_ble_eq_true rfl, Nat.le_of_ble_eq_true rfl⟩) hP hD hS hA [0, 1, 2, 3, 4, 5, 6] [] [0, 1, 2, 3, 4, 5, 6] rfl rfl (by decide) (by decide) rfl (by decide) (fun H locs hP hD hS => ?_)
  refine lv_if_eq (tgt := 21) hx hb dX5_move_10 (by decide) (fun c10 => ?_) (fun c10 => ?_)
  · refine lv_aload_n hx hb dX5_move_21 rfl (lv_at hl 0 rfl) ?_
    refine lv_iconst (v := 1) hx hb dX5_move_22 (by decide) ?_
    refine cl_i (wr := []) (w2 := [(mx, .inr (5, [.int ((F_X5_fail 1).2), .ref mh, .int (nI R), .ref mw, .ref ml, .int (nI G), .ref mp, .ref mq, .ref mb])), (mh, .inl (cy 0, 50, .inl eh)), (mw, .inl (cy 0, 6, .inl ew)), (ml, .inl (cy 0, 6, .inl el)), (mp, .inl (cy 0, 72, .inl ep)), (mq, .inl (cy 0, 2, .inl en)), (mb, .inl (cy 0, 50, .inl eb))]) (rn_V (As := [.int 1]) (rest := []) (ci := 5) (q0 := 0) ⟨hx, hb, hml, hown, hts⟩ (k_X5_fail l D cy _ mx mh mw ml mp mq mb 0 eh ew el ep en eb R G 1 hR hG) (cwV 1 hts gX5_move_X5_fail rfl rfl rfl (by decide +kernel) ⟨Nat.le_of_ble_eq_true rfl, Nat.le_of_ble_eq_true rfl⟩) hN hK hP hD [0, 1, 2, 3, 4, 5, 6] rfl (by decide) rfl rfl rfl rfl hl.1 rfl (Nat.le_of_ble_eq_true rfl) dX5_move_23 ⟨Nat.le_of_ble_eq_true rfl, Nat.le_of_ble_eq_true rfl⟩) hP hD hS hA [0, 1, 2, 3, 4, 5, 6] [] [0, 1, 2, 3, 4, 5, 6] rfl rfl (by decide) (by decide) rfl (by decide) (fun H locs hP hD hS => ?_)
    subst hQ
    exact en_i (tv := ((F_X5_fail 1).1, (F_X5_fail 1).2)) hx hb hr hlocks (by rw [F_X5_move_bad, if_pos c10]) rfl hK (by first | with_reducible exact hP | exact hP) (by first | with_reducible exact hD | exact hD) hS (Nat.le_refl _) (Nat.le_refl _) dX5_move_26
  · refine lv_aload_n hx hb dX5_move_13 rfl (lv_at hl 0 rfl) ?_
    refine lv_iload_n hx hb dX5_move_14 rfl (lv_at hl 2 rfl) ?_
    refine cl_i (wr := []) (w2 := [(mx, .inr (5, [.int 0, .ref mh, .int (nI R), .ref mw, .ref ml, .int (nI G), .ref mp, .ref mq, .ref mb])), (mh, .inl (cy 0, 50, .inl eh)), (mw, .inl (cy 0, 6, .inl ew)), (ml, .inl (cy 0, 6, .inl el)), (mp, .inl (cy 0, 72, .inl ep)), (mq, .inl (cy 0, 2, .inl en)), (mb, .inl (cy 0, 50, .inl eb))]) (rn_V (As := [.int room]) (rest := []) (ci := 5) (q0 := 0) ⟨hx, hb, hml, hown, hts⟩ (k_X5_isRoom l D cy _ mx mh mw ml mp mq mb 0 eh ew el ep en eb R G room hR hG) (cwV 1 hts gX5_move_X5_isRoom rfl rfl rfl (by decide +kernel) ⟨Nat.le_of_ble_eq_true rfl, Nat.le_of_ble_eq_true rfl⟩) hN hK hP hD [0, 1, 2, 3, 4, 5, 6] rfl (by decide) rfl rfl rfl rfl hl.1 rfl (Nat.le_of_ble_eq_true rfl) dX5_move_15 ⟨Nat.le_of_ble_eq_true rfl, Nat.le_of_ble_eq_true rfl⟩) hP hD hS hA [0, 1, 2, 3, 4, 5, 6] [] [0, 1, 2, 3, 4, 5, 6] rfl rfl (by decide) (by decide) rfl (by decide) (fun H locs hP hD hS => ?_)
    refine lv_if_ne (tgt := 27) hx hb dX5_move_18 (by decide) (fun c18 => ?_) (fun c18 => ?_)
    · exact absurd (hbad.resolve_left c10) c18
    refine lv_aload_n hx hb dX5_move_21 rfl (lv_at hl 0 rfl) ?_
    refine lv_iconst (v := 1) hx hb dX5_move_22 (by decide) ?_
    refine cl_i (wr := []) (w2 := [(mx, .inr (5, [.int ((F_X5_fail 1).2), .ref mh, .int (nI R), .ref mw, .ref ml, .int (nI G), .ref mp, .ref mq, .ref mb])), (mh, .inl (cy 0, 50, .inl eh)), (mw, .inl (cy 0, 6, .inl ew)), (ml, .inl (cy 0, 6, .inl el)), (mp, .inl (cy 0, 72, .inl ep)), (mq, .inl (cy 0, 2, .inl en)), (mb, .inl (cy 0, 50, .inl eb))]) (rn_V (As := [.int 1]) (rest := []) (ci := 5) (q0 := 0) ⟨hx, hb, hml, hown, hts⟩ (k_X5_fail l D cy _ mx mh mw ml mp mq mb 0 eh ew el ep en eb R G 1 hR hG) (cwV 1 hts gX5_move_X5_fail rfl rfl rfl (by decide +kernel) ⟨Nat.le_of_ble_eq_true rfl, Nat.le_of_ble_eq_true rfl⟩) hN hK hP hD [0, 1, 2, 3, 4, 5, 6] rfl (by decide) rfl rfl rfl rfl hl.1 rfl (Nat.le_of_ble_eq_true rfl) dX5_move_23 ⟨Nat.le_of_ble_eq_true rfl, Nat.le_of_ble_eq_true rfl⟩) hP hD hS hA [0, 1, 2, 3, 4, 5, 6] [] [0, 1, 2, 3, 4, 5, 6] rfl rfl (by decide) (by decide) rfl (by decide) (fun H locs hP hD hS => ?_)
    subst hQ
    exact en_i (tv := ((F_X5_fail 1).1, (F_X5_fail 1).2)) hx hb hr hlocks (by rw [F_X5_move_bad, if_neg c10]) rfl hK (by first | with_reducible exact hP | exact hP) (by first | with_reducible exact hD | exact hD) hS (Nat.le_refl _) (Nat.le_refl _) dX5_move_26

def F_X5_leave (ep : Nat → Int32) (g : Nat) : Int32 × Int32 × (Nat → Int32) :=
  if (F_X5_pe ep g 5) = 1 then
    ((F_X5_fail 2).1, (F_X5_fail 2).2, ep)
  else
    ((F_X5_pe (F_X5_put (F_X5_put ep g 5 1) g 2 0) g 4), 0, (F_X5_put (F_X5_put ep g 5 1) g 2 0))
set_option maxHeartbeats 4000000 in
set_option maxRecDepth 100000 in
theorem k_X5_leave (l : Launch) (D : va_G) (cy : Nat → ClassId) (sz : Nat) (mx mh mw ml mp mq mb : Nat) (th : Int32) (eh : Nat → Int32) (ew : Nat → Int32) (el : Nat → Int32) (ep : Nat → Int32) (en : Nat → Int32) (eb : Nat → Int32) (R : Nat) (G : Nat) (g : Nat) (hR : R ≤ 6) (hG : G ≤ 12) (hg : g < G) : MTa l D cy yX5_leave wsX5_leave 2 0 0 43 [(mx, .inr (5, [.int th, .ref mh, .int (nI R), .ref mw, .ref ml, .int (nI G), .ref mp, .ref mq, .ref mb])), (mh, .inl (cy 0, 50, .inl eh)), (mw, .inl (cy 0, 6, .inl ew)), (ml, .inl (cy 0, 6, .inl el)), (mp, .inl (cy 0, 72, .inl ep)), (mq, .inl (cy 0, 2, .inl en)), (mb, .inl (cy 0, 50, .inl eb))] sz [.ref mx, .int (nI g)] (fun A => QiT D cy (fun (t : Int32 × Int32 × (Nat → Int32)) => t.1) (fun (t : Int32 × Int32 × (Nat → Int32)) => [(mx, .inr (5, [.int t.2.1, .ref mh, .int (nI R), .ref mw, .ref ml, .int (nI G), .ref mp, .ref mq, .ref mb])), (mh, .inl (cy 0, 50, .inl eh)), (mw, .inl (cy 0, 6, .inl ew)), (ml, .inl (cy 0, 6, .inl el)), (mp, .inl (cy 0, 72, .inl t.2.2)), (mq, .inl (cy 0, 2, .inl en)), (mb, .inl (cy 0, 50, .inl eb))]) (F_X5_leave ep g) A) := by
  refine ofWT (cc := cX5_leave) (maxL := 2) (ret := (some .int)) (own := RX5) (by decide) rfl (Nat.le_of_ble_eq_true rfl) rfl ?_
  intro p e s m args below meth c A ls hx hb hr hml hts hown hlocks hin hN hK hP hD hA hl
  have hS : va_S A s.heap s.heap [] := va_S.rf
  have hl : lv_has ls 2 [(0, .ref mx), (1, .int (nI g))] := hl
  have hin5 : ∀ w ∈ u_ws RX5 TX5 9, w ∈ wsX5_leave := (fun w h => List.mem_cons_of_mem _ (List.mem_append_right _ h))
  generalize hQ : MQ below ((fun A => QiT D cy (fun (t : Int32 × Int32 × (Nat → Int32)) => t.1) (fun (t : Int32 × Int32 × (Nat → Int32)) => [(mx, .inr (5, [.int t.2.1, .ref mh, .int (nI R), .ref mw, .ref ml, .int (nI G), .ref mp, .ref mq, .ref mb])), (mh, .inl (cy 0, 50, .inl eh)), (mw, .inl (cy 0, 6, .inl ew)), (ml, .inl (cy 0, 6, .inl el)), (mp, .inl (cy 0, 72, .inl t.2.2)), (mq, .inl (cy 0, 2, .inl en)), (mb, .inl (cy 0, 50, .inl eb))]) (F_X5_leave ep g) A) A) args s 0 0 A = Q
  refine lv_aload_n hx hb dX5_leave_0 rfl (lv_at hl 0 rfl) ?_
  refine lv_iconst (v := 0) hx hb dX5_leave_1 (by decide) ?_
  refine va_put (D := D) (ci := 5) (v := .int 0) (ty := .int) (C := RX5) (T := TX5) (N := 9) hx hb hts hin5 tyX5 tyX5_ok nmX5 hown hK hP hD hS 0 rfl rfl 0 (by decide) (hts (.fieldLink RX5 28 "FireflyInnModel" "thrown" "I") (List.mem_of_getElem? (i := 1) rfl)) (fun _ h9 => h9) rfl (by decide +kernel) rfl rfl (Nat.le_of_ble_eq_true rfl) dX5_leave_2 (fun H locs hP hD hS => ?_)
  have hP : va_P D vwCl [(mx, .inr (5, [.int 0, .ref mh, .int (nI R), .ref mw, .ref ml, .int (nI G), .ref mp, .ref mq, .ref mb])), (mh, .inl (cy 0, 50, .inl eh)), (mw, .inl (cy 0, 6, .inl ew)), (ml, .inl (cy 0, 6, .inl el)), (mp, .inl (cy 0, 72, .inl ep)), (mq, .inl (cy 0, 2, .inl en)), (mb, .inl (cy 0, 50, .inl eb))] H := hP
  have hD : va_D A [(mx, .inr (5, [.int 0, .ref mh, .int (nI R), .ref mw, .ref ml, .int (nI G), .ref mp, .ref mq, .ref mb])), (mh, .inl (cy 0, 50, .inl eh)), (mw, .inl (cy 0, 6, .inl ew)), (ml, .inl (cy 0, 6, .inl el)), (mp, .inl (cy 0, 72, .inl ep)), (mq, .inl (cy 0, 2, .inl en)), (mb, .inl (cy 0, 50, .inl eb))] := hD
  refine lv_aload_n hx hb dX5_leave_5 rfl (lv_at hl 0 rfl) ?_
  refine lv_iload_n hx hb dX5_leave_6 rfl (lv_at hl 1 rfl) ?_
  refine cl_i (wr := []) (w2 := [(mx, .inr (5, [.int 0, .ref mh, .int (nI R), .ref mw, .ref ml, .int (nI G), .ref mp, .ref mq, .ref mb])), (mh, .inl (cy 0, 50, .inl eh)), (mw, .inl (cy 0, 6, .inl ew)), (ml, .inl (cy 0, 6, .inl el)), (mp, .inl (cy 0, 72, .inl ep)), (mq, .inl (cy 0, 2, .inl en)), (mb, .inl (cy 0, 50, .inl eb))]) (rn_V (As := [.int (nI g)]) (rest := []) (ci := 5) (q0 := 0) ⟨hx, hb, hml, hown, hts⟩ (k_X5_isGuest l D cy _ mx mh mw ml mp mq mb 0 eh ew el ep en eb R G (nI g) hR hG) (cwV 1 hts gX5_leave_X5_isGuest rfl rfl rfl (by decide +kernel) ⟨Nat.le_of_ble_eq_true rfl, Nat.le_of_ble_eq_true rfl⟩) hN hK hP hD [0, 1, 2, 3, 4, 5, 6] rfl (by decide) rfl rfl rfl rfl hl.1 rfl (Nat.le_of_ble_eq_true rfl) dX5_leave_7 ⟨Nat.le_of_ble_eq_true rfl, Nat.le_of_ble_eq_true rfl⟩) hP hD hS hA [0, 1, 2, 3, 4, 5, 6] [] [0, 1, 2, 3, 4, 5, 6] rfl rfl (by decide) (by decide) rfl (by decide) (fun H locs hP hD hS => ?_)
  refine lv_if_ne (tgt := 19) hx hb dX5_leave_10 (by decide) (fun c10 => ?_) (fun c10 => ?_)
  rotate_left
  · exact absurd c10 (guest_ok hG hg)
  refine lv_aload_n hx hb dX5_leave_19 rfl (lv_at hl 0 rfl) ?_
  refine lv_iload_n hx hb dX5_leave_20 rfl (lv_at hl 1 rfl) ?_
  refine lv_iconst (v := 5) hx hb dX5_leave_21 (by decide) ?_
  refine cl_i (wr := []) (w2 := [(mx, .inr (5, [.int 0, .ref mh, .int (nI R), .ref mw, .ref ml, .int (nI G), .ref mp, .ref mq, .ref mb])), (mh, .inl (cy 0, 50, .inl eh)), (mw, .inl (cy 0, 6, .inl ew)), (ml, .inl (cy 0, 6, .inl el)), (mp, .inl (cy 0, 72, .inl ep)), (mq, .inl (cy 0, 2, .inl en)), (mb, .inl (cy 0, 50, .inl eb))]) (rn_V (As := [.int (nI g), .int 5]) (rest := []) (ci := 5) (q0 := 0) ⟨hx, hb, hml, hown, hts⟩ (k_X5_pe l D cy _ mx mh mw ml mp mq mb 0 eh ew el ep en eb R G g 5 hR hG (by omega)) (cwV 2 hts gX5_leave_X5_pe rfl rfl rfl (by decide +kernel) ⟨Nat.le_of_ble_eq_true rfl, Nat.le_of_ble_eq_true rfl⟩) hN hK hP hD [0, 1, 2, 3, 4, 5, 6] rfl (by decide) rfl rfl rfl rfl hl.1 rfl (Nat.le_of_ble_eq_true rfl) dX5_leave_22 ⟨Nat.le_of_ble_eq_true rfl, Nat.le_of_ble_eq_true rfl⟩) hP hD hS hA [0, 1, 2, 3, 4, 5, 6] [] [0, 1, 2, 3, 4, 5, 6] rfl rfl (by decide) (by decide) rfl (by decide) (fun H locs hP hD hS => ?_)
  refine lv_iconst (v := 1) hx hb dX5_leave_25 (by decide) ?_
  refine lv_icmp_ne (tgt := 35) hx hb dX5_leave_26 (by decide) (fun c26 => ?_) (fun c26 => ?_)
  · refine lv_aload_n hx hb dX5_leave_35 rfl (lv_at hl 0 rfl) ?_
    refine lv_iload_n hx hb dX5_leave_36 rfl (lv_at hl 1 rfl) ?_
    refine lv_iconst (v := 5) hx hb dX5_leave_37 (by decide) ?_
    refine lv_iconst (v := 1) hx hb dX5_leave_38 (by decide) ?_
    refine cl_v (wr := []) (w2 := [(mx, .inr (5, [.int 0, .ref mh, .int (nI R), .ref mw, .ref ml, .int (nI G), .ref mp, .ref mq, .ref mb])), (mh, .inl (cy 0, 50, .inl eh)), (mw, .inl (cy 0, 6, .inl ew)), (ml, .inl (cy 0, 6, .inl el)), (mp, .inl (cy 0, 72, .inl (F_X5_put ep g 5 1))), (mq, .inl (cy 0, 2, .inl en)), (mb, .inl (cy 0, 50, .inl eb))]) (rn_V (As := [.int (nI g), .int 5, .int 1]) (rest := []) (ci := 5) (q0 := 0) ⟨hx, hb, hml, hown, hts⟩ (k_X5_put l D cy _ mx mh mw ml mp mq mb 0 eh ew el ep en eb R G g 5 1 hR hG (by omega)) (cwV 3 hts gX5_leave_X5_put rfl rfl rfl (by decide +kernel) ⟨Nat.le_of_ble_eq_true rfl, Nat.le_of_ble_eq_true rfl⟩) hN hK hP hD [0, 1, 2, 3, 4, 5, 6] rfl (by decide) rfl rfl rfl rfl hl.1 rfl (Nat.le_of_ble_eq_true rfl) dX5_leave_39 ⟨Nat.le_of_ble_eq_true rfl, Nat.le_of_ble_eq_true rfl⟩) hP hD hS hA [0, 1, 2, 3, 4, 5, 6] [] [0, 1, 2, 3, 4, 5, 6] rfl rfl (by decide) (by decide) rfl (by decide) (fun H locs hP hD hS => ?_)
    refine lv_aload_n hx hb dX5_leave_42 rfl (lv_at hl 0 rfl) ?_
    refine lv_iload_n hx hb dX5_leave_43 rfl (lv_at hl 1 rfl) ?_
    refine lv_iconst (v := 2) hx hb dX5_leave_44 (by decide) ?_
    refine lv_iconst (v := 0) hx hb dX5_leave_45 (by decide) ?_
    refine cl_v (wr := []) (w2 := [(mx, .inr (5, [.int 0, .ref mh, .int (nI R), .ref mw, .ref ml, .int (nI G), .ref mp, .ref mq, .ref mb])), (mh, .inl (cy 0, 50, .inl eh)), (mw, .inl (cy 0, 6, .inl ew)), (ml, .inl (cy 0, 6, .inl el)), (mp, .inl (cy 0, 72, .inl (F_X5_put (F_X5_put ep g 5 1) g 2 0))), (mq, .inl (cy 0, 2, .inl en)), (mb, .inl (cy 0, 50, .inl eb))]) (rn_V (As := [.int (nI g), .int 2, .int 0]) (rest := []) (ci := 5) (q0 := 0) ⟨hx, hb, hml, hown, hts⟩ (k_X5_put l D cy _ mx mh mw ml mp mq mb 0 eh ew el (F_X5_put ep g 5 1) en eb R G g 2 0 hR hG (by omega)) (cwV 3 hts gX5_leave_X5_put rfl rfl rfl (by decide +kernel) ⟨Nat.le_of_ble_eq_true rfl, Nat.le_of_ble_eq_true rfl⟩) hN hK hP hD [0, 1, 2, 3, 4, 5, 6] rfl (by decide) rfl rfl rfl rfl hl.1 rfl (Nat.le_of_ble_eq_true rfl) dX5_leave_46 ⟨Nat.le_of_ble_eq_true rfl, Nat.le_of_ble_eq_true rfl⟩) hP hD hS hA [0, 1, 2, 3, 4, 5, 6] [] [0, 1, 2, 3, 4, 5, 6] rfl rfl (by decide) (by decide) rfl (by decide) (fun H locs hP hD hS => ?_)
    refine lv_aload_n hx hb dX5_leave_49 rfl (lv_at hl 0 rfl) ?_
    refine lv_iload_n hx hb dX5_leave_50 rfl (lv_at hl 1 rfl) ?_
    refine lv_iconst (v := 4) hx hb dX5_leave_51 (by decide) ?_
    refine cl_i (wr := []) (w2 := [(mx, .inr (5, [.int 0, .ref mh, .int (nI R), .ref mw, .ref ml, .int (nI G), .ref mp, .ref mq, .ref mb])), (mh, .inl (cy 0, 50, .inl eh)), (mw, .inl (cy 0, 6, .inl ew)), (ml, .inl (cy 0, 6, .inl el)), (mp, .inl (cy 0, 72, .inl (F_X5_put (F_X5_put ep g 5 1) g 2 0))), (mq, .inl (cy 0, 2, .inl en)), (mb, .inl (cy 0, 50, .inl eb))]) (rn_V (As := [.int (nI g), .int 4]) (rest := []) (ci := 5) (q0 := 0) ⟨hx, hb, hml, hown, hts⟩ (k_X5_pe l D cy _ mx mh mw ml mp mq mb 0 eh ew el (F_X5_put (F_X5_put ep g 5 1) g 2 0) en eb R G g 4 hR hG (by omega)) (cwV 2 hts gX5_leave_X5_pe rfl rfl rfl (by decide +kernel) ⟨Nat.le_of_ble_eq_true rfl, Nat.le_of_ble_eq_true rfl⟩) hN hK hP hD [0, 1, 2, 3, 4, 5, 6] rfl (by decide) rfl rfl rfl rfl hl.1 rfl (Nat.le_of_ble_eq_true rfl) dX5_leave_52 ⟨Nat.le_of_ble_eq_true rfl, Nat.le_of_ble_eq_true rfl⟩) hP hD hS hA [0, 1, 2, 3, 4, 5, 6] [] [0, 1, 2, 3, 4, 5, 6] rfl rfl (by decide) (by decide) rfl (by decide) (fun H locs hP hD hS => ?_)
    subst hQ
    exact en_i (tv := ((F_X5_pe (F_X5_put (F_X5_put ep g 5 1) g 2 0) g 4), 0, (F_X5_put (F_X5_put ep g 5 1) g 2 0))) hx hb hr hlocks (by rw [F_X5_leave, if_neg c26]) rfl hK (by first | with_reducible exact hP | exact hP) (by first | with_reducible exact hD | exact hD) hS (Nat.le_refl _) (Nat.le_refl _) dX5_leave_55
  · refine lv_aload_n hx hb dX5_leave_29 rfl (lv_at hl 0 rfl) ?_
    refine lv_iconst (v := 2) hx hb dX5_leave_30 (by decide) ?_
    refine cl_i (wr := []) (w2 := [(mx, .inr (5, [.int ((F_X5_fail 2).2), .ref mh, .int (nI R), .ref mw, .ref ml, .int (nI G), .ref mp, .ref mq, .ref mb])), (mh, .inl (cy 0, 50, .inl eh)), (mw, .inl (cy 0, 6, .inl ew)), (ml, .inl (cy 0, 6, .inl el)), (mp, .inl (cy 0, 72, .inl ep)), (mq, .inl (cy 0, 2, .inl en)), (mb, .inl (cy 0, 50, .inl eb))]) (rn_V (As := [.int 2]) (rest := []) (ci := 5) (q0 := 0) ⟨hx, hb, hml, hown, hts⟩ (k_X5_fail l D cy _ mx mh mw ml mp mq mb 0 eh ew el ep en eb R G 2 hR hG) (cwV 1 hts gX5_leave_X5_fail rfl rfl rfl (by decide +kernel) ⟨Nat.le_of_ble_eq_true rfl, Nat.le_of_ble_eq_true rfl⟩) hN hK hP hD [0, 1, 2, 3, 4, 5, 6] rfl (by decide) rfl rfl rfl rfl hl.1 rfl (Nat.le_of_ble_eq_true rfl) dX5_leave_31 ⟨Nat.le_of_ble_eq_true rfl, Nat.le_of_ble_eq_true rfl⟩) hP hD hS hA [0, 1, 2, 3, 4, 5, 6] [] [0, 1, 2, 3, 4, 5, 6] rfl rfl (by decide) (by decide) rfl (by decide) (fun H locs hP hD hS => ?_)
    subst hQ
    exact en_i (tv := ((F_X5_fail 2).1, (F_X5_fail 2).2, ep)) hx hb hr hlocks (by rw [F_X5_leave, if_pos c26]) rfl hK (by first | with_reducible exact hP | exact hP) (by first | with_reducible exact hD | exact hD) hS (Nat.le_refl _) (Nat.le_refl _) dX5_leave_34

def F_X5_leave_bad  : Int32 × Int32 :=
  ((F_X5_fail 1).1, (F_X5_fail 1).2)
set_option maxHeartbeats 4000000 in
set_option maxRecDepth 100000 in
theorem k_X5_leave_bad (l : Launch) (D : va_G) (cy : Nat → ClassId) (sz : Nat) (mx mh mw ml mp mq mb : Nat) (th : Int32) (eh : Nat → Int32) (ew : Nat → Int32) (el : Nat → Int32) (ep : Nat → Int32) (en : Nat → Int32) (eb : Nat → Int32) (R : Nat) (G : Nat) (g : Int32) (hR : R ≤ 6) (hG : G ≤ 12) (hbad : F_X5_isGuest G g = 0) : MTa l D cy yX5_leave wsX5_leave 2 0 0 43 [(mx, .inr (5, [.int th, .ref mh, .int (nI R), .ref mw, .ref ml, .int (nI G), .ref mp, .ref mq, .ref mb])), (mh, .inl (cy 0, 50, .inl eh)), (mw, .inl (cy 0, 6, .inl ew)), (ml, .inl (cy 0, 6, .inl el)), (mp, .inl (cy 0, 72, .inl ep)), (mq, .inl (cy 0, 2, .inl en)), (mb, .inl (cy 0, 50, .inl eb))] sz [.ref mx, .int g] (fun A => QiT D cy (fun (t : Int32 × Int32) => t.1) (fun (t : Int32 × Int32) => [(mx, .inr (5, [.int t.2, .ref mh, .int (nI R), .ref mw, .ref ml, .int (nI G), .ref mp, .ref mq, .ref mb])), (mh, .inl (cy 0, 50, .inl eh)), (mw, .inl (cy 0, 6, .inl ew)), (ml, .inl (cy 0, 6, .inl el)), (mp, .inl (cy 0, 72, .inl ep)), (mq, .inl (cy 0, 2, .inl en)), (mb, .inl (cy 0, 50, .inl eb))]) F_X5_leave_bad A) := by
  refine ofWT (cc := cX5_leave) (maxL := 2) (ret := (some .int)) (own := RX5) (by decide) rfl (Nat.le_of_ble_eq_true rfl) rfl ?_
  intro p e s m args below meth c A ls hx hb hr hml hts hown hlocks hin hN hK hP hD hA hl
  have hS : va_S A s.heap s.heap [] := va_S.rf
  have hl : lv_has ls 2 [(0, .ref mx), (1, .int g)] := hl
  have hin5 : ∀ w ∈ u_ws RX5 TX5 9, w ∈ wsX5_leave := (fun w h => List.mem_cons_of_mem _ (List.mem_append_right _ h))
  generalize hQ : MQ below ((fun A => QiT D cy (fun (t : Int32 × Int32) => t.1) (fun (t : Int32 × Int32) => [(mx, .inr (5, [.int t.2, .ref mh, .int (nI R), .ref mw, .ref ml, .int (nI G), .ref mp, .ref mq, .ref mb])), (mh, .inl (cy 0, 50, .inl eh)), (mw, .inl (cy 0, 6, .inl ew)), (ml, .inl (cy 0, 6, .inl el)), (mp, .inl (cy 0, 72, .inl ep)), (mq, .inl (cy 0, 2, .inl en)), (mb, .inl (cy 0, 50, .inl eb))]) F_X5_leave_bad A) A) args s 0 0 A = Q
  refine lv_aload_n hx hb dX5_leave_0 rfl (lv_at hl 0 rfl) ?_
  refine lv_iconst (v := 0) hx hb dX5_leave_1 (by decide) ?_
  refine va_put (D := D) (ci := 5) (v := .int 0) (ty := .int) (C := RX5) (T := TX5) (N := 9) hx hb hts hin5 tyX5 tyX5_ok nmX5 hown hK hP hD hS 0 rfl rfl 0 (by decide) (hts (.fieldLink RX5 28 "FireflyInnModel" "thrown" "I") (List.mem_of_getElem? (i := 1) rfl)) (fun _ h9 => h9) rfl (by decide +kernel) rfl rfl (Nat.le_of_ble_eq_true rfl) dX5_leave_2 (fun H locs hP hD hS => ?_)
  have hP : va_P D vwCl [(mx, .inr (5, [.int 0, .ref mh, .int (nI R), .ref mw, .ref ml, .int (nI G), .ref mp, .ref mq, .ref mb])), (mh, .inl (cy 0, 50, .inl eh)), (mw, .inl (cy 0, 6, .inl ew)), (ml, .inl (cy 0, 6, .inl el)), (mp, .inl (cy 0, 72, .inl ep)), (mq, .inl (cy 0, 2, .inl en)), (mb, .inl (cy 0, 50, .inl eb))] H := hP
  have hD : va_D A [(mx, .inr (5, [.int 0, .ref mh, .int (nI R), .ref mw, .ref ml, .int (nI G), .ref mp, .ref mq, .ref mb])), (mh, .inl (cy 0, 50, .inl eh)), (mw, .inl (cy 0, 6, .inl ew)), (ml, .inl (cy 0, 6, .inl el)), (mp, .inl (cy 0, 72, .inl ep)), (mq, .inl (cy 0, 2, .inl en)), (mb, .inl (cy 0, 50, .inl eb))] := hD
  refine lv_aload_n hx hb dX5_leave_5 rfl (lv_at hl 0 rfl) ?_
  refine lv_iload_n hx hb dX5_leave_6 rfl (lv_at hl 1 rfl) ?_
  refine cl_i (wr := []) (w2 := [(mx, .inr (5, [.int 0, .ref mh, .int (nI R), .ref mw, .ref ml, .int (nI G), .ref mp, .ref mq, .ref mb])), (mh, .inl (cy 0, 50, .inl eh)), (mw, .inl (cy 0, 6, .inl ew)), (ml, .inl (cy 0, 6, .inl el)), (mp, .inl (cy 0, 72, .inl ep)), (mq, .inl (cy 0, 2, .inl en)), (mb, .inl (cy 0, 50, .inl eb))]) (rn_V (As := [.int g]) (rest := []) (ci := 5) (q0 := 0) ⟨hx, hb, hml, hown, hts⟩ (k_X5_isGuest l D cy _ mx mh mw ml mp mq mb 0 eh ew el ep en eb R G g hR hG) (cwV 1 hts gX5_leave_X5_isGuest rfl rfl rfl (by decide +kernel) ⟨Nat.le_of_ble_eq_true rfl, Nat.le_of_ble_eq_true rfl⟩) hN hK hP hD [0, 1, 2, 3, 4, 5, 6] rfl (by decide) rfl rfl rfl rfl hl.1 rfl (Nat.le_of_ble_eq_true rfl) dX5_leave_7 ⟨Nat.le_of_ble_eq_true rfl, Nat.le_of_ble_eq_true rfl⟩) hP hD hS hA [0, 1, 2, 3, 4, 5, 6] [] [0, 1, 2, 3, 4, 5, 6] rfl rfl (by decide) (by decide) rfl (by decide) (fun H locs hP hD hS => ?_)
  refine lv_if_ne (tgt := 19) hx hb dX5_leave_10 (by decide) (fun c10 => ?_) (fun c10 => ?_)
  · exact absurd hbad c10
  refine lv_aload_n hx hb dX5_leave_13 rfl (lv_at hl 0 rfl) ?_
  refine lv_iconst (v := 1) hx hb dX5_leave_14 (by decide) ?_
  refine cl_i (wr := []) (w2 := [(mx, .inr (5, [.int ((F_X5_fail 1).2), .ref mh, .int (nI R), .ref mw, .ref ml, .int (nI G), .ref mp, .ref mq, .ref mb])), (mh, .inl (cy 0, 50, .inl eh)), (mw, .inl (cy 0, 6, .inl ew)), (ml, .inl (cy 0, 6, .inl el)), (mp, .inl (cy 0, 72, .inl ep)), (mq, .inl (cy 0, 2, .inl en)), (mb, .inl (cy 0, 50, .inl eb))]) (rn_V (As := [.int 1]) (rest := []) (ci := 5) (q0 := 0) ⟨hx, hb, hml, hown, hts⟩ (k_X5_fail l D cy _ mx mh mw ml mp mq mb 0 eh ew el ep en eb R G 1 hR hG) (cwV 1 hts gX5_leave_X5_fail rfl rfl rfl (by decide +kernel) ⟨Nat.le_of_ble_eq_true rfl, Nat.le_of_ble_eq_true rfl⟩) hN hK hP hD [0, 1, 2, 3, 4, 5, 6] rfl (by decide) rfl rfl rfl rfl hl.1 rfl (Nat.le_of_ble_eq_true rfl) dX5_leave_15 ⟨Nat.le_of_ble_eq_true rfl, Nat.le_of_ble_eq_true rfl⟩) hP hD hS hA [0, 1, 2, 3, 4, 5, 6] [] [0, 1, 2, 3, 4, 5, 6] rfl rfl (by decide) (by decide) rfl (by decide) (fun H locs hP hD hS => ?_)
  subst hQ
  exact en_i (tv := ((F_X5_fail 1).1, (F_X5_fail 1).2)) hx hb hr hlocks (by rw [F_X5_leave_bad]) rfl hK (by first | with_reducible exact hP | exact hP) (by first | with_reducible exact hD | exact hD) hS (Nat.le_refl _) (Nat.le_refl _) dX5_leave_18

def F_X5_hush (ep : Nat → Int32) (g : Nat) (whisper : Int32) : Int32 × Int32 × (Nat → Int32) :=
  if (F_X5_isIn whisper 0 9) = 0 then
    ((F_X5_fail 2).1, (F_X5_fail 2).2, ep)
  else
    ((F_X5_pe ep g 1), 0, (F_X5_put ep g 1 whisper))
set_option maxHeartbeats 4000000 in
set_option maxRecDepth 100000 in
theorem k_X5_hush (l : Launch) (D : va_G) (cy : Nat → ClassId) (sz : Nat) (mx mh mw ml mp mq mb : Nat) (th : Int32) (eh : Nat → Int32) (ew : Nat → Int32) (el : Nat → Int32) (ep : Nat → Int32) (en : Nat → Int32) (eb : Nat → Int32) (R : Nat) (G : Nat) (g : Nat) (whisper : Int32) (hR : R ≤ 6) (hG : G ≤ 12) (hg : g < G) : MTa l D cy yX5_hush wsX5_hush 2 0 0 43 [(mx, .inr (5, [.int th, .ref mh, .int (nI R), .ref mw, .ref ml, .int (nI G), .ref mp, .ref mq, .ref mb])), (mh, .inl (cy 0, 50, .inl eh)), (mw, .inl (cy 0, 6, .inl ew)), (ml, .inl (cy 0, 6, .inl el)), (mp, .inl (cy 0, 72, .inl ep)), (mq, .inl (cy 0, 2, .inl en)), (mb, .inl (cy 0, 50, .inl eb))] sz [.ref mx, .int (nI g), .int whisper] (fun A => QiT D cy (fun (t : Int32 × Int32 × (Nat → Int32)) => t.1) (fun (t : Int32 × Int32 × (Nat → Int32)) => [(mx, .inr (5, [.int t.2.1, .ref mh, .int (nI R), .ref mw, .ref ml, .int (nI G), .ref mp, .ref mq, .ref mb])), (mh, .inl (cy 0, 50, .inl eh)), (mw, .inl (cy 0, 6, .inl ew)), (ml, .inl (cy 0, 6, .inl el)), (mp, .inl (cy 0, 72, .inl t.2.2)), (mq, .inl (cy 0, 2, .inl en)), (mb, .inl (cy 0, 50, .inl eb))]) (F_X5_hush ep g whisper) A) := by
  refine ofWT (cc := cX5_hush) (maxL := 4) (ret := (some .int)) (own := RX5) (by decide) rfl (Nat.le_of_ble_eq_true rfl) rfl ?_
  intro p e s m args below meth c A ls hx hb hr hml hts hown hlocks hin hN hK hP hD hA hl
  have hS : va_S A s.heap s.heap [] := va_S.rf
  have hl : lv_has ls 4 [(0, .ref mx), (1, .int (nI g)), (2, .int whisper)] := hl
  have hin5 : ∀ w ∈ u_ws RX5 TX5 9, w ∈ wsX5_hush := (fun w h => List.mem_cons_of_mem _ (List.mem_append_right _ h))
  generalize hQ : MQ below ((fun A => QiT D cy (fun (t : Int32 × Int32 × (Nat → Int32)) => t.1) (fun (t : Int32 × Int32 × (Nat → Int32)) => [(mx, .inr (5, [.int t.2.1, .ref mh, .int (nI R), .ref mw, .ref ml, .int (nI G), .ref mp, .ref mq, .ref mb])), (mh, .inl (cy 0, 50, .inl eh)), (mw, .inl (cy 0, 6, .inl ew)), (ml, .inl (cy 0, 6, .inl el)), (mp, .inl (cy 0, 72, .inl t.2.2)), (mq, .inl (cy 0, 2, .inl en)), (mb, .inl (cy 0, 50, .inl eb))]) (F_X5_hush ep g whisper) A) A) args s 0 0 A = Q
  refine lv_aload_n hx hb dX5_hush_0 rfl (lv_at hl 0 rfl) ?_
  refine lv_iconst (v := 0) hx hb dX5_hush_1 (by decide) ?_
  refine va_put (D := D) (ci := 5) (v := .int 0) (ty := .int) (C := RX5) (T := TX5) (N := 9) hx hb hts hin5 tyX5 tyX5_ok nmX5 hown hK hP hD hS 0 rfl rfl 0 (by decide) (hts (.fieldLink RX5 28 "FireflyInnModel" "thrown" "I") (List.mem_of_getElem? (i := 1) rfl)) (fun _ h9 => h9) rfl (by decide +kernel) rfl rfl (Nat.le_of_ble_eq_true rfl) dX5_hush_2 (fun H locs hP hD hS => ?_)
  have hP : va_P D vwCl [(mx, .inr (5, [.int 0, .ref mh, .int (nI R), .ref mw, .ref ml, .int (nI G), .ref mp, .ref mq, .ref mb])), (mh, .inl (cy 0, 50, .inl eh)), (mw, .inl (cy 0, 6, .inl ew)), (ml, .inl (cy 0, 6, .inl el)), (mp, .inl (cy 0, 72, .inl ep)), (mq, .inl (cy 0, 2, .inl en)), (mb, .inl (cy 0, 50, .inl eb))] H := hP
  have hD : va_D A [(mx, .inr (5, [.int 0, .ref mh, .int (nI R), .ref mw, .ref ml, .int (nI G), .ref mp, .ref mq, .ref mb])), (mh, .inl (cy 0, 50, .inl eh)), (mw, .inl (cy 0, 6, .inl ew)), (ml, .inl (cy 0, 6, .inl el)), (mp, .inl (cy 0, 72, .inl ep)), (mq, .inl (cy 0, 2, .inl en)), (mb, .inl (cy 0, 50, .inl eb))] := hD
  refine lv_aload_n hx hb dX5_hush_5 rfl (lv_at hl 0 rfl) ?_
  refine lv_iload_n hx hb dX5_hush_6 rfl (lv_at hl 1 rfl) ?_
  refine cl_i (wr := []) (w2 := [(mx, .inr (5, [.int 0, .ref mh, .int (nI R), .ref mw, .ref ml, .int (nI G), .ref mp, .ref mq, .ref mb])), (mh, .inl (cy 0, 50, .inl eh)), (mw, .inl (cy 0, 6, .inl ew)), (ml, .inl (cy 0, 6, .inl el)), (mp, .inl (cy 0, 72, .inl ep)), (mq, .inl (cy 0, 2, .inl en)), (mb, .inl (cy 0, 50, .inl eb))]) (rn_V (As := [.int (nI g)]) (rest := []) (ci := 5) (q0 := 0) ⟨hx, hb, hml, hown, hts⟩ (k_X5_isGuest l D cy _ mx mh mw ml mp mq mb 0 eh ew el ep en eb R G (nI g) hR hG) (cwV 1 hts gX5_hush_X5_isGuest rfl rfl rfl (by decide +kernel) ⟨Nat.le_of_ble_eq_true rfl, Nat.le_of_ble_eq_true rfl⟩) hN hK hP hD [0, 1, 2, 3, 4, 5, 6] rfl (by decide) rfl rfl rfl rfl hl.1 rfl (Nat.le_of_ble_eq_true rfl) dX5_hush_7 ⟨Nat.le_of_ble_eq_true rfl, Nat.le_of_ble_eq_true rfl⟩) hP hD hS hA [0, 1, 2, 3, 4, 5, 6] [] [0, 1, 2, 3, 4, 5, 6] rfl rfl (by decide) (by decide) rfl (by decide) (fun H locs hP hD hS => ?_)
  refine lv_if_ne (tgt := 19) hx hb dX5_hush_10 (by decide) (fun c10 => ?_) (fun c10 => ?_)
  rotate_left
  · exact absurd c10 (guest_ok hG hg)
  refine lv_iload_n hx hb dX5_hush_19 rfl (lv_at hl 2 rfl) ?_
  refine lv_iconst (v := 0) hx hb dX5_hush_20 (by decide) ?_
  refine lv_bipush (v := 9) hx hb dX5_hush_21 (by decide) ?_
  refine cl_i (wr := [(mx, .inr (5, [.int 0, .ref mh, .int (nI R), .ref mw, .ref ml, .int (nI G), .ref mp, .ref mq, .ref mb])), (mh, .inl (cy 0, 50, .inl eh)), (mw, .inl (cy 0, 6, .inl ew)), (ml, .inl (cy 0, 6, .inl el)), (mp, .inl (cy 0, 72, .inl ep)), (mq, .inl (cy 0, 2, .inl en)), (mb, .inl (cy 0, 50, .inl eb))]) (w2 := [(mx, .inr (5, [.int 0, .ref mh, .int (nI R), .ref mw, .ref ml, .int (nI G), .ref mp, .ref mq, .ref mb])), (mh, .inl (cy 0, 50, .inl eh)), (mw, .inl (cy 0, 6, .inl ew)), (ml, .inl (cy 0, 6, .inl el)), (mp, .inl (cy 0, 72, .inl ep)), (mq, .inl (cy 0, 2, .inl en)), (mb, .inl (cy 0, 50, .inl eb))]) (rn_S (As := [.int whisper, .int 0, .int 9]) (rest := []) ⟨hx, hb, hml, hown, hts⟩ (k_X5_isIn l D cy _ whisper 0 9) (va_cwS 3 hts gX5_hush_X5_isIn rfl rfl rfl (by decide +kernel) ⟨Nat.le_of_ble_eq_true rfl, Nat.le_of_ble_eq_true rfl⟩) hN hK hP hD [] rfl (by decide) rfl hl.1 rfl (Nat.le_of_ble_eq_true rfl) dX5_hush_23 ⟨Nat.le_of_ble_eq_true rfl, Nat.le_of_ble_eq_true rfl⟩) hP hD hS hA [] [0, 1, 2, 3, 4, 5, 6] [0, 1, 2, 3, 4, 5, 6] rfl rfl (by decide) (by decide) rfl (by decide) (fun H locs hP hD hS => ?_)
  refine lv_if_ne (tgt := 35) hx hb dX5_hush_26 (by decide) (fun c26 => ?_) (fun c26 => ?_)
  · refine lv_aload_n hx hb dX5_hush_35 rfl (lv_at hl 0 rfl) ?_
    refine lv_iload_n hx hb dX5_hush_36 rfl (lv_at hl 1 rfl) ?_
    refine lv_iconst (v := 1) hx hb dX5_hush_37 (by decide) ?_
    refine cl_i (wr := []) (w2 := [(mx, .inr (5, [.int 0, .ref mh, .int (nI R), .ref mw, .ref ml, .int (nI G), .ref mp, .ref mq, .ref mb])), (mh, .inl (cy 0, 50, .inl eh)), (mw, .inl (cy 0, 6, .inl ew)), (ml, .inl (cy 0, 6, .inl el)), (mp, .inl (cy 0, 72, .inl ep)), (mq, .inl (cy 0, 2, .inl en)), (mb, .inl (cy 0, 50, .inl eb))]) (rn_V (As := [.int (nI g), .int 1]) (rest := []) (ci := 5) (q0 := 0) ⟨hx, hb, hml, hown, hts⟩ (k_X5_pe l D cy _ mx mh mw ml mp mq mb 0 eh ew el ep en eb R G g 1 hR hG (by omega)) (cwV 2 hts gX5_hush_X5_pe rfl rfl rfl (by decide +kernel) ⟨Nat.le_of_ble_eq_true rfl, Nat.le_of_ble_eq_true rfl⟩) hN hK hP hD [0, 1, 2, 3, 4, 5, 6] rfl (by decide) rfl rfl rfl rfl hl.1 rfl (Nat.le_of_ble_eq_true rfl) dX5_hush_38 ⟨Nat.le_of_ble_eq_true rfl, Nat.le_of_ble_eq_true rfl⟩) hP hD hS hA [0, 1, 2, 3, 4, 5, 6] [] [0, 1, 2, 3, 4, 5, 6] rfl rfl (by decide) (by decide) rfl (by decide) (fun H locs hP hD hS => ?_)
    refine lv_istore_n (lv' := [(3, .int (F_X5_pe ep g 1)), (0, .ref mx), (1, .int (nI g)), (2, .int whisper)]) hx hb dX5_hush_41 rfl hl (by decide) rfl (fun ls hl => ?_)
    refine lv_aload_n hx hb dX5_hush_42 rfl (lv_at hl 1 rfl) ?_
    refine lv_iload_n hx hb dX5_hush_43 rfl (lv_at hl 2 rfl) ?_
    refine lv_iconst (v := 1) hx hb dX5_hush_44 (by decide) ?_
    refine lv_iload_n hx hb dX5_hush_45 rfl (lv_at hl 3 rfl) ?_
    refine cl_v (wr := []) (w2 := [(mx, .inr (5, [.int 0, .ref mh, .int (nI R), .ref mw, .ref ml, .int (nI G), .ref mp, .ref mq, .ref mb])), (mh, .inl (cy 0, 50, .inl eh)), (mw, .inl (cy 0, 6, .inl ew)), (ml, .inl (cy 0, 6, .inl el)), (mp, .inl (cy 0, 72, .inl (F_X5_put ep g 1 whisper))), (mq, .inl (cy 0, 2, .inl en)), (mb, .inl (cy 0, 50, .inl eb))]) (rn_V (As := [.int (nI g), .int 1, .int whisper]) (rest := []) (ci := 5) (q0 := 0) ⟨hx, hb, hml, hown, hts⟩ (k_X5_put l D cy _ mx mh mw ml mp mq mb 0 eh ew el ep en eb R G g 1 whisper hR hG (by omega)) (cwV 3 hts gX5_hush_X5_put rfl rfl rfl (by decide +kernel) ⟨Nat.le_of_ble_eq_true rfl, Nat.le_of_ble_eq_true rfl⟩) hN hK hP hD [0, 1, 2, 3, 4, 5, 6] rfl (by decide) rfl rfl rfl rfl hl.1 rfl (Nat.le_of_ble_eq_true rfl) dX5_hush_46 ⟨Nat.le_of_ble_eq_true rfl, Nat.le_of_ble_eq_true rfl⟩) hP hD hS hA [0, 1, 2, 3, 4, 5, 6] [] [0, 1, 2, 3, 4, 5, 6] rfl rfl (by decide) (by decide) rfl (by decide) (fun H locs hP hD hS => ?_)
    refine lv_iload_n hx hb dX5_hush_49 rfl (lv_at hl 0 rfl) ?_
    subst hQ
    exact en_i (tv := ((F_X5_pe ep g 1), 0, (F_X5_put ep g 1 whisper))) hx hb hr hlocks (by rw [F_X5_hush, if_neg c26]) rfl hK (by first | with_reducible exact hP | exact hP) (by first | with_reducible exact hD | exact hD) hS (Nat.le_refl _) (Nat.le_refl _) dX5_hush_50
  · refine lv_aload_n hx hb dX5_hush_29 rfl (lv_at hl 0 rfl) ?_
    refine lv_iconst (v := 2) hx hb dX5_hush_30 (by decide) ?_
    refine cl_i (wr := []) (w2 := [(mx, .inr (5, [.int ((F_X5_fail 2).2), .ref mh, .int (nI R), .ref mw, .ref ml, .int (nI G), .ref mp, .ref mq, .ref mb])), (mh, .inl (cy 0, 50, .inl eh)), (mw, .inl (cy 0, 6, .inl ew)), (ml, .inl (cy 0, 6, .inl el)), (mp, .inl (cy 0, 72, .inl ep)), (mq, .inl (cy 0, 2, .inl en)), (mb, .inl (cy 0, 50, .inl eb))]) (rn_V (As := [.int 2]) (rest := []) (ci := 5) (q0 := 0) ⟨hx, hb, hml, hown, hts⟩ (k_X5_fail l D cy _ mx mh mw ml mp mq mb 0 eh ew el ep en eb R G 2 hR hG) (cwV 1 hts gX5_hush_X5_fail rfl rfl rfl (by decide +kernel) ⟨Nat.le_of_ble_eq_true rfl, Nat.le_of_ble_eq_true rfl⟩) hN hK hP hD [0, 1, 2, 3, 4, 5, 6] rfl (by decide) rfl rfl rfl rfl hl.1 rfl (Nat.le_of_ble_eq_true rfl) dX5_hush_31 ⟨Nat.le_of_ble_eq_true rfl, Nat.le_of_ble_eq_true rfl⟩) hP hD hS hA [0, 1, 2, 3, 4, 5, 6] [] [0, 1, 2, 3, 4, 5, 6] rfl rfl (by decide) (by decide) rfl (by decide) (fun H locs hP hD hS => ?_)
    subst hQ
    exact en_i (tv := ((F_X5_fail 2).1, (F_X5_fail 2).2, ep)) hx hb hr hlocks (by rw [F_X5_hush, if_pos c26]) rfl hK (by first | with_reducible exact hP | exact hP) (by first | with_reducible exact hD | exact hD) hS (Nat.le_refl _) (Nat.le_refl _) dX5_hush_34

def F_X5_hush_bad  : Int32 × Int32 :=
  ((F_X5_fail 1).1, (F_X5_fail 1).2)
set_option maxHeartbeats 4000000 in
set_option maxRecDepth 100000 in
theorem k_X5_hush_bad (l : Launch) (D : va_G) (cy : Nat → ClassId) (sz : Nat) (mx mh mw ml mp mq mb : Nat) (th : Int32) (eh : Nat → Int32) (ew : Nat → Int32) (el : Nat → Int32) (ep : Nat → Int32) (en : Nat → Int32) (eb : Nat → Int32) (R : Nat) (G : Nat) (g : Int32) (whisper : Int32) (hR : R ≤ 6) (hG : G ≤ 12) (hbad : F_X5_isGuest G g = 0) : MTa l D cy yX5_hush wsX5_hush 2 0 0 43 [(mx, .inr (5, [.int th, .ref mh, .int (nI R), .ref mw, .ref ml, .int (nI G), .ref mp, .ref mq, .ref mb])), (mh, .inl (cy 0, 50, .inl eh)), (mw, .inl (cy 0, 6, .inl ew)), (ml, .inl (cy 0, 6, .inl el)), (mp, .inl (cy 0, 72, .inl ep)), (mq, .inl (cy 0, 2, .inl en)), (mb, .inl (cy 0, 50, .inl eb))] sz [.ref mx, .int g, .int whisper] (fun A => QiT D cy (fun (t : Int32 × Int32) => t.1) (fun (t : Int32 × Int32) => [(mx, .inr (5, [.int t.2, .ref mh, .int (nI R), .ref mw, .ref ml, .int (nI G), .ref mp, .ref mq, .ref mb])), (mh, .inl (cy 0, 50, .inl eh)), (mw, .inl (cy 0, 6, .inl ew)), (ml, .inl (cy 0, 6, .inl el)), (mp, .inl (cy 0, 72, .inl ep)), (mq, .inl (cy 0, 2, .inl en)), (mb, .inl (cy 0, 50, .inl eb))]) F_X5_hush_bad A) := by
  refine ofWT (cc := cX5_hush) (maxL := 4) (ret := (some .int)) (own := RX5) (by decide) rfl (Nat.le_of_ble_eq_true rfl) rfl ?_
  intro p e s m args below meth c A ls hx hb hr hml hts hown hlocks hin hN hK hP hD hA hl
  have hS : va_S A s.heap s.heap [] := va_S.rf
  have hl : lv_has ls 4 [(0, .ref mx), (1, .int g), (2, .int whisper)] := hl
  have hin5 : ∀ w ∈ u_ws RX5 TX5 9, w ∈ wsX5_hush := (fun w h => List.mem_cons_of_mem _ (List.mem_append_right _ h))
  generalize hQ : MQ below ((fun A => QiT D cy (fun (t : Int32 × Int32) => t.1) (fun (t : Int32 × Int32) => [(mx, .inr (5, [.int t.2, .ref mh, .int (nI R), .ref mw, .ref ml, .int (nI G), .ref mp, .ref mq, .ref mb])), (mh, .inl (cy 0, 50, .inl eh)), (mw, .inl (cy 0, 6, .inl ew)), (ml, .inl (cy 0, 6, .inl el)), (mp, .inl (cy 0, 72, .inl ep)), (mq, .inl (cy 0, 2, .inl en)), (mb, .inl (cy 0, 50, .inl eb))]) F_X5_hush_bad A) A) args s 0 0 A = Q
  refine lv_aload_n hx hb dX5_hush_0 rfl (lv_at hl 0 rfl) ?_
  refine lv_iconst (v := 0) hx hb dX5_hush_1 (by decide) ?_
  refine va_put (D := D) (ci := 5) (v := .int 0) (ty := .int) (C := RX5) (T := TX5) (N := 9) hx hb hts hin5 tyX5 tyX5_ok nmX5 hown hK hP hD hS 0 rfl rfl 0 (by decide) (hts (.fieldLink RX5 28 "FireflyInnModel" "thrown" "I") (List.mem_of_getElem? (i := 1) rfl)) (fun _ h9 => h9) rfl (by decide +kernel) rfl rfl (Nat.le_of_ble_eq_true rfl) dX5_hush_2 (fun H locs hP hD hS => ?_)
  have hP : va_P D vwCl [(mx, .inr (5, [.int 0, .ref mh, .int (nI R), .ref mw, .ref ml, .int (nI G), .ref mp, .ref mq, .ref mb])), (mh, .inl (cy 0, 50, .inl eh)), (mw, .inl (cy 0, 6, .inl ew)), (ml, .inl (cy 0, 6, .inl el)), (mp, .inl (cy 0, 72, .inl ep)), (mq, .inl (cy 0, 2, .inl en)), (mb, .inl (cy 0, 50, .inl eb))] H := hP
  have hD : va_D A [(mx, .inr (5, [.int 0, .ref mh, .int (nI R), .ref mw, .ref ml, .int (nI G), .ref mp, .ref mq, .ref mb])), (mh, .inl (cy 0, 50, .inl eh)), (mw, .inl (cy 0, 6, .inl ew)), (ml, .inl (cy 0, 6, .inl el)), (mp, .inl (cy 0, 72, .inl ep)), (mq, .inl (cy 0, 2, .inl en)), (mb, .inl (cy 0, 50, .inl eb))] := hD
  refine lv_aload_n hx hb dX5_hush_5 rfl (lv_at hl 0 rfl) ?_
  refine lv_iload_n hx hb dX5_hush_6 rfl (lv_at hl 1 rfl) ?_
  refine cl_i (wr := []) (w2 := [(mx, .inr (5, [.int 0, .ref mh, .int (nI R), .ref mw, .ref ml, .int (nI G), .ref mp, .ref mq, .ref mb])), (mh, .inl (cy 0, 50, .inl eh)), (mw, .inl (cy 0, 6, .inl ew)), (ml, .inl (cy 0, 6, .inl el)), (mp, .inl (cy 0, 72, .inl ep)), (mq, .inl (cy 0, 2, .inl en)), (mb, .inl (cy 0, 50, .inl eb))]) (rn_V (As := [.int g]) (rest := []) (ci := 5) (q0 := 0) ⟨hx, hb, hml, hown, hts⟩ (k_X5_isGuest l D cy _ mx mh mw ml mp mq mb 0 eh ew el ep en eb R G g hR hG) (cwV 1 hts gX5_hush_X5_isGuest rfl rfl rfl (by decide +kernel) ⟨Nat.le_of_ble_eq_true rfl, Nat.le_of_ble_eq_true rfl⟩) hN hK hP hD [0, 1, 2, 3, 4, 5, 6] rfl (by decide) rfl rfl rfl rfl hl.1 rfl (Nat.le_of_ble_eq_true rfl) dX5_hush_7 ⟨Nat.le_of_ble_eq_true rfl, Nat.le_of_ble_eq_true rfl⟩) hP hD hS hA [0, 1, 2, 3, 4, 5, 6] [] [0, 1, 2, 3, 4, 5, 6] rfl rfl (by decide) (by decide) rfl (by decide) (fun H locs hP hD hS => ?_)
  refine lv_if_ne (tgt := 19) hx hb dX5_hush_10 (by decide) (fun c10 => ?_) (fun c10 => ?_)
  · exact absurd hbad c10
  refine lv_aload_n hx hb dX5_hush_13 rfl (lv_at hl 0 rfl) ?_
  refine lv_iconst (v := 1) hx hb dX5_hush_14 (by decide) ?_
  refine cl_i (wr := []) (w2 := [(mx, .inr (5, [.int ((F_X5_fail 1).2), .ref mh, .int (nI R), .ref mw, .ref ml, .int (nI G), .ref mp, .ref mq, .ref mb])), (mh, .inl (cy 0, 50, .inl eh)), (mw, .inl (cy 0, 6, .inl ew)), (ml, .inl (cy 0, 6, .inl el)), (mp, .inl (cy 0, 72, .inl ep)), (mq, .inl (cy 0, 2, .inl en)), (mb, .inl (cy 0, 50, .inl eb))]) (rn_V (As := [.int 1]) (rest := []) (ci := 5) (q0 := 0) ⟨hx, hb, hml, hown, hts⟩ (k_X5_fail l D cy _ mx mh mw ml mp mq mb 0 eh ew el ep en eb R G 1 hR hG) (cwV 1 hts gX5_hush_X5_fail rfl rfl rfl (by decide +kernel) ⟨Nat.le_of_ble_eq_true rfl, Nat.le_of_ble_eq_true rfl⟩) hN hK hP hD [0, 1, 2, 3, 4, 5, 6] rfl (by decide) rfl rfl rfl rfl hl.1 rfl (Nat.le_of_ble_eq_true rfl) dX5_hush_15 ⟨Nat.le_of_ble_eq_true rfl, Nat.le_of_ble_eq_true rfl⟩) hP hD hS hA [0, 1, 2, 3, 4, 5, 6] [] [0, 1, 2, 3, 4, 5, 6] rfl rfl (by decide) (by decide) rfl (by decide) (fun H locs hP hD hS => ?_)
  subst hQ
  exact en_i (tv := ((F_X5_fail 1).1, (F_X5_fail 1).2)) hx hb hr hlocks (by rw [F_X5_hush_bad]) rfl hK (by first | with_reducible exact hP | exact hP) (by first | with_reducible exact hD | exact hD) hS (Nat.le_refl _) (Nat.le_refl _) dX5_hush_18

def F_X5_guest (ep : Nat → Int32) (g : Nat) (w : Nat) : Int32 × Int32 :=
  ((F_X5_pe ep g w), 0)
set_option maxHeartbeats 4000000 in
set_option maxRecDepth 100000 in
theorem k_X5_guest (l : Launch) (D : va_G) (cy : Nat → ClassId) (sz : Nat) (mx mh mw ml mp mq mb : Nat) (th : Int32) (eh : Nat → Int32) (ew : Nat → Int32) (el : Nat → Int32) (ep : Nat → Int32) (en : Nat → Int32) (eb : Nat → Int32) (R : Nat) (G : Nat) (g : Nat) (w : Nat) (hR : R ≤ 6) (hG : G ≤ 12) (hg : g < G) (hw : w < 6) : MTa l D cy yX5_guest wsX5_guest 2 0 0 43 [(mx, .inr (5, [.int th, .ref mh, .int (nI R), .ref mw, .ref ml, .int (nI G), .ref mp, .ref mq, .ref mb])), (mh, .inl (cy 0, 50, .inl eh)), (mw, .inl (cy 0, 6, .inl ew)), (ml, .inl (cy 0, 6, .inl el)), (mp, .inl (cy 0, 72, .inl ep)), (mq, .inl (cy 0, 2, .inl en)), (mb, .inl (cy 0, 50, .inl eb))] sz [.ref mx, .int (nI g), .int (nI w)] (fun A => QiT D cy (fun (t : Int32 × Int32) => t.1) (fun (t : Int32 × Int32) => [(mx, .inr (5, [.int t.2, .ref mh, .int (nI R), .ref mw, .ref ml, .int (nI G), .ref mp, .ref mq, .ref mb])), (mh, .inl (cy 0, 50, .inl eh)), (mw, .inl (cy 0, 6, .inl ew)), (ml, .inl (cy 0, 6, .inl el)), (mp, .inl (cy 0, 72, .inl ep)), (mq, .inl (cy 0, 2, .inl en)), (mb, .inl (cy 0, 50, .inl eb))]) (F_X5_guest ep g w) A) := by
  refine ofWT (cc := cX5_guest) (maxL := 3) (ret := (some .int)) (own := RX5) (by decide) rfl (Nat.le_of_ble_eq_true rfl) rfl ?_
  intro p e s m args below meth c A ls hx hb hr hml hts hown hlocks hin hN hK hP hD hA hl
  have hS : va_S A s.heap s.heap [] := va_S.rf
  have hl : lv_has ls 3 [(0, .ref mx), (1, .int (nI g)), (2, .int (nI w))] := hl
  have hin5 : ∀ w ∈ u_ws RX5 TX5 9, w ∈ wsX5_guest := (fun w h => List.mem_cons_of_mem _ (List.mem_append_right _ h))
  generalize hQ : MQ below ((fun A => QiT D cy (fun (t : Int32 × Int32) => t.1) (fun (t : Int32 × Int32) => [(mx, .inr (5, [.int t.2, .ref mh, .int (nI R), .ref mw, .ref ml, .int (nI G), .ref mp, .ref mq, .ref mb])), (mh, .inl (cy 0, 50, .inl eh)), (mw, .inl (cy 0, 6, .inl ew)), (ml, .inl (cy 0, 6, .inl el)), (mp, .inl (cy 0, 72, .inl ep)), (mq, .inl (cy 0, 2, .inl en)), (mb, .inl (cy 0, 50, .inl eb))]) (F_X5_guest ep g w) A) A) args s 0 0 A = Q
  refine lv_aload_n hx hb dX5_guest_0 rfl (lv_at hl 0 rfl) ?_
  refine lv_iconst (v := 0) hx hb dX5_guest_1 (by decide) ?_
  refine va_put (D := D) (ci := 5) (v := .int 0) (ty := .int) (C := RX5) (T := TX5) (N := 9) hx hb hts hin5 tyX5 tyX5_ok nmX5 hown hK hP hD hS 0 rfl rfl 0 (by decide) (hts (.fieldLink RX5 28 "FireflyInnModel" "thrown" "I") (List.mem_of_getElem? (i := 1) rfl)) (fun _ h9 => h9) rfl (by decide +kernel) rfl rfl (Nat.le_of_ble_eq_true rfl) dX5_guest_2 (fun H locs hP hD hS => ?_)
  have hP : va_P D vwCl [(mx, .inr (5, [.int 0, .ref mh, .int (nI R), .ref mw, .ref ml, .int (nI G), .ref mp, .ref mq, .ref mb])), (mh, .inl (cy 0, 50, .inl eh)), (mw, .inl (cy 0, 6, .inl ew)), (ml, .inl (cy 0, 6, .inl el)), (mp, .inl (cy 0, 72, .inl ep)), (mq, .inl (cy 0, 2, .inl en)), (mb, .inl (cy 0, 50, .inl eb))] H := hP
  have hD : va_D A [(mx, .inr (5, [.int 0, .ref mh, .int (nI R), .ref mw, .ref ml, .int (nI G), .ref mp, .ref mq, .ref mb])), (mh, .inl (cy 0, 50, .inl eh)), (mw, .inl (cy 0, 6, .inl ew)), (ml, .inl (cy 0, 6, .inl el)), (mp, .inl (cy 0, 72, .inl ep)), (mq, .inl (cy 0, 2, .inl en)), (mb, .inl (cy 0, 50, .inl eb))] := hD
  refine lv_aload_n hx hb dX5_guest_5 rfl (lv_at hl 0 rfl) ?_
  refine lv_iload_n hx hb dX5_guest_6 rfl (lv_at hl 1 rfl) ?_
  refine cl_i (wr := []) (w2 := [(mx, .inr (5, [.int 0, .ref mh, .int (nI R), .ref mw, .ref ml, .int (nI G), .ref mp, .ref mq, .ref mb])), (mh, .inl (cy 0, 50, .inl eh)), (mw, .inl (cy 0, 6, .inl ew)), (ml, .inl (cy 0, 6, .inl el)), (mp, .inl (cy 0, 72, .inl ep)), (mq, .inl (cy 0, 2, .inl en)), (mb, .inl (cy 0, 50, .inl eb))]) (rn_V (As := [.int (nI g)]) (rest := []) (ci := 5) (q0 := 0) ⟨hx, hb, hml, hown, hts⟩ (k_X5_isGuest l D cy _ mx mh mw ml mp mq mb 0 eh ew el ep en eb R G (nI g) hR hG) (cwV 1 hts gX5_guest_X5_isGuest rfl rfl rfl (by decide +kernel) ⟨Nat.le_of_ble_eq_true rfl, Nat.le_of_ble_eq_true rfl⟩) hN hK hP hD [0, 1, 2, 3, 4, 5, 6] rfl (by decide) rfl rfl rfl rfl hl.1 rfl (Nat.le_of_ble_eq_true rfl) dX5_guest_7 ⟨Nat.le_of_ble_eq_true rfl, Nat.le_of_ble_eq_true rfl⟩) hP hD hS hA [0, 1, 2, 3, 4, 5, 6] [] [0, 1, 2, 3, 4, 5, 6] rfl rfl (by decide) (by decide) rfl (by decide) (fun H locs hP hD hS => ?_)
  refine lv_if_eq (tgt := 31) hx hb dX5_guest_10 (by decide) (fun c10 => ?_) (fun c10 => ?_)
  · exact absurd c10 (guest_ok hG hg)
  refine lv_iload_n hx hb dX5_guest_13 rfl (lv_at hl 2 rfl) ?_
  refine lv_iconst (v := 0) hx hb dX5_guest_14 (by decide) ?_
  refine lv_iconst (v := 5) hx hb dX5_guest_15 (by decide) ?_
  refine cl_i (wr := [(mx, .inr (5, [.int 0, .ref mh, .int (nI R), .ref mw, .ref ml, .int (nI G), .ref mp, .ref mq, .ref mb])), (mh, .inl (cy 0, 50, .inl eh)), (mw, .inl (cy 0, 6, .inl ew)), (ml, .inl (cy 0, 6, .inl el)), (mp, .inl (cy 0, 72, .inl ep)), (mq, .inl (cy 0, 2, .inl en)), (mb, .inl (cy 0, 50, .inl eb))]) (w2 := [(mx, .inr (5, [.int 0, .ref mh, .int (nI R), .ref mw, .ref ml, .int (nI G), .ref mp, .ref mq, .ref mb])), (mh, .inl (cy 0, 50, .inl eh)), (mw, .inl (cy 0, 6, .inl ew)), (ml, .inl (cy 0, 6, .inl el)), (mp, .inl (cy 0, 72, .inl ep)), (mq, .inl (cy 0, 2, .inl en)), (mb, .inl (cy 0, 50, .inl eb))]) (rn_S (As := [.int (nI w), .int 0, .int 5]) (rest := []) ⟨hx, hb, hml, hown, hts⟩ (k_X5_isIn l D cy _ (nI w) 0 5) (va_cwS 3 hts gX5_guest_X5_isIn rfl rfl rfl (by decide +kernel) ⟨Nat.le_of_ble_eq_true rfl, Nat.le_of_ble_eq_true rfl⟩) hN hK hP hD [] rfl (by decide) rfl hl.1 rfl (Nat.le_of_ble_eq_true rfl) dX5_guest_16 ⟨Nat.le_of_ble_eq_true rfl, Nat.le_of_ble_eq_true rfl⟩) hP hD hS hA [] [0, 1, 2, 3, 4, 5, 6] [0, 1, 2, 3, 4, 5, 6] rfl rfl (by decide) (by decide) rfl (by decide) (fun H locs hP hD hS => ?_)
  refine lv_if_eq (tgt := 31) hx hb dX5_guest_19 (by decide) (fun c19 => ?_) (fun c19 => ?_)
  · exact absurd c19 (by rw [isIn_mk (v := nI w) (a := 0) (b := 5) ⟨nI_pos' (by omega), nI_le (b := 5) (by omega) (by omega)⟩]; decide)
  refine lv_aload_n hx hb dX5_guest_22 rfl (lv_at hl 0 rfl) ?_
  refine lv_iload_n hx hb dX5_guest_23 rfl (lv_at hl 1 rfl) ?_
  refine lv_iload_n hx hb dX5_guest_24 rfl (lv_at hl 2 rfl) ?_
  refine cl_i (wr := []) (w2 := [(mx, .inr (5, [.int 0, .ref mh, .int (nI R), .ref mw, .ref ml, .int (nI G), .ref mp, .ref mq, .ref mb])), (mh, .inl (cy 0, 50, .inl eh)), (mw, .inl (cy 0, 6, .inl ew)), (ml, .inl (cy 0, 6, .inl el)), (mp, .inl (cy 0, 72, .inl ep)), (mq, .inl (cy 0, 2, .inl en)), (mb, .inl (cy 0, 50, .inl eb))]) (rn_V (As := [.int (nI g), .int (nI w)]) (rest := []) (ci := 5) (q0 := 0) ⟨hx, hb, hml, hown, hts⟩ (k_X5_pe l D cy _ mx mh mw ml mp mq mb 0 eh ew el ep en eb R G g w hR hG (by omega)) (cwV 2 hts gX5_guest_X5_pe rfl rfl rfl (by decide +kernel) ⟨Nat.le_of_ble_eq_true rfl, Nat.le_of_ble_eq_true rfl⟩) hN hK hP hD [0, 1, 2, 3, 4, 5, 6] rfl (by decide) rfl rfl rfl rfl hl.1 rfl (Nat.le_of_ble_eq_true rfl) dX5_guest_25 ⟨Nat.le_of_ble_eq_true rfl, Nat.le_of_ble_eq_true rfl⟩) hP hD hS hA [0, 1, 2, 3, 4, 5, 6] [] [0, 1, 2, 3, 4, 5, 6] rfl rfl (by decide) (by decide) rfl (by decide) (fun H locs hP hD hS => ?_)
  refine lv_goto (tgt := 36) hx hb dX5_guest_28 (by decide) ?_
  subst hQ
  exact en_i (tv := ((F_X5_pe ep g w), 0)) hx hb hr hlocks (by rw [F_X5_guest]) rfl hK (by first | with_reducible exact hP | exact hP) (by first | with_reducible exact hD | exact hD) hS (Nat.le_refl _) (Nat.le_refl _) dX5_guest_36

def F_X5_guest_bad (G : Nat) (g : Int32) : Int32 × Int32 :=
  if (F_X5_isGuest G g) = 0 then
    ((F_X5_fail 1).1, (F_X5_fail 1).2)
  else
    ((F_X5_fail 1).1, (F_X5_fail 1).2)
set_option maxHeartbeats 4000000 in
set_option maxRecDepth 100000 in
theorem k_X5_guest_bad (l : Launch) (D : va_G) (cy : Nat → ClassId) (sz : Nat) (mx mh mw ml mp mq mb : Nat) (th : Int32) (eh : Nat → Int32) (ew : Nat → Int32) (el : Nat → Int32) (ep : Nat → Int32) (en : Nat → Int32) (eb : Nat → Int32) (R : Nat) (G : Nat) (g : Int32) (what : Int32) (hR : R ≤ 6) (hG : G ≤ 12) (hbad : F_X5_isGuest G g = 0 ∨ F_X5_isIn what 0 5 = 0) : MTa l D cy yX5_guest wsX5_guest 2 0 0 43 [(mx, .inr (5, [.int th, .ref mh, .int (nI R), .ref mw, .ref ml, .int (nI G), .ref mp, .ref mq, .ref mb])), (mh, .inl (cy 0, 50, .inl eh)), (mw, .inl (cy 0, 6, .inl ew)), (ml, .inl (cy 0, 6, .inl el)), (mp, .inl (cy 0, 72, .inl ep)), (mq, .inl (cy 0, 2, .inl en)), (mb, .inl (cy 0, 50, .inl eb))] sz [.ref mx, .int g, .int what] (fun A => QiT D cy (fun (t : Int32 × Int32) => t.1) (fun (t : Int32 × Int32) => [(mx, .inr (5, [.int t.2, .ref mh, .int (nI R), .ref mw, .ref ml, .int (nI G), .ref mp, .ref mq, .ref mb])), (mh, .inl (cy 0, 50, .inl eh)), (mw, .inl (cy 0, 6, .inl ew)), (ml, .inl (cy 0, 6, .inl el)), (mp, .inl (cy 0, 72, .inl ep)), (mq, .inl (cy 0, 2, .inl en)), (mb, .inl (cy 0, 50, .inl eb))]) (F_X5_guest_bad G g) A) := by
  refine ofWT (cc := cX5_guest) (maxL := 3) (ret := (some .int)) (own := RX5) (by decide) rfl (Nat.le_of_ble_eq_true rfl) rfl ?_
  intro p e s m args below meth c A ls hx hb hr hml hts hown hlocks hin hN hK hP hD hA hl
  have hS : va_S A s.heap s.heap [] := va_S.rf
  have hl : lv_has ls 3 [(0, .ref mx), (1, .int g), (2, .int what)] := hl
  have hin5 : ∀ w ∈ u_ws RX5 TX5 9, w ∈ wsX5_guest := (fun w h => List.mem_cons_of_mem _ (List.mem_append_right _ h))
  generalize hQ : MQ below ((fun A => QiT D cy (fun (t : Int32 × Int32) => t.1) (fun (t : Int32 × Int32) => [(mx, .inr (5, [.int t.2, .ref mh, .int (nI R), .ref mw, .ref ml, .int (nI G), .ref mp, .ref mq, .ref mb])), (mh, .inl (cy 0, 50, .inl eh)), (mw, .inl (cy 0, 6, .inl ew)), (ml, .inl (cy 0, 6, .inl el)), (mp, .inl (cy 0, 72, .inl ep)), (mq, .inl (cy 0, 2, .inl en)), (mb, .inl (cy 0, 50, .inl eb))]) (F_X5_guest_bad G g) A) A) args s 0 0 A = Q
  refine lv_aload_n hx hb dX5_guest_0 rfl (lv_at hl 0 rfl) ?_
  refine lv_iconst (v := 0) hx hb dX5_guest_1 (by decide) ?_
  refine va_put (D := D) (ci := 5) (v := .int 0) (ty := .int) (C := RX5) (T := TX5) (N := 9) hx hb hts hin5 tyX5 tyX5_ok nmX5 hown hK hP hD hS 0 rfl rfl 0 (by decide) (hts (.fieldLink RX5 28 "FireflyInnModel" "thrown" "I") (List.mem_of_getElem? (i := 1) rfl)) (fun _ h9 => h9) rfl (by decide +kernel) rfl rfl (Nat.le_of_ble_eq_true rfl) dX5_guest_2 (fun H locs hP hD hS => ?_)
  have hP : va_P D vwCl [(mx, .inr (5, [.int 0, .ref mh, .int (nI R), .ref mw, .ref ml, .int (nI G), .ref mp, .ref mq, .ref mb])), (mh, .inl (cy 0, 50, .inl eh)), (mw, .inl (cy 0, 6, .inl ew)), (ml, .inl (cy 0, 6, .inl el)), (mp, .inl (cy 0, 72, .inl ep)), (mq, .inl (cy 0, 2, .inl en)), (mb, .inl (cy 0, 50, .inl eb))] H := hP
  have hD : va_D A [(mx, .inr (5, [.int 0, .ref mh, .int (nI R), .ref mw, .ref ml, .int (nI G), .ref mp, .ref mq, .ref mb])), (mh, .inl (cy 0, 50, .inl eh)), (mw, .inl (cy 0, 6, .inl ew)), (ml, .inl (cy 0, 6, .inl el)), (mp, .inl (cy 0, 72, .inl ep)), (mq, .inl (cy 0, 2, .inl en)), (mb, .inl (cy 0, 50, .inl eb))] := hD
  refine lv_aload_n hx hb dX5_guest_5 rfl (lv_at hl 0 rfl) ?_
  refine lv_iload_n hx hb dX5_guest_6 rfl (lv_at hl 1 rfl) ?_
  refine cl_i (wr := []) (w2 := [(mx, .inr (5, [.int 0, .ref mh, .int (nI R), .ref mw, .ref ml, .int (nI G), .ref mp, .ref mq, .ref mb])), (mh, .inl (cy 0, 50, .inl eh)), (mw, .inl (cy 0, 6, .inl ew)), (ml, .inl (cy 0, 6, .inl el)), (mp, .inl (cy 0, 72, .inl ep)), (mq, .inl (cy 0, 2, .inl en)), (mb, .inl (cy 0, 50, .inl eb))]) (rn_V (As := [.int g]) (rest := []) (ci := 5) (q0 := 0) ⟨hx, hb, hml, hown, hts⟩ (k_X5_isGuest l D cy _ mx mh mw ml mp mq mb 0 eh ew el ep en eb R G g hR hG) (cwV 1 hts gX5_guest_X5_isGuest rfl rfl rfl (by decide +kernel) ⟨Nat.le_of_ble_eq_true rfl, Nat.le_of_ble_eq_true rfl⟩) hN hK hP hD [0, 1, 2, 3, 4, 5, 6] rfl (by decide) rfl rfl rfl rfl hl.1 rfl (Nat.le_of_ble_eq_true rfl) dX5_guest_7 ⟨Nat.le_of_ble_eq_true rfl, Nat.le_of_ble_eq_true rfl⟩) hP hD hS hA [0, 1, 2, 3, 4, 5, 6] [] [0, 1, 2, 3, 4, 5, 6] rfl rfl (by decide) (by decide) rfl (by decide) (fun H locs hP hD hS => ?_)
  refine lv_if_eq (tgt := 31) hx hb dX5_guest_10 (by decide) (fun c10 => ?_) (fun c10 => ?_)
  · refine lv_aload_n hx hb dX5_guest_31 rfl (lv_at hl 0 rfl) ?_
    refine lv_iconst (v := 1) hx hb dX5_guest_32 (by decide) ?_
    refine cl_i (wr := []) (w2 := [(mx, .inr (5, [.int ((F_X5_fail 1).2), .ref mh, .int (nI R), .ref mw, .ref ml, .int (nI G), .ref mp, .ref mq, .ref mb])), (mh, .inl (cy 0, 50, .inl eh)), (mw, .inl (cy 0, 6, .inl ew)), (ml, .inl (cy 0, 6, .inl el)), (mp, .inl (cy 0, 72, .inl ep)), (mq, .inl (cy 0, 2, .inl en)), (mb, .inl (cy 0, 50, .inl eb))]) (rn_V (As := [.int 1]) (rest := []) (ci := 5) (q0 := 0) ⟨hx, hb, hml, hown, hts⟩ (k_X5_fail l D cy _ mx mh mw ml mp mq mb 0 eh ew el ep en eb R G 1 hR hG) (cwV 1 hts gX5_guest_X5_fail rfl rfl rfl (by decide +kernel) ⟨Nat.le_of_ble_eq_true rfl, Nat.le_of_ble_eq_true rfl⟩) hN hK hP hD [0, 1, 2, 3, 4, 5, 6] rfl (by decide) rfl rfl rfl rfl hl.1 rfl (Nat.le_of_ble_eq_true rfl) dX5_guest_33 ⟨Nat.le_of_ble_eq_true rfl, Nat.le_of_ble_eq_true rfl⟩) hP hD hS hA [0, 1, 2, 3, 4, 5, 6] [] [0, 1, 2, 3, 4, 5, 6] rfl rfl (by decide) (by decide) rfl (by decide) (fun H locs hP hD hS => ?_)
    subst hQ
    exact en_i (tv := ((F_X5_fail 1).1, (F_X5_fail 1).2)) hx hb hr hlocks (by rw [F_X5_guest_bad, if_pos c10]) rfl hK (by first | with_reducible exact hP | exact hP) (by first | with_reducible exact hD | exact hD) hS (Nat.le_refl _) (Nat.le_refl _) dX5_guest_36
  · refine lv_iload_n hx hb dX5_guest_13 rfl (lv_at hl 2 rfl) ?_
    refine lv_iconst (v := 0) hx hb dX5_guest_14 (by decide) ?_
    refine lv_iconst (v := 5) hx hb dX5_guest_15 (by decide) ?_
    refine cl_i (wr := [(mx, .inr (5, [.int 0, .ref mh, .int (nI R), .ref mw, .ref ml, .int (nI G), .ref mp, .ref mq, .ref mb])), (mh, .inl (cy 0, 50, .inl eh)), (mw, .inl (cy 0, 6, .inl ew)), (ml, .inl (cy 0, 6, .inl el)), (mp, .inl (cy 0, 72, .inl ep)), (mq, .inl (cy 0, 2, .inl en)), (mb, .inl (cy 0, 50, .inl eb))]) (w2 := [(mx, .inr (5, [.int 0, .ref mh, .int (nI R), .ref mw, .ref ml, .int (nI G), .ref mp, .ref mq, .ref mb])), (mh, .inl (cy 0, 50, .inl eh)), (mw, .inl (cy 0, 6, .inl ew)), (ml, .inl (cy 0, 6, .inl el)), (mp, .inl (cy 0, 72, .inl ep)), (mq, .inl (cy 0, 2, .inl en)), (mb, .inl (cy 0, 50, .inl eb))]) (rn_S (As := [.int what, .int 0, .int 5]) (rest := []) ⟨hx, hb, hml, hown, hts⟩ (k_X5_isIn l D cy _ what 0 5) (va_cwS 3 hts gX5_guest_X5_isIn rfl rfl rfl (by decide +kernel) ⟨Nat.le_of_ble_eq_true rfl, Nat.le_of_ble_eq_true rfl⟩) hN hK hP hD [] rfl (by decide) rfl hl.1 rfl (Nat.le_of_ble_eq_true rfl) dX5_guest_16 ⟨Nat.le_of_ble_eq_true rfl, Nat.le_of_ble_eq_true rfl⟩) hP hD hS hA [] [0, 1, 2, 3, 4, 5, 6] [0, 1, 2, 3, 4, 5, 6] rfl rfl (by decide) (by decide) rfl (by decide) (fun H locs hP hD hS => ?_)
    refine lv_if_eq (tgt := 31) hx hb dX5_guest_19 (by decide) (fun c19 => ?_) (fun c19 => ?_)
    rotate_left
    · exact absurd (hbad.resolve_left c10) c19
    refine lv_aload_n hx hb dX5_guest_31 rfl (lv_at hl 0 rfl) ?_
    refine lv_iconst (v := 1) hx hb dX5_guest_32 (by decide) ?_
    refine cl_i (wr := []) (w2 := [(mx, .inr (5, [.int ((F_X5_fail 1).2), .ref mh, .int (nI R), .ref mw, .ref ml, .int (nI G), .ref mp, .ref mq, .ref mb])), (mh, .inl (cy 0, 50, .inl eh)), (mw, .inl (cy 0, 6, .inl ew)), (ml, .inl (cy 0, 6, .inl el)), (mp, .inl (cy 0, 72, .inl ep)), (mq, .inl (cy 0, 2, .inl en)), (mb, .inl (cy 0, 50, .inl eb))]) (rn_V (As := [.int 1]) (rest := []) (ci := 5) (q0 := 0) ⟨hx, hb, hml, hown, hts⟩ (k_X5_fail l D cy _ mx mh mw ml mp mq mb 0 eh ew el ep en eb R G 1 hR hG) (cwV 1 hts gX5_guest_X5_fail rfl rfl rfl (by decide +kernel) ⟨Nat.le_of_ble_eq_true rfl, Nat.le_of_ble_eq_true rfl⟩) hN hK hP hD [0, 1, 2, 3, 4, 5, 6] rfl (by decide) rfl rfl rfl rfl hl.1 rfl (Nat.le_of_ble_eq_true rfl) dX5_guest_33 ⟨Nat.le_of_ble_eq_true rfl, Nat.le_of_ble_eq_true rfl⟩) hP hD hS hA [0, 1, 2, 3, 4, 5, 6] [] [0, 1, 2, 3, 4, 5, 6] rfl rfl (by decide) (by decide) rfl (by decide) (fun H locs hP hD hS => ?_)
    subst hQ
    exact en_i (tv := ((F_X5_fail 1).1, (F_X5_fail 1).2)) hx hb hr hlocks (by rw [F_X5_guest_bad, if_neg c10]) rfl hK (by first | with_reducible exact hP | exact hP) (by first | with_reducible exact hD | exact hD) hS (Nat.le_refl _) (Nat.le_refl _) dX5_guest_36

def F_X5_room (ew : Nat → Int32) (el : Nat → Int32) (ep : Nat → Int32) (G : Nat) (r : Nat) (what : Int32) : Int32 × Int32 :=
  if (F_X5_isIn what 0 4) = 0 then
    ((F_X5_fail 1).1, (F_X5_fail 1).2)
  else
    ((F_X5_roomTold ew el ep G r what), 0)
set_option maxHeartbeats 4000000 in
set_option maxRecDepth 100000 in
theorem k_X5_room (l : Launch) (D : va_G) (cy : Nat → ClassId) (sz : Nat) (mx mh mw ml mp mq mb : Nat) (th : Int32) (eh : Nat → Int32) (ew : Nat → Int32) (el : Nat → Int32) (ep : Nat → Int32) (en : Nat → Int32) (eb : Nat → Int32) (R : Nat) (G : Nat) (r : Nat) (what : Int32) (hR : R ≤ 6) (hG : G ≤ 12) (hrR : r < R) : MTa l D cy yX5_room wsX5_room 3 0 0 68 [(mx, .inr (5, [.int th, .ref mh, .int (nI R), .ref mw, .ref ml, .int (nI G), .ref mp, .ref mq, .ref mb])), (mh, .inl (cy 0, 50, .inl eh)), (mw, .inl (cy 0, 6, .inl ew)), (ml, .inl (cy 0, 6, .inl el)), (mp, .inl (cy 0, 72, .inl ep)), (mq, .inl (cy 0, 2, .inl en)), (mb, .inl (cy 0, 50, .inl eb))] sz [.ref mx, .int (nI r), .int what] (fun A => QiT D cy (fun (t : Int32 × Int32) => t.1) (fun (t : Int32 × Int32) => [(mx, .inr (5, [.int t.2, .ref mh, .int (nI R), .ref mw, .ref ml, .int (nI G), .ref mp, .ref mq, .ref mb])), (mh, .inl (cy 0, 50, .inl eh)), (mw, .inl (cy 0, 6, .inl ew)), (ml, .inl (cy 0, 6, .inl el)), (mp, .inl (cy 0, 72, .inl ep)), (mq, .inl (cy 0, 2, .inl en)), (mb, .inl (cy 0, 50, .inl eb))]) (F_X5_room ew el ep G r what) A) := by
  refine ofWT (cc := cX5_room) (maxL := 3) (ret := (some .int)) (own := RX5) (by decide) rfl (Nat.le_of_ble_eq_true rfl) rfl ?_
  intro p e s m args below meth c A ls hx hb hr hml hts hown hlocks hin hN hK hP hD hA hl
  have hS : va_S A s.heap s.heap [] := va_S.rf
  have hl : lv_has ls 3 [(0, .ref mx), (1, .int (nI r)), (2, .int what)] := hl
  have hin5 : ∀ w ∈ u_ws RX5 TX5 9, w ∈ wsX5_room := (fun w h => List.mem_cons_of_mem _ (List.mem_append_right _ h))
  generalize hQ : MQ below ((fun A => QiT D cy (fun (t : Int32 × Int32) => t.1) (fun (t : Int32 × Int32) => [(mx, .inr (5, [.int t.2, .ref mh, .int (nI R), .ref mw, .ref ml, .int (nI G), .ref mp, .ref mq, .ref mb])), (mh, .inl (cy 0, 50, .inl eh)), (mw, .inl (cy 0, 6, .inl ew)), (ml, .inl (cy 0, 6, .inl el)), (mp, .inl (cy 0, 72, .inl ep)), (mq, .inl (cy 0, 2, .inl en)), (mb, .inl (cy 0, 50, .inl eb))]) (F_X5_room ew el ep G r what) A) A) args s 0 0 A = Q
  refine lv_aload_n hx hb dX5_room_0 rfl (lv_at hl 0 rfl) ?_
  refine lv_iconst (v := 0) hx hb dX5_room_1 (by decide) ?_
  refine va_put (D := D) (ci := 5) (v := .int 0) (ty := .int) (C := RX5) (T := TX5) (N := 9) hx hb hts hin5 tyX5 tyX5_ok nmX5 hown hK hP hD hS 0 rfl rfl 0 (by decide) (hts (.fieldLink RX5 28 "FireflyInnModel" "thrown" "I") (List.mem_of_getElem? (i := 1) rfl)) (fun _ h9 => h9) rfl (by decide +kernel) rfl rfl (Nat.le_of_ble_eq_true rfl) dX5_room_2 (fun H locs hP hD hS => ?_)
  have hP : va_P D vwCl [(mx, .inr (5, [.int 0, .ref mh, .int (nI R), .ref mw, .ref ml, .int (nI G), .ref mp, .ref mq, .ref mb])), (mh, .inl (cy 0, 50, .inl eh)), (mw, .inl (cy 0, 6, .inl ew)), (ml, .inl (cy 0, 6, .inl el)), (mp, .inl (cy 0, 72, .inl ep)), (mq, .inl (cy 0, 2, .inl en)), (mb, .inl (cy 0, 50, .inl eb))] H := hP
  have hD : va_D A [(mx, .inr (5, [.int 0, .ref mh, .int (nI R), .ref mw, .ref ml, .int (nI G), .ref mp, .ref mq, .ref mb])), (mh, .inl (cy 0, 50, .inl eh)), (mw, .inl (cy 0, 6, .inl ew)), (ml, .inl (cy 0, 6, .inl el)), (mp, .inl (cy 0, 72, .inl ep)), (mq, .inl (cy 0, 2, .inl en)), (mb, .inl (cy 0, 50, .inl eb))] := hD
  refine lv_aload_n hx hb dX5_room_5 rfl (lv_at hl 0 rfl) ?_
  refine lv_iload_n hx hb dX5_room_6 rfl (lv_at hl 1 rfl) ?_
  refine cl_i (wr := []) (w2 := [(mx, .inr (5, [.int 0, .ref mh, .int (nI R), .ref mw, .ref ml, .int (nI G), .ref mp, .ref mq, .ref mb])), (mh, .inl (cy 0, 50, .inl eh)), (mw, .inl (cy 0, 6, .inl ew)), (ml, .inl (cy 0, 6, .inl el)), (mp, .inl (cy 0, 72, .inl ep)), (mq, .inl (cy 0, 2, .inl en)), (mb, .inl (cy 0, 50, .inl eb))]) (rn_V (As := [.int (nI r)]) (rest := []) (ci := 5) (q0 := 0) ⟨hx, hb, hml, hown, hts⟩ (k_X5_isRoom l D cy _ mx mh mw ml mp mq mb 0 eh ew el ep en eb R G (nI r) hR hG) (cwV 1 hts gX5_room_X5_isRoom rfl rfl rfl (by decide +kernel) ⟨Nat.le_of_ble_eq_true rfl, Nat.le_of_ble_eq_true rfl⟩) hN hK hP hD [0, 1, 2, 3, 4, 5, 6] rfl (by decide) rfl rfl rfl rfl hl.1 rfl (Nat.le_of_ble_eq_true rfl) dX5_room_7 ⟨Nat.le_of_ble_eq_true rfl, Nat.le_of_ble_eq_true rfl⟩) hP hD hS hA [0, 1, 2, 3, 4, 5, 6] [] [0, 1, 2, 3, 4, 5, 6] rfl rfl (by decide) (by decide) rfl (by decide) (fun H locs hP hD hS => ?_)
  refine lv_if_eq (tgt := 31) hx hb dX5_room_10 (by decide) (fun c10 => ?_) (fun c10 => ?_)
  · exact absurd c10 (room_ok hR hrR)
  refine lv_iload_n hx hb dX5_room_13 rfl (lv_at hl 2 rfl) ?_
  refine lv_iconst (v := 0) hx hb dX5_room_14 (by decide) ?_
  refine lv_iconst (v := 4) hx hb dX5_room_15 (by decide) ?_
  refine cl_i (wr := [(mx, .inr (5, [.int 0, .ref mh, .int (nI R), .ref mw, .ref ml, .int (nI G), .ref mp, .ref mq, .ref mb])), (mh, .inl (cy 0, 50, .inl eh)), (mw, .inl (cy 0, 6, .inl ew)), (ml, .inl (cy 0, 6, .inl el)), (mp, .inl (cy 0, 72, .inl ep)), (mq, .inl (cy 0, 2, .inl en)), (mb, .inl (cy 0, 50, .inl eb))]) (w2 := [(mx, .inr (5, [.int 0, .ref mh, .int (nI R), .ref mw, .ref ml, .int (nI G), .ref mp, .ref mq, .ref mb])), (mh, .inl (cy 0, 50, .inl eh)), (mw, .inl (cy 0, 6, .inl ew)), (ml, .inl (cy 0, 6, .inl el)), (mp, .inl (cy 0, 72, .inl ep)), (mq, .inl (cy 0, 2, .inl en)), (mb, .inl (cy 0, 50, .inl eb))]) (rn_S (As := [.int what, .int 0, .int 4]) (rest := []) ⟨hx, hb, hml, hown, hts⟩ (k_X5_isIn l D cy _ what 0 4) (va_cwS 3 hts gX5_room_X5_isIn rfl rfl rfl (by decide +kernel) ⟨Nat.le_of_ble_eq_true rfl, Nat.le_of_ble_eq_true rfl⟩) hN hK hP hD [] rfl (by decide) rfl hl.1 rfl (Nat.le_of_ble_eq_true rfl) dX5_room_16 ⟨Nat.le_of_ble_eq_true rfl, Nat.le_of_ble_eq_true rfl⟩) hP hD hS hA [] [0, 1, 2, 3, 4, 5, 6] [0, 1, 2, 3, 4, 5, 6] rfl rfl (by decide) (by decide) rfl (by decide) (fun H locs hP hD hS => ?_)
  refine lv_if_eq (tgt := 31) hx hb dX5_room_19 (by decide) (fun c19 => ?_) (fun c19 => ?_)
  · refine lv_aload_n hx hb dX5_room_31 rfl (lv_at hl 0 rfl) ?_
    refine lv_iconst (v := 1) hx hb dX5_room_32 (by decide) ?_
    refine cl_i (wr := []) (w2 := [(mx, .inr (5, [.int ((F_X5_fail 1).2), .ref mh, .int (nI R), .ref mw, .ref ml, .int (nI G), .ref mp, .ref mq, .ref mb])), (mh, .inl (cy 0, 50, .inl eh)), (mw, .inl (cy 0, 6, .inl ew)), (ml, .inl (cy 0, 6, .inl el)), (mp, .inl (cy 0, 72, .inl ep)), (mq, .inl (cy 0, 2, .inl en)), (mb, .inl (cy 0, 50, .inl eb))]) (rn_V (As := [.int 1]) (rest := []) (ci := 5) (q0 := 0) ⟨hx, hb, hml, hown, hts⟩ (k_X5_fail l D cy _ mx mh mw ml mp mq mb 0 eh ew el ep en eb R G 1 hR hG) (cwV 1 hts gX5_room_X5_fail rfl rfl rfl (by decide +kernel) ⟨Nat.le_of_ble_eq_true rfl, Nat.le_of_ble_eq_true rfl⟩) hN hK hP hD [0, 1, 2, 3, 4, 5, 6] rfl (by decide) rfl rfl rfl rfl hl.1 rfl (Nat.le_of_ble_eq_true rfl) dX5_room_33 ⟨Nat.le_of_ble_eq_true rfl, Nat.le_of_ble_eq_true rfl⟩) hP hD hS hA [0, 1, 2, 3, 4, 5, 6] [] [0, 1, 2, 3, 4, 5, 6] rfl rfl (by decide) (by decide) rfl (by decide) (fun H locs hP hD hS => ?_)
    subst hQ
    exact en_i (tv := ((F_X5_fail 1).1, (F_X5_fail 1).2)) hx hb hr hlocks (by rw [F_X5_room, if_pos c19]) rfl hK (by first | with_reducible exact hP | exact hP) (by first | with_reducible exact hD | exact hD) hS (Nat.le_refl _) (Nat.le_refl _) dX5_room_36
  · refine lv_aload_n hx hb dX5_room_22 rfl (lv_at hl 0 rfl) ?_
    refine lv_iload_n hx hb dX5_room_23 rfl (lv_at hl 1 rfl) ?_
    refine lv_iload_n hx hb dX5_room_24 rfl (lv_at hl 2 rfl) ?_
    refine cl_i (wr := []) (w2 := [(mx, .inr (5, [.int 0, .ref mh, .int (nI R), .ref mw, .ref ml, .int (nI G), .ref mp, .ref mq, .ref mb])), (mh, .inl (cy 0, 50, .inl eh)), (mw, .inl (cy 0, 6, .inl ew)), (ml, .inl (cy 0, 6, .inl el)), (mp, .inl (cy 0, 72, .inl ep)), (mq, .inl (cy 0, 2, .inl en)), (mb, .inl (cy 0, 50, .inl eb))]) (rn_V (As := [.int (nI r), .int what]) (rest := []) (ci := 5) (q0 := 0) ⟨hx, hb, hml, hown, hts⟩ (k_X5_roomTold l D cy _ mx mh mw ml mp mq mb 0 eh ew el ep en eb R G r what hR hG (by omega)) (cwV 2 hts gX5_room_X5_roomTold rfl rfl rfl (by decide +kernel) ⟨Nat.le_of_ble_eq_true rfl, Nat.le_of_ble_eq_true rfl⟩) hN hK hP hD [0, 1, 2, 3, 4, 5, 6] rfl (by decide) rfl rfl rfl rfl hl.1 rfl (Nat.le_of_ble_eq_true rfl) dX5_room_25 ⟨Nat.le_of_ble_eq_true rfl, Nat.le_of_ble_eq_true rfl⟩) hP hD hS hA [0, 1, 2, 3, 4, 5, 6] [] [0, 1, 2, 3, 4, 5, 6] rfl rfl (by decide) (by decide) rfl (by decide) (fun H locs hP hD hS => ?_)
    refine lv_goto (tgt := 36) hx hb dX5_room_28 (by decide) ?_
    subst hQ
    exact en_i (tv := ((F_X5_roomTold ew el ep G r what), 0)) hx hb hr hlocks (by rw [F_X5_room, if_neg c19]) rfl hK (by first | with_reducible exact hP | exact hP) (by first | with_reducible exact hD | exact hD) hS (Nat.le_refl _) (Nat.le_refl _) dX5_room_36

def F_X5_room_bad  : Int32 × Int32 :=
  ((F_X5_fail 1).1, (F_X5_fail 1).2)
set_option maxHeartbeats 4000000 in
set_option maxRecDepth 100000 in
theorem k_X5_room_bad (l : Launch) (D : va_G) (cy : Nat → ClassId) (sz : Nat) (mx mh mw ml mp mq mb : Nat) (th : Int32) (eh : Nat → Int32) (ew : Nat → Int32) (el : Nat → Int32) (ep : Nat → Int32) (en : Nat → Int32) (eb : Nat → Int32) (R : Nat) (G : Nat) (r : Int32) (what : Int32) (hR : R ≤ 6) (hG : G ≤ 12) (hbad : F_X5_isRoom R r = 0) : MTa l D cy yX5_room wsX5_room 2 0 0 43 [(mx, .inr (5, [.int th, .ref mh, .int (nI R), .ref mw, .ref ml, .int (nI G), .ref mp, .ref mq, .ref mb])), (mh, .inl (cy 0, 50, .inl eh)), (mw, .inl (cy 0, 6, .inl ew)), (ml, .inl (cy 0, 6, .inl el)), (mp, .inl (cy 0, 72, .inl ep)), (mq, .inl (cy 0, 2, .inl en)), (mb, .inl (cy 0, 50, .inl eb))] sz [.ref mx, .int r, .int what] (fun A => QiT D cy (fun (t : Int32 × Int32) => t.1) (fun (t : Int32 × Int32) => [(mx, .inr (5, [.int t.2, .ref mh, .int (nI R), .ref mw, .ref ml, .int (nI G), .ref mp, .ref mq, .ref mb])), (mh, .inl (cy 0, 50, .inl eh)), (mw, .inl (cy 0, 6, .inl ew)), (ml, .inl (cy 0, 6, .inl el)), (mp, .inl (cy 0, 72, .inl ep)), (mq, .inl (cy 0, 2, .inl en)), (mb, .inl (cy 0, 50, .inl eb))]) F_X5_room_bad A) := by
  refine ofWT (cc := cX5_room) (maxL := 3) (ret := (some .int)) (own := RX5) (by decide) rfl (Nat.le_of_ble_eq_true rfl) rfl ?_
  intro p e s m args below meth c A ls hx hb hr hml hts hown hlocks hin hN hK hP hD hA hl
  have hS : va_S A s.heap s.heap [] := va_S.rf
  have hl : lv_has ls 3 [(0, .ref mx), (1, .int r), (2, .int what)] := hl
  have hin5 : ∀ w ∈ u_ws RX5 TX5 9, w ∈ wsX5_room := (fun w h => List.mem_cons_of_mem _ (List.mem_append_right _ h))
  generalize hQ : MQ below ((fun A => QiT D cy (fun (t : Int32 × Int32) => t.1) (fun (t : Int32 × Int32) => [(mx, .inr (5, [.int t.2, .ref mh, .int (nI R), .ref mw, .ref ml, .int (nI G), .ref mp, .ref mq, .ref mb])), (mh, .inl (cy 0, 50, .inl eh)), (mw, .inl (cy 0, 6, .inl ew)), (ml, .inl (cy 0, 6, .inl el)), (mp, .inl (cy 0, 72, .inl ep)), (mq, .inl (cy 0, 2, .inl en)), (mb, .inl (cy 0, 50, .inl eb))]) F_X5_room_bad A) A) args s 0 0 A = Q
  refine lv_aload_n hx hb dX5_room_0 rfl (lv_at hl 0 rfl) ?_
  refine lv_iconst (v := 0) hx hb dX5_room_1 (by decide) ?_
  refine va_put (D := D) (ci := 5) (v := .int 0) (ty := .int) (C := RX5) (T := TX5) (N := 9) hx hb hts hin5 tyX5 tyX5_ok nmX5 hown hK hP hD hS 0 rfl rfl 0 (by decide) (hts (.fieldLink RX5 28 "FireflyInnModel" "thrown" "I") (List.mem_of_getElem? (i := 1) rfl)) (fun _ h9 => h9) rfl (by decide +kernel) rfl rfl (Nat.le_of_ble_eq_true rfl) dX5_room_2 (fun H locs hP hD hS => ?_)
  have hP : va_P D vwCl [(mx, .inr (5, [.int 0, .ref mh, .int (nI R), .ref mw, .ref ml, .int (nI G), .ref mp, .ref mq, .ref mb])), (mh, .inl (cy 0, 50, .inl eh)), (mw, .inl (cy 0, 6, .inl ew)), (ml, .inl (cy 0, 6, .inl el)), (mp, .inl (cy 0, 72, .inl ep)), (mq, .inl (cy 0, 2, .inl en)), (mb, .inl (cy 0, 50, .inl eb))] H := hP
  have hD : va_D A [(mx, .inr (5, [.int 0, .ref mh, .int (nI R), .ref mw, .ref ml, .int (nI G), .ref mp, .ref mq, .ref mb])), (mh, .inl (cy 0, 50, .inl eh)), (mw, .inl (cy 0, 6, .inl ew)), (ml, .inl (cy 0, 6, .inl el)), (mp, .inl (cy 0, 72, .inl ep)), (mq, .inl (cy 0, 2, .inl en)), (mb, .inl (cy 0, 50, .inl eb))] := hD
  refine lv_aload_n hx hb dX5_room_5 rfl (lv_at hl 0 rfl) ?_
  refine lv_iload_n hx hb dX5_room_6 rfl (lv_at hl 1 rfl) ?_
  refine cl_i (wr := []) (w2 := [(mx, .inr (5, [.int 0, .ref mh, .int (nI R), .ref mw, .ref ml, .int (nI G), .ref mp, .ref mq, .ref mb])), (mh, .inl (cy 0, 50, .inl eh)), (mw, .inl (cy 0, 6, .inl ew)), (ml, .inl (cy 0, 6, .inl el)), (mp, .inl (cy 0, 72, .inl ep)), (mq, .inl (cy 0, 2, .inl en)), (mb, .inl (cy 0, 50, .inl eb))]) (rn_V (As := [.int r]) (rest := []) (ci := 5) (q0 := 0) ⟨hx, hb, hml, hown, hts⟩ (k_X5_isRoom l D cy _ mx mh mw ml mp mq mb 0 eh ew el ep en eb R G r hR hG) (cwV 1 hts gX5_room_X5_isRoom rfl rfl rfl (by decide +kernel) ⟨Nat.le_of_ble_eq_true rfl, Nat.le_of_ble_eq_true rfl⟩) hN hK hP hD [0, 1, 2, 3, 4, 5, 6] rfl (by decide) rfl rfl rfl rfl hl.1 rfl (Nat.le_of_ble_eq_true rfl) dX5_room_7 ⟨Nat.le_of_ble_eq_true rfl, Nat.le_of_ble_eq_true rfl⟩) hP hD hS hA [0, 1, 2, 3, 4, 5, 6] [] [0, 1, 2, 3, 4, 5, 6] rfl rfl (by decide) (by decide) rfl (by decide) (fun H locs hP hD hS => ?_)
  refine lv_if_eq (tgt := 31) hx hb dX5_room_10 (by decide) (fun c10 => ?_) (fun c10 => ?_)
  rotate_left
  · exact absurd hbad c10
  refine lv_aload_n hx hb dX5_room_31 rfl (lv_at hl 0 rfl) ?_
  refine lv_iconst (v := 1) hx hb dX5_room_32 (by decide) ?_
  refine cl_i (wr := []) (w2 := [(mx, .inr (5, [.int ((F_X5_fail 1).2), .ref mh, .int (nI R), .ref mw, .ref ml, .int (nI G), .ref mp, .ref mq, .ref mb])), (mh, .inl (cy 0, 50, .inl eh)), (mw, .inl (cy 0, 6, .inl ew)), (ml, .inl (cy 0, 6, .inl el)), (mp, .inl (cy 0, 72, .inl ep)), (mq, .inl (cy 0, 2, .inl en)), (mb, .inl (cy 0, 50, .inl eb))]) (rn_V (As := [.int 1]) (rest := []) (ci := 5) (q0 := 0) ⟨hx, hb, hml, hown, hts⟩ (k_X5_fail l D cy _ mx mh mw ml mp mq mb 0 eh ew el ep en eb R G 1 hR hG) (cwV 1 hts gX5_room_X5_fail rfl rfl rfl (by decide +kernel) ⟨Nat.le_of_ble_eq_true rfl, Nat.le_of_ble_eq_true rfl⟩) hN hK hP hD [0, 1, 2, 3, 4, 5, 6] rfl (by decide) rfl rfl rfl rfl hl.1 rfl (Nat.le_of_ble_eq_true rfl) dX5_room_33 ⟨Nat.le_of_ble_eq_true rfl, Nat.le_of_ble_eq_true rfl⟩) hP hD hS hA [0, 1, 2, 3, 4, 5, 6] [] [0, 1, 2, 3, 4, 5, 6] rfl rfl (by decide) (by decide) rfl (by decide) (fun H locs hP hD hS => ?_)
  subst hQ
  exact en_i (tv := ((F_X5_fail 1).1, (F_X5_fail 1).2)) hx hb hr hlocks (by rw [F_X5_room_bad]) rfl hK (by first | with_reducible exact hP | exact hP) (by first | with_reducible exact hD | exact hD) hS (Nat.le_refl _) (Nat.le_refl _) dX5_room_36

def S_X5_all_4 (ep : Nat → Int32) (w : Nat) (k4 : Nat) (v2_4 : Int32) : Int32 :=
  (v2_4 + (F_X5_pe ep k4 w))
def I_X5_all_4 (ep : Nat → Int32) (G : Nat) (w : Nat) : Int32 :=
  it (fun (k : Nat) (v : Int32) => S_X5_all_4 ep w k v) G 0 0
def F_X5_all (ep : Nat → Int32) (G : Nat) (w : Nat) : Int32 :=
  (I_X5_all_4 ep G w)
set_option maxHeartbeats 4000000 in
set_option maxRecDepth 100000 in
theorem k_X5_all (l : Launch) (D : va_G) (cy : Nat → ClassId) (sz : Nat) (mx mh mw ml mp mq mb : Nat) (th : Int32) (eh : Nat → Int32) (ew : Nat → Int32) (el : Nat → Int32) (ep : Nat → Int32) (en : Nat → Int32) (eb : Nat → Int32) (R : Nat) (G : Nat) (w : Nat) (hR : R ≤ 6) (hG : G ≤ 12) (hw : w < 6) : MTa l D cy yX5_all wsX5_all 1 0 0 22 [(mx, .inr (5, [.int th, .ref mh, .int (nI R), .ref mw, .ref ml, .int (nI G), .ref mp, .ref mq, .ref mb])), (mh, .inl (cy 0, 50, .inl eh)), (mw, .inl (cy 0, 6, .inl ew)), (ml, .inl (cy 0, 6, .inl el)), (mp, .inl (cy 0, 72, .inl ep)), (mq, .inl (cy 0, 2, .inl en)), (mb, .inl (cy 0, 50, .inl eb))] sz [.ref mx, .int (nI w)] (fun A => QiT D cy (fun (t : Int32) => t) (fun (_ : Int32) => [(mx, .inr (5, [.int th, .ref mh, .int (nI R), .ref mw, .ref ml, .int (nI G), .ref mp, .ref mq, .ref mb])), (mh, .inl (cy 0, 50, .inl eh)), (mw, .inl (cy 0, 6, .inl ew)), (ml, .inl (cy 0, 6, .inl el)), (mp, .inl (cy 0, 72, .inl ep)), (mq, .inl (cy 0, 2, .inl en)), (mb, .inl (cy 0, 50, .inl eb))]) (F_X5_all ep G w) A) := by
  refine ofWT (cc := cX5_all) (maxL := 4) (ret := (some .int)) (own := RX5) (by decide) rfl (Nat.le_of_ble_eq_true rfl) rfl ?_
  intro p e s m args below meth c A ls hx hb hr hml hts hown hlocks hin hN hK hP hD hA hl
  have hS : va_S A s.heap s.heap [] := va_S.rf
  have hl : lv_has ls 4 [(0, .ref mx), (1, .int (nI w))] := hl
  have hin5 : ∀ w ∈ u_ws RX5 TX5 9, w ∈ wsX5_all := (fun w h => List.mem_cons_of_mem _ (List.mem_append_right _ h))
  generalize hQ : MQ below ((fun A => QiT D cy (fun (t : Int32) => t) (fun (_ : Int32) => [(mx, .inr (5, [.int th, .ref mh, .int (nI R), .ref mw, .ref ml, .int (nI G), .ref mp, .ref mq, .ref mb])), (mh, .inl (cy 0, 50, .inl eh)), (mw, .inl (cy 0, 6, .inl ew)), (ml, .inl (cy 0, 6, .inl el)), (mp, .inl (cy 0, 72, .inl ep)), (mq, .inl (cy 0, 2, .inl en)), (mb, .inl (cy 0, 50, .inl eb))]) (F_X5_all ep G w) A) A) args s 0 0 A = Q
  refine lv_iconst (v := 0) hx hb dX5_all_0 (by decide) ?_
  refine lv_istore_n (lv' := [(2, .int 0), (0, .ref mx), (1, .int (nI w))]) hx hb dX5_all_1 rfl hl (by decide) rfl (fun ls hl => ?_)
  refine lv_iconst (v := 0) hx hb dX5_all_2 (by decide) ?_
  refine lv_istore_n (lv' := [(3, .int 0), (2, .int 0), (0, .ref mx), (1, .int (nI w))]) hx hb dX5_all_3 rfl hl (by decide) rfl (fun ls hl => ?_)
  obtain ⟨fin4, hfin4⟩ : ∃ z, (I_X5_all_4 ep G w) = z := ⟨_, rfl⟩
  suffices kk4 : ∀ (H : Heap) (locs : List Loc) (ls : Array Slot), va_P D vwCl [(mx, .inr (5, [.int th, .ref mh, .int (nI R), .ref mw, .ref ml, .int (nI G), .ref mp, .ref mq, .ref mb])), (mh, .inl (cy 0, 50, .inl eh)), (mw, .inl (cy 0, 6, .inl ew)), (ml, .inl (cy 0, 6, .inl el)), (mp, .inl (cy 0, 72, .inl ep)), (mq, .inl (cy 0, 2, .inl en)), (mb, .inl (cy 0, 50, .inl eb))] H → va_D A [(mx, .inr (5, [.int th, .ref mh, .int (nI R), .ref mw, .ref ml, .int (nI G), .ref mp, .ref mq, .ref mb])), (mh, .inl (cy 0, 50, .inl eh)), (mw, .inl (cy 0, 6, .inl ew)), (ml, .inl (cy 0, 6, .inl el)), (mp, .inl (cy 0, 72, .inl ep)), (mq, .inl (cy 0, 2, .inl en)), (mb, .inl (cy 0, 50, .inl eb))] → va_S A s.heap H locs → lv_has ls 4 [(3, .int (nI G)), (2, .int fin4), (0, .ref mx), (1, .int (nI w))] → W p l e (RM 1 0 0 22) s m args below meth c H locs 0 0 Q (F0 m 27 ls []) by
    have lp4 : ∀ (n4 k4 : Nat) (v2_4 : Int32) (H : Heap) (locs : List Loc) (ls : Array Slot), k4 + n4 = G → it (fun (k : Nat) (v : Int32) => S_X5_all_4 ep w k v) n4 k4 v2_4 = fin4 → va_P D vwCl [(mx, .inr (5, [.int th, .ref mh, .int (nI R), .ref mw, .ref ml, .int (nI G), .ref mp, .ref mq, .ref mb])), (mh, .inl (cy 0, 50, .inl eh)), (mw, .inl (cy 0, 6, .inl ew)), (ml, .inl (cy 0, 6, .inl el)), (mp, .inl (cy 0, 72, .inl ep)), (mq, .inl (cy 0, 2, .inl en)), (mb, .inl (cy 0, 50, .inl eb))] H → va_D A [(mx, .inr (5, [.int th, .ref mh, .int (nI R), .ref mw, .ref ml, .int (nI G), .ref mp, .ref mq, .ref mb])), (mh, .inl (cy 0, 50, .inl eh)), (mw, .inl (cy 0, 6, .inl ew)), (ml, .inl (cy 0, 6, .inl el)), (mp, .inl (cy 0, 72, .inl ep)), (mq, .inl (cy 0, 2, .inl en)), (mb, .inl (cy 0, 50, .inl eb))] → va_S A s.heap H locs → lv_has ls 4 [(3, .int (nI k4)), (2, .int v2_4), (0, .ref mx), (1, .int (nI w))] → W p l e (RM 1 0 0 22) s m args below meth c H locs 0 0 Q (F0 m 4 ls []) := by
      intro n4
      induction n4 with
      | zero =>
        intro k4 v2_4 H locs ls hkn4 hE4 hP hD hS hl
        have hk4 : G = k4 := by omega
        subst hk4
        have hE4 : v2_4 = fin4 := hE4
        subst hE4
        refine lv_iload_n hx hb dX5_all_4 rfl (lv_at hl 0 rfl) ?_
        refine lv_aload_n hx hb dX5_all_5 rfl (lv_at hl 2 rfl) ?_
        refine va_get (D := D) (ci := 5) (v := .int (nI G)) (C := RX5) (T := TX5) (N := 9) hx hb hts hin5 hown hK hP 0 rfl rfl 5 (by decide) (hts (.fieldLink RX5 39 "FireflyInnModel" "guests" "I") (List.mem_of_getElem? (i := 1) rfl)) (fun _ h9 => h9) rfl dX5_all_6 ?_
        refine lv_icmp_ge (tgt := 27) hx hb dX5_all_9 (by decide) (fun c9 => ?_) (fun c9 => ?_)
        rotate_left
        · exact absurd (nI_le (a := G) (b := G) (Nat.le_refl _) (by omega)) c9
        exact kk4 _ _ _ hP hD hS (lv_sub hl [0, 1, 2, 3] rfl)
      | succ n4 ih4 =>
        intro k4 v2_4 H locs ls hkn4 hE4 hP hD hS hl
        have hlt4 : k4 < G := by omega
        refine lv_iload_n hx hb dX5_all_4 rfl (lv_at hl 0 rfl) ?_
        refine lv_aload_n hx hb dX5_all_5 rfl (lv_at hl 2 rfl) ?_
        refine va_get (D := D) (ci := 5) (v := .int (nI G)) (C := RX5) (T := TX5) (N := 9) hx hb hts hin5 hown hK hP 0 rfl rfl 5 (by decide) (hts (.fieldLink RX5 39 "FireflyInnModel" "guests" "I") (List.mem_of_getElem? (i := 1) rfl)) (fun _ h9 => h9) rfl dX5_all_6 ?_
        refine lv_icmp_ge (tgt := 27) hx hb dX5_all_9 (by decide) (fun c9 => ?_) (fun c9 => ?_)
        · exact absurd c9 (nI_ge (a := k4) (b := G) hlt4 (by omega))
        refine lv_iload_n hx hb dX5_all_12 rfl (lv_at hl 1 rfl) ?_
        refine lv_aload_n hx hb dX5_all_13 rfl (lv_at hl 2 rfl) ?_
        refine lv_iload_n hx hb dX5_all_14 rfl (lv_at hl 0 rfl) ?_
        refine lv_iload_n hx hb dX5_all_15 rfl (lv_at hl 3 rfl) ?_
        refine cl_i (wr := []) (w2 := [(mx, .inr (5, [.int th, .ref mh, .int (nI R), .ref mw, .ref ml, .int (nI G), .ref mp, .ref mq, .ref mb])), (mh, .inl (cy 0, 50, .inl eh)), (mw, .inl (cy 0, 6, .inl ew)), (ml, .inl (cy 0, 6, .inl el)), (mp, .inl (cy 0, 72, .inl ep)), (mq, .inl (cy 0, 2, .inl en)), (mb, .inl (cy 0, 50, .inl eb))]) (rn_V (As := [.int (nI k4), .int (nI w)]) (rest := [.int v2_4]) (ci := 5) (q0 := 0) ⟨hx, hb, hml, hown, hts⟩ (k_X5_pe l D cy _ mx mh mw ml mp mq mb th eh ew el ep en eb R G k4 w hR hG (by omega)) (cwV 2 hts gX5_all_X5_pe rfl rfl rfl (by decide +kernel) ⟨Nat.le_of_ble_eq_true rfl, Nat.le_of_ble_eq_true rfl⟩) hN hK hP hD [0, 1, 2, 3, 4, 5, 6] rfl (by decide) rfl rfl rfl rfl hl.1 rfl (Nat.le_of_ble_eq_true rfl) dX5_all_16 ⟨Nat.le_of_ble_eq_true rfl, Nat.le_of_ble_eq_true rfl⟩) hP hD hS hA [0, 1, 2, 3, 4, 5, 6] [] [0, 1, 2, 3, 4, 5, 6] rfl rfl (by decide) (by decide) rfl (by decide) (fun H locs hP hD hS => ?_)
        refine lv_iadd hx hb dX5_all_19 ?_
        refine lv_istore_n (lv' := [(2, .int (v2_4 + (F_X5_pe ep k4 w))), (3, .int (nI k4)), (0, .ref mx), (1, .int (nI w))]) hx hb dX5_all_20 rfl hl (by decide) rfl (fun ls hl => ?_)
        refine lv_iinc (v := (nI (k4 + 1))) (lv' := [(3, .int (nI (k4 + 1))), (2, .int (v2_4 + (F_X5_pe ep k4 w))), (0, .ref mx), (1, .int (nI w))]) hx hb dX5_all_21 hl (k := 1) rfl (nI_1 k4) (by decide) rfl (fun ls hl => ?_)
        refine lv_goto (tgt := 4) hx hb dX5_all_24 (by decide) ?_
        exact ih4 (k4 + 1) (v2_4 + (F_X5_pe ep k4 w)) _ _ _ (by omega) (it_step (f := (fun (k : Nat) (v : Int32) => S_X5_all_4 ep w k v)) (v := v2_4) (show S_X5_all_4 ep w k4 v2_4 = (v2_4 + (F_X5_pe ep k4 w)) from by rw [S_X5_all_4]) hE4) hP hD hS (lv_sub hl [0, 1, 2, 3] rfl)
    exact lp4 G 0 0 _ _ _ (by omega) hfin4 hP hD hS (lv_sub hl [0, 1, 2, 3] rfl)
  intro H locs ls hP hD hS hl
  subst hfin4
  refine lv_iload_n hx hb dX5_all_27 rfl (lv_at hl 1 rfl) ?_
  subst hQ
  exact en_i (tv := (I_X5_all_4 ep G w)) hx hb hr hlocks (by rw [F_X5_all]) rfl hK (by first | with_reducible exact hP | exact hP) (by first | with_reducible exact hD | exact hD) hS (Nat.le_refl _) (Nat.le_refl _) dX5_all_28

def S_X5_flies_13 (eh : Nat → Int32) (k13 : Nat) (v1_13 : Int32) : Int32 :=
  (v1_13 + (eh k13))
def I_X5_flies_13 (eh : Nat → Int32) : Int32 :=
  it (fun (k : Nat) (v : Int32) => S_X5_flies_13 eh k v) 50 0 0
def F_X5_flies (eh : Nat → Int32) : Int32 :=
  (I_X5_flies_13 eh)
set_option maxHeartbeats 4000000 in
set_option maxRecDepth 100000 in
theorem k_X5_flies (l : Launch) (D : va_G) (cy : Nat → ClassId) (sz : Nat) (mx mh mw ml mp mq mb : Nat) (th : Int32) (eh : Nat → Int32) (ew : Nat → Int32) (el : Nat → Int32) (ep : Nat → Int32) (en : Nat → Int32) (eb : Nat → Int32) (R : Nat) (G : Nat) (hR : R ≤ 6) (hG : G ≤ 12) : MTa l D cy yX5_flies wsX5_flies 0 0 0 0 [(mx, .inr (5, [.int th, .ref mh, .int (nI R), .ref mw, .ref ml, .int (nI G), .ref mp, .ref mq, .ref mb])), (mh, .inl (cy 0, 50, .inl eh)), (mw, .inl (cy 0, 6, .inl ew)), (ml, .inl (cy 0, 6, .inl el)), (mp, .inl (cy 0, 72, .inl ep)), (mq, .inl (cy 0, 2, .inl en)), (mb, .inl (cy 0, 50, .inl eb))] sz [.ref mx] (fun A => QiT D cy (fun (t : Int32) => t) (fun (_ : Int32) => [(mx, .inr (5, [.int th, .ref mh, .int (nI R), .ref mw, .ref ml, .int (nI G), .ref mp, .ref mq, .ref mb])), (mh, .inl (cy 0, 50, .inl eh)), (mw, .inl (cy 0, 6, .inl ew)), (ml, .inl (cy 0, 6, .inl el)), (mp, .inl (cy 0, 72, .inl ep)), (mq, .inl (cy 0, 2, .inl en)), (mb, .inl (cy 0, 50, .inl eb))]) (F_X5_flies eh) A) := by
  refine ofWT (cc := cX5_flies) (maxL := 6) (ret := (some .int)) (own := RX5) (by decide) rfl (Nat.le_of_ble_eq_true rfl) rfl ?_
  intro p e s m args below meth c A ls hx hb hr hml hts hown hlocks hin hN hK hP hD hA hl
  have hS : va_S A s.heap s.heap [] := va_S.rf
  have hl : lv_has ls 6 [(0, .ref mx)] := hl
  have hin5 : ∀ w ∈ u_ws RX5 TX5 9, w ∈ wsX5_flies := (fun w h => List.mem_cons_of_mem _ (List.mem_append_right _ h))
  generalize hQ : MQ below ((fun A => QiT D cy (fun (t : Int32) => t) (fun (_ : Int32) => [(mx, .inr (5, [.int th, .ref mh, .int (nI R), .ref mw, .ref ml, .int (nI G), .ref mp, .ref mq, .ref mb])), (mh, .inl (cy 0, 50, .inl eh)), (mw, .inl (cy 0, 6, .inl ew)), (ml, .inl (cy 0, 6, .inl el)), (mp, .inl (cy 0, 72, .inl ep)), (mq, .inl (cy 0, 2, .inl en)), (mb, .inl (cy 0, 50, .inl eb))]) (F_X5_flies eh) A) A) args s 0 0 A = Q
  refine lv_iconst (v := 0) hx hb dX5_flies_0 (by decide) ?_
  refine lv_istore_n (lv' := [(1, .int 0), (0, .ref mx)]) hx hb dX5_flies_1 rfl hl (by decide) rfl (fun ls hl => ?_)
  refine lv_aload_n hx hb dX5_flies_2 rfl (lv_at hl 1 rfl) ?_
  refine va_get (D := D) (ci := 5) (v := .ref mh) (C := RX5) (T := TX5) (N := 9) hx hb hts hin5 hown hK hP 0 rfl rfl 1 (by decide) (hts (.fieldLink RX5 9 "FireflyInnModel" "hedge" "[I") (List.mem_of_getElem? (i := 1) rfl)) (fun _ h9 => h9) rfl dX5_flies_3 ?_
  refine lv_astore_n (lv' := [(2, .ref mh), (1, .int 0), (0, .ref mx)]) hx hb dX5_flies_6 rfl hl (by decide) rfl (fun ls hl => ?_)
  refine lv_aload_n hx hb dX5_flies_7 rfl (lv_at hl 0 rfl) ?_
  refine va_alen (v := 50) hx hb hK hP 1 0 rfl rfl rfl dX5_flies_8 ?_
  refine lv_istore_n (lv' := [(3, .int 50), (2, .ref mh), (1, .int 0), (0, .ref mx)]) hx hb dX5_flies_9 rfl hl (by decide) rfl (fun ls hl => ?_)
  refine lv_iconst (v := 0) hx hb dX5_flies_10 (by decide) ?_
  refine lv_istore (lv' := [(4, .int 0), (3, .int 50), (2, .ref mh), (1, .int 0), (0, .ref mx)]) hx hb dX5_flies_11 hl (by decide) rfl (fun ls hl => ?_)
  obtain ⟨fin13, hfin13⟩ : ∃ z, (I_X5_flies_13 eh) = z := ⟨_, rfl⟩
  suffices kk13 : ∀ (H : Heap) (locs : List Loc) (ls : Array Slot), va_P D vwCl [(mx, .inr (5, [.int th, .ref mh, .int (nI R), .ref mw, .ref ml, .int (nI G), .ref mp, .ref mq, .ref mb])), (mh, .inl (cy 0, 50, .inl eh)), (mw, .inl (cy 0, 6, .inl ew)), (ml, .inl (cy 0, 6, .inl el)), (mp, .inl (cy 0, 72, .inl ep)), (mq, .inl (cy 0, 2, .inl en)), (mb, .inl (cy 0, 50, .inl eb))] H → va_D A [(mx, .inr (5, [.int th, .ref mh, .int (nI R), .ref mw, .ref ml, .int (nI G), .ref mp, .ref mq, .ref mb])), (mh, .inl (cy 0, 50, .inl eh)), (mw, .inl (cy 0, 6, .inl ew)), (ml, .inl (cy 0, 6, .inl el)), (mp, .inl (cy 0, 72, .inl ep)), (mq, .inl (cy 0, 2, .inl en)), (mb, .inl (cy 0, 50, .inl eb))] → va_S A s.heap H locs → lv_has ls 6 [(4, .int (nI 50)), (3, .int 50), (2, .ref mh), (1, .int fin13), (0, .ref mx)] → W p l e (RM 0 0 0 0) s m args below meth c H locs 0 0 Q (F0 m 36 ls []) by
    have lp13 : ∀ (n13 k13 : Nat) (v1_13 : Int32) (H : Heap) (locs : List Loc) (ls : Array Slot), k13 + n13 = 50 → it (fun (k : Nat) (v : Int32) => S_X5_flies_13 eh k v) n13 k13 v1_13 = fin13 → va_P D vwCl [(mx, .inr (5, [.int th, .ref mh, .int (nI R), .ref mw, .ref ml, .int (nI G), .ref mp, .ref mq, .ref mb])), (mh, .inl (cy 0, 50, .inl eh)), (mw, .inl (cy 0, 6, .inl ew)), (ml, .inl (cy 0, 6, .inl el)), (mp, .inl (cy 0, 72, .inl ep)), (mq, .inl (cy 0, 2, .inl en)), (mb, .inl (cy 0, 50, .inl eb))] H → va_D A [(mx, .inr (5, [.int th, .ref mh, .int (nI R), .ref mw, .ref ml, .int (nI G), .ref mp, .ref mq, .ref mb])), (mh, .inl (cy 0, 50, .inl eh)), (mw, .inl (cy 0, 6, .inl ew)), (ml, .inl (cy 0, 6, .inl el)), (mp, .inl (cy 0, 72, .inl ep)), (mq, .inl (cy 0, 2, .inl en)), (mb, .inl (cy 0, 50, .inl eb))] → va_S A s.heap H locs → lv_has ls 6 [(4, .int (nI k13)), (3, .int 50), (2, .ref mh), (1, .int v1_13), (0, .ref mx)] → W p l e (RM 0 0 0 0) s m args below meth c H locs 0 0 Q (F0 m 13 ls []) := by
      intro n13
      induction n13 with
      | zero =>
        intro k13 v1_13 H locs ls hkn13 hE13 hP hD hS hl
        have hk13 : 50 = k13 := by omega
        subst hk13
        have hE13 : v1_13 = fin13 := hE13
        subst hE13
        refine lv_iload hx hb dX5_flies_13 (lv_at hl 0 rfl) ?_
        refine lv_iload_n hx hb dX5_flies_15 rfl (lv_at hl 1 rfl) ?_
        refine lv_icmp_ge (tgt := 36) hx hb dX5_flies_16 (by decide) (fun c16 => ?_) (fun c16 => ?_)
        rotate_left
        · exact absurd (nI_le (a := 50) (b := 50) (Nat.le_refl _) (by decide)) c16
        exact kk13 _ _ _ hP hD hS (lv_sub hl [0, 1, 2, 3, 4] rfl)
      | succ n13 ih13 =>
        intro k13 v1_13 H locs ls hkn13 hE13 hP hD hS hl
        have hlt13 : k13 < 50 := by omega
        refine lv_iload hx hb dX5_flies_13 (lv_at hl 0 rfl) ?_
        refine lv_iload_n hx hb dX5_flies_15 rfl (lv_at hl 1 rfl) ?_
        refine lv_icmp_ge (tgt := 36) hx hb dX5_flies_16 (by decide) (fun c16 => ?_) (fun c16 => ?_)
        · exact absurd c16 (nI_ge (a := k13) (b := 50) hlt13 (by decide))
        refine lv_aload_n hx hb dX5_flies_19 rfl (lv_at hl 2 rfl) ?_
        refine lv_iload hx hb dX5_flies_20 (lv_at hl 0 rfl) ?_
        refine ial_n (k := k13) hx hb hK hP 1 rfl (by omega) (by decide) dX5_flies_22 ?_
        refine lv_istore (lv' := [(5, .int (eh k13)), (4, .int (nI k13)), (3, .int 50), (2, .ref mh), (1, .int v1_13), (0, .ref mx)]) hx hb dX5_flies_23 hl (by decide) rfl (fun ls hl => ?_)
        refine lv_iload_n hx hb dX5_flies_25 rfl (lv_at hl 4 rfl) ?_
        refine lv_iload hx hb dX5_flies_26 (lv_at hl 0 rfl) ?_
        refine lv_iadd hx hb dX5_flies_28 ?_
        refine lv_istore_n (lv' := [(1, .int (v1_13 + (eh k13))), (5, .int (eh k13)), (4, .int (nI k13)), (3, .int 50), (2, .ref mh), (0, .ref mx)]) hx hb dX5_flies_29 rfl hl (by decide) rfl (fun ls hl => ?_)
        refine lv_iinc (v := (nI (k13 + 1))) (lv' := [(4, .int (nI (k13 + 1))), (1, .int (v1_13 + (eh k13))), (5, .int (eh k13)), (3, .int 50), (2, .ref mh), (0, .ref mx)]) hx hb dX5_flies_30 hl (k := 2) rfl (nI_1 k13) (by decide) rfl (fun ls hl => ?_)
        refine lv_goto (tgt := 13) hx hb dX5_flies_33 (by decide) ?_
        exact ih13 (k13 + 1) (v1_13 + (eh k13)) _ _ _ (by omega) (it_step (f := (fun (k : Nat) (v : Int32) => S_X5_flies_13 eh k v)) (v := v1_13) (show S_X5_flies_13 eh k13 v1_13 = (v1_13 + (eh k13)) from by rw [S_X5_flies_13]) hE13) hP hD hS (lv_sub hl [0, 3, 4, 1, 5] rfl)
    exact lp13 50 0 0 _ _ _ (by omega) hfin13 hP hD hS (lv_sub hl [0, 1, 2, 3, 4] rfl)
  intro H locs ls hP hD hS hl
  subst hfin13
  refine lv_iload_n hx hb dX5_flies_36 rfl (lv_at hl 3 rfl) ?_
  subst hQ
  exact en_i (tv := (I_X5_flies_13 eh)) hx hb hr hlocks (by rw [F_X5_flies]) rfl hK (by first | with_reducible exact hP | exact hP) (by first | with_reducible exact hD | exact hD) hS (Nat.le_refl _) (Nat.le_refl _) dX5_flies_37

def S_X5_counted_77 (el : Nat → Int32) (k77 : Nat) (v2_77 : Int32) : Int32 :=
  (v2_77 + (el k77))
def I_X5_counted_77 (el : Nat → Int32) (R : Nat) : Int32 :=
  it (fun (k : Nat) (v : Int32) => S_X5_counted_77 el k v) R 0 0
def S_X5_counted_128 (ew : Nat → Int32) (el : Nat → Int32) (R : Nat) (k128 : Nat) (v2_128 : Int32) : Int32 :=
  if (F_X5_lit ew el R (nI k128)) = 0 then
    (v2_128 + 0)
  else
    (v2_128 + 1)
def I_X5_counted_128 (ew : Nat → Int32) (el : Nat → Int32) (R : Nat) : Int32 :=
  it (fun (k : Nat) (v : Int32) => S_X5_counted_128 ew el R k v) 10 0 0
def F_X5_counted (eh : Nat → Int32) (ew : Nat → Int32) (el : Nat → Int32) (ep : Nat → Int32) (en : Nat → Int32) (R : Nat) (G : Nat) (what : Int32) : Int32 :=
  if what = 0 then
    (en 0)
  else
    if what = 1 then
      (F_X5_moon (en 0))
    else
      if what = 2 then
        (F_X5_flies eh)
      else
        if what = 3 then
          (nI R)
        else
          if what = 4 then
            (I_X5_counted_77 el R)
          else
            if what = 5 then
              ((nI G) - (F_X5_all ep G 5))
            else
              if what = 6 then
                (F_X5_all ep G 2)
              else
                if what = 7 then
                  (en 1)
                else
                  (I_X5_counted_128 ew el R)
set_option maxHeartbeats 4000000 in
set_option maxRecDepth 100000 in
theorem k_X5_counted (l : Launch) (D : va_G) (cy : Nat → ClassId) (sz : Nat) (mx mh mw ml mp mq mb : Nat) (th : Int32) (eh : Nat → Int32) (ew : Nat → Int32) (el : Nat → Int32) (ep : Nat → Int32) (en : Nat → Int32) (eb : Nat → Int32) (R : Nat) (G : Nat) (what : Int32) (hR : R ≤ 6) (hG : G ≤ 12) : MTa l D cy yX5_counted wsX5_counted 2 0 0 46 [(mx, .inr (5, [.int th, .ref mh, .int (nI R), .ref mw, .ref ml, .int (nI G), .ref mp, .ref mq, .ref mb])), (mh, .inl (cy 0, 50, .inl eh)), (mw, .inl (cy 0, 6, .inl ew)), (ml, .inl (cy 0, 6, .inl el)), (mp, .inl (cy 0, 72, .inl ep)), (mq, .inl (cy 0, 2, .inl en)), (mb, .inl (cy 0, 50, .inl eb))] sz [.ref mx, .int what] (fun A => QiT D cy (fun (t : Int32) => t) (fun (_ : Int32) => [(mx, .inr (5, [.int th, .ref mh, .int (nI R), .ref mw, .ref ml, .int (nI G), .ref mp, .ref mq, .ref mb])), (mh, .inl (cy 0, 50, .inl eh)), (mw, .inl (cy 0, 6, .inl ew)), (ml, .inl (cy 0, 6, .inl el)), (mp, .inl (cy 0, 72, .inl ep)), (mq, .inl (cy 0, 2, .inl en)), (mb, .inl (cy 0, 50, .inl eb))]) (F_X5_counted eh ew el ep en R G what) A) := by
  refine ofWT (cc := cX5_counted) (maxL := 4) (ret := (some .int)) (own := RX5) (by decide) rfl (Nat.le_of_ble_eq_true rfl) rfl ?_
  intro p e s m args below meth c A ls hx hb hr hml hts hown hlocks hin hN hK hP hD hA hl
  have hS : va_S A s.heap s.heap [] := va_S.rf
  have hl : lv_has ls 4 [(0, .ref mx), (1, .int what)] := hl
  have hin5 : ∀ w ∈ u_ws RX5 TX5 9, w ∈ wsX5_counted := (fun w h => List.mem_cons_of_mem _ (List.mem_append_right _ h))
  generalize hQ : MQ below ((fun A => QiT D cy (fun (t : Int32) => t) (fun (_ : Int32) => [(mx, .inr (5, [.int th, .ref mh, .int (nI R), .ref mw, .ref ml, .int (nI G), .ref mp, .ref mq, .ref mb])), (mh, .inl (cy 0, 50, .inl eh)), (mw, .inl (cy 0, 6, .inl ew)), (ml, .inl (cy 0, 6, .inl el)), (mp, .inl (cy 0, 72, .inl ep)), (mq, .inl (cy 0, 2, .inl en)), (mb, .inl (cy 0, 50, .inl eb))]) (F_X5_counted eh ew el ep en R G what) A) A) args s 0 0 A = Q
  refine lv_iconst (v := 0) hx hb dX5_counted_0 (by decide) ?_
  refine lv_istore_n (lv' := [(2, .int 0), (0, .ref mx), (1, .int what)]) hx hb dX5_counted_1 rfl hl (by decide) rfl (fun ls hl => ?_)
  refine lv_iload_n hx hb dX5_counted_2 rfl (lv_at hl 2 rfl) ?_
  by_cases c3_0 : what = 0
  · refine lv_tableIn (off := 45) (tgt := 48) hx hb dX5_counted_3 (by rw [c3_0]; decide) (by rw [c3_0]; decide) (by rw [c3_0]; rfl) (by decide) ?_
    refine lv_aload_n hx hb dX5_counted_48 rfl (lv_at hl 1 rfl) ?_
    refine va_get (D := D) (ci := 5) (v := .ref mq) (C := RX5) (T := TX5) (N := 9) hx hb hts hin5 hown hK hP 0 rfl rfl 7 (by decide) (hts (.fieldLink RX5 22 "FireflyInnModel" "numbers" "[I") (List.mem_of_getElem? (i := 1) rfl)) (fun _ h9 => h9) rfl dX5_counted_49 ?_
    refine lv_iconst (v := 0) hx hb dX5_counted_52 (by decide) ?_
    refine ial_n (k := 0) hx hb hK hP 5 rfl (by omega) (by decide) dX5_counted_53 ?_
    subst hQ
    exact en_i (tv := (en 0)) hx hb hr hlocks (by rw [F_X5_counted, if_pos c3_0]) rfl hK (by first | with_reducible exact hP | exact hP) (by first | with_reducible exact hD | exact hD) hS (Nat.le_refl _) (Nat.le_refl _) dX5_counted_54
  by_cases c3_1 : what = 1
  · refine lv_tableIn (off := 52) (tgt := 55) hx hb dX5_counted_3 (by rw [c3_1]; decide) (by rw [c3_1]; decide) (by rw [c3_1]; rfl) (by decide) ?_
    refine lv_aload_n hx hb dX5_counted_55 rfl (lv_at hl 1 rfl) ?_
    refine va_get (D := D) (ci := 5) (v := .ref mq) (C := RX5) (T := TX5) (N := 9) hx hb hts hin5 hown hK hP 0 rfl rfl 7 (by decide) (hts (.fieldLink RX5 22 "FireflyInnModel" "numbers" "[I") (List.mem_of_getElem? (i := 1) rfl)) (fun _ h9 => h9) rfl dX5_counted_56 ?_
    refine lv_iconst (v := 0) hx hb dX5_counted_59 (by decide) ?_
    refine ial_n (k := 0) hx hb hK hP 5 rfl (by omega) (by decide) dX5_counted_60 ?_
    refine cl_i (wr := [(mx, .inr (5, [.int th, .ref mh, .int (nI R), .ref mw, .ref ml, .int (nI G), .ref mp, .ref mq, .ref mb])), (mh, .inl (cy 0, 50, .inl eh)), (mw, .inl (cy 0, 6, .inl ew)), (ml, .inl (cy 0, 6, .inl el)), (mp, .inl (cy 0, 72, .inl ep)), (mq, .inl (cy 0, 2, .inl en)), (mb, .inl (cy 0, 50, .inl eb))]) (w2 := [(mx, .inr (5, [.int th, .ref mh, .int (nI R), .ref mw, .ref ml, .int (nI G), .ref mp, .ref mq, .ref mb])), (mh, .inl (cy 0, 50, .inl eh)), (mw, .inl (cy 0, 6, .inl ew)), (ml, .inl (cy 0, 6, .inl el)), (mp, .inl (cy 0, 72, .inl ep)), (mq, .inl (cy 0, 2, .inl en)), (mb, .inl (cy 0, 50, .inl eb))]) (rn_S (As := [.int (en 0)]) (rest := []) ⟨hx, hb, hml, hown, hts⟩ (k_X5_moon l D cy _ (en 0)) (va_cwS 1 hts gX5_counted_X5_moon rfl rfl rfl (by decide +kernel) ⟨Nat.le_of_ble_eq_true rfl, Nat.le_of_ble_eq_true rfl⟩) hN hK hP hD [] rfl (by decide) rfl hl.1 rfl (Nat.le_of_ble_eq_true rfl) dX5_counted_61 ⟨Nat.le_of_ble_eq_true rfl, Nat.le_of_ble_eq_true rfl⟩) hP hD hS hA [] [0, 1, 2, 3, 4, 5, 6] [0, 1, 2, 3, 4, 5, 6] rfl rfl (by decide) (by decide) rfl (by decide) (fun H locs hP hD hS => ?_)
    subst hQ
    exact en_i (tv := (F_X5_moon (en 0))) hx hb hr hlocks (by rw [F_X5_counted, if_neg c3_0, if_pos c3_1]) rfl hK (by first | with_reducible exact hP | exact hP) (by first | with_reducible exact hD | exact hD) hS (Nat.le_refl _) (Nat.le_refl _) dX5_counted_64
  by_cases c3_2 : what = 2
  · refine lv_tableIn (off := 62) (tgt := 65) hx hb dX5_counted_3 (by rw [c3_2]; decide) (by rw [c3_2]; decide) (by rw [c3_2]; rfl) (by decide) ?_
    refine lv_aload_n hx hb dX5_counted_65 rfl (lv_at hl 1 rfl) ?_
    refine cl_i (wr := []) (w2 := [(mx, .inr (5, [.int th, .ref mh, .int (nI R), .ref mw, .ref ml, .int (nI G), .ref mp, .ref mq, .ref mb])), (mh, .inl (cy 0, 50, .inl eh)), (mw, .inl (cy 0, 6, .inl ew)), (ml, .inl (cy 0, 6, .inl el)), (mp, .inl (cy 0, 72, .inl ep)), (mq, .inl (cy 0, 2, .inl en)), (mb, .inl (cy 0, 50, .inl eb))]) (rn_V (As := []) (rest := []) (ci := 5) (q0 := 0) ⟨hx, hb, hml, hown, hts⟩ (k_X5_flies l D cy _ mx mh mw ml mp mq mb th eh ew el ep en eb R G hR hG) (cwV 0 hts gX5_counted_X5_flies rfl rfl rfl (by decide +kernel) ⟨Nat.le_of_ble_eq_true rfl, Nat.le_of_ble_eq_true rfl⟩) hN hK hP hD [0, 1, 2, 3, 4, 5, 6] rfl (by decide) rfl rfl rfl rfl hl.1 rfl (Nat.le_of_ble_eq_true rfl) dX5_counted_66 ⟨Nat.le_of_ble_eq_true rfl, Nat.le_of_ble_eq_true rfl⟩) hP hD hS hA [0, 1, 2, 3, 4, 5, 6] [] [0, 1, 2, 3, 4, 5, 6] rfl rfl (by decide) (by decide) rfl (by decide) (fun H locs hP hD hS => ?_)
    subst hQ
    exact en_i (tv := (F_X5_flies eh)) hx hb hr hlocks (by rw [F_X5_counted, if_neg c3_0, if_neg c3_1, if_pos c3_2]) rfl hK (by first | with_reducible exact hP | exact hP) (by first | with_reducible exact hD | exact hD) hS (Nat.le_refl _) (Nat.le_refl _) dX5_counted_69
  by_cases c3_3 : what = 3
  · refine lv_tableIn (off := 67) (tgt := 70) hx hb dX5_counted_3 (by rw [c3_3]; decide) (by rw [c3_3]; decide) (by rw [c3_3]; rfl) (by decide) ?_
    refine lv_aload_n hx hb dX5_counted_70 rfl (lv_at hl 1 rfl) ?_
    refine va_get (D := D) (ci := 5) (v := .int (nI R)) (C := RX5) (T := TX5) (N := 9) hx hb hts hin5 hown hK hP 0 rfl rfl 2 (by decide) (hts (.fieldLink RX5 36 "FireflyInnModel" "rooms" "I") (List.mem_of_getElem? (i := 2) rfl)) (fun _ h9 => h9) rfl dX5_counted_71 ?_
    subst hQ
    exact en_i (tv := (nI R)) hx hb hr hlocks (by rw [F_X5_counted, if_neg c3_0, if_neg c3_1, if_neg c3_2, if_pos c3_3]) rfl hK (by first | with_reducible exact hP | exact hP) (by first | with_reducible exact hD | exact hD) hS (Nat.le_refl _) (Nat.le_refl _) dX5_counted_74
  by_cases c3_4 : what = 4
  · refine lv_tableIn (off := 72) (tgt := 75) hx hb dX5_counted_3 (by rw [c3_4]; decide) (by rw [c3_4]; decide) (by rw [c3_4]; rfl) (by decide) ?_
    refine lv_iconst (v := 0) hx hb dX5_counted_75 (by decide) ?_
    refine lv_istore_n (lv' := [(3, .int 0), (2, .int 0), (0, .ref mx), (1, .int what)]) hx hb dX5_counted_76 rfl hl (by decide) rfl (fun ls hl => ?_)
    obtain ⟨fin77, hfin77⟩ : ∃ z, (I_X5_counted_77 el R) = z := ⟨_, rfl⟩
    suffices kk77 : ∀ (H : Heap) (locs : List Loc) (ls : Array Slot), va_P D vwCl [(mx, .inr (5, [.int th, .ref mh, .int (nI R), .ref mw, .ref ml, .int (nI G), .ref mp, .ref mq, .ref mb])), (mh, .inl (cy 0, 50, .inl eh)), (mw, .inl (cy 0, 6, .inl ew)), (ml, .inl (cy 0, 6, .inl el)), (mp, .inl (cy 0, 72, .inl ep)), (mq, .inl (cy 0, 2, .inl en)), (mb, .inl (cy 0, 50, .inl eb))] H → va_D A [(mx, .inr (5, [.int th, .ref mh, .int (nI R), .ref mw, .ref ml, .int (nI G), .ref mp, .ref mq, .ref mb])), (mh, .inl (cy 0, 50, .inl eh)), (mw, .inl (cy 0, 6, .inl ew)), (ml, .inl (cy 0, 6, .inl el)), (mp, .inl (cy 0, 72, .inl ep)), (mq, .inl (cy 0, 2, .inl en)), (mb, .inl (cy 0, 50, .inl eb))] → va_S A s.heap H locs → lv_has ls 4 [(3, .int (nI R)), (2, .int fin77), (0, .ref mx), (1, .int what)] → W p l e (RM 2 0 0 46) s m args below meth c H locs 0 0 Q (F0 m 100 ls []) by
      have lp77 : ∀ (n77 k77 : Nat) (v2_77 : Int32) (H : Heap) (locs : List Loc) (ls : Array Slot), k77 + n77 = R → it (fun (k : Nat) (v : Int32) => S_X5_counted_77 el k v) n77 k77 v2_77 = fin77 → va_P D vwCl [(mx, .inr (5, [.int th, .ref mh, .int (nI R), .ref mw, .ref ml, .int (nI G), .ref mp, .ref mq, .ref mb])), (mh, .inl (cy 0, 50, .inl eh)), (mw, .inl (cy 0, 6, .inl ew)), (ml, .inl (cy 0, 6, .inl el)), (mp, .inl (cy 0, 72, .inl ep)), (mq, .inl (cy 0, 2, .inl en)), (mb, .inl (cy 0, 50, .inl eb))] H → va_D A [(mx, .inr (5, [.int th, .ref mh, .int (nI R), .ref mw, .ref ml, .int (nI G), .ref mp, .ref mq, .ref mb])), (mh, .inl (cy 0, 50, .inl eh)), (mw, .inl (cy 0, 6, .inl ew)), (ml, .inl (cy 0, 6, .inl el)), (mp, .inl (cy 0, 72, .inl ep)), (mq, .inl (cy 0, 2, .inl en)), (mb, .inl (cy 0, 50, .inl eb))] → va_S A s.heap H locs → lv_has ls 4 [(3, .int (nI k77)), (2, .int v2_77), (0, .ref mx), (1, .int what)] → W p l e (RM 2 0 0 46) s m args below meth c H locs 0 0 Q (F0 m 77 ls []) := by
        intro n77
        induction n77 with
        | zero =>
          intro k77 v2_77 H locs ls hkn77 hE77 hP hD hS hl
          have hk77 : R = k77 := by omega
          subst hk77
          have hE77 : v2_77 = fin77 := hE77
          subst hE77
          refine lv_iload_n hx hb dX5_counted_77 rfl (lv_at hl 0 rfl) ?_
          refine lv_aload_n hx hb dX5_counted_78 rfl (lv_at hl 2 rfl) ?_
          refine va_get (D := D) (ci := 5) (v := .int (nI R)) (C := RX5) (T := TX5) (N := 9) hx hb hts hin5 hown hK hP 0 rfl rfl 2 (by decide) (hts (.fieldLink RX5 36 "FireflyInnModel" "rooms" "I") (List.mem_of_getElem? (i := 2) rfl)) (fun _ h9 => h9) rfl dX5_counted_79 ?_
          refine lv_icmp_ge (tgt := 100) hx hb dX5_counted_82 (by decide) (fun c82 => ?_) (fun c82 => ?_)
          rotate_left
          · exact absurd (nI_le (a := R) (b := R) (Nat.le_refl _) (by omega)) c82
          exact kk77 _ _ _ hP hD hS (lv_sub hl [0, 1, 2, 3] rfl)
        | succ n77 ih77 =>
          intro k77 v2_77 H locs ls hkn77 hE77 hP hD hS hl
          have hlt77 : k77 < R := by omega
          refine lv_iload_n hx hb dX5_counted_77 rfl (lv_at hl 0 rfl) ?_
          refine lv_aload_n hx hb dX5_counted_78 rfl (lv_at hl 2 rfl) ?_
          refine va_get (D := D) (ci := 5) (v := .int (nI R)) (C := RX5) (T := TX5) (N := 9) hx hb hts hin5 hown hK hP 0 rfl rfl 2 (by decide) (hts (.fieldLink RX5 36 "FireflyInnModel" "rooms" "I") (List.mem_of_getElem? (i := 2) rfl)) (fun _ h9 => h9) rfl dX5_counted_79 ?_
          refine lv_icmp_ge (tgt := 100) hx hb dX5_counted_82 (by decide) (fun c82 => ?_) (fun c82 => ?_)
          · exact absurd c82 (nI_ge (a := k77) (b := R) hlt77 (by omega))
          refine lv_iload_n hx hb dX5_counted_85 rfl (lv_at hl 1 rfl) ?_
          refine lv_aload_n hx hb dX5_counted_86 rfl (lv_at hl 2 rfl) ?_
          refine va_get (D := D) (ci := 5) (v := .ref ml) (C := RX5) (T := TX5) (N := 9) hx hb hts hin5 hown hK hP 0 rfl rfl 4 (by decide) (hts (.fieldLink RX5 16 "FireflyInnModel" "lamps" "[I") (List.mem_of_getElem? (i := 3) rfl)) (fun _ h9 => h9) rfl dX5_counted_87 ?_
          refine lv_iload_n hx hb dX5_counted_90 rfl (lv_at hl 0 rfl) ?_
          refine ial_n (k := k77) hx hb hK hP 3 rfl (by omega) (by decide) dX5_counted_91 ?_
          refine lv_iadd hx hb dX5_counted_92 ?_
          refine lv_istore_n (lv' := [(2, .int (v2_77 + (el k77))), (3, .int (nI k77)), (0, .ref mx), (1, .int what)]) hx hb dX5_counted_93 rfl hl (by decide) rfl (fun ls hl => ?_)
          refine lv_iinc (v := (nI (k77 + 1))) (lv' := [(3, .int (nI (k77 + 1))), (2, .int (v2_77 + (el k77))), (0, .ref mx), (1, .int what)]) hx hb dX5_counted_94 hl (k := 1) rfl (nI_1 k77) (by decide) rfl (fun ls hl => ?_)
          refine lv_goto (tgt := 77) hx hb dX5_counted_97 (by decide) ?_
          exact ih77 (k77 + 1) (v2_77 + (el k77)) _ _ _ (by omega) (it_step (f := (fun (k : Nat) (v : Int32) => S_X5_counted_77 el k v)) (v := v2_77) (show S_X5_counted_77 el k77 v2_77 = (v2_77 + (el k77)) from by rw [S_X5_counted_77]) hE77) hP hD hS (lv_sub hl [0, 1, 2, 3] rfl)
      exact lp77 R 0 0 _ _ _ (by omega) hfin77 hP hD hS (lv_sub hl [0, 1, 2, 3] rfl)
    intro H locs ls hP hD hS hl
    subst hfin77
    refine lv_iload_n hx hb dX5_counted_100 rfl (lv_at hl 1 rfl) ?_
    subst hQ
    exact en_i (tv := (I_X5_counted_77 el R)) hx hb hr hlocks (by rw [F_X5_counted, if_neg c3_0, if_neg c3_1, if_neg c3_2, if_neg c3_3, if_pos c3_4]) rfl hK (by first | with_reducible exact hP | exact hP) (by first | with_reducible exact hD | exact hD) hS (Nat.le_refl _) (Nat.le_refl _) dX5_counted_101
  by_cases c3_5 : what = 5
  · refine lv_tableIn (off := 99) (tgt := 102) hx hb dX5_counted_3 (by rw [c3_5]; decide) (by rw [c3_5]; decide) (by rw [c3_5]; rfl) (by decide) ?_
    refine lv_aload_n hx hb dX5_counted_102 rfl (lv_at hl 1 rfl) ?_
    refine va_get (D := D) (ci := 5) (v := .int (nI G)) (C := RX5) (T := TX5) (N := 9) hx hb hts hin5 hown hK hP 0 rfl rfl 5 (by decide) (hts (.fieldLink RX5 39 "FireflyInnModel" "guests" "I") (List.mem_of_getElem? (i := 4) rfl)) (fun _ h9 => h9) rfl dX5_counted_103 ?_
    refine lv_aload_n hx hb dX5_counted_106 rfl (lv_at hl 1 rfl) ?_
    refine lv_iconst (v := 5) hx hb dX5_counted_107 (by decide) ?_
    refine cl_i (wr := []) (w2 := [(mx, .inr (5, [.int th, .ref mh, .int (nI R), .ref mw, .ref ml, .int (nI G), .ref mp, .ref mq, .ref mb])), (mh, .inl (cy 0, 50, .inl eh)), (mw, .inl (cy 0, 6, .inl ew)), (ml, .inl (cy 0, 6, .inl el)), (mp, .inl (cy 0, 72, .inl ep)), (mq, .inl (cy 0, 2, .inl en)), (mb, .inl (cy 0, 50, .inl eb))]) (rn_V (As := [.int 5]) (rest := [.int (nI G)]) (ci := 5) (q0 := 0) ⟨hx, hb, hml, hown, hts⟩ (k_X5_all l D cy _ mx mh mw ml mp mq mb th eh ew el ep en eb R G 5 hR hG (by omega)) (cwV 1 hts gX5_counted_X5_all rfl rfl rfl (by decide +kernel) ⟨Nat.le_of_ble_eq_true rfl, Nat.le_of_ble_eq_true rfl⟩) hN hK hP hD [0, 1, 2, 3, 4, 5, 6] rfl (by decide) rfl rfl rfl rfl hl.1 rfl (Nat.le_of_ble_eq_true rfl) dX5_counted_108 ⟨Nat.le_of_ble_eq_true rfl, Nat.le_of_ble_eq_true rfl⟩) hP hD hS hA [0, 1, 2, 3, 4, 5, 6] [] [0, 1, 2, 3, 4, 5, 6] rfl rfl (by decide) (by decide) rfl (by decide) (fun H locs hP hD hS => ?_)
    refine lv_isub hx hb dX5_counted_111 ?_
    subst hQ
    exact en_i (tv := ((nI G) - (F_X5_all ep G 5))) hx hb hr hlocks (by rw [F_X5_counted, if_neg c3_0, if_neg c3_1, if_neg c3_2, if_neg c3_3, if_neg c3_4, if_pos c3_5]) rfl hK (by first | with_reducible exact hP | exact hP) (by first | with_reducible exact hD | exact hD) hS (Nat.le_refl _) (Nat.le_refl _) dX5_counted_112
  by_cases c3_6 : what = 6
  · refine lv_tableIn (off := 110) (tgt := 113) hx hb dX5_counted_3 (by rw [c3_6]; decide) (by rw [c3_6]; decide) (by rw [c3_6]; rfl) (by decide) ?_
    refine lv_aload_n hx hb dX5_counted_113 rfl (lv_at hl 1 rfl) ?_
    refine lv_iconst (v := 2) hx hb dX5_counted_114 (by decide) ?_
    refine cl_i (wr := []) (w2 := [(mx, .inr (5, [.int th, .ref mh, .int (nI R), .ref mw, .ref ml, .int (nI G), .ref mp, .ref mq, .ref mb])), (mh, .inl (cy 0, 50, .inl eh)), (mw, .inl (cy 0, 6, .inl ew)), (ml, .inl (cy 0, 6, .inl el)), (mp, .inl (cy 0, 72, .inl ep)), (mq, .inl (cy 0, 2, .inl en)), (mb, .inl (cy 0, 50, .inl eb))]) (rn_V (As := [.int 2]) (rest := []) (ci := 5) (q0 := 0) ⟨hx, hb, hml, hown, hts⟩ (k_X5_all l D cy _ mx mh mw ml mp mq mb th eh ew el ep en eb R G 2 hR hG (by omega)) (cwV 1 hts gX5_counted_X5_all rfl rfl rfl (by decide +kernel) ⟨Nat.le_of_ble_eq_true rfl, Nat.le_of_ble_eq_true rfl⟩) hN hK hP hD [0, 1, 2, 3, 4, 5, 6] rfl (by decide) rfl rfl rfl rfl hl.1 rfl (Nat.le_of_ble_eq_true rfl) dX5_counted_115 ⟨Nat.le_of_ble_eq_true rfl, Nat.le_of_ble_eq_true rfl⟩) hP hD hS hA [0, 1, 2, 3, 4, 5, 6] [] [0, 1, 2, 3, 4, 5, 6] rfl rfl (by decide) (by decide) rfl (by decide) (fun H locs hP hD hS => ?_)
    subst hQ
    exact en_i (tv := (F_X5_all ep G 2)) hx hb hr hlocks (by rw [F_X5_counted, if_neg c3_0, if_neg c3_1, if_neg c3_2, if_neg c3_3, if_neg c3_4, if_neg c3_5, if_pos c3_6]) rfl hK (by first | with_reducible exact hP | exact hP) (by first | with_reducible exact hD | exact hD) hS (Nat.le_refl _) (Nat.le_refl _) dX5_counted_118
  by_cases c3_7 : what = 7
  · refine lv_tableIn (off := 116) (tgt := 119) hx hb dX5_counted_3 (by rw [c3_7]; decide) (by rw [c3_7]; decide) (by rw [c3_7]; rfl) (by decide) ?_
    refine lv_aload_n hx hb dX5_counted_119 rfl (lv_at hl 1 rfl) ?_
    refine va_get (D := D) (ci := 5) (v := .ref mq) (C := RX5) (T := TX5) (N := 9) hx hb hts hin5 hown hK hP 0 rfl rfl 7 (by decide) (hts (.fieldLink RX5 22 "FireflyInnModel" "numbers" "[I") (List.mem_of_getElem? (i := 1) rfl)) (fun _ h9 => h9) rfl dX5_counted_120 ?_
    refine lv_iconst (v := 1) hx hb dX5_counted_123 (by decide) ?_
    refine ial_n (k := 1) hx hb hK hP 5 rfl (by omega) (by decide) dX5_counted_124 ?_
    subst hQ
    exact en_i (tv := (en 1)) hx hb hr hlocks (by rw [F_X5_counted, if_neg c3_0, if_neg c3_1, if_neg c3_2, if_neg c3_3, if_neg c3_4, if_neg c3_5, if_neg c3_6, if_pos c3_7]) rfl hK (by first | with_reducible exact hP | exact hP) (by first | with_reducible exact hD | exact hD) hS (Nat.le_refl _) (Nat.le_refl _) dX5_counted_125
  refine lv_tableOut (tgt := 126) hx hb dX5_counted_3 (by have := lv_neT (a := 0) c3_0 rfl; have := lv_neT (a := 1) c3_1 rfl; have := lv_neT (a := 2) c3_2 rfl; have := lv_neT (a := 3) c3_3 rfl; have := lv_neT (a := 4) c3_4 rfl; have := lv_neT (a := 5) c3_5 rfl; have := lv_neT (a := 6) c3_6 rfl; have := lv_neT (a := 7) c3_7 rfl; omega) (by decide) ?_
  refine lv_iconst (v := 0) hx hb dX5_counted_126 (by decide) ?_
  refine lv_istore_n (lv' := [(3, .int 0), (2, .int 0), (0, .ref mx), (1, .int what)]) hx hb dX5_counted_127 rfl hl (by decide) rfl (fun ls hl => ?_)
  obtain ⟨fin128, hfin128⟩ : ∃ z, (I_X5_counted_128 ew el R) = z := ⟨_, rfl⟩
  suffices kk128 : ∀ (H : Heap) (locs : List Loc) (ls : Array Slot), va_P D vwCl [(mx, .inr (5, [.int th, .ref mh, .int (nI R), .ref mw, .ref ml, .int (nI G), .ref mp, .ref mq, .ref mb])), (mh, .inl (cy 0, 50, .inl eh)), (mw, .inl (cy 0, 6, .inl ew)), (ml, .inl (cy 0, 6, .inl el)), (mp, .inl (cy 0, 72, .inl ep)), (mq, .inl (cy 0, 2, .inl en)), (mb, .inl (cy 0, 50, .inl eb))] H → va_D A [(mx, .inr (5, [.int th, .ref mh, .int (nI R), .ref mw, .ref ml, .int (nI G), .ref mp, .ref mq, .ref mb])), (mh, .inl (cy 0, 50, .inl eh)), (mw, .inl (cy 0, 6, .inl ew)), (ml, .inl (cy 0, 6, .inl el)), (mp, .inl (cy 0, 72, .inl ep)), (mq, .inl (cy 0, 2, .inl en)), (mb, .inl (cy 0, 50, .inl eb))] → va_S A s.heap H locs → lv_has ls 4 [(3, .int (nI 10)), (2, .int fin128), (0, .ref mx), (1, .int what)] → W p l e (RM 2 0 0 46) s m args below meth c H locs 0 0 Q (F0 m 156 ls []) by
    have lp128 : ∀ (n128 k128 : Nat) (v2_128 : Int32) (H : Heap) (locs : List Loc) (ls : Array Slot), k128 + n128 = 10 → it (fun (k : Nat) (v : Int32) => S_X5_counted_128 ew el R k v) n128 k128 v2_128 = fin128 → va_P D vwCl [(mx, .inr (5, [.int th, .ref mh, .int (nI R), .ref mw, .ref ml, .int (nI G), .ref mp, .ref mq, .ref mb])), (mh, .inl (cy 0, 50, .inl eh)), (mw, .inl (cy 0, 6, .inl ew)), (ml, .inl (cy 0, 6, .inl el)), (mp, .inl (cy 0, 72, .inl ep)), (mq, .inl (cy 0, 2, .inl en)), (mb, .inl (cy 0, 50, .inl eb))] H → va_D A [(mx, .inr (5, [.int th, .ref mh, .int (nI R), .ref mw, .ref ml, .int (nI G), .ref mp, .ref mq, .ref mb])), (mh, .inl (cy 0, 50, .inl eh)), (mw, .inl (cy 0, 6, .inl ew)), (ml, .inl (cy 0, 6, .inl el)), (mp, .inl (cy 0, 72, .inl ep)), (mq, .inl (cy 0, 2, .inl en)), (mb, .inl (cy 0, 50, .inl eb))] → va_S A s.heap H locs → lv_has ls 4 [(3, .int (nI k128)), (2, .int v2_128), (0, .ref mx), (1, .int what)] → W p l e (RM 2 0 0 46) s m args below meth c H locs 0 0 Q (F0 m 128 ls []) := by
      intro n128
      induction n128 with
      | zero =>
        intro k128 v2_128 H locs ls hkn128 hE128 hP hD hS hl
        have hk128 : 10 = k128 := by omega
        subst hk128
        have hE128 : v2_128 = fin128 := hE128
        subst hE128
        refine lv_iload_n hx hb dX5_counted_128 rfl (lv_at hl 0 rfl) ?_
        refine lv_bipush (v := 10) hx hb dX5_counted_129 (by decide) ?_
        refine lv_icmp_ge (tgt := 156) hx hb dX5_counted_131 (by decide) (fun c131 => ?_) (fun c131 => ?_)
        rotate_left
        · exact absurd (nI_le (a := 10) (b := 10) (Nat.le_refl _) (by decide)) c131
        exact kk128 _ _ _ hP hD hS (lv_sub hl [0, 1, 2, 3] rfl)
      | succ n128 ih128 =>
        intro k128 v2_128 H locs ls hkn128 hE128 hP hD hS hl
        have hlt128 : k128 < 10 := by omega
        refine lv_iload_n hx hb dX5_counted_128 rfl (lv_at hl 0 rfl) ?_
        refine lv_bipush (v := 10) hx hb dX5_counted_129 (by decide) ?_
        refine lv_icmp_ge (tgt := 156) hx hb dX5_counted_131 (by decide) (fun c131 => ?_) (fun c131 => ?_)
        · exact absurd c131 (nI_ge (a := k128) (b := 10) hlt128 (by decide))
        refine lv_iload_n hx hb dX5_counted_134 rfl (lv_at hl 1 rfl) ?_
        refine lv_aload_n hx hb dX5_counted_135 rfl (lv_at hl 2 rfl) ?_
        refine lv_iload_n hx hb dX5_counted_136 rfl (lv_at hl 0 rfl) ?_
        refine cl_i (wr := []) (w2 := [(mx, .inr (5, [.int th, .ref mh, .int (nI R), .ref mw, .ref ml, .int (nI G), .ref mp, .ref mq, .ref mb])), (mh, .inl (cy 0, 50, .inl eh)), (mw, .inl (cy 0, 6, .inl ew)), (ml, .inl (cy 0, 6, .inl el)), (mp, .inl (cy 0, 72, .inl ep)), (mq, .inl (cy 0, 2, .inl en)), (mb, .inl (cy 0, 50, .inl eb))]) (rn_V (As := [.int (nI k128)]) (rest := [.int v2_128]) (ci := 5) (q0 := 0) ⟨hx, hb, hml, hown, hts⟩ (k_X5_lit l D cy _ mx mh mw ml mp mq mb th eh ew el ep en eb R G (nI k128) hR hG) (cwV 1 hts gX5_counted_X5_lit rfl rfl rfl (by decide +kernel) ⟨Nat.le_of_ble_eq_true rfl, Nat.le_of_ble_eq_true rfl⟩) hN hK hP hD [0, 1, 2, 3, 4, 5, 6] rfl (by decide) rfl rfl rfl rfl hl.1 rfl (Nat.le_of_ble_eq_true rfl) dX5_counted_137 ⟨Nat.le_of_ble_eq_true rfl, Nat.le_of_ble_eq_true rfl⟩) hP hD hS hA [0, 1, 2, 3, 4, 5, 6] [] [0, 1, 2, 3, 4, 5, 6] rfl rfl (by decide) (by decide) rfl (by decide) (fun H locs hP hD hS => ?_)
        refine lv_if_eq (tgt := 147) hx hb dX5_counted_140 (by decide) (fun c140 => ?_) (fun c140 => ?_)
        · refine lv_iconst (v := 0) hx hb dX5_counted_147 (by decide) ?_
          refine lv_iadd hx hb dX5_counted_148 ?_
          refine lv_istore_n (lv' := [(2, .int (v2_128 + 0)), (3, .int (nI k128)), (0, .ref mx), (1, .int what)]) hx hb dX5_counted_149 rfl hl (by decide) rfl (fun ls hl => ?_)
          refine lv_iinc (v := (nI (k128 + 1))) (lv' := [(3, .int (nI (k128 + 1))), (2, .int (v2_128 + 0)), (0, .ref mx), (1, .int what)]) hx hb dX5_counted_150 hl (k := 1) rfl (nI_1 k128) (by decide) rfl (fun ls hl => ?_)
          refine lv_goto (tgt := 128) hx hb dX5_counted_153 (by decide) ?_
          exact ih128 (k128 + 1) (v2_128 + 0) _ _ _ (by omega) (it_step (f := (fun (k : Nat) (v : Int32) => S_X5_counted_128 ew el R k v)) (v := v2_128) (show S_X5_counted_128 ew el R k128 v2_128 = (v2_128 + 0) from by rw [S_X5_counted_128, if_pos c140]) hE128) hP hD hS (lv_sub hl [0, 1, 2, 3] rfl)
        · refine lv_iconst (v := 1) hx hb dX5_counted_143 (by decide) ?_
          refine lv_goto (tgt := 148) hx hb dX5_counted_144 (by decide) ?_
          refine lv_iadd hx hb dX5_counted_148 ?_
          refine lv_istore_n (lv' := [(2, .int (v2_128 + 1)), (3, .int (nI k128)), (0, .ref mx), (1, .int what)]) hx hb dX5_counted_149 rfl hl (by decide) rfl (fun ls hl => ?_)
          refine lv_iinc (v := (nI (k128 + 1))) (lv' := [(3, .int (nI (k128 + 1))), (2, .int (v2_128 + 1)), (0, .ref mx), (1, .int what)]) hx hb dX5_counted_150 hl (k := 1) rfl (nI_1 k128) (by decide) rfl (fun ls hl => ?_)
          refine lv_goto (tgt := 128) hx hb dX5_counted_153 (by decide) ?_
          exact ih128 (k128 + 1) (v2_128 + 1) _ _ _ (by omega) (it_step (f := (fun (k : Nat) (v : Int32) => S_X5_counted_128 ew el R k v)) (v := v2_128) (show S_X5_counted_128 ew el R k128 v2_128 = (v2_128 + 1) from by rw [S_X5_counted_128, if_neg c140]) hE128) hP hD hS (lv_sub hl [0, 1, 2, 3] rfl)
    exact lp128 10 0 0 _ _ _ (by omega) hfin128 hP hD hS (lv_sub hl [0, 1, 2, 3] rfl)
  intro H locs ls hP hD hS hl
  subst hfin128
  refine lv_iload_n hx hb dX5_counted_156 rfl (lv_at hl 1 rfl) ?_
  subst hQ
  exact en_i (tv := (I_X5_counted_128 ew el R)) hx hb hr hlocks (by rw [F_X5_counted, if_neg c3_0, if_neg c3_1, if_neg c3_2, if_neg c3_3, if_neg c3_4, if_neg c3_5, if_neg c3_6, if_neg c3_7]) rfl hK (by first | with_reducible exact hP | exact hP) (by first | with_reducible exact hD | exact hD) hS (Nat.le_refl _) (Nat.le_refl _) dX5_counted_157

def F_X5_count (eh : Nat → Int32) (ew : Nat → Int32) (el : Nat → Int32) (ep : Nat → Int32) (en : Nat → Int32) (R : Nat) (G : Nat) (what : Int32) : Int32 × Int32 :=
  if (F_X5_isIn what 0 8) = 0 then
    ((F_X5_fail 1).1, (F_X5_fail 1).2)
  else
    ((F_X5_counted eh ew el ep en R G what), 0)
set_option maxHeartbeats 4000000 in
set_option maxRecDepth 100000 in
theorem k_X5_count (l : Launch) (D : va_G) (cy : Nat → ClassId) (sz : Nat) (mx mh mw ml mp mq mb : Nat) (th : Int32) (eh : Nat → Int32) (ew : Nat → Int32) (el : Nat → Int32) (ep : Nat → Int32) (en : Nat → Int32) (eb : Nat → Int32) (R : Nat) (G : Nat) (what : Int32) (hR : R ≤ 6) (hG : G ≤ 12) : MTa l D cy yX5_count wsX5_count 3 0 0 69 [(mx, .inr (5, [.int th, .ref mh, .int (nI R), .ref mw, .ref ml, .int (nI G), .ref mp, .ref mq, .ref mb])), (mh, .inl (cy 0, 50, .inl eh)), (mw, .inl (cy 0, 6, .inl ew)), (ml, .inl (cy 0, 6, .inl el)), (mp, .inl (cy 0, 72, .inl ep)), (mq, .inl (cy 0, 2, .inl en)), (mb, .inl (cy 0, 50, .inl eb))] sz [.ref mx, .int what] (fun A => QiT D cy (fun (t : Int32 × Int32) => t.1) (fun (t : Int32 × Int32) => [(mx, .inr (5, [.int t.2, .ref mh, .int (nI R), .ref mw, .ref ml, .int (nI G), .ref mp, .ref mq, .ref mb])), (mh, .inl (cy 0, 50, .inl eh)), (mw, .inl (cy 0, 6, .inl ew)), (ml, .inl (cy 0, 6, .inl el)), (mp, .inl (cy 0, 72, .inl ep)), (mq, .inl (cy 0, 2, .inl en)), (mb, .inl (cy 0, 50, .inl eb))]) (F_X5_count eh ew el ep en R G what) A) := by
  refine ofWT (cc := cX5_count) (maxL := 2) (ret := (some .int)) (own := RX5) (by decide) rfl (Nat.le_of_ble_eq_true rfl) rfl ?_
  intro p e s m args below meth c A ls hx hb hr hml hts hown hlocks hin hN hK hP hD hA hl
  have hS : va_S A s.heap s.heap [] := va_S.rf
  have hl : lv_has ls 2 [(0, .ref mx), (1, .int what)] := hl
  have hin5 : ∀ w ∈ u_ws RX5 TX5 9, w ∈ wsX5_count := (fun w h => List.mem_cons_of_mem _ (List.mem_append_right _ h))
  generalize hQ : MQ below ((fun A => QiT D cy (fun (t : Int32 × Int32) => t.1) (fun (t : Int32 × Int32) => [(mx, .inr (5, [.int t.2, .ref mh, .int (nI R), .ref mw, .ref ml, .int (nI G), .ref mp, .ref mq, .ref mb])), (mh, .inl (cy 0, 50, .inl eh)), (mw, .inl (cy 0, 6, .inl ew)), (ml, .inl (cy 0, 6, .inl el)), (mp, .inl (cy 0, 72, .inl ep)), (mq, .inl (cy 0, 2, .inl en)), (mb, .inl (cy 0, 50, .inl eb))]) (F_X5_count eh ew el ep en R G what) A) A) args s 0 0 A = Q
  refine lv_aload_n hx hb dX5_count_0 rfl (lv_at hl 0 rfl) ?_
  refine lv_iconst (v := 0) hx hb dX5_count_1 (by decide) ?_
  refine va_put (D := D) (ci := 5) (v := .int 0) (ty := .int) (C := RX5) (T := TX5) (N := 9) hx hb hts hin5 tyX5 tyX5_ok nmX5 hown hK hP hD hS 0 rfl rfl 0 (by decide) (hts (.fieldLink RX5 28 "FireflyInnModel" "thrown" "I") (List.mem_of_getElem? (i := 1) rfl)) (fun _ h9 => h9) rfl (by decide +kernel) rfl rfl (Nat.le_of_ble_eq_true rfl) dX5_count_2 (fun H locs hP hD hS => ?_)
  have hP : va_P D vwCl [(mx, .inr (5, [.int 0, .ref mh, .int (nI R), .ref mw, .ref ml, .int (nI G), .ref mp, .ref mq, .ref mb])), (mh, .inl (cy 0, 50, .inl eh)), (mw, .inl (cy 0, 6, .inl ew)), (ml, .inl (cy 0, 6, .inl el)), (mp, .inl (cy 0, 72, .inl ep)), (mq, .inl (cy 0, 2, .inl en)), (mb, .inl (cy 0, 50, .inl eb))] H := hP
  have hD : va_D A [(mx, .inr (5, [.int 0, .ref mh, .int (nI R), .ref mw, .ref ml, .int (nI G), .ref mp, .ref mq, .ref mb])), (mh, .inl (cy 0, 50, .inl eh)), (mw, .inl (cy 0, 6, .inl ew)), (ml, .inl (cy 0, 6, .inl el)), (mp, .inl (cy 0, 72, .inl ep)), (mq, .inl (cy 0, 2, .inl en)), (mb, .inl (cy 0, 50, .inl eb))] := hD
  refine lv_iload_n hx hb dX5_count_5 rfl (lv_at hl 1 rfl) ?_
  refine lv_iconst (v := 0) hx hb dX5_count_6 (by decide) ?_
  refine lv_bipush (v := 8) hx hb dX5_count_7 (by decide) ?_
  refine cl_i (wr := [(mx, .inr (5, [.int 0, .ref mh, .int (nI R), .ref mw, .ref ml, .int (nI G), .ref mp, .ref mq, .ref mb])), (mh, .inl (cy 0, 50, .inl eh)), (mw, .inl (cy 0, 6, .inl ew)), (ml, .inl (cy 0, 6, .inl el)), (mp, .inl (cy 0, 72, .inl ep)), (mq, .inl (cy 0, 2, .inl en)), (mb, .inl (cy 0, 50, .inl eb))]) (w2 := [(mx, .inr (5, [.int 0, .ref mh, .int (nI R), .ref mw, .ref ml, .int (nI G), .ref mp, .ref mq, .ref mb])), (mh, .inl (cy 0, 50, .inl eh)), (mw, .inl (cy 0, 6, .inl ew)), (ml, .inl (cy 0, 6, .inl el)), (mp, .inl (cy 0, 72, .inl ep)), (mq, .inl (cy 0, 2, .inl en)), (mb, .inl (cy 0, 50, .inl eb))]) (rn_S (As := [.int what, .int 0, .int 8]) (rest := []) ⟨hx, hb, hml, hown, hts⟩ (k_X5_isIn l D cy _ what 0 8) (va_cwS 3 hts gX5_count_X5_isIn rfl rfl rfl (by decide +kernel) ⟨Nat.le_of_ble_eq_true rfl, Nat.le_of_ble_eq_true rfl⟩) hN hK hP hD [] rfl (by decide) rfl hl.1 rfl (Nat.le_of_ble_eq_true rfl) dX5_count_9 ⟨Nat.le_of_ble_eq_true rfl, Nat.le_of_ble_eq_true rfl⟩) hP hD hS hA [] [0, 1, 2, 3, 4, 5, 6] [0, 1, 2, 3, 4, 5, 6] rfl rfl (by decide) (by decide) rfl (by decide) (fun H locs hP hD hS => ?_)
  refine lv_if_eq (tgt := 23) hx hb dX5_count_12 (by decide) (fun c12 => ?_) (fun c12 => ?_)
  · refine lv_aload_n hx hb dX5_count_23 rfl (lv_at hl 0 rfl) ?_
    refine lv_iconst (v := 1) hx hb dX5_count_24 (by decide) ?_
    refine cl_i (wr := []) (w2 := [(mx, .inr (5, [.int ((F_X5_fail 1).2), .ref mh, .int (nI R), .ref mw, .ref ml, .int (nI G), .ref mp, .ref mq, .ref mb])), (mh, .inl (cy 0, 50, .inl eh)), (mw, .inl (cy 0, 6, .inl ew)), (ml, .inl (cy 0, 6, .inl el)), (mp, .inl (cy 0, 72, .inl ep)), (mq, .inl (cy 0, 2, .inl en)), (mb, .inl (cy 0, 50, .inl eb))]) (rn_V (As := [.int 1]) (rest := []) (ci := 5) (q0 := 0) ⟨hx, hb, hml, hown, hts⟩ (k_X5_fail l D cy _ mx mh mw ml mp mq mb 0 eh ew el ep en eb R G 1 hR hG) (cwV 1 hts gX5_count_X5_fail rfl rfl rfl (by decide +kernel) ⟨Nat.le_of_ble_eq_true rfl, Nat.le_of_ble_eq_true rfl⟩) hN hK hP hD [0, 1, 2, 3, 4, 5, 6] rfl (by decide) rfl rfl rfl rfl hl.1 rfl (Nat.le_of_ble_eq_true rfl) dX5_count_25 ⟨Nat.le_of_ble_eq_true rfl, Nat.le_of_ble_eq_true rfl⟩) hP hD hS hA [0, 1, 2, 3, 4, 5, 6] [] [0, 1, 2, 3, 4, 5, 6] rfl rfl (by decide) (by decide) rfl (by decide) (fun H locs hP hD hS => ?_)
    subst hQ
    exact en_i (tv := ((F_X5_fail 1).1, (F_X5_fail 1).2)) hx hb hr hlocks (by rw [F_X5_count, if_pos c12]) rfl hK (by first | with_reducible exact hP | exact hP) (by first | with_reducible exact hD | exact hD) hS (Nat.le_refl _) (Nat.le_refl _) dX5_count_28
  · refine lv_aload_n hx hb dX5_count_15 rfl (lv_at hl 0 rfl) ?_
    refine lv_iload_n hx hb dX5_count_16 rfl (lv_at hl 1 rfl) ?_
    refine cl_i (wr := []) (w2 := [(mx, .inr (5, [.int 0, .ref mh, .int (nI R), .ref mw, .ref ml, .int (nI G), .ref mp, .ref mq, .ref mb])), (mh, .inl (cy 0, 50, .inl eh)), (mw, .inl (cy 0, 6, .inl ew)), (ml, .inl (cy 0, 6, .inl el)), (mp, .inl (cy 0, 72, .inl ep)), (mq, .inl (cy 0, 2, .inl en)), (mb, .inl (cy 0, 50, .inl eb))]) (rn_V (As := [.int what]) (rest := []) (ci := 5) (q0 := 0) ⟨hx, hb, hml, hown, hts⟩ (k_X5_counted l D cy _ mx mh mw ml mp mq mb 0 eh ew el ep en eb R G what hR hG) (cwV 1 hts gX5_count_X5_counted rfl rfl rfl (by decide +kernel) ⟨Nat.le_of_ble_eq_true rfl, Nat.le_of_ble_eq_true rfl⟩) hN hK hP hD [0, 1, 2, 3, 4, 5, 6] rfl (by decide) rfl rfl rfl rfl hl.1 rfl (Nat.le_of_ble_eq_true rfl) dX5_count_17 ⟨Nat.le_of_ble_eq_true rfl, Nat.le_of_ble_eq_true rfl⟩) hP hD hS hA [0, 1, 2, 3, 4, 5, 6] [] [0, 1, 2, 3, 4, 5, 6] rfl rfl (by decide) (by decide) rfl (by decide) (fun H locs hP hD hS => ?_)
    refine lv_goto (tgt := 28) hx hb dX5_count_20 (by decide) ?_
    subst hQ
    exact en_i (tv := ((F_X5_counted eh ew el ep en R G what), 0)) hx hb hr hlocks (by rw [F_X5_count, if_neg c12]) rfl hK (by first | with_reducible exact hP | exact hP) (by first | with_reducible exact hD | exact hD) hS (Nat.le_refl _) (Nat.le_refl _) dX5_count_28

def F_X5_aside (ew : Nat → Int32) (el : Nat → Int32) (R : Nat) (x : Int32) : Int32 :=
  if x ≤ 0 then
    if 9 ≤ x then
      (-1)
    else
      if (F_X5_lit ew el R (x + 1)) = 0 then
        (x + 1)
      else
        (-1)
  else
    if (F_X5_lit ew el R (x - 1)) = 0 then
      (x - 1)
    else
      if 9 ≤ x then
        (-1)
      else
        if (F_X5_lit ew el R (x + 1)) = 0 then
          (x + 1)
        else
          (-1)
set_option maxHeartbeats 4000000 in
set_option maxRecDepth 100000 in
theorem k_X5_aside (l : Launch) (D : va_G) (cy : Nat → ClassId) (sz : Nat) (mx mh mw ml mp mq mb : Nat) (th : Int32) (eh : Nat → Int32) (ew : Nat → Int32) (el : Nat → Int32) (ep : Nat → Int32) (en : Nat → Int32) (eb : Nat → Int32) (R : Nat) (G : Nat) (x : Int32) (hR : R ≤ 6) (hG : G ≤ 12) : MTa l D cy yX5_aside wsX5_aside 2 0 0 46 [(mx, .inr (5, [.int th, .ref mh, .int (nI R), .ref mw, .ref ml, .int (nI G), .ref mp, .ref mq, .ref mb])), (mh, .inl (cy 0, 50, .inl eh)), (mw, .inl (cy 0, 6, .inl ew)), (ml, .inl (cy 0, 6, .inl el)), (mp, .inl (cy 0, 72, .inl ep)), (mq, .inl (cy 0, 2, .inl en)), (mb, .inl (cy 0, 50, .inl eb))] sz [.ref mx, .int x] (fun A => QiT D cy (fun (t : Int32) => t) (fun (_ : Int32) => [(mx, .inr (5, [.int th, .ref mh, .int (nI R), .ref mw, .ref ml, .int (nI G), .ref mp, .ref mq, .ref mb])), (mh, .inl (cy 0, 50, .inl eh)), (mw, .inl (cy 0, 6, .inl ew)), (ml, .inl (cy 0, 6, .inl el)), (mp, .inl (cy 0, 72, .inl ep)), (mq, .inl (cy 0, 2, .inl en)), (mb, .inl (cy 0, 50, .inl eb))]) (F_X5_aside ew el R x) A) := by
  refine ofWT (cc := cX5_aside) (maxL := 2) (ret := (some .int)) (own := RX5) (by decide) rfl (Nat.le_of_ble_eq_true rfl) rfl ?_
  intro p e s m args below meth c A ls hx hb hr hml hts hown hlocks hin hN hK hP hD hA hl
  have hS : va_S A s.heap s.heap [] := va_S.rf
  have hl : lv_has ls 2 [(0, .ref mx), (1, .int x)] := hl
  generalize hQ : MQ below ((fun A => QiT D cy (fun (t : Int32) => t) (fun (_ : Int32) => [(mx, .inr (5, [.int th, .ref mh, .int (nI R), .ref mw, .ref ml, .int (nI G), .ref mp, .ref mq, .ref mb])), (mh, .inl (cy 0, 50, .inl eh)), (mw, .inl (cy 0, 6, .inl ew)), (ml, .inl (cy 0, 6, .inl el)), (mp, .inl (cy 0, 72, .inl ep)), (mq, .inl (cy 0, 2, .inl en)), (mb, .inl (cy 0, 50, .inl eb))]) (F_X5_aside ew el R x) A) A) args s 0 0 A = Q
  refine lv_iload_n hx hb dX5_aside_0 rfl (lv_at hl 1 rfl) ?_
  refine lv_if_le (tgt := 18) hx hb dX5_aside_1 (by decide) (fun c1 => ?_) (fun c1 => ?_)
  · refine lv_iload_n hx hb dX5_aside_18 rfl (lv_at hl 1 rfl) ?_
    refine lv_bipush (v := 9) hx hb dX5_aside_19 (by decide) ?_
    refine lv_icmp_ge (tgt := 40) hx hb dX5_aside_21 (by decide) (fun c21 => ?_) (fun c21 => ?_)
    · refine lv_iconst (v := (-1)) hx hb dX5_aside_40 (by decide) ?_
      subst hQ
      exact en_i (tv := (-1)) hx hb hr hlocks (by rw [F_X5_aside, if_pos c1, if_pos c21]) rfl hK (by first | with_reducible exact hP | exact hP) (by first | with_reducible exact hD | exact hD) hS (Nat.le_refl _) (Nat.le_refl _) dX5_aside_41
    · refine lv_aload_n hx hb dX5_aside_24 rfl (lv_at hl 0 rfl) ?_
      refine lv_iload_n hx hb dX5_aside_25 rfl (lv_at hl 1 rfl) ?_
      refine lv_iconst (v := 1) hx hb dX5_aside_26 (by decide) ?_
      refine lv_iadd hx hb dX5_aside_27 ?_
      refine cl_i (wr := []) (w2 := [(mx, .inr (5, [.int th, .ref mh, .int (nI R), .ref mw, .ref ml, .int (nI G), .ref mp, .ref mq, .ref mb])), (mh, .inl (cy 0, 50, .inl eh)), (mw, .inl (cy 0, 6, .inl ew)), (ml, .inl (cy 0, 6, .inl el)), (mp, .inl (cy 0, 72, .inl ep)), (mq, .inl (cy 0, 2, .inl en)), (mb, .inl (cy 0, 50, .inl eb))]) (rn_V (As := [.int (x + 1)]) (rest := []) (ci := 5) (q0 := 0) ⟨hx, hb, hml, hown, hts⟩ (k_X5_lit l D cy _ mx mh mw ml mp mq mb th eh ew el ep en eb R G (x + 1) hR hG) (cwV 1 hts gX5_aside_X5_lit rfl rfl rfl (by decide +kernel) ⟨Nat.le_of_ble_eq_true rfl, Nat.le_of_ble_eq_true rfl⟩) hN hK hP hD [0, 1, 2, 3, 4, 5, 6] rfl (by decide) rfl rfl rfl rfl hl.1 rfl (Nat.le_of_ble_eq_true rfl) dX5_aside_28 ⟨Nat.le_of_ble_eq_true rfl, Nat.le_of_ble_eq_true rfl⟩) hP hD hS hA [0, 1, 2, 3, 4, 5, 6] [] [0, 1, 2, 3, 4, 5, 6] rfl rfl (by decide) (by decide) rfl (by decide) (fun H locs hP hD hS => ?_)
      refine lv_if_ne (tgt := 40) hx hb dX5_aside_31 (by decide) (fun c31 => ?_) (fun c31 => ?_)
      · refine lv_iconst (v := (-1)) hx hb dX5_aside_40 (by decide) ?_
        subst hQ
        exact en_i (tv := (-1)) hx hb hr hlocks (by rw [F_X5_aside, if_pos c1, if_neg c21, if_neg c31]) rfl hK (by first | with_reducible exact hP | exact hP) (by first | with_reducible exact hD | exact hD) hS (Nat.le_refl _) (Nat.le_refl _) dX5_aside_41
      · refine lv_iload_n hx hb dX5_aside_34 rfl (lv_at hl 1 rfl) ?_
        refine lv_iconst (v := 1) hx hb dX5_aside_35 (by decide) ?_
        refine lv_iadd hx hb dX5_aside_36 ?_
        refine lv_goto (tgt := 41) hx hb dX5_aside_37 (by decide) ?_
        subst hQ
        exact en_i (tv := (x + 1)) hx hb hr hlocks (by rw [F_X5_aside, if_pos c1, if_neg c21, if_pos c31]) rfl hK (by first | with_reducible exact hP | exact hP) (by first | with_reducible exact hD | exact hD) hS (Nat.le_refl _) (Nat.le_refl _) dX5_aside_41
  · refine lv_aload_n hx hb dX5_aside_4 rfl (lv_at hl 0 rfl) ?_
    refine lv_iload_n hx hb dX5_aside_5 rfl (lv_at hl 1 rfl) ?_
    refine lv_iconst (v := 1) hx hb dX5_aside_6 (by decide) ?_
    refine lv_isub hx hb dX5_aside_7 ?_
    refine cl_i (wr := []) (w2 := [(mx, .inr (5, [.int th, .ref mh, .int (nI R), .ref mw, .ref ml, .int (nI G), .ref mp, .ref mq, .ref mb])), (mh, .inl (cy 0, 50, .inl eh)), (mw, .inl (cy 0, 6, .inl ew)), (ml, .inl (cy 0, 6, .inl el)), (mp, .inl (cy 0, 72, .inl ep)), (mq, .inl (cy 0, 2, .inl en)), (mb, .inl (cy 0, 50, .inl eb))]) (rn_V (As := [.int (x - 1)]) (rest := []) (ci := 5) (q0 := 0) ⟨hx, hb, hml, hown, hts⟩ (k_X5_lit l D cy _ mx mh mw ml mp mq mb th eh ew el ep en eb R G (x - 1) hR hG) (cwV 1 hts gX5_aside_X5_lit rfl rfl rfl (by decide +kernel) ⟨Nat.le_of_ble_eq_true rfl, Nat.le_of_ble_eq_true rfl⟩) hN hK hP hD [0, 1, 2, 3, 4, 5, 6] rfl (by decide) rfl rfl rfl rfl hl.1 rfl (Nat.le_of_ble_eq_true rfl) dX5_aside_8 ⟨Nat.le_of_ble_eq_true rfl, Nat.le_of_ble_eq_true rfl⟩) hP hD hS hA [0, 1, 2, 3, 4, 5, 6] [] [0, 1, 2, 3, 4, 5, 6] rfl rfl (by decide) (by decide) rfl (by decide) (fun H locs hP hD hS => ?_)
    refine lv_if_ne (tgt := 18) hx hb dX5_aside_11 (by decide) (fun c11 => ?_) (fun c11 => ?_)
    · refine lv_iload_n hx hb dX5_aside_18 rfl (lv_at hl 1 rfl) ?_
      refine lv_bipush (v := 9) hx hb dX5_aside_19 (by decide) ?_
      refine lv_icmp_ge (tgt := 40) hx hb dX5_aside_21 (by decide) (fun c21 => ?_) (fun c21 => ?_)
      · refine lv_iconst (v := (-1)) hx hb dX5_aside_40 (by decide) ?_
        subst hQ
        exact en_i (tv := (-1)) hx hb hr hlocks (by rw [F_X5_aside, if_neg c1, if_neg c11, if_pos c21]) rfl hK (by first | with_reducible exact hP | exact hP) (by first | with_reducible exact hD | exact hD) hS (Nat.le_refl _) (Nat.le_refl _) dX5_aside_41
      · refine lv_aload_n hx hb dX5_aside_24 rfl (lv_at hl 0 rfl) ?_
        refine lv_iload_n hx hb dX5_aside_25 rfl (lv_at hl 1 rfl) ?_
        refine lv_iconst (v := 1) hx hb dX5_aside_26 (by decide) ?_
        refine lv_iadd hx hb dX5_aside_27 ?_
        refine cl_i (wr := []) (w2 := [(mx, .inr (5, [.int th, .ref mh, .int (nI R), .ref mw, .ref ml, .int (nI G), .ref mp, .ref mq, .ref mb])), (mh, .inl (cy 0, 50, .inl eh)), (mw, .inl (cy 0, 6, .inl ew)), (ml, .inl (cy 0, 6, .inl el)), (mp, .inl (cy 0, 72, .inl ep)), (mq, .inl (cy 0, 2, .inl en)), (mb, .inl (cy 0, 50, .inl eb))]) (rn_V (As := [.int (x + 1)]) (rest := []) (ci := 5) (q0 := 0) ⟨hx, hb, hml, hown, hts⟩ (k_X5_lit l D cy _ mx mh mw ml mp mq mb th eh ew el ep en eb R G (x + 1) hR hG) (cwV 1 hts gX5_aside_X5_lit rfl rfl rfl (by decide +kernel) ⟨Nat.le_of_ble_eq_true rfl, Nat.le_of_ble_eq_true rfl⟩) hN hK hP hD [0, 1, 2, 3, 4, 5, 6] rfl (by decide) rfl rfl rfl rfl hl.1 rfl (Nat.le_of_ble_eq_true rfl) dX5_aside_28 ⟨Nat.le_of_ble_eq_true rfl, Nat.le_of_ble_eq_true rfl⟩) hP hD hS hA [0, 1, 2, 3, 4, 5, 6] [] [0, 1, 2, 3, 4, 5, 6] rfl rfl (by decide) (by decide) rfl (by decide) (fun H locs hP hD hS => ?_)
        refine lv_if_ne (tgt := 40) hx hb dX5_aside_31 (by decide) (fun c31 => ?_) (fun c31 => ?_)
        · refine lv_iconst (v := (-1)) hx hb dX5_aside_40 (by decide) ?_
          subst hQ
          exact en_i (tv := (-1)) hx hb hr hlocks (by rw [F_X5_aside, if_neg c1, if_neg c11, if_neg c21, if_neg c31]) rfl hK (by first | with_reducible exact hP | exact hP) (by first | with_reducible exact hD | exact hD) hS (Nat.le_refl _) (Nat.le_refl _) dX5_aside_41
        · refine lv_iload_n hx hb dX5_aside_34 rfl (lv_at hl 1 rfl) ?_
          refine lv_iconst (v := 1) hx hb dX5_aside_35 (by decide) ?_
          refine lv_iadd hx hb dX5_aside_36 ?_
          refine lv_goto (tgt := 41) hx hb dX5_aside_37 (by decide) ?_
          subst hQ
          exact en_i (tv := (x + 1)) hx hb hr hlocks (by rw [F_X5_aside, if_neg c1, if_neg c11, if_neg c21, if_pos c31]) rfl hK (by first | with_reducible exact hP | exact hP) (by first | with_reducible exact hD | exact hD) hS (Nat.le_refl _) (Nat.le_refl _) dX5_aside_41
    · refine lv_iload_n hx hb dX5_aside_14 rfl (lv_at hl 1 rfl) ?_
      refine lv_iconst (v := 1) hx hb dX5_aside_15 (by decide) ?_
      refine lv_isub hx hb dX5_aside_16 ?_
      subst hQ
      exact en_i (tv := (x - 1)) hx hb hr hlocks (by rw [F_X5_aside, if_neg c1, if_pos c11]) rfl hK (by first | with_reducible exact hP | exact hP) (by first | with_reducible exact hD | exact hD) hS (Nat.le_refl _) (Nat.le_refl _) dX5_aside_17
