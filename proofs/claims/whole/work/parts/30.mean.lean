def F_X5_mean (ep : Nat → Int32) (G : Nat) : UInt64 × Int32 :=
  if (nI G) = 0 then
    (FP.dconst0, 0)
  else
    ((FP.ddiv (FP.i2d (F_X5_all ep G 4)) (FP.i2d (nI G))), 0)
set_option maxHeartbeats 4000000 in
set_option maxRecDepth 100000 in
theorem k_X5_mean (l : Launch) (D : va_G) (cy : Nat → ClassId) (sz : Nat) (mx mh mw ml mp mq mb : Nat) (th : Int32) (eh : Nat → Int32) (ew : Nat → Int32) (el : Nat → Int32) (ep : Nat → Int32) (en : Nat → Int32) (eb : Nat → Int32) (R : Nat) (G : Nat) (hR : R ≤ 6) (hG : G ≤ 12) : MTa l D cy yX5_mean wsX5_mean 2 0 0 45 [(mx, .inr (5, [.int th, .ref mh, .int (nI R), .ref mw, .ref ml, .int (nI G), .ref mp, .ref mq, .ref mb])), (mh, .inl (cy 0, 50, .inl eh)), (mw, .inl (cy 0, 6, .inl ew)), (ml, .inl (cy 0, 6, .inl el)), (mp, .inl (cy 0, 72, .inl ep)), (mq, .inl (cy 0, 2, .inl en)), (mb, .inl (cy 0, 50, .inl eb))] sz [.ref mx] (fun A => QdT D cy (fun (t : UInt64 × Int32) => t.1) (fun (t : UInt64 × Int32) => [(mx, .inr (5, [.int t.2, .ref mh, .int (nI R), .ref mw, .ref ml, .int (nI G), .ref mp, .ref mq, .ref mb])), (mh, .inl (cy 0, 50, .inl eh)), (mw, .inl (cy 0, 6, .inl ew)), (ml, .inl (cy 0, 6, .inl el)), (mp, .inl (cy 0, 72, .inl ep)), (mq, .inl (cy 0, 2, .inl en)), (mb, .inl (cy 0, 50, .inl eb))]) (F_X5_mean ep G) A) := by
  refine ofWT (cc := cX5_mean) (maxL := 1) (ret := (some .double)) (own := RX5) (by decide) rfl (Nat.le_of_ble_eq_true rfl) rfl ?_
  intro p e s m args below meth c A ls hx hb hr hml hts hown hlocks hin hN hK hP hD hA hl
  have hS : va_S A s.heap s.heap [] := va_S.rf
  have hl : lv_has ls 1 [(0, .ref mx)] := hl
  have hin5 : ∀ w ∈ u_ws RX5 TX5 9, w ∈ wsX5_mean := (fun w h => List.mem_cons_of_mem _ (List.mem_append_right _ h))
  generalize hQ : MQ below ((fun A => QdT D cy (fun (t : UInt64 × Int32) => t.1) (fun (t : UInt64 × Int32) => [(mx, .inr (5, [.int t.2, .ref mh, .int (nI R), .ref mw, .ref ml, .int (nI G), .ref mp, .ref mq, .ref mb])), (mh, .inl (cy 0, 50, .inl eh)), (mw, .inl (cy 0, 6, .inl ew)), (ml, .inl (cy 0, 6, .inl el)), (mp, .inl (cy 0, 72, .inl ep)), (mq, .inl (cy 0, 2, .inl en)), (mb, .inl (cy 0, 50, .inl eb))]) (F_X5_mean ep G) A) A) args s 0 0 A = Q
  refine lv_aload_n hx hb dX5_mean_0 rfl (lv_at hl 0 rfl) ?_
  refine lv_iconst (v := 0) hx hb dX5_mean_1 (by decide) ?_
  refine va_put (D := D) (ci := 5) (v := .int 0) (ty := .int) (C := RX5) (T := TX5) (N := 9) hx hb hts hin5 tyX5 tyX5_ok nmX5 hown hK hP hD hS 0 rfl rfl 0 (by decide) (hts (.fieldLink RX5 28 "FireflyInnModel" "thrown" "I") (List.mem_of_getElem? (i := 1) rfl)) (fun _ h9 => h9) rfl (by decide +kernel) rfl rfl (Nat.le_of_ble_eq_true rfl) dX5_mean_2 (fun H locs hP hD hS => ?_)
  have hP : va_P D vwCl [(mx, .inr (5, [.int 0, .ref mh, .int (nI R), .ref mw, .ref ml, .int (nI G), .ref mp, .ref mq, .ref mb])), (mh, .inl (cy 0, 50, .inl eh)), (mw, .inl (cy 0, 6, .inl ew)), (ml, .inl (cy 0, 6, .inl el)), (mp, .inl (cy 0, 72, .inl ep)), (mq, .inl (cy 0, 2, .inl en)), (mb, .inl (cy 0, 50, .inl eb))] H := hP
  have hD : va_D A [(mx, .inr (5, [.int 0, .ref mh, .int (nI R), .ref mw, .ref ml, .int (nI G), .ref mp, .ref mq, .ref mb])), (mh, .inl (cy 0, 50, .inl eh)), (mw, .inl (cy 0, 6, .inl ew)), (ml, .inl (cy 0, 6, .inl el)), (mp, .inl (cy 0, 72, .inl ep)), (mq, .inl (cy 0, 2, .inl en)), (mb, .inl (cy 0, 50, .inl eb))] := hD
  refine lv_aload_n hx hb dX5_mean_5 rfl (lv_at hl 0 rfl) ?_
  refine va_get (D := D) (ci := 5) (v := .int (nI G)) (C := RX5) (T := TX5) (N := 9) hx hb hts hin5 hown hK hP 0 rfl rfl 5 (by decide) (hts (.fieldLink RX5 39 "FireflyInnModel" "guests" "I") (List.mem_of_getElem? (i := 2) rfl)) (fun _ h9 => h9) rfl dX5_mean_6 ?_
  refine lv_if_ne (tgt := 16) hx hb dX5_mean_9 (by decide) (fun c9 => ?_) (fun c9 => ?_)
  · refine lv_aload_n hx hb dX5_mean_16 rfl (lv_at hl 0 rfl) ?_
    refine lv_iconst (v := 4) hx hb dX5_mean_17 (by decide) ?_
    refine cl_i (wr := []) (w2 := [(mx, .inr (5, [.int 0, .ref mh, .int (nI R), .ref mw, .ref ml, .int (nI G), .ref mp, .ref mq, .ref mb])), (mh, .inl (cy 0, 50, .inl eh)), (mw, .inl (cy 0, 6, .inl ew)), (ml, .inl (cy 0, 6, .inl el)), (mp, .inl (cy 0, 72, .inl ep)), (mq, .inl (cy 0, 2, .inl en)), (mb, .inl (cy 0, 50, .inl eb))]) (rn_V (As := [.int 4]) (rest := []) (ci := 5) (q0 := 0) ⟨hx, hb, hml, hown, hts⟩ (k_X5_all l D cy _ mx mh mw ml mp mq mb 0 eh ew el ep en eb R G 4 hR hG (by omega)) (cwV 1 hts gX5_mean_X5_all rfl rfl rfl (by decide +kernel) ⟨Nat.le_of_ble_eq_true rfl, Nat.le_of_ble_eq_true rfl⟩) hN hK hP hD [0, 1, 2, 3, 4, 5, 6] rfl (by decide) rfl rfl rfl rfl hl.1 rfl (Nat.le_of_ble_eq_true rfl) dX5_mean_18 ⟨Nat.le_of_ble_eq_true rfl, Nat.le_of_ble_eq_true rfl⟩) hP hD hS hA [0, 1, 2, 3, 4, 5, 6] [] [0, 1, 2, 3, 4, 5, 6] rfl rfl (by decide) (by decide) rfl (by decide) (fun H locs hP hD hS => ?_)
    refine lv_i2d hx hb dX5_mean_21 ?_
    refine lv_aload_n hx hb dX5_mean_22 rfl (lv_at hl 0 rfl) ?_
    refine va_get (D := D) (ci := 5) (v := .int (nI G)) (C := RX5) (T := TX5) (N := 9) hx hb hts hin5 hown hK hP 0 rfl rfl 5 (by decide) (hts (.fieldLink RX5 39 "FireflyInnModel" "guests" "I") (List.mem_of_getElem? (i := 2) rfl)) (fun _ h9 => h9) rfl dX5_mean_23 ?_
    refine lv_i2d hx hb dX5_mean_26 ?_
    refine lv_ddiv hx hb dX5_mean_27 (dq_div _ (pos_of c9) hG).1 ?_
    subst hQ
    exact en_d (tv := ((FP.ddiv (FP.i2d (F_X5_all ep G 4)) (FP.i2d (nI G))), 0)) hx hb hr hlocks (by rw [F_X5_mean, if_neg c9]) rfl hK (by first | with_reducible exact hP | exact hP) (by first | with_reducible exact hD | exact hD) hS (Nat.le_refl _) (Nat.le_refl _) dX5_mean_28
  · refine lv_dconst0 hx hb dX5_mean_12 ?_
    refine lv_goto (tgt := 28) hx hb dX5_mean_13 (by decide) ?_
    subst hQ
    exact en_d (tv := (FP.dconst0, 0)) hx hb hr hlocks (by rw [F_X5_mean, if_pos c9]) rfl hK (by first | with_reducible exact hP | exact hP) (by first | with_reducible exact hD | exact hD) hS (Nat.le_refl _) (Nat.le_refl _) dX5_mean_28
