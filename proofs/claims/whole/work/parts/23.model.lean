def T_X5_drive_28 (ew : Nat → Int32) (el : Nat → Int32) (R : Nat) (k17 : Nat) : Int32 :=
  if (F_X5_lit ew el R (nI k17)) = 0 then (-1) else (F_X5_aside ew el R (nI k17))
theorem to_in {ew el : Nat → Int32} {R k y : Nat} (hy : y < 5) (hk : k < 10) (h : ¬ T_X5_drive_28 ew el R k = -1) : vp_in (nI (10 * y) + T_X5_drive_28 ew el R k) 50 := by
  unfold T_X5_drive_28 at h ⊢
  split at h
  · exact absurd rfl h
  · rename_i c
    rw [if_neg c]
    obtain ⟨j, hj, e⟩ := aside_rng ew el R hk h
    rw [e, nI_add]
    exact vp_in_nI (by omega) (by omega)
def S_X5_drive_43 (eh : Nat → Int32) (ew : Nat → Int32) (el : Nat → Int32) (eb : Nat → Int32) (R : Nat) (k17 : Nat) (k43 : Nat) (eh_43 : Nat → Int32) : Nat → Int32 :=
  if (T_X5_drive_28 ew el R k17) = (-1) then
    eh_43
  else
    (upd (upd eh_43 ((10 * k43) + k17) ((eh_43 ((10 * k43) + k17)) - (((va_cpy eh eb 0 0 50) ((10 * k43) + k17)) / 2))) (((nI (10 * k43)) + (T_X5_drive_28 ew el R k17)) : Int32).toNatClampNeg (((upd eh_43 ((10 * k43) + k17) ((eh_43 ((10 * k43) + k17)) - (((va_cpy eh eb 0 0 50) ((10 * k43) + k17)) / 2))) (((nI (10 * k43)) + (T_X5_drive_28 ew el R k17)) : Int32).toNatClampNeg) + (((va_cpy eh eb 0 0 50) ((10 * k43) + k17)) / 2)))
def I_X5_drive_43 (eh : Nat → Int32) (ew : Nat → Int32) (el : Nat → Int32) (eb : Nat → Int32) (R : Nat) (k17 : Nat) (eh_17 : Nat → Int32) : Nat → Int32 :=
  it (fun (k : Nat) (v : Nat → Int32) => S_X5_drive_43 eh ew el eb R k17 k v) 5 0 eh_17
def S_X5_drive_17 (eh : Nat → Int32) (ew : Nat → Int32) (el : Nat → Int32) (eb : Nat → Int32) (R : Nat) (k17 : Nat) (eh_17 : Nat → Int32) : Nat → Int32 :=
  (I_X5_drive_43 eh ew el eb R k17 eh_17)
def I_X5_drive_17 (eh : Nat → Int32) (ew : Nat → Int32) (el : Nat → Int32) (eb : Nat → Int32) (R : Nat) : Nat → Int32 :=
  it (fun (k : Nat) (v : Nat → Int32) => S_X5_drive_17 eh ew el eb R k v) 10 0 eh
def S_X5_drive_114 (k114 : Nat) (eh_114 : Nat → Int32) : Nat → Int32 :=
  (upd eh_114 k114 (mn 40 (eh_114 k114)))
def I_X5_drive_114 (eh : Nat → Int32) (ew : Nat → Int32) (el : Nat → Int32) (eb : Nat → Int32) (R : Nat) : Nat → Int32 :=
  it (fun (k : Nat) (v : Nat → Int32) => S_X5_drive_114 k v) 50 0 (I_X5_drive_17 eh ew el eb R)
def F_X5_drive (eh : Nat → Int32) (ew : Nat → Int32) (el : Nat → Int32) (eb : Nat → Int32) (R : Nat) : (Nat → Int32) × (Nat → Int32) :=
  ((I_X5_drive_114 eh ew el eb R), (va_cpy eh eb 0 0 50))
set_option maxHeartbeats 4000000 in
set_option maxRecDepth 100000 in
theorem k_X5_drive (l : Launch) (D : va_G) (cy : Nat → ClassId) (sz : Nat) (mx mh mw ml mp mq mb : Nat) (th : Int32) (eh : Nat → Int32) (ew : Nat → Int32) (el : Nat → Int32) (ep : Nat → Int32) (en : Nat → Int32) (eb : Nat → Int32) (R : Nat) (G : Nat) (hR : R ≤ 6) (hG : G ≤ 12) : MTa l D cy yX5_drive wsX5_drive 3 0 0 67 [(mx, .inr (5, [.int th, .ref mh, .int (nI R), .ref mw, .ref ml, .int (nI G), .ref mp, .ref mq, .ref mb])), (mh, .inl (cy 0, 50, .inl eh)), (mw, .inl (cy 0, 6, .inl ew)), (ml, .inl (cy 0, 6, .inl el)), (mp, .inl (cy 0, 72, .inl ep)), (mq, .inl (cy 0, 2, .inl en)), (mb, .inl (cy 0, 50, .inl eb))] sz [.ref mx] (fun A => QvT D cy (fun (t : (Nat → Int32) × (Nat → Int32)) => [(mx, .inr (5, [.int th, .ref mh, .int (nI R), .ref mw, .ref ml, .int (nI G), .ref mp, .ref mq, .ref mb])), (mh, .inl (cy 0, 50, .inl t.1)), (mw, .inl (cy 0, 6, .inl ew)), (ml, .inl (cy 0, 6, .inl el)), (mp, .inl (cy 0, 72, .inl ep)), (mq, .inl (cy 0, 2, .inl en)), (mb, .inl (cy 0, 50, .inl t.2))]) (F_X5_drive eh ew el eb R) A) := by
  refine ofWT (cc := cX5_drive) (maxL := 5) (ret := none) (own := RX5) (by decide) rfl (Nat.le_of_ble_eq_true rfl) rfl ?_
  intro p e s m args below meth c A ls hx hb hr hml hts hown hlocks hin hN hK hP hD hA hl
  have hS : va_S A s.heap s.heap [] := va_S.rf
  have hl : lv_has ls 5 [(0, .ref mx)] := hl
  have hin5 : ∀ w ∈ u_ws RX5 TX5 9, w ∈ wsX5_drive := (fun w h => List.mem_cons_of_mem _ (List.mem_append_right _ h))
  generalize hQ : MQ below ((fun A => QvT D cy (fun (t : (Nat → Int32) × (Nat → Int32)) => [(mx, .inr (5, [.int th, .ref mh, .int (nI R), .ref mw, .ref ml, .int (nI G), .ref mp, .ref mq, .ref mb])), (mh, .inl (cy 0, 50, .inl t.1)), (mw, .inl (cy 0, 6, .inl ew)), (ml, .inl (cy 0, 6, .inl el)), (mp, .inl (cy 0, 72, .inl ep)), (mq, .inl (cy 0, 2, .inl en)), (mb, .inl (cy 0, 50, .inl t.2))]) (F_X5_drive eh ew el eb R) A) A) args s 0 0 A = Q
  refine lv_aload_n hx hb dX5_drive_0 rfl (lv_at hl 0 rfl) ?_
  refine va_get (D := D) (ci := 5) (v := .ref mh) (C := RX5) (T := TX5) (N := 9) hx hb hts hin5 hown hK hP 0 rfl rfl 1 (by decide) (hts (.fieldLink RX5 9 "FireflyInnModel" "hedge" "[I") (List.mem_of_getElem? (i := 1) rfl)) (fun _ h9 => h9) rfl dX5_drive_1 ?_
  refine lv_iconst (v := 0) hx hb dX5_drive_4 (by decide) ?_
  refine lv_aload_n hx hb dX5_drive_5 rfl (lv_at hl 0 rfl) ?_
  refine va_get (D := D) (ci := 5) (v := .ref mb) (C := RX5) (T := TX5) (N := 9) hx hb hts hin5 hown hK hP 0 rfl rfl 8 (by decide) (hts (.fieldLink RX5 25 "FireflyInnModel" "before" "[I") (List.mem_of_getElem? (i := 2) rfl)) (fun _ h9 => h9) rfl dX5_drive_6 ?_
  refine lv_iconst (v := 0) hx hb dX5_drive_9 (by decide) ?_
  refine lv_bipush (v := 50) hx hb dX5_drive_10 (by decide) ?_
  refine cpy_n (sp := 0) (dp := 0) (n := 50) (rest := []) hx hb (hml.trans hl.1.symm) hown (hts (.methodLink RX5 72 arraycopyName) (List.mem_of_getElem? (i := 3) rfl)) (hts (.native arraycopyName) (List.mem_of_getElem? (i := 4) rfl)) (hts (.static arraycopyName) (List.mem_of_getElem? (i := 5) rfl)) (hts (.initialized "java/lang/System") (List.mem_of_getElem? (i := 6) rfl)) hK hP hD hS 1 6 rfl rfl (by omega) (by omega) (by omega) (Nat.le_of_ble_eq_true rfl) (Nat.le_of_ble_eq_true rfl) dX5_drive_12 (fun H locs hP hD hS => ?_)
  have hP : va_P D vwCl [(mx, .inr (5, [.int th, .ref mh, .int (nI R), .ref mw, .ref ml, .int (nI G), .ref mp, .ref mq, .ref mb])), (mh, .inl (cy 0, 50, .inl eh)), (mw, .inl (cy 0, 6, .inl ew)), (ml, .inl (cy 0, 6, .inl el)), (mp, .inl (cy 0, 72, .inl ep)), (mq, .inl (cy 0, 2, .inl en)), (mb, .inl (cy 0, 50, .inl (va_cpy eh eb 0 0 50)))] H := hP
  have hD : va_D A [(mx, .inr (5, [.int th, .ref mh, .int (nI R), .ref mw, .ref ml, .int (nI G), .ref mp, .ref mq, .ref mb])), (mh, .inl (cy 0, 50, .inl eh)), (mw, .inl (cy 0, 6, .inl ew)), (ml, .inl (cy 0, 6, .inl el)), (mp, .inl (cy 0, 72, .inl ep)), (mq, .inl (cy 0, 2, .inl en)), (mb, .inl (cy 0, 50, .inl (va_cpy eh eb 0 0 50)))] := hD
  refine lv_iconst (v := 0) hx hb dX5_drive_15 (by decide) ?_
  refine lv_istore_n (lv' := [(1, .int 0), (0, .ref mx)]) hx hb dX5_drive_16 rfl hl (by decide) rfl (fun ls hl => ?_)
  obtain ⟨fin17, hfin17⟩ : ∃ z, (I_X5_drive_17 eh ew el eb R) = z := ⟨_, rfl⟩
  suffices kk17 : ∀ (H : Heap) (locs : List Loc) (ls : Array Slot), va_P D vwCl [(mx, .inr (5, [.int th, .ref mh, .int (nI R), .ref mw, .ref ml, .int (nI G), .ref mp, .ref mq, .ref mb])), (mh, .inl (cy 0, 50, .inl fin17)), (mw, .inl (cy 0, 6, .inl ew)), (ml, .inl (cy 0, 6, .inl el)), (mp, .inl (cy 0, 72, .inl ep)), (mq, .inl (cy 0, 2, .inl en)), (mb, .inl (cy 0, 50, .inl (va_cpy eh eb 0 0 50)))] H → va_D A [(mx, .inr (5, [.int th, .ref mh, .int (nI R), .ref mw, .ref ml, .int (nI G), .ref mp, .ref mq, .ref mb])), (mh, .inl (cy 0, 50, .inl fin17)), (mw, .inl (cy 0, 6, .inl ew)), (ml, .inl (cy 0, 6, .inl el)), (mp, .inl (cy 0, 72, .inl ep)), (mq, .inl (cy 0, 2, .inl en)), (mb, .inl (cy 0, 50, .inl (va_cpy eh eb 0 0 50)))] → va_S A s.heap H locs → lv_has ls 5 [(1, .int (nI 10)), (0, .ref mx)] → W p l e (RM 3 0 0 67) s m args below meth c H locs 0 0 Q (F0 m 112 ls []) by
    have lp17 : ∀ (n17 k17 : Nat) (eh_17 : Nat → Int32) (H : Heap) (locs : List Loc) (ls : Array Slot), k17 + n17 = 10 → it (fun (k : Nat) (v : Nat → Int32) => S_X5_drive_17 eh ew el eb R k v) n17 k17 eh_17 = fin17 → va_P D vwCl [(mx, .inr (5, [.int th, .ref mh, .int (nI R), .ref mw, .ref ml, .int (nI G), .ref mp, .ref mq, .ref mb])), (mh, .inl (cy 0, 50, .inl eh_17)), (mw, .inl (cy 0, 6, .inl ew)), (ml, .inl (cy 0, 6, .inl el)), (mp, .inl (cy 0, 72, .inl ep)), (mq, .inl (cy 0, 2, .inl en)), (mb, .inl (cy 0, 50, .inl (va_cpy eh eb 0 0 50)))] H → va_D A [(mx, .inr (5, [.int th, .ref mh, .int (nI R), .ref mw, .ref ml, .int (nI G), .ref mp, .ref mq, .ref mb])), (mh, .inl (cy 0, 50, .inl eh_17)), (mw, .inl (cy 0, 6, .inl ew)), (ml, .inl (cy 0, 6, .inl el)), (mp, .inl (cy 0, 72, .inl ep)), (mq, .inl (cy 0, 2, .inl en)), (mb, .inl (cy 0, 50, .inl (va_cpy eh eb 0 0 50)))] → va_S A s.heap H locs → lv_has ls 5 [(1, .int (nI k17)), (0, .ref mx)] → W p l e (RM 3 0 0 67) s m args below meth c H locs 0 0 Q (F0 m 17 ls []) := by
      intro n17
      induction n17 with
      | zero =>
        intro k17 eh_17 H locs ls hkn17 hE17 hP hD hS hl
        have hk17 : 10 = k17 := by omega
        subst hk17
        have hE17 : eh_17 = fin17 := hE17
        subst hE17
        refine lv_iload_n hx hb dX5_drive_17 rfl (lv_at hl 0 rfl) ?_
        refine lv_bipush (v := 10) hx hb dX5_drive_18 (by decide) ?_
        refine lv_icmp_ge (tgt := 112) hx hb dX5_drive_20 (by decide) (fun c20 => ?_) (fun c20 => ?_)
        rotate_left
        · exact absurd (nI_le (a := 10) (b := 10) (Nat.le_refl _) (by decide)) c20
        exact kk17 _ _ _ hP hD hS (lv_sub hl [0, 1] rfl)
      | succ n17 ih17 =>
        intro k17 eh_17 H locs ls hkn17 hE17 hP hD hS hl
        have hlt17 : k17 < 10 := by omega
        refine lv_iload_n hx hb dX5_drive_17 rfl (lv_at hl 0 rfl) ?_
        refine lv_bipush (v := 10) hx hb dX5_drive_18 (by decide) ?_
        refine lv_icmp_ge (tgt := 112) hx hb dX5_drive_20 (by decide) (fun c20 => ?_) (fun c20 => ?_)
        · exact absurd c20 (nI_ge (a := k17) (b := 10) hlt17 (by decide))
        refine lv_aload_n hx hb dX5_drive_23 rfl (lv_at hl 1 rfl) ?_
        refine lv_iload_n hx hb dX5_drive_24 rfl (lv_at hl 0 rfl) ?_
        refine cl_i (wr := []) (w2 := [(mx, .inr (5, [.int th, .ref mh, .int (nI R), .ref mw, .ref ml, .int (nI G), .ref mp, .ref mq, .ref mb])), (mh, .inl (cy 0, 50, .inl eh_17)), (mw, .inl (cy 0, 6, .inl ew)), (ml, .inl (cy 0, 6, .inl el)), (mp, .inl (cy 0, 72, .inl ep)), (mq, .inl (cy 0, 2, .inl en)), (mb, .inl (cy 0, 50, .inl (va_cpy eh eb 0 0 50)))]) (rn_V (As := [.int (nI k17)]) (rest := []) (ci := 5) (q0 := 0) ⟨hx, hb, hml, hown, hts⟩ (k_X5_lit l D cy _ mx mh mw ml mp mq mb th eh_17 ew el ep en (va_cpy eh eb 0 0 50) R G (nI k17) hR hG) (cwV 1 hts gX5_drive_X5_lit rfl rfl rfl (by decide +kernel) ⟨Nat.le_of_ble_eq_true rfl, Nat.le_of_ble_eq_true rfl⟩) hN hK hP hD [0, 1, 2, 3, 4, 5, 6] rfl (by decide) rfl rfl rfl rfl hl.1 rfl (Nat.le_of_ble_eq_true rfl) dX5_drive_25 ⟨Nat.le_of_ble_eq_true rfl, Nat.le_of_ble_eq_true rfl⟩) hP hD hS hA [0, 1, 2, 3, 4, 5, 6] [] [0, 1, 2, 3, 4, 5, 6] rfl rfl (by decide) (by decide) rfl (by decide) (fun H locs hP hD hS => ?_)
        suffices kj28 : ∀ (z : Int32) (H : Heap) (locs : List Loc), z = (T_X5_drive_28 ew el R k17) → va_P D vwCl [(mx, .inr (5, [.int th, .ref mh, .int (nI R), .ref mw, .ref ml, .int (nI G), .ref mp, .ref mq, .ref mb])), (mh, .inl (cy 0, 50, .inl eh_17)), (mw, .inl (cy 0, 6, .inl ew)), (ml, .inl (cy 0, 6, .inl el)), (mp, .inl (cy 0, 72, .inl ep)), (mq, .inl (cy 0, 2, .inl en)), (mb, .inl (cy 0, 50, .inl (va_cpy eh eb 0 0 50)))] H → va_D A [(mx, .inr (5, [.int th, .ref mh, .int (nI R), .ref mw, .ref ml, .int (nI G), .ref mp, .ref mq, .ref mb])), (mh, .inl (cy 0, 50, .inl eh_17)), (mw, .inl (cy 0, 6, .inl ew)), (ml, .inl (cy 0, 6, .inl el)), (mp, .inl (cy 0, 72, .inl ep)), (mq, .inl (cy 0, 2, .inl en)), (mb, .inl (cy 0, 50, .inl (va_cpy eh eb 0 0 50)))] → va_S A s.heap H locs → W p l e (RM 3 0 0 67) s m args below meth c H locs 0 0 Q (F0 m 40 ls (.int z :: [])) by
          refine lv_if_eq (tgt := 39) hx hb dX5_drive_28 (by decide) (fun c28 => ?_) (fun c28 => ?_)
          · refine lv_iconst (v := (-1)) hx hb dX5_drive_39 (by decide) ?_
            exact kj28 _ _ _ (show (-1) = _ from (if_pos c28).symm) hP hD hS
          · refine lv_aload_n hx hb dX5_drive_31 rfl (lv_at hl 1 rfl) ?_
            refine lv_iload_n hx hb dX5_drive_32 rfl (lv_at hl 0 rfl) ?_
            refine cl_i (wr := []) (w2 := [(mx, .inr (5, [.int th, .ref mh, .int (nI R), .ref mw, .ref ml, .int (nI G), .ref mp, .ref mq, .ref mb])), (mh, .inl (cy 0, 50, .inl eh_17)), (mw, .inl (cy 0, 6, .inl ew)), (ml, .inl (cy 0, 6, .inl el)), (mp, .inl (cy 0, 72, .inl ep)), (mq, .inl (cy 0, 2, .inl en)), (mb, .inl (cy 0, 50, .inl (va_cpy eh eb 0 0 50)))]) (rn_V (As := [.int (nI k17)]) (rest := []) (ci := 5) (q0 := 0) ⟨hx, hb, hml, hown, hts⟩ (k_X5_aside l D cy _ mx mh mw ml mp mq mb th eh_17 ew el ep en (va_cpy eh eb 0 0 50) R G (nI k17) hR hG) (cwV 1 hts gX5_drive_X5_aside rfl rfl rfl (by decide +kernel) ⟨Nat.le_of_ble_eq_true rfl, Nat.le_of_ble_eq_true rfl⟩) hN hK hP hD [0, 1, 2, 3, 4, 5, 6] rfl (by decide) rfl rfl rfl rfl hl.1 rfl (Nat.le_of_ble_eq_true rfl) dX5_drive_33 ⟨Nat.le_of_ble_eq_true rfl, Nat.le_of_ble_eq_true rfl⟩) hP hD hS hA [0, 1, 2, 3, 4, 5, 6] [] [0, 1, 2, 3, 4, 5, 6] rfl rfl (by decide) (by decide) rfl (by decide) (fun H locs hP hD hS => ?_)
            refine lv_goto (tgt := 40) hx hb dX5_drive_36 (by decide) ?_
            exact kj28 _ _ _ (show (F_X5_aside ew el R (nI k17)) = _ from (if_neg c28).symm) hP hD hS
        intro z H locs hz hP hD hS
        subst hz
        refine lv_istore_n (lv' := [(2, .int (T_X5_drive_28 ew el R k17)), (1, .int (nI k17)), (0, .ref mx)]) hx hb dX5_drive_40 rfl hl (by decide) rfl (fun ls hl => ?_)
        refine lv_iconst (v := 0) hx hb dX5_drive_41 (by decide) ?_
        refine lv_istore_n (lv' := [(3, .int 0), (2, .int (T_X5_drive_28 ew el R k17)), (1, .int (nI k17)), (0, .ref mx)]) hx hb dX5_drive_42 rfl hl (by decide) rfl (fun ls hl => ?_)
        obtain ⟨fin43, hfin43⟩ : ∃ z, (I_X5_drive_43 eh ew el eb R k17 eh_17) = z := ⟨_, rfl⟩
        suffices kk43 : ∀ (H : Heap) (locs : List Loc) (ls : Array Slot), va_P D vwCl [(mx, .inr (5, [.int th, .ref mh, .int (nI R), .ref mw, .ref ml, .int (nI G), .ref mp, .ref mq, .ref mb])), (mh, .inl (cy 0, 50, .inl fin43)), (mw, .inl (cy 0, 6, .inl ew)), (ml, .inl (cy 0, 6, .inl el)), (mp, .inl (cy 0, 72, .inl ep)), (mq, .inl (cy 0, 2, .inl en)), (mb, .inl (cy 0, 50, .inl (va_cpy eh eb 0 0 50)))] H → va_D A [(mx, .inr (5, [.int th, .ref mh, .int (nI R), .ref mw, .ref ml, .int (nI G), .ref mp, .ref mq, .ref mb])), (mh, .inl (cy 0, 50, .inl fin43)), (mw, .inl (cy 0, 6, .inl ew)), (ml, .inl (cy 0, 6, .inl el)), (mp, .inl (cy 0, 72, .inl ep)), (mq, .inl (cy 0, 2, .inl en)), (mb, .inl (cy 0, 50, .inl (va_cpy eh eb 0 0 50)))] → va_S A s.heap H locs → lv_has ls 5 [(2, .int (T_X5_drive_28 ew el R k17)), (1, .int (nI k17)), (0, .ref mx)] → W p l e (RM 3 0 0 67) s m args below meth c H locs 0 0 Q (F0 m 106 ls []) by
          have lp43 : ∀ (n43 k43 : Nat) (eh_43 : Nat → Int32) (H : Heap) (locs : List Loc) (ls : Array Slot), k43 + n43 = 5 → it (fun (k : Nat) (v : Nat → Int32) => S_X5_drive_43 eh ew el eb R k17 k v) n43 k43 eh_43 = fin43 → va_P D vwCl [(mx, .inr (5, [.int th, .ref mh, .int (nI R), .ref mw, .ref ml, .int (nI G), .ref mp, .ref mq, .ref mb])), (mh, .inl (cy 0, 50, .inl eh_43)), (mw, .inl (cy 0, 6, .inl ew)), (ml, .inl (cy 0, 6, .inl el)), (mp, .inl (cy 0, 72, .inl ep)), (mq, .inl (cy 0, 2, .inl en)), (mb, .inl (cy 0, 50, .inl (va_cpy eh eb 0 0 50)))] H → va_D A [(mx, .inr (5, [.int th, .ref mh, .int (nI R), .ref mw, .ref ml, .int (nI G), .ref mp, .ref mq, .ref mb])), (mh, .inl (cy 0, 50, .inl eh_43)), (mw, .inl (cy 0, 6, .inl ew)), (ml, .inl (cy 0, 6, .inl el)), (mp, .inl (cy 0, 72, .inl ep)), (mq, .inl (cy 0, 2, .inl en)), (mb, .inl (cy 0, 50, .inl (va_cpy eh eb 0 0 50)))] → va_S A s.heap H locs → lv_has ls 5 [(3, .int (nI k43)), (2, .int (T_X5_drive_28 ew el R k17)), (1, .int (nI k17)), (0, .ref mx)] → W p l e (RM 3 0 0 67) s m args below meth c H locs 0 0 Q (F0 m 43 ls []) := by
            intro n43
            induction n43 with
            | zero =>
              intro k43 eh_43 H locs ls hkn43 hE43 hP hD hS hl
              have hk43 : 5 = k43 := by omega
              subst hk43
              have hE43 : eh_43 = fin43 := hE43
              subst hE43
              refine lv_iload_n hx hb dX5_drive_43 rfl (lv_at hl 0 rfl) ?_
              refine lv_iconst (v := 5) hx hb dX5_drive_44 (by decide) ?_
              refine lv_icmp_ge (tgt := 106) hx hb dX5_drive_45 (by decide) (fun c45 => ?_) (fun c45 => ?_)
              rotate_left
              · exact absurd (nI_le (a := 5) (b := 5) (Nat.le_refl _) (by decide)) c45
              exact kk43 _ _ _ hP hD hS (lv_sub hl [1, 2, 3] rfl)
            | succ n43 ih43 =>
              intro k43 eh_43 H locs ls hkn43 hE43 hP hD hS hl
              have hlt43 : k43 < 5 := by omega
              refine lv_iload_n hx hb dX5_drive_43 rfl (lv_at hl 0 rfl) ?_
              refine lv_iconst (v := 5) hx hb dX5_drive_44 (by decide) ?_
              refine lv_icmp_ge (tgt := 106) hx hb dX5_drive_45 (by decide) (fun c45 => ?_) (fun c45 => ?_)
              · exact absurd c45 (nI_ge (a := k43) (b := 5) hlt43 (by decide))
              refine lv_iload_n hx hb dX5_drive_48 rfl (lv_at hl 1 rfl) ?_
              refine lv_iconst (v := (-1)) hx hb dX5_drive_49 (by decide) ?_
              refine lv_icmp_eq (tgt := 106) hx hb dX5_drive_50 (by decide) (fun c50 => ?_) (fun c50 => ?_)
              · have hq : eh_43 = fin43 := (it_fix (f := (fun (k : Nat) (v : Nat → Int32) => S_X5_drive_43 eh ew el eb R k17 k v)) (v := eh_43) (fun k => show S_X5_drive_43 eh ew el eb R k17 k eh_43 = eh_43 from by rw [S_X5_drive_43, if_pos c50]) _ _).symm.trans hE43
                subst hq
                exact kk43 _ _ _ hP hD hS (lv_sub hl [1, 2, 3] rfl)
              · refine lv_aload_n hx hb dX5_drive_53 rfl (lv_at hl 3 rfl) ?_
                refine va_get (D := D) (ci := 5) (v := .ref mb) (C := RX5) (T := TX5) (N := 9) hx hb hts hin5 hown hK hP 0 rfl rfl 8 (by decide) (hts (.fieldLink RX5 25 "FireflyInnModel" "before" "[I") (List.mem_of_getElem? (i := 2) rfl)) (fun _ h9 => h9) rfl dX5_drive_54 ?_
                refine lv_bipush (v := 10) hx hb dX5_drive_57 (by decide) ?_
                refine lv_iload_n hx hb dX5_drive_59 rfl (lv_at hl 0 rfl) ?_
                refine lv_imul hx hb dX5_drive_60 ?_
                refine lv_iv (y := (nI (10 * k43))) (pk_mul 10 k43) ?_
                refine lv_iload_n hx hb dX5_drive_61 rfl (lv_at hl 2 rfl) ?_
                refine lv_iadd hx hb dX5_drive_62 ?_
                refine lv_iv (y := (nI ((10 * k43) + k17))) (nI_add (10 * k43) k17) ?_
                refine ial_n (k := (10 * k43) + k17) hx hb hK hP 6 rfl (by omega) (by decide) dX5_drive_63 ?_
                refine lv_iconst (v := 2) hx hb dX5_drive_64 (by decide) ?_
                refine lv_idiv hx hb dX5_drive_65 (by decide) ?_
                refine lv_istore (lv' := [(4, .int (((va_cpy eh eb 0 0 50) ((10 * k43) + k17)) / 2)), (3, .int (nI k43)), (2, .int (T_X5_drive_28 ew el R k17)), (1, .int (nI k17)), (0, .ref mx)]) hx hb dX5_drive_66 hl (by decide) rfl (fun ls hl => ?_)
                refine lv_aload_n hx hb dX5_drive_68 rfl (lv_at hl 4 rfl) ?_
                refine va_get (D := D) (ci := 5) (v := .ref mh) (C := RX5) (T := TX5) (N := 9) hx hb hts hin5 hown hK hP 0 rfl rfl 1 (by decide) (hts (.fieldLink RX5 9 "FireflyInnModel" "hedge" "[I") (List.mem_of_getElem? (i := 1) rfl)) (fun _ h9 => h9) rfl dX5_drive_69 ?_
                refine lv_bipush (v := 10) hx hb dX5_drive_72 (by decide) ?_
                refine lv_iload_n hx hb dX5_drive_74 rfl (lv_at hl 1 rfl) ?_
                refine lv_imul hx hb dX5_drive_75 ?_
                refine lv_iv (y := (nI (10 * k43))) (pk_mul 10 k43) ?_
                refine lv_iload_n hx hb dX5_drive_76 rfl (lv_at hl 3 rfl) ?_
                refine lv_iadd hx hb dX5_drive_77 ?_
                refine lv_iv (y := (nI ((10 * k43) + k17))) (nI_add (10 * k43) k17) ?_
                refine lv_dup2_11 hx hb dX5_drive_78 rfl rfl ?_
                refine ial_n (k := (10 * k43) + k17) hx hb hK hP 1 rfl (by omega) (by decide) dX5_drive_79 ?_
                refine lv_iload hx hb dX5_drive_80 (lv_at hl 0 rfl) ?_
                refine lv_isub hx hb dX5_drive_82 ?_
                refine ias_n (k := (10 * k43) + k17) hx hb hK hP hD hS 1 rfl (by omega) (by decide) dX5_drive_83 (fun H locs hP hD hS => ?_)
                have hP : va_P D vwCl [(mx, .inr (5, [.int th, .ref mh, .int (nI R), .ref mw, .ref ml, .int (nI G), .ref mp, .ref mq, .ref mb])), (mh, .inl (cy 0, 50, .inl (upd eh_43 ((10 * k43) + k17) ((eh_43 ((10 * k43) + k17)) - (((va_cpy eh eb 0 0 50) ((10 * k43) + k17)) / 2))))), (mw, .inl (cy 0, 6, .inl ew)), (ml, .inl (cy 0, 6, .inl el)), (mp, .inl (cy 0, 72, .inl ep)), (mq, .inl (cy 0, 2, .inl en)), (mb, .inl (cy 0, 50, .inl (va_cpy eh eb 0 0 50)))] H := hP
                have hD : va_D A [(mx, .inr (5, [.int th, .ref mh, .int (nI R), .ref mw, .ref ml, .int (nI G), .ref mp, .ref mq, .ref mb])), (mh, .inl (cy 0, 50, .inl (upd eh_43 ((10 * k43) + k17) ((eh_43 ((10 * k43) + k17)) - (((va_cpy eh eb 0 0 50) ((10 * k43) + k17)) / 2))))), (mw, .inl (cy 0, 6, .inl ew)), (ml, .inl (cy 0, 6, .inl el)), (mp, .inl (cy 0, 72, .inl ep)), (mq, .inl (cy 0, 2, .inl en)), (mb, .inl (cy 0, 50, .inl (va_cpy eh eb 0 0 50)))] := hD
                refine lv_aload_n hx hb dX5_drive_84 rfl (lv_at hl 4 rfl) ?_
                refine va_get (D := D) (ci := 5) (v := .ref mh) (C := RX5) (T := TX5) (N := 9) hx hb hts hin5 hown hK hP 0 rfl rfl 1 (by decide) (hts (.fieldLink RX5 9 "FireflyInnModel" "hedge" "[I") (List.mem_of_getElem? (i := 1) rfl)) (fun _ h9 => h9) rfl dX5_drive_85 ?_
                refine lv_bipush (v := 10) hx hb dX5_drive_88 (by decide) ?_
                refine lv_iload_n hx hb dX5_drive_90 rfl (lv_at hl 1 rfl) ?_
                refine lv_imul hx hb dX5_drive_91 ?_
                refine lv_iv (y := (nI (10 * k43))) (pk_mul 10 k43) ?_
                refine lv_iload_n hx hb dX5_drive_92 rfl (lv_at hl 2 rfl) ?_
                refine lv_iadd hx hb dX5_drive_93 ?_
                refine lv_dup2_11 hx hb dX5_drive_94 rfl rfl ?_
                refine va_iald hx hb hK hP 1 0 rfl rfl (to_in hlt43 hlt17 c50) dX5_drive_95 ?_
                refine lv_iload hx hb dX5_drive_96 (lv_at hl 0 rfl) ?_
                refine lv_iadd hx hb dX5_drive_98 ?_
                refine va_iast hx hb hK hP hD hS 1 0 rfl rfl (to_in hlt43 hlt17 c50) dX5_drive_99 (fun H locs hP hD hS => ?_)
                have hP : va_P D vwCl [(mx, .inr (5, [.int th, .ref mh, .int (nI R), .ref mw, .ref ml, .int (nI G), .ref mp, .ref mq, .ref mb])), (mh, .inl (cy 0, 50, .inl (upd (upd eh_43 ((10 * k43) + k17) ((eh_43 ((10 * k43) + k17)) - (((va_cpy eh eb 0 0 50) ((10 * k43) + k17)) / 2))) (((nI (10 * k43)) + (T_X5_drive_28 ew el R k17)) : Int32).toNatClampNeg (((upd eh_43 ((10 * k43) + k17) ((eh_43 ((10 * k43) + k17)) - (((va_cpy eh eb 0 0 50) ((10 * k43) + k17)) / 2))) (((nI (10 * k43)) + (T_X5_drive_28 ew el R k17)) : Int32).toNatClampNeg) + (((va_cpy eh eb 0 0 50) ((10 * k43) + k17)) / 2))))), (mw, .inl (cy 0, 6, .inl ew)), (ml, .inl (cy 0, 6, .inl el)), (mp, .inl (cy 0, 72, .inl ep)), (mq, .inl (cy 0, 2, .inl en)), (mb, .inl (cy 0, 50, .inl (va_cpy eh eb 0 0 50)))] H := hP
                have hD : va_D A [(mx, .inr (5, [.int th, .ref mh, .int (nI R), .ref mw, .ref ml, .int (nI G), .ref mp, .ref mq, .ref mb])), (mh, .inl (cy 0, 50, .inl (upd (upd eh_43 ((10 * k43) + k17) ((eh_43 ((10 * k43) + k17)) - (((va_cpy eh eb 0 0 50) ((10 * k43) + k17)) / 2))) (((nI (10 * k43)) + (T_X5_drive_28 ew el R k17)) : Int32).toNatClampNeg (((upd eh_43 ((10 * k43) + k17) ((eh_43 ((10 * k43) + k17)) - (((va_cpy eh eb 0 0 50) ((10 * k43) + k17)) / 2))) (((nI (10 * k43)) + (T_X5_drive_28 ew el R k17)) : Int32).toNatClampNeg) + (((va_cpy eh eb 0 0 50) ((10 * k43) + k17)) / 2))))), (mw, .inl (cy 0, 6, .inl ew)), (ml, .inl (cy 0, 6, .inl el)), (mp, .inl (cy 0, 72, .inl ep)), (mq, .inl (cy 0, 2, .inl en)), (mb, .inl (cy 0, 50, .inl (va_cpy eh eb 0 0 50)))] := hD
                refine lv_iinc (v := (nI (k43 + 1))) (lv' := [(3, .int (nI (k43 + 1))), (4, .int (((va_cpy eh eb 0 0 50) ((10 * k43) + k17)) / 2)), (2, .int (T_X5_drive_28 ew el R k17)), (1, .int (nI k17)), (0, .ref mx)]) hx hb dX5_drive_100 hl (k := 1) rfl (nI_1 k43) (by decide) rfl (fun ls hl => ?_)
                refine lv_goto (tgt := 43) hx hb dX5_drive_103 (by decide) ?_
                exact ih43 (k43 + 1) (upd (upd eh_43 ((10 * k43) + k17) ((eh_43 ((10 * k43) + k17)) - (((va_cpy eh eb 0 0 50) ((10 * k43) + k17)) / 2))) (((nI (10 * k43)) + (T_X5_drive_28 ew el R k17)) : Int32).toNatClampNeg (((upd eh_43 ((10 * k43) + k17) ((eh_43 ((10 * k43) + k17)) - (((va_cpy eh eb 0 0 50) ((10 * k43) + k17)) / 2))) (((nI (10 * k43)) + (T_X5_drive_28 ew el R k17)) : Int32).toNatClampNeg) + (((va_cpy eh eb 0 0 50) ((10 * k43) + k17)) / 2))) _ _ _ (by omega) (it_step (f := (fun (k : Nat) (v : Nat → Int32) => S_X5_drive_43 eh ew el eb R k17 k v)) (v := eh_43) (show S_X5_drive_43 eh ew el eb R k17 k43 eh_43 = (upd (upd eh_43 ((10 * k43) + k17) ((eh_43 ((10 * k43) + k17)) - (((va_cpy eh eb 0 0 50) ((10 * k43) + k17)) / 2))) (((nI (10 * k43)) + (T_X5_drive_28 ew el R k17)) : Int32).toNatClampNeg (((upd eh_43 ((10 * k43) + k17) ((eh_43 ((10 * k43) + k17)) - (((va_cpy eh eb 0 0 50) ((10 * k43) + k17)) / 2))) (((nI (10 * k43)) + (T_X5_drive_28 ew el R k17)) : Int32).toNatClampNeg) + (((va_cpy eh eb 0 0 50) ((10 * k43) + k17)) / 2))) from by rw [S_X5_drive_43, if_neg c50]) hE43) hP hD hS (lv_sub hl [0, 2, 3, 4] rfl)
          exact lp43 5 0 eh_17 _ _ _ (by omega) hfin43 hP hD hS (lv_sub hl [0, 1, 2, 3] rfl)
        intro H locs ls hP hD hS hl
        subst hfin43
        refine lv_iinc (v := (nI (k17 + 1))) (lv' := [(1, .int (nI (k17 + 1))), (2, .int (T_X5_drive_28 ew el R k17)), (0, .ref mx)]) hx hb dX5_drive_106 hl (k := 1) rfl (nI_1 k17) (by decide) rfl (fun ls hl => ?_)
        refine lv_goto (tgt := 17) hx hb dX5_drive_109 (by decide) ?_
        exact ih17 (k17 + 1) (I_X5_drive_43 eh ew el eb R k17 eh_17) _ _ _ (by omega) (it_step (f := (fun (k : Nat) (v : Nat → Int32) => S_X5_drive_17 eh ew el eb R k v)) (v := eh_17) (show S_X5_drive_17 eh ew el eb R k17 eh_17 = (I_X5_drive_43 eh ew el eb R k17 eh_17) from by rw [S_X5_drive_17]) hE17) hP hD hS (lv_sub hl [0, 2] rfl)
    exact lp17 10 0 eh _ _ _ (by omega) hfin17 hP hD hS (lv_sub hl [0, 1] rfl)
  intro H locs ls hP hD hS hl
  subst hfin17
  refine lv_iconst (v := 0) hx hb dX5_drive_112 (by decide) ?_
  refine lv_istore_n (lv' := [(1, .int 0), (0, .ref mx)]) hx hb dX5_drive_113 rfl hl (by decide) rfl (fun ls hl => ?_)
  obtain ⟨fin114, hfin114⟩ : ∃ z, (I_X5_drive_114 eh ew el eb R) = z := ⟨_, rfl⟩
  suffices kk114 : ∀ (H : Heap) (locs : List Loc) (ls : Array Slot), va_P D vwCl [(mx, .inr (5, [.int th, .ref mh, .int (nI R), .ref mw, .ref ml, .int (nI G), .ref mp, .ref mq, .ref mb])), (mh, .inl (cy 0, 50, .inl fin114)), (mw, .inl (cy 0, 6, .inl ew)), (ml, .inl (cy 0, 6, .inl el)), (mp, .inl (cy 0, 72, .inl ep)), (mq, .inl (cy 0, 2, .inl en)), (mb, .inl (cy 0, 50, .inl (va_cpy eh eb 0 0 50)))] H → va_D A [(mx, .inr (5, [.int th, .ref mh, .int (nI R), .ref mw, .ref ml, .int (nI G), .ref mp, .ref mq, .ref mb])), (mh, .inl (cy 0, 50, .inl fin114)), (mw, .inl (cy 0, 6, .inl ew)), (ml, .inl (cy 0, 6, .inl el)), (mp, .inl (cy 0, 72, .inl ep)), (mq, .inl (cy 0, 2, .inl en)), (mb, .inl (cy 0, 50, .inl (va_cpy eh eb 0 0 50)))] → va_S A s.heap H locs → lv_has ls 5 [(1, .int (nI 50)), (0, .ref mx)] → W p l e (RM 3 0 0 67) s m args below meth c H locs 0 0 Q (F0 m 143 ls []) by
    have lp114 : ∀ (n114 k114 : Nat) (eh_114 : Nat → Int32) (H : Heap) (locs : List Loc) (ls : Array Slot), k114 + n114 = 50 → it (fun (k : Nat) (v : Nat → Int32) => S_X5_drive_114 k v) n114 k114 eh_114 = fin114 → va_P D vwCl [(mx, .inr (5, [.int th, .ref mh, .int (nI R), .ref mw, .ref ml, .int (nI G), .ref mp, .ref mq, .ref mb])), (mh, .inl (cy 0, 50, .inl eh_114)), (mw, .inl (cy 0, 6, .inl ew)), (ml, .inl (cy 0, 6, .inl el)), (mp, .inl (cy 0, 72, .inl ep)), (mq, .inl (cy 0, 2, .inl en)), (mb, .inl (cy 0, 50, .inl (va_cpy eh eb 0 0 50)))] H → va_D A [(mx, .inr (5, [.int th, .ref mh, .int (nI R), .ref mw, .ref ml, .int (nI G), .ref mp, .ref mq, .ref mb])), (mh, .inl (cy 0, 50, .inl eh_114)), (mw, .inl (cy 0, 6, .inl ew)), (ml, .inl (cy 0, 6, .inl el)), (mp, .inl (cy 0, 72, .inl ep)), (mq, .inl (cy 0, 2, .inl en)), (mb, .inl (cy 0, 50, .inl (va_cpy eh eb 0 0 50)))] → va_S A s.heap H locs → lv_has ls 5 [(1, .int (nI k114)), (0, .ref mx)] → W p l e (RM 3 0 0 67) s m args below meth c H locs 0 0 Q (F0 m 114 ls []) := by
      intro n114
      induction n114 with
      | zero =>
        intro k114 eh_114 H locs ls hkn114 hE114 hP hD hS hl
        have hk114 : 50 = k114 := by omega
        subst hk114
        have hE114 : eh_114 = fin114 := hE114
        subst hE114
        refine lv_iload_n hx hb dX5_drive_114 rfl (lv_at hl 0 rfl) ?_
        refine lv_bipush (v := 50) hx hb dX5_drive_115 (by decide) ?_
        refine lv_icmp_ge (tgt := 143) hx hb dX5_drive_117 (by decide) (fun c117 => ?_) (fun c117 => ?_)
        rotate_left
        · exact absurd (nI_le (a := 50) (b := 50) (Nat.le_refl _) (by decide)) c117
        exact kk114 _ _ _ hP hD hS (lv_sub hl [0, 1] rfl)
      | succ n114 ih114 =>
        intro k114 eh_114 H locs ls hkn114 hE114 hP hD hS hl
        have hlt114 : k114 < 50 := by omega
        refine lv_iload_n hx hb dX5_drive_114 rfl (lv_at hl 0 rfl) ?_
        refine lv_bipush (v := 50) hx hb dX5_drive_115 (by decide) ?_
        refine lv_icmp_ge (tgt := 143) hx hb dX5_drive_117 (by decide) (fun c117 => ?_) (fun c117 => ?_)
        · exact absurd c117 (nI_ge (a := k114) (b := 50) hlt114 (by decide))
        refine lv_aload_n hx hb dX5_drive_120 rfl (lv_at hl 1 rfl) ?_
        refine va_get (D := D) (ci := 5) (v := .ref mh) (C := RX5) (T := TX5) (N := 9) hx hb hts hin5 hown hK hP 0 rfl rfl 1 (by decide) (hts (.fieldLink RX5 9 "FireflyInnModel" "hedge" "[I") (List.mem_of_getElem? (i := 1) rfl)) (fun _ h9 => h9) rfl dX5_drive_121 ?_
        refine lv_iload_n hx hb dX5_drive_124 rfl (lv_at hl 0 rfl) ?_
        refine lv_bipush (v := 40) hx hb dX5_drive_125 (by decide) ?_
        refine lv_aload_n hx hb dX5_drive_127 rfl (lv_at hl 1 rfl) ?_
        refine va_get (D := D) (ci := 5) (v := .ref mh) (C := RX5) (T := TX5) (N := 9) hx hb hts hin5 hown hK hP 0 rfl rfl 1 (by decide) (hts (.fieldLink RX5 9 "FireflyInnModel" "hedge" "[I") (List.mem_of_getElem? (i := 1) rfl)) (fun _ h9 => h9) rfl dX5_drive_128 ?_
        refine lv_iload_n hx hb dX5_drive_131 rfl (lv_at hl 0 rfl) ?_
        refine ial_n (k := k114) hx hb hK hP 1 rfl (by omega) (by decide) dX5_drive_132 ?_
        refine va_mmin (rest := [.int (nI k114), .ref mh]) hx hb (hml.trans hl.1.symm) hown (hts (.methodLink RX5 101 Lib.Math.min.name) (List.mem_of_getElem? (i := 7) rfl)) (hts (.static Lib.Math.min.name) (List.mem_of_getElem? (i := 8) rfl)) (hts (.initialized "java/lang/Math") (List.mem_of_getElem? (i := 9) rfl)) (hts (.code Lib.Math.min.name Lib.Math.min.code 2 (some .int)) (List.mem_of_getElem? (i := 10) rfl)) (Nat.le_of_ble_eq_true rfl) (Nat.le_of_ble_eq_true rfl) (Nat.le_of_ble_eq_true rfl) (Nat.le_of_ble_eq_true rfl) dX5_drive_133 ?_
        refine lv_iv (y := (mn 40 (eh_114 k114))) rfl ?_
        refine ias_n (k := k114) hx hb hK hP hD hS 1 rfl (by omega) (by decide) dX5_drive_136 (fun H locs hP hD hS => ?_)
        have hP : va_P D vwCl [(mx, .inr (5, [.int th, .ref mh, .int (nI R), .ref mw, .ref ml, .int (nI G), .ref mp, .ref mq, .ref mb])), (mh, .inl (cy 0, 50, .inl (upd eh_114 k114 (mn 40 (eh_114 k114))))), (mw, .inl (cy 0, 6, .inl ew)), (ml, .inl (cy 0, 6, .inl el)), (mp, .inl (cy 0, 72, .inl ep)), (mq, .inl (cy 0, 2, .inl en)), (mb, .inl (cy 0, 50, .inl (va_cpy eh eb 0 0 50)))] H := hP
        have hD : va_D A [(mx, .inr (5, [.int th, .ref mh, .int (nI R), .ref mw, .ref ml, .int (nI G), .ref mp, .ref mq, .ref mb])), (mh, .inl (cy 0, 50, .inl (upd eh_114 k114 (mn 40 (eh_114 k114))))), (mw, .inl (cy 0, 6, .inl ew)), (ml, .inl (cy 0, 6, .inl el)), (mp, .inl (cy 0, 72, .inl ep)), (mq, .inl (cy 0, 2, .inl en)), (mb, .inl (cy 0, 50, .inl (va_cpy eh eb 0 0 50)))] := hD
        refine lv_iinc (v := (nI (k114 + 1))) (lv' := [(1, .int (nI (k114 + 1))), (0, .ref mx)]) hx hb dX5_drive_137 hl (k := 0) rfl (nI_1 k114) (by decide) rfl (fun ls hl => ?_)
        refine lv_goto (tgt := 114) hx hb dX5_drive_140 (by decide) ?_
        exact ih114 (k114 + 1) (upd eh_114 k114 (mn 40 (eh_114 k114))) _ _ _ (by omega) (it_step (f := (fun (k : Nat) (v : Nat → Int32) => S_X5_drive_114 k v)) (v := eh_114) (show S_X5_drive_114 k114 eh_114 = (upd eh_114 k114 (mn 40 (eh_114 k114))) from by rw [S_X5_drive_114]) hE114) hP hD hS (lv_sub hl [0, 1] rfl)
    exact lp114 50 0 (I_X5_drive_17 eh ew el eb R) _ _ _ (by omega) hfin114 hP hD hS (lv_sub hl [0, 1] rfl)
  intro H locs ls hP hD hS hl
  subst hfin114
  subst hQ
  exact en_v (tv := ((I_X5_drive_114 eh ew el eb R), (va_cpy eh eb 0 0 50))) hx hb hr hlocks (by rw [F_X5_drive]) hK (by first | with_reducible exact hP | exact hP) (by first | with_reducible exact hD | exact hD) hS (Nat.le_refl _) (Nat.le_refl _) dX5_drive_143

theorem nx_in {m : Nat} {x : Int32} (hx : x.toNatClampNeg < 10 ∧ x = nI x.toNatClampNeg) (hm : m + 10 ≤ 50) : vp_in (nI m + x) 50 := by
  rw [hx.2, nI_add]
  exact vp_in_nI (by omega) (by omega)

def S_X5_fall_2 (x : Int32) (n2 : Nat) (eh_2 : Nat → Int32) : Nat → Int32 :=
  (upd (upd eh_2 (((nI (10 * n2)) + x) : Int32).toNatClampNeg ((eh_2 (((nI (10 * n2)) + x) : Int32).toNatClampNeg) - (mn (eh_2 (((nI (10 * n2)) + x) : Int32).toNatClampNeg) (40 - (eh_2 (((nI ((10 * n2) + 10)) + x) : Int32).toNatClampNeg))))) (((nI ((10 * n2) + 10)) + x) : Int32).toNatClampNeg (((upd eh_2 (((nI (10 * n2)) + x) : Int32).toNatClampNeg ((eh_2 (((nI (10 * n2)) + x) : Int32).toNatClampNeg) - (mn (eh_2 (((nI (10 * n2)) + x) : Int32).toNatClampNeg) (40 - (eh_2 (((nI ((10 * n2) + 10)) + x) : Int32).toNatClampNeg))))) (((nI ((10 * n2) + 10)) + x) : Int32).toNatClampNeg) + (mn (eh_2 (((nI (10 * n2)) + x) : Int32).toNatClampNeg) (40 - (eh_2 (((nI ((10 * n2) + 10)) + x) : Int32).toNatClampNeg)))))
def I_X5_fall_2 (eh : Nat → Int32) (x : Int32) : Nat → Int32 :=
  itd (fun (k : Nat) (v : Nat → Int32) => S_X5_fall_2 x k v) 4 eh
def F_X5_fall (eh : Nat → Int32) (x : Int32) : Nat → Int32 :=
  (I_X5_fall_2 eh x)
set_option maxHeartbeats 4000000 in
set_option maxRecDepth 100000 in
theorem k_X5_fall (l : Launch) (D : va_G) (cy : Nat → ClassId) (sz : Nat) (mx mh mw ml mp mq mb : Nat) (th : Int32) (eh : Nat → Int32) (ew : Nat → Int32) (el : Nat → Int32) (ep : Nat → Int32) (en : Nat → Int32) (eb : Nat → Int32) (R : Nat) (G : Nat) (x : Int32) (hR : R ≤ 6) (hG : G ≤ 12) (hx1 : x.toNatClampNeg < 10 ∧ x = nI x.toNatClampNeg) : MTa l D cy yX5_fall wsX5_fall 1 0 0 24 [(mx, .inr (5, [.int th, .ref mh, .int (nI R), .ref mw, .ref ml, .int (nI G), .ref mp, .ref mq, .ref mb])), (mh, .inl (cy 0, 50, .inl eh)), (mw, .inl (cy 0, 6, .inl ew)), (ml, .inl (cy 0, 6, .inl el)), (mp, .inl (cy 0, 72, .inl ep)), (mq, .inl (cy 0, 2, .inl en)), (mb, .inl (cy 0, 50, .inl eb))] sz [.ref mx, .int x] (fun A => QvT D cy (fun (t : Nat → Int32) => [(mx, .inr (5, [.int th, .ref mh, .int (nI R), .ref mw, .ref ml, .int (nI G), .ref mp, .ref mq, .ref mb])), (mh, .inl (cy 0, 50, .inl t)), (mw, .inl (cy 0, 6, .inl ew)), (ml, .inl (cy 0, 6, .inl el)), (mp, .inl (cy 0, 72, .inl ep)), (mq, .inl (cy 0, 2, .inl en)), (mb, .inl (cy 0, 50, .inl eb))]) (F_X5_fall eh x) A) := by
  refine ofWT (cc := cX5_fall) (maxL := 4) (ret := none) (own := RX5) (by decide) rfl (Nat.le_of_ble_eq_true rfl) rfl ?_
  intro p e s m args below meth c A ls hx hb hr hml hts hown hlocks hin hN hK hP hD hA hl
  have hS : va_S A s.heap s.heap [] := va_S.rf
  have hl : lv_has ls 4 [(0, .ref mx), (1, .int x)] := hl
  have hin5 : ∀ w ∈ u_ws RX5 TX5 9, w ∈ wsX5_fall := (fun w h => List.mem_cons_of_mem _ (List.mem_append_right _ h))
  generalize hQ : MQ below ((fun A => QvT D cy (fun (t : Nat → Int32) => [(mx, .inr (5, [.int th, .ref mh, .int (nI R), .ref mw, .ref ml, .int (nI G), .ref mp, .ref mq, .ref mb])), (mh, .inl (cy 0, 50, .inl t)), (mw, .inl (cy 0, 6, .inl ew)), (ml, .inl (cy 0, 6, .inl el)), (mp, .inl (cy 0, 72, .inl ep)), (mq, .inl (cy 0, 2, .inl en)), (mb, .inl (cy 0, 50, .inl eb))]) (F_X5_fall eh x) A) A) args s 0 0 A = Q
  refine lv_iconst (v := 3) hx hb dX5_fall_0 (by decide) ?_
  refine lv_istore_n (lv' := [(2, .int 3), (0, .ref mx), (1, .int x)]) hx hb dX5_fall_1 rfl hl (by decide) rfl (fun ls hl => ?_)
  obtain ⟨fin2, hfin2⟩ : ∃ z, (I_X5_fall_2 eh x) = z := ⟨_, rfl⟩
  suffices kk2 : ∀ (H : Heap) (locs : List Loc) (ls : Array Slot), va_P D vwCl [(mx, .inr (5, [.int th, .ref mh, .int (nI R), .ref mw, .ref ml, .int (nI G), .ref mp, .ref mq, .ref mb])), (mh, .inl (cy 0, 50, .inl fin2)), (mw, .inl (cy 0, 6, .inl ew)), (ml, .inl (cy 0, 6, .inl el)), (mp, .inl (cy 0, 72, .inl ep)), (mq, .inl (cy 0, 2, .inl en)), (mb, .inl (cy 0, 50, .inl eb))] H → va_D A [(mx, .inr (5, [.int th, .ref mh, .int (nI R), .ref mw, .ref ml, .int (nI G), .ref mp, .ref mq, .ref mb])), (mh, .inl (cy 0, 50, .inl fin2)), (mw, .inl (cy 0, 6, .inl ew)), (ml, .inl (cy 0, 6, .inl el)), (mp, .inl (cy 0, 72, .inl ep)), (mq, .inl (cy 0, 2, .inl en)), (mb, .inl (cy 0, 50, .inl eb))] → va_S A s.heap H locs → lv_has ls 4 [(2, .int (dN 0)), (0, .ref mx), (1, .int x)] → W p l e (RM 1 0 0 24) s m args below meth c H locs 0 0 Q (F0 m 77 ls []) by
    have lp2 : ∀ (n2 : Nat) (eh_2 : Nat → Int32) (H : Heap) (locs : List Loc) (ls : Array Slot), n2 ≤ 4 → itd (fun (k : Nat) (v : Nat → Int32) => S_X5_fall_2 x k v) n2 eh_2 = fin2 → va_P D vwCl [(mx, .inr (5, [.int th, .ref mh, .int (nI R), .ref mw, .ref ml, .int (nI G), .ref mp, .ref mq, .ref mb])), (mh, .inl (cy 0, 50, .inl eh_2)), (mw, .inl (cy 0, 6, .inl ew)), (ml, .inl (cy 0, 6, .inl el)), (mp, .inl (cy 0, 72, .inl ep)), (mq, .inl (cy 0, 2, .inl en)), (mb, .inl (cy 0, 50, .inl eb))] H → va_D A [(mx, .inr (5, [.int th, .ref mh, .int (nI R), .ref mw, .ref ml, .int (nI G), .ref mp, .ref mq, .ref mb])), (mh, .inl (cy 0, 50, .inl eh_2)), (mw, .inl (cy 0, 6, .inl ew)), (ml, .inl (cy 0, 6, .inl el)), (mp, .inl (cy 0, 72, .inl ep)), (mq, .inl (cy 0, 2, .inl en)), (mb, .inl (cy 0, 50, .inl eb))] → va_S A s.heap H locs → lv_has ls 4 [(2, .int (dN n2)), (0, .ref mx), (1, .int x)] → W p l e (RM 1 0 0 24) s m args below meth c H locs 0 0 Q (F0 m 2 ls []) := by
      intro n2
      induction n2 with
      | zero =>
        intro eh_2 H locs ls hkn2 hE2 hP hD hS hl
        have hE2 : eh_2 = fin2 := hE2
        subst hE2
        have hl : lv_has ls 4 [(2, .int (-1)), (0, .ref mx), (1, .int x)] := hl
        refine lv_iload_n hx hb dX5_fall_2 rfl (lv_at hl 0 rfl) ?_
        refine lv_if_lt (tgt := 77) hx hb dX5_fall_3 (by decide) (fun c3 => ?_) (fun c3 => ?_)
        rotate_left
        · exact absurd (by decide) c3
        exact kk2 _ _ _ hP hD hS (lv_sub hl [0, 1, 2] rfl)
      | succ n2 ih2 =>
        intro eh_2 H locs ls hkn2 hE2 hP hD hS hl
        have hl : lv_has ls 4 [(2, .int (nI n2)), (0, .ref mx), (1, .int x)] := hl
        refine lv_iload_n hx hb dX5_fall_2 rfl (lv_at hl 0 rfl) ?_
        refine lv_if_lt (tgt := 77) hx hb dX5_fall_3 (by decide) (fun c3 => ?_) (fun c3 => ?_)
        · exact absurd c3 (nI_pos (by omega))
        refine lv_aload_n hx hb dX5_fall_6 rfl (lv_at hl 1 rfl) ?_
        refine va_get (D := D) (ci := 5) (v := .ref mh) (C := RX5) (T := TX5) (N := 9) hx hb hts hin5 hown hK hP 0 rfl rfl 1 (by decide) (hts (.fieldLink RX5 9 "FireflyInnModel" "hedge" "[I") (List.mem_of_getElem? (i := 1) rfl)) (fun _ h9 => h9) rfl dX5_fall_7 ?_
        refine lv_bipush (v := 10) hx hb dX5_fall_10 (by decide) ?_
        refine lv_iload_n hx hb dX5_fall_12 rfl (lv_at hl 0 rfl) ?_
        refine lv_imul hx hb dX5_fall_13 ?_
        refine lv_iv (y := (nI (10 * n2))) (pk_mul 10 n2) ?_
        refine lv_iload_n hx hb dX5_fall_14 rfl (lv_at hl 2 rfl) ?_
        refine lv_iadd hx hb dX5_fall_15 ?_
        refine va_iald hx hb hK hP 1 0 rfl rfl (nx_in hx1 (by omega)) dX5_fall_16 ?_
        refine lv_bipush (v := 40) hx hb dX5_fall_17 (by decide) ?_
        refine lv_aload_n hx hb dX5_fall_19 rfl (lv_at hl 1 rfl) ?_
        refine va_get (D := D) (ci := 5) (v := .ref mh) (C := RX5) (T := TX5) (N := 9) hx hb hts hin5 hown hK hP 0 rfl rfl 1 (by decide) (hts (.fieldLink RX5 9 "FireflyInnModel" "hedge" "[I") (List.mem_of_getElem? (i := 1) rfl)) (fun _ h9 => h9) rfl dX5_fall_20 ?_
        refine lv_bipush (v := 10) hx hb dX5_fall_23 (by decide) ?_
        refine lv_iload_n hx hb dX5_fall_25 rfl (lv_at hl 0 rfl) ?_
        refine lv_imul hx hb dX5_fall_26 ?_
        refine lv_iv (y := (nI (10 * n2))) (pk_mul 10 n2) ?_
        refine lv_bipush (v := 10) hx hb dX5_fall_27 (by decide) ?_
        refine lv_iadd hx hb dX5_fall_29 ?_
        refine lv_iv (y := (nI ((10 * n2) + 10))) (nI_add (10 * n2) 10) ?_
        refine lv_iload_n hx hb dX5_fall_30 rfl (lv_at hl 2 rfl) ?_
        refine lv_iadd hx hb dX5_fall_31 ?_
        refine va_iald hx hb hK hP 1 0 rfl rfl (nx_in hx1 (by omega)) dX5_fall_32 ?_
        refine lv_isub hx hb dX5_fall_33 ?_
        refine va_mmin (rest := []) hx hb (hml.trans hl.1.symm) hown (hts (.methodLink RX5 101 Lib.Math.min.name) (List.mem_of_getElem? (i := 2) rfl)) (hts (.static Lib.Math.min.name) (List.mem_of_getElem? (i := 3) rfl)) (hts (.initialized "java/lang/Math") (List.mem_of_getElem? (i := 4) rfl)) (hts (.code Lib.Math.min.name Lib.Math.min.code 2 (some .int)) (List.mem_of_getElem? (i := 5) rfl)) (Nat.le_of_ble_eq_true rfl) (Nat.le_of_ble_eq_true rfl) (Nat.le_of_ble_eq_true rfl) (Nat.le_of_ble_eq_true rfl) dX5_fall_34 ?_
        refine lv_iv (y := (mn (eh_2 (((nI (10 * n2)) + x) : Int32).toNatClampNeg) (40 - (eh_2 (((nI ((10 * n2) + 10)) + x) : Int32).toNatClampNeg)))) rfl ?_
        refine lv_istore_n (lv' := [(3, .int (mn (eh_2 (((nI (10 * n2)) + x) : Int32).toNatClampNeg) (40 - (eh_2 (((nI ((10 * n2) + 10)) + x) : Int32).toNatClampNeg)))), (2, .int (nI n2)), (0, .ref mx), (1, .int x)]) hx hb dX5_fall_37 rfl hl (by decide) rfl (fun ls hl => ?_)
        refine lv_aload_n hx hb dX5_fall_38 rfl (lv_at hl 2 rfl) ?_
        refine va_get (D := D) (ci := 5) (v := .ref mh) (C := RX5) (T := TX5) (N := 9) hx hb hts hin5 hown hK hP 0 rfl rfl 1 (by decide) (hts (.fieldLink RX5 9 "FireflyInnModel" "hedge" "[I") (List.mem_of_getElem? (i := 1) rfl)) (fun _ h9 => h9) rfl dX5_fall_39 ?_
        refine lv_bipush (v := 10) hx hb dX5_fall_42 (by decide) ?_
        refine lv_iload_n hx hb dX5_fall_44 rfl (lv_at hl 1 rfl) ?_
        refine lv_imul hx hb dX5_fall_45 ?_
        refine lv_iv (y := (nI (10 * n2))) (pk_mul 10 n2) ?_
        refine lv_iload_n hx hb dX5_fall_46 rfl (lv_at hl 3 rfl) ?_
        refine lv_iadd hx hb dX5_fall_47 ?_
        refine lv_dup2_11 hx hb dX5_fall_48 rfl rfl ?_
        refine va_iald hx hb hK hP 1 0 rfl rfl (nx_in hx1 (by omega)) dX5_fall_49 ?_
        refine lv_iload_n hx hb dX5_fall_50 rfl (lv_at hl 0 rfl) ?_
        refine lv_isub hx hb dX5_fall_51 ?_
        refine va_iast hx hb hK hP hD hS 1 0 rfl rfl (nx_in hx1 (by omega)) dX5_fall_52 (fun H locs hP hD hS => ?_)
        have hP : va_P D vwCl [(mx, .inr (5, [.int th, .ref mh, .int (nI R), .ref mw, .ref ml, .int (nI G), .ref mp, .ref mq, .ref mb])), (mh, .inl (cy 0, 50, .inl (upd eh_2 (((nI (10 * n2)) + x) : Int32).toNatClampNeg ((eh_2 (((nI (10 * n2)) + x) : Int32).toNatClampNeg) - (mn (eh_2 (((nI (10 * n2)) + x) : Int32).toNatClampNeg) (40 - (eh_2 (((nI ((10 * n2) + 10)) + x) : Int32).toNatClampNeg))))))), (mw, .inl (cy 0, 6, .inl ew)), (ml, .inl (cy 0, 6, .inl el)), (mp, .inl (cy 0, 72, .inl ep)), (mq, .inl (cy 0, 2, .inl en)), (mb, .inl (cy 0, 50, .inl eb))] H := hP
        have hD : va_D A [(mx, .inr (5, [.int th, .ref mh, .int (nI R), .ref mw, .ref ml, .int (nI G), .ref mp, .ref mq, .ref mb])), (mh, .inl (cy 0, 50, .inl (upd eh_2 (((nI (10 * n2)) + x) : Int32).toNatClampNeg ((eh_2 (((nI (10 * n2)) + x) : Int32).toNatClampNeg) - (mn (eh_2 (((nI (10 * n2)) + x) : Int32).toNatClampNeg) (40 - (eh_2 (((nI ((10 * n2) + 10)) + x) : Int32).toNatClampNeg))))))), (mw, .inl (cy 0, 6, .inl ew)), (ml, .inl (cy 0, 6, .inl el)), (mp, .inl (cy 0, 72, .inl ep)), (mq, .inl (cy 0, 2, .inl en)), (mb, .inl (cy 0, 50, .inl eb))] := hD
        refine lv_aload_n hx hb dX5_fall_53 rfl (lv_at hl 2 rfl) ?_
        refine va_get (D := D) (ci := 5) (v := .ref mh) (C := RX5) (T := TX5) (N := 9) hx hb hts hin5 hown hK hP 0 rfl rfl 1 (by decide) (hts (.fieldLink RX5 9 "FireflyInnModel" "hedge" "[I") (List.mem_of_getElem? (i := 1) rfl)) (fun _ h9 => h9) rfl dX5_fall_54 ?_
        refine lv_bipush (v := 10) hx hb dX5_fall_57 (by decide) ?_
        refine lv_iload_n hx hb dX5_fall_59 rfl (lv_at hl 1 rfl) ?_
        refine lv_imul hx hb dX5_fall_60 ?_
        refine lv_iv (y := (nI (10 * n2))) (pk_mul 10 n2) ?_
        refine lv_bipush (v := 10) hx hb dX5_fall_61 (by decide) ?_
        refine lv_iadd hx hb dX5_fall_63 ?_
        refine lv_iv (y := (nI ((10 * n2) + 10))) (nI_add (10 * n2) 10) ?_
        refine lv_iload_n hx hb dX5_fall_64 rfl (lv_at hl 3 rfl) ?_
        refine lv_iadd hx hb dX5_fall_65 ?_
        refine lv_dup2_11 hx hb dX5_fall_66 rfl rfl ?_
        refine va_iald hx hb hK hP 1 0 rfl rfl (nx_in hx1 (by omega)) dX5_fall_67 ?_
        refine lv_iload_n hx hb dX5_fall_68 rfl (lv_at hl 0 rfl) ?_
        refine lv_iadd hx hb dX5_fall_69 ?_
        refine va_iast hx hb hK hP hD hS 1 0 rfl rfl (nx_in hx1 (by omega)) dX5_fall_70 (fun H locs hP hD hS => ?_)
        have hP : va_P D vwCl [(mx, .inr (5, [.int th, .ref mh, .int (nI R), .ref mw, .ref ml, .int (nI G), .ref mp, .ref mq, .ref mb])), (mh, .inl (cy 0, 50, .inl (upd (upd eh_2 (((nI (10 * n2)) + x) : Int32).toNatClampNeg ((eh_2 (((nI (10 * n2)) + x) : Int32).toNatClampNeg) - (mn (eh_2 (((nI (10 * n2)) + x) : Int32).toNatClampNeg) (40 - (eh_2 (((nI ((10 * n2) + 10)) + x) : Int32).toNatClampNeg))))) (((nI ((10 * n2) + 10)) + x) : Int32).toNatClampNeg (((upd eh_2 (((nI (10 * n2)) + x) : Int32).toNatClampNeg ((eh_2 (((nI (10 * n2)) + x) : Int32).toNatClampNeg) - (mn (eh_2 (((nI (10 * n2)) + x) : Int32).toNatClampNeg) (40 - (eh_2 (((nI ((10 * n2) + 10)) + x) : Int32).toNatClampNeg))))) (((nI ((10 * n2) + 10)) + x) : Int32).toNatClampNeg) + (mn (eh_2 (((nI (10 * n2)) + x) : Int32).toNatClampNeg) (40 - (eh_2 (((nI ((10 * n2) + 10)) + x) : Int32).toNatClampNeg))))))), (mw, .inl (cy 0, 6, .inl ew)), (ml, .inl (cy 0, 6, .inl el)), (mp, .inl (cy 0, 72, .inl ep)), (mq, .inl (cy 0, 2, .inl en)), (mb, .inl (cy 0, 50, .inl eb))] H := hP
        have hD : va_D A [(mx, .inr (5, [.int th, .ref mh, .int (nI R), .ref mw, .ref ml, .int (nI G), .ref mp, .ref mq, .ref mb])), (mh, .inl (cy 0, 50, .inl (upd (upd eh_2 (((nI (10 * n2)) + x) : Int32).toNatClampNeg ((eh_2 (((nI (10 * n2)) + x) : Int32).toNatClampNeg) - (mn (eh_2 (((nI (10 * n2)) + x) : Int32).toNatClampNeg) (40 - (eh_2 (((nI ((10 * n2) + 10)) + x) : Int32).toNatClampNeg))))) (((nI ((10 * n2) + 10)) + x) : Int32).toNatClampNeg (((upd eh_2 (((nI (10 * n2)) + x) : Int32).toNatClampNeg ((eh_2 (((nI (10 * n2)) + x) : Int32).toNatClampNeg) - (mn (eh_2 (((nI (10 * n2)) + x) : Int32).toNatClampNeg) (40 - (eh_2 (((nI ((10 * n2) + 10)) + x) : Int32).toNatClampNeg))))) (((nI ((10 * n2) + 10)) + x) : Int32).toNatClampNeg) + (mn (eh_2 (((nI (10 * n2)) + x) : Int32).toNatClampNeg) (40 - (eh_2 (((nI ((10 * n2) + 10)) + x) : Int32).toNatClampNeg))))))), (mw, .inl (cy 0, 6, .inl ew)), (ml, .inl (cy 0, 6, .inl el)), (mp, .inl (cy 0, 72, .inl ep)), (mq, .inl (cy 0, 2, .inl en)), (mb, .inl (cy 0, 50, .inl eb))] := hD
        refine lv_iinc (v := (dN n2)) (lv' := [(2, .int (dN n2)), (3, .int (mn (eh_2 (((nI (10 * n2)) + x) : Int32).toNatClampNeg) (40 - (eh_2 (((nI ((10 * n2) + 10)) + x) : Int32).toNatClampNeg)))), (0, .ref mx), (1, .int x)]) hx hb dX5_fall_71 hl (k := 1) rfl (dN_m1 n2) (by decide) rfl (fun ls hl => ?_)
        refine lv_goto (tgt := 2) hx hb dX5_fall_74 (by decide) ?_
        exact ih2 (upd (upd eh_2 (((nI (10 * n2)) + x) : Int32).toNatClampNeg ((eh_2 (((nI (10 * n2)) + x) : Int32).toNatClampNeg) - (mn (eh_2 (((nI (10 * n2)) + x) : Int32).toNatClampNeg) (40 - (eh_2 (((nI ((10 * n2) + 10)) + x) : Int32).toNatClampNeg))))) (((nI ((10 * n2) + 10)) + x) : Int32).toNatClampNeg (((upd eh_2 (((nI (10 * n2)) + x) : Int32).toNatClampNeg ((eh_2 (((nI (10 * n2)) + x) : Int32).toNatClampNeg) - (mn (eh_2 (((nI (10 * n2)) + x) : Int32).toNatClampNeg) (40 - (eh_2 (((nI ((10 * n2) + 10)) + x) : Int32).toNatClampNeg))))) (((nI ((10 * n2) + 10)) + x) : Int32).toNatClampNeg) + (mn (eh_2 (((nI (10 * n2)) + x) : Int32).toNatClampNeg) (40 - (eh_2 (((nI ((10 * n2) + 10)) + x) : Int32).toNatClampNeg))))) _ _ _ (by omega) (itd_step (f := (fun (k : Nat) (v : Nat → Int32) => S_X5_fall_2 x k v)) (v := eh_2) (show S_X5_fall_2 x n2 eh_2 = (upd (upd eh_2 (((nI (10 * n2)) + x) : Int32).toNatClampNeg ((eh_2 (((nI (10 * n2)) + x) : Int32).toNatClampNeg) - (mn (eh_2 (((nI (10 * n2)) + x) : Int32).toNatClampNeg) (40 - (eh_2 (((nI ((10 * n2) + 10)) + x) : Int32).toNatClampNeg))))) (((nI ((10 * n2) + 10)) + x) : Int32).toNatClampNeg (((upd eh_2 (((nI (10 * n2)) + x) : Int32).toNatClampNeg ((eh_2 (((nI (10 * n2)) + x) : Int32).toNatClampNeg) - (mn (eh_2 (((nI (10 * n2)) + x) : Int32).toNatClampNeg) (40 - (eh_2 (((nI ((10 * n2) + 10)) + x) : Int32).toNatClampNeg))))) (((nI ((10 * n2) + 10)) + x) : Int32).toNatClampNeg) + (mn (eh_2 (((nI (10 * n2)) + x) : Int32).toNatClampNeg) (40 - (eh_2 (((nI ((10 * n2) + 10)) + x) : Int32).toNatClampNeg))))) from by rw [S_X5_fall_2]) hE2) hP hD hS (lv_sub hl [0, 2, 3] rfl)
    exact lp2 4 eh _ _ _ (by omega) hfin2 hP hD hS (lv_sub hl [0, 1, 2] rfl)
  intro H locs ls hP hD hS hl
  subst hfin2
  subst hQ
  exact en_v (tv := (I_X5_fall_2 eh x)) hx hb hr hlocks (by rw [F_X5_fall]) hK (by first | with_reducible exact hP | exact hP) (by first | with_reducible exact hD | exact hD) hS (Nat.le_refl _) (Nat.le_refl _) dX5_fall_77

def S_X5_near_4 (eh : Nat → Int32) (window : Int32) (k4 : Nat) (v2_4 : Int32) : Int32 :=
  if 1 < (ab ((rmd (nI k4) 10) - window)) then
    (v2_4 + 0)
  else
    (v2_4 + (eh k4))
def I_X5_near_4 (eh : Nat → Int32) (window : Int32) : Int32 :=
  it (fun (k : Nat) (v : Int32) => S_X5_near_4 eh window k v) 50 0 0
def F_X5_near (eh : Nat → Int32) (window : Int32) : Int32 :=
  (I_X5_near_4 eh window)
set_option maxHeartbeats 4000000 in
set_option maxRecDepth 100000 in
theorem k_X5_near (l : Launch) (D : va_G) (cy : Nat → ClassId) (sz : Nat) (mx mh mw ml mp mq mb : Nat) (th : Int32) (eh : Nat → Int32) (ew : Nat → Int32) (el : Nat → Int32) (ep : Nat → Int32) (en : Nat → Int32) (eb : Nat → Int32) (R : Nat) (G : Nat) (window : Int32) (hR : R ≤ 6) (hG : G ≤ 12) : MTa l D cy yX5_near wsX5_near 1 0 0 24 [(mx, .inr (5, [.int th, .ref mh, .int (nI R), .ref mw, .ref ml, .int (nI G), .ref mp, .ref mq, .ref mb])), (mh, .inl (cy 0, 50, .inl eh)), (mw, .inl (cy 0, 6, .inl ew)), (ml, .inl (cy 0, 6, .inl el)), (mp, .inl (cy 0, 72, .inl ep)), (mq, .inl (cy 0, 2, .inl en)), (mb, .inl (cy 0, 50, .inl eb))] sz [.ref mx, .int window] (fun A => QiT D cy (fun (t : Int32) => t) (fun (_ : Int32) => [(mx, .inr (5, [.int th, .ref mh, .int (nI R), .ref mw, .ref ml, .int (nI G), .ref mp, .ref mq, .ref mb])), (mh, .inl (cy 0, 50, .inl eh)), (mw, .inl (cy 0, 6, .inl ew)), (ml, .inl (cy 0, 6, .inl el)), (mp, .inl (cy 0, 72, .inl ep)), (mq, .inl (cy 0, 2, .inl en)), (mb, .inl (cy 0, 50, .inl eb))]) (F_X5_near eh window) A) := by
  refine ofWT (cc := cX5_near) (maxL := 4) (ret := (some .int)) (own := RX5) (by decide) rfl (Nat.le_of_ble_eq_true rfl) rfl ?_
  intro p e s m args below meth c A ls hx hb hr hml hts hown hlocks hin hN hK hP hD hA hl
  have hS : va_S A s.heap s.heap [] := va_S.rf
  have hl : lv_has ls 4 [(0, .ref mx), (1, .int window)] := hl
  have hin5 : ∀ w ∈ u_ws RX5 TX5 9, w ∈ wsX5_near := (fun w h => List.mem_cons_of_mem _ (List.mem_append_right _ h))
  generalize hQ : MQ below ((fun A => QiT D cy (fun (t : Int32) => t) (fun (_ : Int32) => [(mx, .inr (5, [.int th, .ref mh, .int (nI R), .ref mw, .ref ml, .int (nI G), .ref mp, .ref mq, .ref mb])), (mh, .inl (cy 0, 50, .inl eh)), (mw, .inl (cy 0, 6, .inl ew)), (ml, .inl (cy 0, 6, .inl el)), (mp, .inl (cy 0, 72, .inl ep)), (mq, .inl (cy 0, 2, .inl en)), (mb, .inl (cy 0, 50, .inl eb))]) (F_X5_near eh window) A) A) args s 0 0 A = Q
  refine lv_iconst (v := 0) hx hb dX5_near_0 (by decide) ?_
  refine lv_istore_n (lv' := [(2, .int 0), (0, .ref mx), (1, .int window)]) hx hb dX5_near_1 rfl hl (by decide) rfl (fun ls hl => ?_)
  refine lv_iconst (v := 0) hx hb dX5_near_2 (by decide) ?_
  refine lv_istore_n (lv' := [(3, .int 0), (2, .int 0), (0, .ref mx), (1, .int window)]) hx hb dX5_near_3 rfl hl (by decide) rfl (fun ls hl => ?_)
  obtain ⟨fin4, hfin4⟩ : ∃ z, (I_X5_near_4 eh window) = z := ⟨_, rfl⟩
  suffices kk4 : ∀ (H : Heap) (locs : List Loc) (ls : Array Slot), va_P D vwCl [(mx, .inr (5, [.int th, .ref mh, .int (nI R), .ref mw, .ref ml, .int (nI G), .ref mp, .ref mq, .ref mb])), (mh, .inl (cy 0, 50, .inl eh)), (mw, .inl (cy 0, 6, .inl ew)), (ml, .inl (cy 0, 6, .inl el)), (mp, .inl (cy 0, 72, .inl ep)), (mq, .inl (cy 0, 2, .inl en)), (mb, .inl (cy 0, 50, .inl eb))] H → va_D A [(mx, .inr (5, [.int th, .ref mh, .int (nI R), .ref mw, .ref ml, .int (nI G), .ref mp, .ref mq, .ref mb])), (mh, .inl (cy 0, 50, .inl eh)), (mw, .inl (cy 0, 6, .inl ew)), (ml, .inl (cy 0, 6, .inl el)), (mp, .inl (cy 0, 72, .inl ep)), (mq, .inl (cy 0, 2, .inl en)), (mb, .inl (cy 0, 50, .inl eb))] → va_S A s.heap H locs → lv_has ls 4 [(3, .int (nI 50)), (2, .int fin4), (0, .ref mx), (1, .int window)] → W p l e (RM 1 0 0 24) s m args below meth c H locs 0 0 Q (F0 m 42 ls []) by
    have lp4 : ∀ (n4 k4 : Nat) (v2_4 : Int32) (H : Heap) (locs : List Loc) (ls : Array Slot), k4 + n4 = 50 → it (fun (k : Nat) (v : Int32) => S_X5_near_4 eh window k v) n4 k4 v2_4 = fin4 → va_P D vwCl [(mx, .inr (5, [.int th, .ref mh, .int (nI R), .ref mw, .ref ml, .int (nI G), .ref mp, .ref mq, .ref mb])), (mh, .inl (cy 0, 50, .inl eh)), (mw, .inl (cy 0, 6, .inl ew)), (ml, .inl (cy 0, 6, .inl el)), (mp, .inl (cy 0, 72, .inl ep)), (mq, .inl (cy 0, 2, .inl en)), (mb, .inl (cy 0, 50, .inl eb))] H → va_D A [(mx, .inr (5, [.int th, .ref mh, .int (nI R), .ref mw, .ref ml, .int (nI G), .ref mp, .ref mq, .ref mb])), (mh, .inl (cy 0, 50, .inl eh)), (mw, .inl (cy 0, 6, .inl ew)), (ml, .inl (cy 0, 6, .inl el)), (mp, .inl (cy 0, 72, .inl ep)), (mq, .inl (cy 0, 2, .inl en)), (mb, .inl (cy 0, 50, .inl eb))] → va_S A s.heap H locs → lv_has ls 4 [(3, .int (nI k4)), (2, .int v2_4), (0, .ref mx), (1, .int window)] → W p l e (RM 1 0 0 24) s m args below meth c H locs 0 0 Q (F0 m 4 ls []) := by
      intro n4
      induction n4 with
      | zero =>
        intro k4 v2_4 H locs ls hkn4 hE4 hP hD hS hl
        have hk4 : 50 = k4 := by omega
        subst hk4
        have hE4 : v2_4 = fin4 := hE4
        subst hE4
        refine lv_iload_n hx hb dX5_near_4 rfl (lv_at hl 0 rfl) ?_
        refine lv_bipush (v := 50) hx hb dX5_near_5 (by decide) ?_
        refine lv_icmp_ge (tgt := 42) hx hb dX5_near_7 (by decide) (fun c7 => ?_) (fun c7 => ?_)
        rotate_left
        · exact absurd (nI_le (a := 50) (b := 50) (Nat.le_refl _) (by decide)) c7
        exact kk4 _ _ _ hP hD hS (lv_sub hl [0, 1, 2, 3] rfl)
      | succ n4 ih4 =>
        intro k4 v2_4 H locs ls hkn4 hE4 hP hD hS hl
        have hlt4 : k4 < 50 := by omega
        refine lv_iload_n hx hb dX5_near_4 rfl (lv_at hl 0 rfl) ?_
        refine lv_bipush (v := 50) hx hb dX5_near_5 (by decide) ?_
        refine lv_icmp_ge (tgt := 42) hx hb dX5_near_7 (by decide) (fun c7 => ?_) (fun c7 => ?_)
        · exact absurd c7 (nI_ge (a := k4) (b := 50) hlt4 (by decide))
        refine lv_iload_n hx hb dX5_near_10 rfl (lv_at hl 1 rfl) ?_
        refine lv_iload_n hx hb dX5_near_11 rfl (lv_at hl 0 rfl) ?_
        refine lv_bipush (v := 10) hx hb dX5_near_12 (by decide) ?_
        refine lv_irem hx hb dX5_near_14 (by decide) ?_
        refine lv_iv (y := rmd (nI k4) 10) rfl ?_
        refine lv_iload_n hx hb dX5_near_15 rfl (lv_at hl 3 rfl) ?_
        refine lv_isub hx hb dX5_near_16 ?_
        refine va_mabs (rest := [.int v2_4]) hx hb (hml.trans hl.1.symm) hown (hts (.methodLink RX5 42 Lib.Math.abs.name) (List.mem_of_getElem? (i := 1) rfl)) (hts (.static Lib.Math.abs.name) (List.mem_of_getElem? (i := 2) rfl)) (hts (.initialized "java/lang/Math") (List.mem_of_getElem? (i := 3) rfl)) (hts (.code Lib.Math.abs.name Lib.Math.abs.code 1 (some .int)) (List.mem_of_getElem? (i := 4) rfl)) (Nat.le_of_ble_eq_true rfl) (Nat.le_of_ble_eq_true rfl) (Nat.le_of_ble_eq_true rfl) (Nat.le_of_ble_eq_true rfl) dX5_near_17 ?_
        refine lv_iv (y := (ab ((rmd (nI k4) 10) - window))) rfl ?_
        refine lv_iconst (v := 1) hx hb dX5_near_20 (by decide) ?_
        refine lv_icmp_gt (tgt := 33) hx hb dX5_near_21 (by decide) (fun c21 => ?_) (fun c21 => ?_)
        · refine lv_iconst (v := 0) hx hb dX5_near_33 (by decide) ?_
          refine lv_iadd hx hb dX5_near_34 ?_
          refine lv_istore_n (lv' := [(2, .int (v2_4 + 0)), (3, .int (nI k4)), (0, .ref mx), (1, .int window)]) hx hb dX5_near_35 rfl hl (by decide) rfl (fun ls hl => ?_)
          refine lv_iinc (v := (nI (k4 + 1))) (lv' := [(3, .int (nI (k4 + 1))), (2, .int (v2_4 + 0)), (0, .ref mx), (1, .int window)]) hx hb dX5_near_36 hl (k := 1) rfl (nI_1 k4) (by decide) rfl (fun ls hl => ?_)
          refine lv_goto (tgt := 4) hx hb dX5_near_39 (by decide) ?_
          exact ih4 (k4 + 1) (v2_4 + 0) _ _ _ (by omega) (it_step (f := (fun (k : Nat) (v : Int32) => S_X5_near_4 eh window k v)) (v := v2_4) (show S_X5_near_4 eh window k4 v2_4 = (v2_4 + 0) from by rw [S_X5_near_4, if_pos c21]) hE4) hP hD hS (lv_sub hl [0, 1, 2, 3] rfl)
        · refine lv_aload_n hx hb dX5_near_24 rfl (lv_at hl 2 rfl) ?_
          refine va_get (D := D) (ci := 5) (v := .ref mh) (C := RX5) (T := TX5) (N := 9) hx hb hts hin5 hown hK hP 0 rfl rfl 1 (by decide) (hts (.fieldLink RX5 9 "FireflyInnModel" "hedge" "[I") (List.mem_of_getElem? (i := 5) rfl)) (fun _ h9 => h9) rfl dX5_near_25 ?_
          refine lv_iload_n hx hb dX5_near_28 rfl (lv_at hl 0 rfl) ?_
          refine ial_n (k := k4) hx hb hK hP 1 rfl (by omega) (by decide) dX5_near_29 ?_
          refine lv_goto (tgt := 34) hx hb dX5_near_30 (by decide) ?_
          refine lv_iadd hx hb dX5_near_34 ?_
          refine lv_istore_n (lv' := [(2, .int (v2_4 + (eh k4))), (3, .int (nI k4)), (0, .ref mx), (1, .int window)]) hx hb dX5_near_35 rfl hl (by decide) rfl (fun ls hl => ?_)
          refine lv_iinc (v := (nI (k4 + 1))) (lv' := [(3, .int (nI (k4 + 1))), (2, .int (v2_4 + (eh k4))), (0, .ref mx), (1, .int window)]) hx hb dX5_near_36 hl (k := 1) rfl (nI_1 k4) (by decide) rfl (fun ls hl => ?_)
          refine lv_goto (tgt := 4) hx hb dX5_near_39 (by decide) ?_
          exact ih4 (k4 + 1) (v2_4 + (eh k4)) _ _ _ (by omega) (it_step (f := (fun (k : Nat) (v : Int32) => S_X5_near_4 eh window k v)) (v := v2_4) (show S_X5_near_4 eh window k4 v2_4 = (v2_4 + (eh k4)) from by rw [S_X5_near_4, if_neg c21]) hE4) hP hD hS (lv_sub hl [0, 1, 2, 3] rfl)
    exact lp4 50 0 0 _ _ _ (by omega) hfin4 hP hD hS (lv_sub hl [0, 1, 2, 3] rfl)
  intro H locs ls hP hD hS hl
  subst hfin4
  refine lv_iload_n hx hb dX5_near_42 rfl (lv_at hl 1 rfl) ?_
  subst hQ
  exact en_i (tv := (I_X5_near_4 eh window)) hx hb hr hlocks (by rw [F_X5_near]) rfl hK (by first | with_reducible exact hP | exact hP) (by first | with_reducible exact hD | exact hD) hS (Nat.le_refl _) (Nat.le_refl _) dX5_near_43

def L_X5_catchSome_12 (eh : Nat → Int32) (ep : Nat → Int32) (g : Nat) : Nat → Nat → ((Nat → Int32) × (Nat → Int32))
  | 0, _ =>
    (eh, ep)
  | n12 + 1, k12 =>
    if 50 ≤ (nI k12) then
      (eh, ep)
    else
      if (eh k12) = 0 then
        L_X5_catchSome_12 eh ep g n12 (k12 + 10)
      else
        ((upd eh k12 ((eh k12) - (mn 3 (eh k12)))), (F_X5_put ep g 3 ((F_X5_pe ep g 3) + (mn 3 (eh k12)))))
def F_X5_catchSome (eh : Nat → Int32) (ew : Nat → Int32) (ep : Nat → Int32) (g : Nat) : (Nat → Int32) × (Nat → Int32) :=
  L_X5_catchSome_12 eh ep g 5 ((ew (F_X5_pe ep g 0).toNatClampNeg).toNatClampNeg)
set_option maxHeartbeats 4000000 in
set_option maxRecDepth 100000 in
theorem k_X5_catchSome (l : Launch) (D : va_G) (cy : Nat → ClassId) (sz : Nat) (mx mh mw ml mp mq mb : Nat) (th : Int32) (eh : Nat → Int32) (ew : Nat → Int32) (el : Nat → Int32) (ep : Nat → Int32) (en : Nat → Int32) (eb : Nat → Int32) (R : Nat) (G : Nat) (g : Nat) (hR : R ≤ 6) (hG : G ≤ 12) (hMI : MI R G ew ep) (hg : g < G) : MTa l D cy yX5_catchSome wsX5_catchSome 1 0 0 24 [(mx, .inr (5, [.int th, .ref mh, .int (nI R), .ref mw, .ref ml, .int (nI G), .ref mp, .ref mq, .ref mb])), (mh, .inl (cy 0, 50, .inl eh)), (mw, .inl (cy 0, 6, .inl ew)), (ml, .inl (cy 0, 6, .inl el)), (mp, .inl (cy 0, 72, .inl ep)), (mq, .inl (cy 0, 2, .inl en)), (mb, .inl (cy 0, 50, .inl eb))] sz [.ref mx, .int (nI g)] (fun A => QvT D cy (fun (t : (Nat → Int32) × (Nat → Int32)) => [(mx, .inr (5, [.int th, .ref mh, .int (nI R), .ref mw, .ref ml, .int (nI G), .ref mp, .ref mq, .ref mb])), (mh, .inl (cy 0, 50, .inl t.1)), (mw, .inl (cy 0, 6, .inl ew)), (ml, .inl (cy 0, 6, .inl el)), (mp, .inl (cy 0, 72, .inl t.2)), (mq, .inl (cy 0, 2, .inl en)), (mb, .inl (cy 0, 50, .inl eb))]) (F_X5_catchSome eh ew ep g) A) := by
  refine ofWT (cc := cX5_catchSome) (maxL := 4) (ret := none) (own := RX5) (by decide) rfl (Nat.le_of_ble_eq_true rfl) rfl ?_
  intro p e s m args below meth c A ls hx hb hr hml hts hown hlocks hin hN hK hP hD hA hl
  have hS : va_S A s.heap s.heap [] := va_S.rf
  have hl : lv_has ls 4 [(0, .ref mx), (1, .int (nI g))] := hl
  have hin5 : ∀ w ∈ u_ws RX5 TX5 9, w ∈ wsX5_catchSome := (fun w h => List.mem_cons_of_mem _ (List.mem_append_right _ h))
  generalize hQ : MQ below ((fun A => QvT D cy (fun (t : (Nat → Int32) × (Nat → Int32)) => [(mx, .inr (5, [.int th, .ref mh, .int (nI R), .ref mw, .ref ml, .int (nI G), .ref mp, .ref mq, .ref mb])), (mh, .inl (cy 0, 50, .inl t.1)), (mw, .inl (cy 0, 6, .inl ew)), (ml, .inl (cy 0, 6, .inl el)), (mp, .inl (cy 0, 72, .inl t.2)), (mq, .inl (cy 0, 2, .inl en)), (mb, .inl (cy 0, 50, .inl eb))]) (F_X5_catchSome eh ew ep g) A) A) args s 0 0 A = Q
  refine lv_aload_n hx hb dX5_catchSome_0 rfl (lv_at hl 0 rfl) ?_
  refine va_get (D := D) (ci := 5) (v := .ref mw) (C := RX5) (T := TX5) (N := 9) hx hb hts hin5 hown hK hP 0 rfl rfl 3 (by decide) (hts (.fieldLink RX5 13 "FireflyInnModel" "windows" "[I") (List.mem_of_getElem? (i := 1) rfl)) (fun _ h9 => h9) rfl dX5_catchSome_1 ?_
  refine lv_aload_n hx hb dX5_catchSome_4 rfl (lv_at hl 0 rfl) ?_
  refine lv_iload_n hx hb dX5_catchSome_5 rfl (lv_at hl 1 rfl) ?_
  refine lv_iconst (v := 0) hx hb dX5_catchSome_6 (by decide) ?_
  refine cl_i (wr := []) (w2 := [(mx, .inr (5, [.int th, .ref mh, .int (nI R), .ref mw, .ref ml, .int (nI G), .ref mp, .ref mq, .ref mb])), (mh, .inl (cy 0, 50, .inl eh)), (mw, .inl (cy 0, 6, .inl ew)), (ml, .inl (cy 0, 6, .inl el)), (mp, .inl (cy 0, 72, .inl ep)), (mq, .inl (cy 0, 2, .inl en)), (mb, .inl (cy 0, 50, .inl eb))]) (rn_V (As := [.int (nI g), .int 0]) (rest := [.ref mw]) (ci := 5) (q0 := 0) ⟨hx, hb, hml, hown, hts⟩ (k_X5_pe l D cy _ mx mh mw ml mp mq mb th eh ew el ep en eb R G g 0 hR hG (by omega)) (cwV 2 hts gX5_catchSome_X5_pe rfl rfl rfl (by decide +kernel) ⟨Nat.le_of_ble_eq_true rfl, Nat.le_of_ble_eq_true rfl⟩) hN hK hP hD [0, 1, 2, 3, 4, 5, 6] rfl (by decide) rfl rfl rfl rfl hl.1 rfl (Nat.le_of_ble_eq_true rfl) dX5_catchSome_7 ⟨Nat.le_of_ble_eq_true rfl, Nat.le_of_ble_eq_true rfl⟩) hP hD hS hA [0, 1, 2, 3, 4, 5, 6] [] [0, 1, 2, 3, 4, 5, 6] rfl rfl (by decide) (by decide) rfl (by decide) (fun H locs hP hD hS => ?_)
  refine lv_iv (y := (nI ((F_X5_pe ep g 0).toNatClampNeg))) (hMI.2.2.2 g hg).2 ?_
  refine ial_n (k := (F_X5_pe ep g 0).toNatClampNeg) hx hb hK hP 2 rfl (by have h1 : (F_X5_pe ep g 0).toNatClampNeg < R := (hMI.2.2.2 g hg).1; omega) (by decide) dX5_catchSome_10 ?_
  refine lv_iv (y := (nI ((ew (F_X5_pe ep g 0).toNatClampNeg).toNatClampNeg))) (hMI.2.2.1 _ (hMI.2.2.2 g hg).1).2 ?_
  refine lv_istore_n (lv' := [(2, .int (nI ((ew (F_X5_pe ep g 0).toNatClampNeg).toNatClampNeg))), (0, .ref mx), (1, .int (nI g))]) hx hb dX5_catchSome_11 rfl hl (by decide) rfl (fun ls hl => ?_)
  have lp12 : ∀ (n12 k12 : Nat) (H : Heap) (locs : List Loc) (ls : Array Slot), 50 ≤ k12 + 10 * n12 ∧ k12 < 60 → (F_X5_catchSome eh ew ep g) = L_X5_catchSome_12 eh ep g n12 k12 → va_P D vwCl [(mx, .inr (5, [.int th, .ref mh, .int (nI R), .ref mw, .ref ml, .int (nI G), .ref mp, .ref mq, .ref mb])), (mh, .inl (cy 0, 50, .inl eh)), (mw, .inl (cy 0, 6, .inl ew)), (ml, .inl (cy 0, 6, .inl el)), (mp, .inl (cy 0, 72, .inl ep)), (mq, .inl (cy 0, 2, .inl en)), (mb, .inl (cy 0, 50, .inl eb))] H → va_D A [(mx, .inr (5, [.int th, .ref mh, .int (nI R), .ref mw, .ref ml, .int (nI G), .ref mp, .ref mq, .ref mb])), (mh, .inl (cy 0, 50, .inl eh)), (mw, .inl (cy 0, 6, .inl ew)), (ml, .inl (cy 0, 6, .inl el)), (mp, .inl (cy 0, 72, .inl ep)), (mq, .inl (cy 0, 2, .inl en)), (mb, .inl (cy 0, 50, .inl eb))] → va_S A s.heap H locs → lv_has ls 4 [(2, .int (nI k12)), (0, .ref mx), (1, .int (nI g))] → W p l e (RM 1 0 0 24) s m args below meth c H locs 0 0 Q (F0 m 12 ls []) := by
    intro n12
    induction n12 with
    | zero =>
      intro k12 H locs ls hkn12 hE12 hP hD hS hl
      refine lv_iload_n hx hb dX5_catchSome_12 rfl (lv_at hl 0 rfl) ?_
      refine lv_bipush (v := 50) hx hb dX5_catchSome_13 (by decide) ?_
      refine lv_icmp_ge (tgt := 72) hx hb dX5_catchSome_15 (by decide) (fun c15 => ?_) (fun c15 => ?_)
      rotate_left
      · exact absurd (nI_le (a := 50) (by omega) (by omega)) c15
      subst hQ
      exact en_v (tv := (eh, ep)) hx hb hr hlocks (hE12.trans (by rw [L_X5_catchSome_12])) hK (by first | with_reducible exact hP | exact hP) (by first | with_reducible exact hD | exact hD) hS (Nat.le_refl _) (Nat.le_refl _) dX5_catchSome_72
    | succ n12 ih12 =>
      intro k12 H locs ls hkn12 hE12 hP hD hS hl
      refine lv_iload_n hx hb dX5_catchSome_12 rfl (lv_at hl 0 rfl) ?_
      refine lv_bipush (v := 50) hx hb dX5_catchSome_13 (by decide) ?_
      refine lv_icmp_ge (tgt := 72) hx hb dX5_catchSome_15 (by decide) (fun c15 => ?_) (fun c15 => ?_)
      · subst hQ
        exact en_v (tv := (eh, ep)) hx hb hr hlocks (hE12.trans (by rw [L_X5_catchSome_12, if_pos c15])) hK (by first | with_reducible exact hP | exact hP) (by first | with_reducible exact hD | exact hD) hS (Nat.le_refl _) (Nat.le_refl _) dX5_catchSome_72
      · have hlt12 : k12 < 50 := nlt_of (n := 50) c15 (by omega) (by omega)
        refine lv_aload_n hx hb dX5_catchSome_18 rfl (lv_at hl 1 rfl) ?_
        refine va_get (D := D) (ci := 5) (v := .ref mh) (C := RX5) (T := TX5) (N := 9) hx hb hts hin5 hown hK hP 0 rfl rfl 1 (by decide) (hts (.fieldLink RX5 9 "FireflyInnModel" "hedge" "[I") (List.mem_of_getElem? (i := 2) rfl)) (fun _ h9 => h9) rfl dX5_catchSome_19 ?_
        refine lv_iload_n hx hb dX5_catchSome_22 rfl (lv_at hl 0 rfl) ?_
        refine ial_n (k := k12) hx hb hK hP 1 rfl (by omega) (by decide) dX5_catchSome_23 ?_
        refine lv_if_ne (tgt := 30) hx hb dX5_catchSome_24 (by decide) (fun c24 => ?_) (fun c24 => ?_)
        · refine lv_iconst (v := 3) hx hb dX5_catchSome_30 (by decide) ?_
          refine lv_aload_n hx hb dX5_catchSome_31 rfl (lv_at hl 1 rfl) ?_
          refine va_get (D := D) (ci := 5) (v := .ref mh) (C := RX5) (T := TX5) (N := 9) hx hb hts hin5 hown hK hP 0 rfl rfl 1 (by decide) (hts (.fieldLink RX5 9 "FireflyInnModel" "hedge" "[I") (List.mem_of_getElem? (i := 2) rfl)) (fun _ h9 => h9) rfl dX5_catchSome_32 ?_
          refine lv_iload_n hx hb dX5_catchSome_35 rfl (lv_at hl 0 rfl) ?_
          refine ial_n (k := k12) hx hb hK hP 1 rfl (by omega) (by decide) dX5_catchSome_36 ?_
          refine va_mmin (rest := []) hx hb (hml.trans hl.1.symm) hown (hts (.methodLink RX5 101 Lib.Math.min.name) (List.mem_of_getElem? (i := 3) rfl)) (hts (.static Lib.Math.min.name) (List.mem_of_getElem? (i := 4) rfl)) (hts (.initialized "java/lang/Math") (List.mem_of_getElem? (i := 5) rfl)) (hts (.code Lib.Math.min.name Lib.Math.min.code 2 (some .int)) (List.mem_of_getElem? (i := 6) rfl)) (Nat.le_of_ble_eq_true rfl) (Nat.le_of_ble_eq_true rfl) (Nat.le_of_ble_eq_true rfl) (Nat.le_of_ble_eq_true rfl) dX5_catchSome_37 ?_
          refine lv_iv (y := (mn 3 (eh k12))) rfl ?_
          refine lv_istore_n (lv' := [(3, .int (mn 3 (eh k12))), (2, .int (nI k12)), (0, .ref mx), (1, .int (nI g))]) hx hb dX5_catchSome_40 rfl hl (by decide) rfl (fun ls hl => ?_)
          refine lv_aload_n hx hb dX5_catchSome_41 rfl (lv_at hl 2 rfl) ?_
          refine va_get (D := D) (ci := 5) (v := .ref mh) (C := RX5) (T := TX5) (N := 9) hx hb hts hin5 hown hK hP 0 rfl rfl 1 (by decide) (hts (.fieldLink RX5 9 "FireflyInnModel" "hedge" "[I") (List.mem_of_getElem? (i := 2) rfl)) (fun _ h9 => h9) rfl dX5_catchSome_42 ?_
          refine lv_iload_n hx hb dX5_catchSome_45 rfl (lv_at hl 1 rfl) ?_
          refine lv_dup2_11 hx hb dX5_catchSome_46 rfl rfl ?_
          refine ial_n (k := k12) hx hb hK hP 1 rfl (by omega) (by decide) dX5_catchSome_47 ?_
          refine lv_iload_n hx hb dX5_catchSome_48 rfl (lv_at hl 0 rfl) ?_
          refine lv_isub hx hb dX5_catchSome_49 ?_
          refine ias_n (k := k12) hx hb hK hP hD hS 1 rfl (by omega) (by decide) dX5_catchSome_50 (fun H locs hP hD hS => ?_)
          have hP : va_P D vwCl [(mx, .inr (5, [.int th, .ref mh, .int (nI R), .ref mw, .ref ml, .int (nI G), .ref mp, .ref mq, .ref mb])), (mh, .inl (cy 0, 50, .inl (upd eh k12 ((eh k12) - (mn 3 (eh k12)))))), (mw, .inl (cy 0, 6, .inl ew)), (ml, .inl (cy 0, 6, .inl el)), (mp, .inl (cy 0, 72, .inl ep)), (mq, .inl (cy 0, 2, .inl en)), (mb, .inl (cy 0, 50, .inl eb))] H := hP
          have hD : va_D A [(mx, .inr (5, [.int th, .ref mh, .int (nI R), .ref mw, .ref ml, .int (nI G), .ref mp, .ref mq, .ref mb])), (mh, .inl (cy 0, 50, .inl (upd eh k12 ((eh k12) - (mn 3 (eh k12)))))), (mw, .inl (cy 0, 6, .inl ew)), (ml, .inl (cy 0, 6, .inl el)), (mp, .inl (cy 0, 72, .inl ep)), (mq, .inl (cy 0, 2, .inl en)), (mb, .inl (cy 0, 50, .inl eb))] := hD
          refine lv_aload_n hx hb dX5_catchSome_51 rfl (lv_at hl 2 rfl) ?_
          refine lv_iload_n hx hb dX5_catchSome_52 rfl (lv_at hl 3 rfl) ?_
          refine lv_iconst (v := 3) hx hb dX5_catchSome_53 (by decide) ?_
          refine lv_aload_n hx hb dX5_catchSome_54 rfl (lv_at hl 2 rfl) ?_
          refine lv_iload_n hx hb dX5_catchSome_55 rfl (lv_at hl 3 rfl) ?_
          refine lv_iconst (v := 3) hx hb dX5_catchSome_56 (by decide) ?_
          refine cl_i (wr := []) (w2 := [(mx, .inr (5, [.int th, .ref mh, .int (nI R), .ref mw, .ref ml, .int (nI G), .ref mp, .ref mq, .ref mb])), (mh, .inl (cy 0, 50, .inl (upd eh k12 ((eh k12) - (mn 3 (eh k12)))))), (mw, .inl (cy 0, 6, .inl ew)), (ml, .inl (cy 0, 6, .inl el)), (mp, .inl (cy 0, 72, .inl ep)), (mq, .inl (cy 0, 2, .inl en)), (mb, .inl (cy 0, 50, .inl eb))]) (rn_V (As := [.int (nI g), .int 3]) (rest := [.int 3, .int (nI g), .ref mx]) (ci := 5) (q0 := 0) ⟨hx, hb, hml, hown, hts⟩ (k_X5_pe l D cy _ mx mh mw ml mp mq mb th (upd eh k12 ((eh k12) - (mn 3 (eh k12)))) ew el ep en eb R G g 3 hR hG (by omega)) (cwV 2 hts gX5_catchSome_X5_pe rfl rfl rfl (by decide +kernel) ⟨Nat.le_of_ble_eq_true rfl, Nat.le_of_ble_eq_true rfl⟩) hN hK hP hD [0, 1, 2, 3, 4, 5, 6] rfl (by decide) rfl rfl rfl rfl hl.1 rfl (Nat.le_of_ble_eq_true rfl) dX5_catchSome_57 ⟨Nat.le_of_ble_eq_true rfl, Nat.le_of_ble_eq_true rfl⟩) hP hD hS hA [0, 1, 2, 3, 4, 5, 6] [] [0, 1, 2, 3, 4, 5, 6] rfl rfl (by decide) (by decide) rfl (by decide) (fun H locs hP hD hS => ?_)
          refine lv_iload_n hx hb dX5_catchSome_60 rfl (lv_at hl 0 rfl) ?_
          refine lv_iadd hx hb dX5_catchSome_61 ?_
          refine cl_v (wr := []) (w2 := [(mx, .inr (5, [.int th, .ref mh, .int (nI R), .ref mw, .ref ml, .int (nI G), .ref mp, .ref mq, .ref mb])), (mh, .inl (cy 0, 50, .inl (upd eh k12 ((eh k12) - (mn 3 (eh k12)))))), (mw, .inl (cy 0, 6, .inl ew)), (ml, .inl (cy 0, 6, .inl el)), (mp, .inl (cy 0, 72, .inl (F_X5_put ep g 3 ((F_X5_pe ep g 3) + (mn 3 (eh k12)))))), (mq, .inl (cy 0, 2, .inl en)), (mb, .inl (cy 0, 50, .inl eb))]) (rn_V (As := [.int (nI g), .int 3, .int ((F_X5_pe ep g 3) + (mn 3 (eh k12)))]) (rest := []) (ci := 5) (q0 := 0) ⟨hx, hb, hml, hown, hts⟩ (k_X5_put l D cy _ mx mh mw ml mp mq mb th (upd eh k12 ((eh k12) - (mn 3 (eh k12)))) ew el ep en eb R G g 3 ((F_X5_pe ep g 3) + (mn 3 (eh k12))) hR hG (by omega)) (cwV 3 hts gX5_catchSome_X5_put rfl rfl rfl (by decide +kernel) ⟨Nat.le_of_ble_eq_true rfl, Nat.le_of_ble_eq_true rfl⟩) hN hK hP hD [0, 1, 2, 3, 4, 5, 6] rfl (by decide) rfl rfl rfl rfl hl.1 rfl (Nat.le_of_ble_eq_true rfl) dX5_catchSome_62 ⟨Nat.le_of_ble_eq_true rfl, Nat.le_of_ble_eq_true rfl⟩) hP hD hS hA [0, 1, 2, 3, 4, 5, 6] [] [0, 1, 2, 3, 4, 5, 6] rfl rfl (by decide) (by decide) rfl (by decide) (fun H locs hP hD hS => ?_)
          subst hQ
          exact en_v (tv := ((upd eh k12 ((eh k12) - (mn 3 (eh k12)))), (F_X5_put ep g 3 ((F_X5_pe ep g 3) + (mn 3 (eh k12)))))) hx hb hr hlocks (hE12.trans (by rw [L_X5_catchSome_12, if_neg c15, if_neg c24])) hK (by first | with_reducible exact hP | exact hP) (by first | with_reducible exact hD | exact hD) hS (Nat.le_refl _) (Nat.le_refl _) dX5_catchSome_65
        · refine lv_goto (tgt := 66) hx hb dX5_catchSome_27 (by decide) ?_
          refine lv_iinc (v := (nI (k12 + 10))) (lv' := [(2, .int (nI (k12 + 10))), (0, .ref mx), (1, .int (nI g))]) hx hb dX5_catchSome_66 hl (k := 0) rfl (nI_add k12 10) (by decide) rfl (fun ls hl => ?_)
          refine lv_goto (tgt := 12) hx hb dX5_catchSome_69 (by decide) ?_
          exact ih12 (k12 + 10)  _ _ _ (by omega) (hE12.trans (by rw [L_X5_catchSome_12, if_neg c15, if_pos c24])) hP hD hS (lv_sub hl [0, 1, 2] rfl)
  exact lp12 5 ((ew (F_X5_pe ep g 0).toNatClampNeg).toNatClampNeg)  _ _ _ (by have h1 : (ew (F_X5_pe ep g 0).toNatClampNeg).toNatClampNeg < 10 := (hMI.2.2.1 _ (hMI.2.2.2 g hg).1).1; omega) (by rw [F_X5_catchSome]) hP hD hS (lv_sub hl [0, 1, 2] rfl)
