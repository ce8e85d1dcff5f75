def S_X5_digest_11 (eh : Nat → Int32) (ew : Nat → Int32) (el : Nat → Int32) (ep : Nat → Int32) (en : Nat → Int32) (R : Nat) (G : Nat) (k11 : Nat) (v1_11 : Int64) : Int64 :=
  ((v1_11 * 31) + ((F_X5_counted eh ew el ep en R G (nI k11)) : Int32).toInt64)
def I_X5_digest_11 (eh : Nat → Int32) (ew : Nat → Int32) (el : Nat → Int32) (ep : Nat → Int32) (en : Nat → Int32) (R : Nat) (G : Nat) : Int64 :=
  it (fun (k : Nat) (v : Int64) => S_X5_digest_11 eh ew el ep en R G k v) 9 0 1093
def S_X5_digest_48 (eh : Nat → Int32) (k48 : Nat) (v1_48 : Int64) : Int64 :=
  ((v1_48 * 31) + ((eh k48) : Int32).toInt64)
def I_X5_digest_48 (eh : Nat → Int32) (ew : Nat → Int32) (el : Nat → Int32) (ep : Nat → Int32) (en : Nat → Int32) (R : Nat) (G : Nat) : Int64 :=
  it (fun (k : Nat) (v : Int64) => S_X5_digest_48 eh k v) 50 0 (I_X5_digest_11 eh ew el ep en R G)
def S_X5_digest_90 (ew : Nat → Int32) (el : Nat → Int32) (ep : Nat → Int32) (G : Nat) (k79 : Nat) (k90 : Nat) (v1_90 : Int64) : Int64 :=
  ((v1_90 * 31) + ((F_X5_roomTold ew el ep G k79 (nI k90)) : Int32).toInt64)
def I_X5_digest_90 (ew : Nat → Int32) (el : Nat → Int32) (ep : Nat → Int32) (G : Nat) (k79 : Nat) (v1_79 : Int64) : Int64 :=
  it (fun (k : Nat) (v : Int64) => S_X5_digest_90 ew el ep G k79 k v) 5 0 v1_79
def S_X5_digest_79 (ew : Nat → Int32) (el : Nat → Int32) (ep : Nat → Int32) (G : Nat) (k79 : Nat) (v4_79 : Int32) (v1_79 : Int64) : Int32 × Int64 :=
  ((nI 5), (I_X5_digest_90 ew el ep G k79 v1_79))
def I_X5_digest_79 (eh : Nat → Int32) (ew : Nat → Int32) (el : Nat → Int32) (ep : Nat → Int32) (en : Nat → Int32) (R : Nat) (G : Nat) : Int32 × Int64 :=
  it (fun (k : Nat) (v : Int32 × Int64) => S_X5_digest_79 ew el ep G k v.1 v.2) R 0 (50, (I_X5_digest_48 eh ew el ep en R G))
def S_X5_digest_136 (ep : Nat → Int32) (k125 : Nat) (k136 : Nat) (v1_136 : Int64) : Int64 :=
  ((v1_136 * 31) + ((F_X5_pe ep k125 k136) : Int32).toInt64)
def I_X5_digest_136 (ep : Nat → Int32) (k125 : Nat) (v1_125 : Int64) : Int64 :=
  it (fun (k : Nat) (v : Int64) => S_X5_digest_136 ep k125 k v) 6 0 v1_125
def S_X5_digest_125 (ep : Nat → Int32) (k125 : Nat) (v4_125 : Int32) (v1_125 : Int64) : Int32 × Int64 :=
  ((nI 6), (I_X5_digest_136 ep k125 v1_125))
def I_X5_digest_125 (eh : Nat → Int32) (ew : Nat → Int32) (el : Nat → Int32) (ep : Nat → Int32) (en : Nat → Int32) (R : Nat) (G : Nat) : Int32 × Int64 :=
  it (fun (k : Nat) (v : Int32 × Int64) => S_X5_digest_125 ep k v.1 v.2) G 0 ((I_X5_digest_79 eh ew el ep en R G).1, (I_X5_digest_79 eh ew el ep en R G).2)
def F_X5_digest (eh : Nat → Int32) (ew : Nat → Int32) (el : Nat → Int32) (ep : Nat → Int32) (en : Nat → Int32) (R : Nat) (G : Nat) : Int64 × Int32 :=
  ((I_X5_digest_125 eh ew el ep en R G).2, 0)
set_option maxHeartbeats 4000000 in
set_option maxRecDepth 100000 in
theorem k_X5_digest (l : Launch) (D : va_G) (cy : Nat → ClassId) (sz : Nat) (mx mh mw ml mp mq mb : Nat) (th : Int32) (eh : Nat → Int32) (ew : Nat → Int32) (el : Nat → Int32) (ep : Nat → Int32) (en : Nat → Int32) (eb : Nat → Int32) (R : Nat) (G : Nat) (nt : Nat) (hR : R ≤ 6) (hG : G ≤ 12) : MTa l D cy yX5_digest wsX5_digest 3 0 0 69 [(mx, .inr (5, [.int th, .ref mh, .int (nI R), .ref mw, .ref ml, .int (nI G), .ref mp, .ref mq, .ref mb])), (mh, .inl (cy 0, 50, .inl eh)), (mw, .inl (cy 0, 6, .inl ew)), (ml, .inl (cy 0, 6, .inl el)), (mp, .inl (cy 0, 72, .inl ep)), (mq, .inl (cy 0, 2, .inl en)), (mb, .inl (cy 0, 50, .inl eb))] sz [.ref mx] (fun A => QlT D cy (fun (t : Int64 × Int32) => t.1) (fun (t : Int64 × Int32) => [(mx, .inr (5, [.int t.2, .ref mh, .int (nI R), .ref mw, .ref ml, .int (nI G), .ref mp, .ref mq, .ref mb])), (mh, .inl (cy 0, 50, .inl eh)), (mw, .inl (cy 0, 6, .inl ew)), (ml, .inl (cy 0, 6, .inl el)), (mp, .inl (cy 0, 72, .inl ep)), (mq, .inl (cy 0, 2, .inl en)), (mb, .inl (cy 0, 50, .inl eb))]) (F_X5_digest eh ew el ep en R G) A) := by
  refine ofWT (cc := cX5_digest) (maxL := 7) (ret := (some .long)) (own := RX5) (by decide) rfl (Nat.le_of_ble_eq_true rfl) rfl ?_
  intro p e s m args below meth c A ls hx hb hr hml hts hown hlocks hin hN hK hP hD hA hl
  have hS : va_S A s.heap s.heap [] := va_S.rf
  have hl : lv_has ls 7 [(0, .ref mx)] := hl
  have hin5 : ∀ w ∈ u_ws RX5 TX5 9, w ∈ wsX5_digest := (fun w h => List.mem_cons_of_mem _ (List.mem_append_right _ h))
  generalize hQ : MQ below ((fun A => QlT D cy (fun (t : Int64 × Int32) => t.1) (fun (t : Int64 × Int32) => [(mx, .inr (5, [.int t.2, .ref mh, .int (nI R), .ref mw, .ref ml, .int (nI G), .ref mp, .ref mq, .ref mb])), (mh, .inl (cy 0, 50, .inl eh)), (mw, .inl (cy 0, 6, .inl ew)), (ml, .inl (cy 0, 6, .inl el)), (mp, .inl (cy 0, 72, .inl ep)), (mq, .inl (cy 0, 2, .inl en)), (mb, .inl (cy 0, 50, .inl eb))]) (F_X5_digest eh ew el ep en R G) A) A) args s 0 0 A = Q
  refine lv_aload_n hx hb dX5_digest_0 rfl (lv_at hl 0 rfl) ?_
  refine lv_iconst (v := 0) hx hb dX5_digest_1 (by decide) ?_
  refine va_put (D := D) (ci := 5) (v := .int 0) (ty := .int) (C := RX5) (T := TX5) (N := 9) hx hb hts hin5 tyX5 tyX5_ok nmX5 hown hK hP hD hS 0 rfl rfl 0 (by decide) (hts (.fieldLink RX5 28 "FireflyInnModel" "thrown" "I") (List.mem_of_getElem? (i := 1) rfl)) (fun _ h9 => h9) rfl (by decide +kernel) rfl rfl (Nat.le_of_ble_eq_true rfl) dX5_digest_2 (fun H locs hP hD hS => ?_)
  have hP : va_P D vwCl [(mx, .inr (5, [.int 0, .ref mh, .int (nI R), .ref mw, .ref ml, .int (nI G), .ref mp, .ref mq, .ref mb])), (mh, .inl (cy 0, 50, .inl eh)), (mw, .inl (cy 0, 6, .inl ew)), (ml, .inl (cy 0, 6, .inl el)), (mp, .inl (cy 0, 72, .inl ep)), (mq, .inl (cy 0, 2, .inl en)), (mb, .inl (cy 0, 50, .inl eb))] H := hP
  have hD : va_D A [(mx, .inr (5, [.int 0, .ref mh, .int (nI R), .ref mw, .ref ml, .int (nI G), .ref mp, .ref mq, .ref mb])), (mh, .inl (cy 0, 50, .inl eh)), (mw, .inl (cy 0, 6, .inl ew)), (ml, .inl (cy 0, 6, .inl el)), (mp, .inl (cy 0, 72, .inl ep)), (mq, .inl (cy 0, 2, .inl en)), (mb, .inl (cy 0, 50, .inl eb))] := hD
  refine lv_ldc2 (v := 1093) hx hb hown (hts (.constantLong RX5 136 (1093)) (List.mem_of_getElem? (i := 2) rfl)) dX5_digest_5 ?_
  refine lv_lstore_n (lv' := [(1, .long 1093), (0, .ref mx)]) hx hb dX5_digest_8 rfl hl (by decide) rfl (fun ls hl => ?_)
  refine lv_iconst (v := 0) hx hb dX5_digest_9 (by decide) ?_
  refine lv_istore_n (lv' := [(3, .int 0), (1, .long 1093), (0, .ref mx)]) hx hb dX5_digest_10 rfl hl (by decide) rfl (fun ls hl => ?_)
  obtain ⟨fin11, hfin11⟩ : ∃ z, (I_X5_digest_11 eh ew el ep en R G) = z := ⟨_, rfl⟩
  suffices kk11 : ∀ (H : Heap) (locs : List Loc) (ls : Array Slot), va_P D vwCl [(mx, .inr (5, [.int 0, .ref mh, .int (nI R), .ref mw, .ref ml, .int (nI G), .ref mp, .ref mq, .ref mb])), (mh, .inl (cy 0, 50, .inl eh)), (mw, .inl (cy 0, 6, .inl ew)), (ml, .inl (cy 0, 6, .inl el)), (mp, .inl (cy 0, 72, .inl ep)), (mq, .inl (cy 0, 2, .inl en)), (mb, .inl (cy 0, 50, .inl eb))] H → va_D A [(mx, .inr (5, [.int 0, .ref mh, .int (nI R), .ref mw, .ref ml, .int (nI G), .ref mp, .ref mq, .ref mb])), (mh, .inl (cy 0, 50, .inl eh)), (mw, .inl (cy 0, 6, .inl ew)), (ml, .inl (cy 0, 6, .inl el)), (mp, .inl (cy 0, 72, .inl ep)), (mq, .inl (cy 0, 2, .inl en)), (mb, .inl (cy 0, 50, .inl eb))] → va_S A s.heap H locs → lv_has ls 7 [(3, .int (nI 9)), (1, .long fin11), (0, .ref mx)] → W p l e (RM 3 0 0 69) s m args below meth c H locs 0 0 Q (F0 m 36 ls []) by
    have lp11 : ∀ (n11 k11 : Nat) (v1_11 : Int64) (H : Heap) (locs : List Loc) (ls : Array Slot), k11 + n11 = 9 → it (fun (k : Nat) (v : Int64) => S_X5_digest_11 eh ew el ep en R G k v) n11 k11 v1_11 = fin11 → va_P D vwCl [(mx, .inr (5, [.int 0, .ref mh, .int (nI R), .ref mw, .ref ml, .int (nI G), .ref mp, .ref mq, .ref mb])), (mh, .inl (cy 0, 50, .inl eh)), (mw, .inl (cy 0, 6, .inl ew)), (ml, .inl (cy 0, 6, .inl el)), (mp, .inl (cy 0, 72, .inl ep)), (mq, .inl (cy 0, 2, .inl en)), (mb, .inl (cy 0, 50, .inl eb))] H → va_D A [(mx, .inr (5, [.int 0, .ref mh, .int (nI R), .ref mw, .ref ml, .int (nI G), .ref mp, .ref mq, .ref mb])), (mh, .inl (cy 0, 50, .inl eh)), (mw, .inl (cy 0, 6, .inl ew)), (ml, .inl (cy 0, 6, .inl el)), (mp, .inl (cy 0, 72, .inl ep)), (mq, .inl (cy 0, 2, .inl en)), (mb, .inl (cy 0, 50, .inl eb))] → va_S A s.heap H locs → lv_has ls 7 [(3, .int (nI k11)), (1, .long v1_11), (0, .ref mx)] → W p l e (RM 3 0 0 69) s m args below meth c H locs 0 0 Q (F0 m 11 ls []) := by
      intro n11
      induction n11 with
      | zero =>
        intro k11 v1_11 H locs ls hkn11 hE11 hP hD hS hl
        have hk11 : 9 = k11 := by omega
        subst hk11
        have hE11 : v1_11 = fin11 := hE11
        subst hE11
        refine lv_iload_n hx hb dX5_digest_11 rfl (lv_at hl 0 rfl) ?_
        refine lv_bipush (v := 9) hx hb dX5_digest_12 (by decide) ?_
        refine lv_icmp_ge (tgt := 36) hx hb dX5_digest_14 (by decide) (fun c14 => ?_) (fun c14 => ?_)
        rotate_left
        · exact absurd (nI_le (a := 9) (b := 9) (Nat.le_refl _) (by decide)) c14
        exact kk11 _ _ _ hP hD hS (lv_sub hl [0, 1, 2] rfl)
      | succ n11 ih11 =>
        intro k11 v1_11 H locs ls hkn11 hE11 hP hD hS hl
        have hlt11 : k11 < 9 := by omega
        refine lv_iload_n hx hb dX5_digest_11 rfl (lv_at hl 0 rfl) ?_
        refine lv_bipush (v := 9) hx hb dX5_digest_12 (by decide) ?_
        refine lv_icmp_ge (tgt := 36) hx hb dX5_digest_14 (by decide) (fun c14 => ?_) (fun c14 => ?_)
        · exact absurd c14 (nI_ge (a := k11) (b := 9) hlt11 (by decide))
        refine lv_lload_n hx hb dX5_digest_17 rfl (lv_at hl 1 rfl) ?_
        refine lv_ldc2 (v := 31) hx hb hown (hts (.constantLong RX5 138 (31)) (List.mem_of_getElem? (i := 3) rfl)) dX5_digest_18 ?_
        refine lv_lmul hx hb dX5_digest_21 ?_
        refine lv_aload_n hx hb dX5_digest_22 rfl (lv_at hl 2 rfl) ?_
        refine lv_iload_n hx hb dX5_digest_23 rfl (lv_at hl 0 rfl) ?_
        refine cl_i (wr := []) (w2 := [(mx, .inr (5, [.int 0, .ref mh, .int (nI R), .ref mw, .ref ml, .int (nI G), .ref mp, .ref mq, .ref mb])), (mh, .inl (cy 0, 50, .inl eh)), (mw, .inl (cy 0, 6, .inl ew)), (ml, .inl (cy 0, 6, .inl el)), (mp, .inl (cy 0, 72, .inl ep)), (mq, .inl (cy 0, 2, .inl en)), (mb, .inl (cy 0, 50, .inl eb))]) (rn_V (As := [.int (nI k11)]) (rest := [.long (v1_11 * 31)]) (ci := 5) (q0 := 0) ⟨hx, hb, hml, hown, hts⟩ (k_X5_counted l D cy _ mx mh mw ml mp mq mb 0 eh ew el ep en eb R G (nI k11) hR hG) (cwV 1 hts gX5_digest_X5_counted rfl rfl rfl (by decide +kernel) ⟨Nat.le_of_ble_eq_true rfl, Nat.le_of_ble_eq_true rfl⟩) hN hK hP hD [0, 1, 2, 3, 4, 5, 6] rfl (by decide) rfl rfl rfl rfl hl.1 rfl (Nat.le_of_ble_eq_true rfl) dX5_digest_24 ⟨Nat.le_of_ble_eq_true rfl, Nat.le_of_ble_eq_true rfl⟩) hP hD hS hA [0, 1, 2, 3, 4, 5, 6] [] [0, 1, 2, 3, 4, 5, 6] rfl rfl (by decide) (by decide) rfl (by decide) (fun H locs hP hD hS => ?_)
        refine lv_i2l (v := ((F_X5_counted eh ew el ep en R G (nI k11)) : Int32).toInt64) hx hb dX5_digest_27 rfl ?_
        refine lv_ladd hx hb dX5_digest_28 ?_
        refine lv_lstore_n (lv' := [(1, .long ((v1_11 * 31) + ((F_X5_counted eh ew el ep en R G (nI k11)) : Int32).toInt64)), (3, .int (nI k11)), (0, .ref mx)]) hx hb dX5_digest_29 rfl hl (by decide) rfl (fun ls hl => ?_)
        refine lv_iinc (v := (nI (k11 + 1))) (lv' := [(3, .int (nI (k11 + 1))), (1, .long ((v1_11 * 31) + ((F_X5_counted eh ew el ep en R G (nI k11)) : Int32).toInt64)), (0, .ref mx)]) hx hb dX5_digest_30 hl (k := 1) rfl (nI_1 k11) (by decide) rfl (fun ls hl => ?_)
        refine lv_goto (tgt := 11) hx hb dX5_digest_33 (by decide) ?_
        exact ih11 (k11 + 1) ((v1_11 * 31) + ((F_X5_counted eh ew el ep en R G (nI k11)) : Int32).toInt64) _ _ _ (by omega) (it_step (f := (fun (k : Nat) (v : Int64) => S_X5_digest_11 eh ew el ep en R G k v)) (v := v1_11) (show S_X5_digest_11 eh ew el ep en R G k11 v1_11 = ((v1_11 * 31) + ((F_X5_counted eh ew el ep en R G (nI k11)) : Int32).toInt64) from by rw [S_X5_digest_11]) hE11) hP hD hS (lv_sub hl [0, 1, 2] rfl)
    exact lp11 9 0 1093 _ _ _ (by omega) hfin11 hP hD hS (lv_sub hl [0, 1, 2] rfl)
  intro H locs ls hP hD hS hl
  subst hfin11
  refine lv_aload_n hx hb dX5_digest_36 rfl (lv_at hl 2 rfl) ?_
  refine va_get (D := D) (ci := 5) (v := .ref mh) (C := RX5) (T := TX5) (N := 9) hx hb hts hin5 hown hK hP 0 rfl rfl 1 (by decide) (hts (.fieldLink RX5 9 "FireflyInnModel" "hedge" "[I") (List.mem_of_getElem? (i := 4) rfl)) (fun _ h9 => h9) rfl dX5_digest_37 ?_
  refine lv_astore_n (lv' := [(3, .ref mh), (1, .long (I_X5_digest_11 eh ew el ep en R G)), (0, .ref mx)]) hx hb dX5_digest_40 rfl hl (by decide) rfl (fun ls hl => ?_)
  refine lv_aload_n hx hb dX5_digest_41 rfl (lv_at hl 0 rfl) ?_
  refine va_alen (v := 50) hx hb hK hP 1 0 rfl rfl rfl dX5_digest_42 ?_
  refine lv_istore (lv' := [(4, .int 50), (3, .ref mh), (1, .long (I_X5_digest_11 eh ew el ep en R G)), (0, .ref mx)]) hx hb dX5_digest_43 hl (by decide) rfl (fun ls hl => ?_)
  refine lv_iconst (v := 0) hx hb dX5_digest_45 (by decide) ?_
  refine lv_istore (lv' := [(5, .int 0), (4, .int 50), (3, .ref mh), (1, .long (I_X5_digest_11 eh ew el ep en R G)), (0, .ref mx)]) hx hb dX5_digest_46 hl (by decide) rfl (fun ls hl => ?_)
  obtain ⟨fin48, hfin48⟩ : ∃ z, (I_X5_digest_48 eh ew el ep en R G) = z := ⟨_, rfl⟩
  suffices kk48 : ∀ (H : Heap) (locs : List Loc) (ls : Array Slot), va_P D vwCl [(mx, .inr (5, [.int 0, .ref mh, .int (nI R), .ref mw, .ref ml, .int (nI G), .ref mp, .ref mq, .ref mb])), (mh, .inl (cy 0, 50, .inl eh)), (mw, .inl (cy 0, 6, .inl ew)), (ml, .inl (cy 0, 6, .inl el)), (mp, .inl (cy 0, 72, .inl ep)), (mq, .inl (cy 0, 2, .inl en)), (mb, .inl (cy 0, 50, .inl eb))] H → va_D A [(mx, .inr (5, [.int 0, .ref mh, .int (nI R), .ref mw, .ref ml, .int (nI G), .ref mp, .ref mq, .ref mb])), (mh, .inl (cy 0, 50, .inl eh)), (mw, .inl (cy 0, 6, .inl ew)), (ml, .inl (cy 0, 6, .inl el)), (mp, .inl (cy 0, 72, .inl ep)), (mq, .inl (cy 0, 2, .inl en)), (mb, .inl (cy 0, 50, .inl eb))] → va_S A s.heap H locs → lv_has ls 7 [(5, .int (nI 50)), (4, .int 50), (3, .ref mh), (1, .long fin48), (0, .ref mx)] → W p l e (RM 3 0 0 69) s m args below meth c H locs 0 0 Q (F0 m 77 ls []) by
    have lp48 : ∀ (n48 k48 : Nat) (v1_48 : Int64) (H : Heap) (locs : List Loc) (ls : Array Slot), k48 + n48 = 50 → it (fun (k : Nat) (v : Int64) => S_X5_digest_48 eh k v) n48 k48 v1_48 = fin48 → va_P D vwCl [(mx, .inr (5, [.int 0, .ref mh, .int (nI R), .ref mw, .ref ml, .int (nI G), .ref mp, .ref mq, .ref mb])), (mh, .inl (cy 0, 50, .inl eh)), (mw, .inl (cy 0, 6, .inl ew)), (ml, .inl (cy 0, 6, .inl el)), (mp, .inl (cy 0, 72, .inl ep)), (mq, .inl (cy 0, 2, .inl en)), (mb, .inl (cy 0, 50, .inl eb))] H → va_D A [(mx, .inr (5, [.int 0, .ref mh, .int (nI R), .ref mw, .ref ml, .int (nI G), .ref mp, .ref mq, .ref mb])), (mh, .inl (cy 0, 50, .inl eh)), (mw, .inl (cy 0, 6, .inl ew)), (ml, .inl (cy 0, 6, .inl el)), (mp, .inl (cy 0, 72, .inl ep)), (mq, .inl (cy 0, 2, .inl en)), (mb, .inl (cy 0, 50, .inl eb))] → va_S A s.heap H locs → lv_has ls 7 [(5, .int (nI k48)), (4, .int 50), (3, .ref mh), (1, .long v1_48), (0, .ref mx)] → W p l e (RM 3 0 0 69) s m args below meth c H locs 0 0 Q (F0 m 48 ls []) := by
      intro n48
      induction n48 with
      | zero =>
        intro k48 v1_48 H locs ls hkn48 hE48 hP hD hS hl
        have hk48 : 50 = k48 := by omega
        subst hk48
        have hE48 : v1_48 = fin48 := hE48
        subst hE48
        refine lv_iload hx hb dX5_digest_48 (lv_at hl 0 rfl) ?_
        refine lv_iload hx hb dX5_digest_50 (lv_at hl 1 rfl) ?_
        refine lv_icmp_ge (tgt := 77) hx hb dX5_digest_52 (by decide) (fun c52 => ?_) (fun c52 => ?_)
        rotate_left
        · exact absurd (nI_le (a := 50) (b := 50) (Nat.le_refl _) (by decide)) c52
        exact kk48 _ _ _ hP hD hS (lv_sub hl [0, 1, 2, 3, 4] rfl)
      | succ n48 ih48 =>
        intro k48 v1_48 H locs ls hkn48 hE48 hP hD hS hl
        have hlt48 : k48 < 50 := by omega
        refine lv_iload hx hb dX5_digest_48 (lv_at hl 0 rfl) ?_
        refine lv_iload hx hb dX5_digest_50 (lv_at hl 1 rfl) ?_
        refine lv_icmp_ge (tgt := 77) hx hb dX5_digest_52 (by decide) (fun c52 => ?_) (fun c52 => ?_)
        · exact absurd c52 (nI_ge (a := k48) (b := 50) hlt48 (by decide))
        refine lv_aload_n hx hb dX5_digest_55 rfl (lv_at hl 2 rfl) ?_
        refine lv_iload hx hb dX5_digest_56 (lv_at hl 0 rfl) ?_
        refine ial_n (k := k48) hx hb hK hP 1 rfl (by omega) (by decide) dX5_digest_58 ?_
        refine lv_istore (lv' := [(6, .int (eh k48)), (5, .int (nI k48)), (4, .int 50), (3, .ref mh), (1, .long v1_48), (0, .ref mx)]) hx hb dX5_digest_59 hl (by decide) rfl (fun ls hl => ?_)
        refine lv_lload_n hx hb dX5_digest_61 rfl (lv_at hl 4 rfl) ?_
        refine lv_ldc2 (v := 31) hx hb hown (hts (.constantLong RX5 138 (31)) (List.mem_of_getElem? (i := 3) rfl)) dX5_digest_62 ?_
        refine lv_lmul hx hb dX5_digest_65 ?_
        refine lv_iload hx hb dX5_digest_66 (lv_at hl 0 rfl) ?_
        refine lv_i2l (v := ((eh k48) : Int32).toInt64) hx hb dX5_digest_68 rfl ?_
        refine lv_ladd hx hb dX5_digest_69 ?_
        refine lv_lstore_n (lv' := [(1, .long ((v1_48 * 31) + ((eh k48) : Int32).toInt64)), (6, .int (eh k48)), (5, .int (nI k48)), (4, .int 50), (3, .ref mh), (0, .ref mx)]) hx hb dX5_digest_70 rfl hl (by decide) rfl (fun ls hl => ?_)
        refine lv_iinc (v := (nI (k48 + 1))) (lv' := [(5, .int (nI (k48 + 1))), (1, .long ((v1_48 * 31) + ((eh k48) : Int32).toInt64)), (6, .int (eh k48)), (4, .int 50), (3, .ref mh), (0, .ref mx)]) hx hb dX5_digest_71 hl (k := 2) rfl (nI_1 k48) (by decide) rfl (fun ls hl => ?_)
        refine lv_goto (tgt := 48) hx hb dX5_digest_74 (by decide) ?_
        exact ih48 (k48 + 1) ((v1_48 * 31) + ((eh k48) : Int32).toInt64) _ _ _ (by omega) (it_step (f := (fun (k : Nat) (v : Int64) => S_X5_digest_48 eh k v)) (v := v1_48) (show S_X5_digest_48 eh k48 v1_48 = ((v1_48 * 31) + ((eh k48) : Int32).toInt64) from by rw [S_X5_digest_48]) hE48) hP hD hS (lv_sub hl [0, 3, 4, 1, 5] rfl)
    exact lp48 50 0 (I_X5_digest_11 eh ew el ep en R G) _ _ _ (by omega) hfin48 hP hD hS (lv_sub hl [0, 1, 2, 3, 4] rfl)
  intro H locs ls hP hD hS hl
  subst hfin48
  refine lv_iconst (v := 0) hx hb dX5_digest_77 (by decide) ?_
  refine lv_istore_n (lv' := [(3, .int 0), (5, .int (nI 50)), (4, .int 50), (1, .long (I_X5_digest_48 eh ew el ep en R G)), (0, .ref mx)]) hx hb dX5_digest_78 rfl hl (by decide) rfl (fun ls hl => ?_)
  obtain ⟨fin79, hfin79⟩ : ∃ z, (I_X5_digest_79 eh ew el ep en R G) = z := ⟨_, rfl⟩
  suffices kk79 : ∀ (H : Heap) (locs : List Loc) (ls : Array Slot), va_P D vwCl [(mx, .inr (5, [.int 0, .ref mh, .int (nI R), .ref mw, .ref ml, .int (nI G), .ref mp, .ref mq, .ref mb])), (mh, .inl (cy 0, 50, .inl eh)), (mw, .inl (cy 0, 6, .inl ew)), (ml, .inl (cy 0, 6, .inl el)), (mp, .inl (cy 0, 72, .inl ep)), (mq, .inl (cy 0, 2, .inl en)), (mb, .inl (cy 0, 50, .inl eb))] H → va_D A [(mx, .inr (5, [.int 0, .ref mh, .int (nI R), .ref mw, .ref ml, .int (nI G), .ref mp, .ref mq, .ref mb])), (mh, .inl (cy 0, 50, .inl eh)), (mw, .inl (cy 0, 6, .inl ew)), (ml, .inl (cy 0, 6, .inl el)), (mp, .inl (cy 0, 72, .inl ep)), (mq, .inl (cy 0, 2, .inl en)), (mb, .inl (cy 0, 50, .inl eb))] → va_S A s.heap H locs → lv_has ls 7 [(3, .int (nI R)), (5, .int (nI 50)), (4, .int fin79.1), (1, .long fin79.2), (0, .ref mx)] → W p l e (RM 3 0 0 69) s m args below meth c H locs 0 0 Q (F0 m 123 ls []) by
    have lp79 : ∀ (n79 k79 : Nat) (v4_79 : Int32) (v1_79 : Int64) (H : Heap) (locs : List Loc) (ls : Array Slot), k79 + n79 = R → it (fun (k : Nat) (v : Int32 × Int64) => S_X5_digest_79 ew el ep G k v.1 v.2) n79 k79 (v4_79, v1_79) = fin79 → va_P D vwCl [(mx, .inr (5, [.int 0, .ref mh, .int (nI R), .ref mw, .ref ml, .int (nI G), .ref mp, .ref mq, .ref mb])), (mh, .inl (cy 0, 50, .inl eh)), (mw, .inl (cy 0, 6, .inl ew)), (ml, .inl (cy 0, 6, .inl el)), (mp, .inl (cy 0, 72, .inl ep)), (mq, .inl (cy 0, 2, .inl en)), (mb, .inl (cy 0, 50, .inl eb))] H → va_D A [(mx, .inr (5, [.int 0, .ref mh, .int (nI R), .ref mw, .ref ml, .int (nI G), .ref mp, .ref mq, .ref mb])), (mh, .inl (cy 0, 50, .inl eh)), (mw, .inl (cy 0, 6, .inl ew)), (ml, .inl (cy 0, 6, .inl el)), (mp, .inl (cy 0, 72, .inl ep)), (mq, .inl (cy 0, 2, .inl en)), (mb, .inl (cy 0, 50, .inl eb))] → va_S A s.heap H locs → lv_has ls 7 [(3, .int (nI k79)), (5, .int (nI 50)), (4, .int v4_79), (1, .long v1_79), (0, .ref mx)] → W p l e (RM 3 0 0 69) s m args below meth c H locs 0 0 Q (F0 m 79 ls []) := by
      intro n79
      induction n79 with
      | zero =>
        intro k79 v4_79 v1_79 H locs ls hkn79 hE79 hP hD hS hl
        have hk79 : R = k79 := by omega
        subst hk79
        have hE79 : (v4_79, v1_79) = fin79 := hE79
        subst hE79
        refine lv_iload_n hx hb dX5_digest_79 rfl (lv_at hl 0 rfl) ?_
        refine lv_aload_n hx hb dX5_digest_80 rfl (lv_at hl 4 rfl) ?_
        refine va_get (D := D) (ci := 5) (v := .int (nI R)) (C := RX5) (T := TX5) (N := 9) hx hb hts hin5 hown hK hP 0 rfl rfl 2 (by decide) (hts (.fieldLink RX5 36 "FireflyInnModel" "rooms" "I") (List.mem_of_getElem? (i := 5) rfl)) (fun _ h9 => h9) rfl dX5_digest_81 ?_
        refine lv_icmp_ge (tgt := 123) hx hb dX5_digest_84 (by decide) (fun c84 => ?_) (fun c84 => ?_)
        rotate_left
        · exact absurd (nI_le (a := R) (b := R) (Nat.le_refl _) (by omega)) c84
        exact kk79 _ _ _ hP hD hS (lv_sub hl [0, 1, 2, 3, 4] rfl)
      | succ n79 ih79 =>
        intro k79 v4_79 v1_79 H locs ls hkn79 hE79 hP hD hS hl
        have hlt79 : k79 < R := by omega
        refine lv_iload_n hx hb dX5_digest_79 rfl (lv_at hl 0 rfl) ?_
        refine lv_aload_n hx hb dX5_digest_80 rfl (lv_at hl 4 rfl) ?_
        refine va_get (D := D) (ci := 5) (v := .int (nI R)) (C := RX5) (T := TX5) (N := 9) hx hb hts hin5 hown hK hP 0 rfl rfl 2 (by decide) (hts (.fieldLink RX5 36 "FireflyInnModel" "rooms" "I") (List.mem_of_getElem? (i := 5) rfl)) (fun _ h9 => h9) rfl dX5_digest_81 ?_
        refine lv_icmp_ge (tgt := 123) hx hb dX5_digest_84 (by decide) (fun c84 => ?_) (fun c84 => ?_)
        · exact absurd c84 (nI_ge (a := k79) (b := R) hlt79 (by omega))
        refine lv_iconst (v := 0) hx hb dX5_digest_87 (by decide) ?_
        refine lv_istore (lv' := [(4, .int 0), (3, .int (nI k79)), (5, .int (nI 50)), (1, .long v1_79), (0, .ref mx)]) hx hb dX5_digest_88 hl (by decide) rfl (fun ls hl => ?_)
        obtain ⟨fin90, hfin90⟩ : ∃ z, (I_X5_digest_90 ew el ep G k79 v1_79) = z := ⟨_, rfl⟩
        suffices kk90 : ∀ (H : Heap) (locs : List Loc) (ls : Array Slot), va_P D vwCl [(mx, .inr (5, [.int 0, .ref mh, .int (nI R), .ref mw, .ref ml, .int (nI G), .ref mp, .ref mq, .ref mb])), (mh, .inl (cy 0, 50, .inl eh)), (mw, .inl (cy 0, 6, .inl ew)), (ml, .inl (cy 0, 6, .inl el)), (mp, .inl (cy 0, 72, .inl ep)), (mq, .inl (cy 0, 2, .inl en)), (mb, .inl (cy 0, 50, .inl eb))] H → va_D A [(mx, .inr (5, [.int 0, .ref mh, .int (nI R), .ref mw, .ref ml, .int (nI G), .ref mp, .ref mq, .ref mb])), (mh, .inl (cy 0, 50, .inl eh)), (mw, .inl (cy 0, 6, .inl ew)), (ml, .inl (cy 0, 6, .inl el)), (mp, .inl (cy 0, 72, .inl ep)), (mq, .inl (cy 0, 2, .inl en)), (mb, .inl (cy 0, 50, .inl eb))] → va_S A s.heap H locs → lv_has ls 7 [(4, .int (nI 5)), (3, .int (nI k79)), (5, .int (nI 50)), (1, .long fin90), (0, .ref mx)] → W p l e (RM 3 0 0 69) s m args below meth c H locs 0 0 Q (F0 m 117 ls []) by
          have lp90 : ∀ (n90 k90 : Nat) (v1_90 : Int64) (H : Heap) (locs : List Loc) (ls : Array Slot), k90 + n90 = 5 → it (fun (k : Nat) (v : Int64) => S_X5_digest_90 ew el ep G k79 k v) n90 k90 v1_90 = fin90 → va_P D vwCl [(mx, .inr (5, [.int 0, .ref mh, .int (nI R), .ref mw, .ref ml, .int (nI G), .ref mp, .ref mq, .ref mb])), (mh, .inl (cy 0, 50, .inl eh)), (mw, .inl (cy 0, 6, .inl ew)), (ml, .inl (cy 0, 6, .inl el)), (mp, .inl (cy 0, 72, .inl ep)), (mq, .inl (cy 0, 2, .inl en)), (mb, .inl (cy 0, 50, .inl eb))] H → va_D A [(mx, .inr (5, [.int 0, .ref mh, .int (nI R), .ref mw, .ref ml, .int (nI G), .ref mp, .ref mq, .ref mb])), (mh, .inl (cy 0, 50, .inl eh)), (mw, .inl (cy 0, 6, .inl ew)), (ml, .inl (cy 0, 6, .inl el)), (mp, .inl (cy 0, 72, .inl ep)), (mq, .inl (cy 0, 2, .inl en)), (mb, .inl (cy 0, 50, .inl eb))] → va_S A s.heap H locs → lv_has ls 7 [(4, .int (nI k90)), (3, .int (nI k79)), (5, .int (nI 50)), (1, .long v1_90), (0, .ref mx)] → W p l e (RM 3 0 0 69) s m args below meth c H locs 0 0 Q (F0 m 90 ls []) := by
            intro n90
            induction n90 with
            | zero =>
              intro k90 v1_90 H locs ls hkn90 hE90 hP hD hS hl
              have hk90 : 5 = k90 := by omega
              subst hk90
              have hE90 : v1_90 = fin90 := hE90
              subst hE90
              refine lv_iload hx hb dX5_digest_90 (lv_at hl 0 rfl) ?_
              refine lv_iconst (v := 5) hx hb dX5_digest_92 (by decide) ?_
              refine lv_icmp_ge (tgt := 117) hx hb dX5_digest_93 (by decide) (fun c93 => ?_) (fun c93 => ?_)
              rotate_left
              · exact absurd (nI_le (a := 5) (b := 5) (Nat.le_refl _) (by decide)) c93
              exact kk90 _ _ _ hP hD hS (lv_sub hl [0, 1, 2, 3, 4] rfl)
            | succ n90 ih90 =>
              intro k90 v1_90 H locs ls hkn90 hE90 hP hD hS hl
              have hlt90 : k90 < 5 := by omega
              refine lv_iload hx hb dX5_digest_90 (lv_at hl 0 rfl) ?_
              refine lv_iconst (v := 5) hx hb dX5_digest_92 (by decide) ?_
              refine lv_icmp_ge (tgt := 117) hx hb dX5_digest_93 (by decide) (fun c93 => ?_) (fun c93 => ?_)
              · exact absurd c93 (nI_ge (a := k90) (b := 5) hlt90 (by decide))
              refine lv_lload_n hx hb dX5_digest_96 rfl (lv_at hl 3 rfl) ?_
              refine lv_ldc2 (v := 31) hx hb hown (hts (.constantLong RX5 138 (31)) (List.mem_of_getElem? (i := 3) rfl)) dX5_digest_97 ?_
              refine lv_lmul hx hb dX5_digest_100 ?_
              refine lv_aload_n hx hb dX5_digest_101 rfl (lv_at hl 4 rfl) ?_
              refine lv_iload_n hx hb dX5_digest_102 rfl (lv_at hl 1 rfl) ?_
              refine lv_iload hx hb dX5_digest_103 (lv_at hl 0 rfl) ?_
              refine cl_i (wr := []) (w2 := [(mx, .inr (5, [.int 0, .ref mh, .int (nI R), .ref mw, .ref ml, .int (nI G), .ref mp, .ref mq, .ref mb])), (mh, .inl (cy 0, 50, .inl eh)), (mw, .inl (cy 0, 6, .inl ew)), (ml, .inl (cy 0, 6, .inl el)), (mp, .inl (cy 0, 72, .inl ep)), (mq, .inl (cy 0, 2, .inl en)), (mb, .inl (cy 0, 50, .inl eb))]) (rn_V (As := [.int (nI k79), .int (nI k90)]) (rest := [.long (v1_90 * 31)]) (ci := 5) (q0 := 0) ⟨hx, hb, hml, hown, hts⟩ (k_X5_roomTold l D cy _ mx mh mw ml mp mq mb 0 eh ew el ep en eb R G k79 (nI k90) hR hG (by omega)) (cwV 2 hts gX5_digest_X5_roomTold rfl rfl rfl (by decide +kernel) ⟨Nat.le_of_ble_eq_true rfl, Nat.le_of_ble_eq_true rfl⟩) hN hK hP hD [0, 1, 2, 3, 4, 5, 6] rfl (by decide) rfl rfl rfl rfl hl.1 rfl (Nat.le_of_ble_eq_true rfl) dX5_digest_105 ⟨Nat.le_of_ble_eq_true rfl, Nat.le_of_ble_eq_true rfl⟩) hP hD hS hA [0, 1, 2, 3, 4, 5, 6] [] [0, 1, 2, 3, 4, 5, 6] rfl rfl (by decide) (by decide) rfl (by decide) (fun H locs hP hD hS => ?_)
              refine lv_i2l (v := ((F_X5_roomTold ew el ep G k79 (nI k90)) : Int32).toInt64) hx hb dX5_digest_108 rfl ?_
              refine lv_ladd hx hb dX5_digest_109 ?_
              refine lv_lstore_n (lv' := [(1, .long ((v1_90 * 31) + ((F_X5_roomTold ew el ep G k79 (nI k90)) : Int32).toInt64)), (4, .int (nI k90)), (3, .int (nI k79)), (5, .int (nI 50)), (0, .ref mx)]) hx hb dX5_digest_110 rfl hl (by decide) rfl (fun ls hl => ?_)
              refine lv_iinc (v := (nI (k90 + 1))) (lv' := [(4, .int (nI (k90 + 1))), (1, .long ((v1_90 * 31) + ((F_X5_roomTold ew el ep G k79 (nI k90)) : Int32).toInt64)), (3, .int (nI k79)), (5, .int (nI 50)), (0, .ref mx)]) hx hb dX5_digest_111 hl (k := 1) rfl (nI_1 k90) (by decide) rfl (fun ls hl => ?_)
              refine lv_goto (tgt := 90) hx hb dX5_digest_114 (by decide) ?_
              exact ih90 (k90 + 1) ((v1_90 * 31) + ((F_X5_roomTold ew el ep G k79 (nI k90)) : Int32).toInt64) _ _ _ (by omega) (it_step (f := (fun (k : Nat) (v : Int64) => S_X5_digest_90 ew el ep G k79 k v)) (v := v1_90) (show S_X5_digest_90 ew el ep G k79 k90 v1_90 = ((v1_90 * 31) + ((F_X5_roomTold ew el ep G k79 (nI k90)) : Int32).toInt64) from by rw [S_X5_digest_90]) hE90) hP hD hS (lv_sub hl [0, 2, 3, 1, 4] rfl)
          exact lp90 5 0 v1_79 _ _ _ (by omega) hfin90 hP hD hS (lv_sub hl [0, 1, 2, 3, 4] rfl)
        intro H locs ls hP hD hS hl
        subst hfin90
        refine lv_iinc (v := (nI (k79 + 1))) (lv' := [(3, .int (nI (k79 + 1))), (4, .int (nI 5)), (5, .int (nI 50)), (1, .long (I_X5_digest_90 ew el ep G k79 v1_79)), (0, .ref mx)]) hx hb dX5_digest_117 hl (k := 1) rfl (nI_1 k79) (by decide) rfl (fun ls hl => ?_)
        refine lv_goto (tgt := 79) hx hb dX5_digest_120 (by decide) ?_
        exact ih79 (k79 + 1) (nI 5) (I_X5_digest_90 ew el ep G k79 v1_79) _ _ _ (by omega) (it_step (f := (fun (k : Nat) (v : Int32 × Int64) => S_X5_digest_79 ew el ep G k v.1 v.2)) (v := (v4_79, v1_79)) (show S_X5_digest_79 ew el ep G k79 v4_79 v1_79 = ((nI 5), (I_X5_digest_90 ew el ep G k79 v1_79)) from by rw [S_X5_digest_79]) hE79) hP hD hS (lv_sub hl [0, 2, 1, 3, 4] rfl)
    exact lp79 R 0 50 (I_X5_digest_48 eh ew el ep en R G) _ _ _ (by omega) hfin79 hP hD hS (lv_sub hl [0, 1, 2, 3, 4] rfl)
  intro H locs ls hP hD hS hl
  subst hfin79
  refine lv_iconst (v := 0) hx hb dX5_digest_123 (by decide) ?_
  refine lv_istore_n (lv' := [(3, .int 0), (5, .int (nI 50)), (4, .int ((I_X5_digest_79 eh ew el ep en R G).1)), (1, .long ((I_X5_digest_79 eh ew el ep en R G).2)), (0, .ref mx)]) hx hb dX5_digest_124 rfl hl (by decide) rfl (fun ls hl => ?_)
  obtain ⟨fin125, hfin125⟩ : ∃ z, (I_X5_digest_125 eh ew el ep en R G) = z := ⟨_, rfl⟩
  suffices kk125 : ∀ (H : Heap) (locs : List Loc) (ls : Array Slot), va_P D vwCl [(mx, .inr (5, [.int 0, .ref mh, .int (nI R), .ref mw, .ref ml, .int (nI G), .ref mp, .ref mq, .ref mb])), (mh, .inl (cy 0, 50, .inl eh)), (mw, .inl (cy 0, 6, .inl ew)), (ml, .inl (cy 0, 6, .inl el)), (mp, .inl (cy 0, 72, .inl ep)), (mq, .inl (cy 0, 2, .inl en)), (mb, .inl (cy 0, 50, .inl eb))] H → va_D A [(mx, .inr (5, [.int 0, .ref mh, .int (nI R), .ref mw, .ref ml, .int (nI G), .ref mp, .ref mq, .ref mb])), (mh, .inl (cy 0, 50, .inl eh)), (mw, .inl (cy 0, 6, .inl ew)), (ml, .inl (cy 0, 6, .inl el)), (mp, .inl (cy 0, 72, .inl ep)), (mq, .inl (cy 0, 2, .inl en)), (mb, .inl (cy 0, 50, .inl eb))] → va_S A s.heap H locs → lv_has ls 7 [(3, .int (nI G)), (5, .int (nI 50)), (4, .int fin125.1), (1, .long fin125.2), (0, .ref mx)] → W p l e (RM 3 0 0 69) s m args below meth c H locs 0 0 Q (F0 m 170 ls []) by
    have lp125 : ∀ (n125 k125 : Nat) (v4_125 : Int32) (v1_125 : Int64) (H : Heap) (locs : List Loc) (ls : Array Slot), k125 + n125 = G → it (fun (k : Nat) (v : Int32 × Int64) => S_X5_digest_125 ep k v.1 v.2) n125 k125 (v4_125, v1_125) = fin125 → va_P D vwCl [(mx, .inr (5, [.int 0, .ref mh, .int (nI R), .ref mw, .ref ml, .int (nI G), .ref mp, .ref mq, .ref mb])), (mh, .inl (cy 0, 50, .inl eh)), (mw, .inl (cy 0, 6, .inl ew)), (ml, .inl (cy 0, 6, .inl el)), (mp, .inl (cy 0, 72, .inl ep)), (mq, .inl (cy 0, 2, .inl en)), (mb, .inl (cy 0, 50, .inl eb))] H → va_D A [(mx, .inr (5, [.int 0, .ref mh, .int (nI R), .ref mw, .ref ml, .int (nI G), .ref mp, .ref mq, .ref mb])), (mh, .inl (cy 0, 50, .inl eh)), (mw, .inl (cy 0, 6, .inl ew)), (ml, .inl (cy 0, 6, .inl el)), (mp, .inl (cy 0, 72, .inl ep)), (mq, .inl (cy 0, 2, .inl en)), (mb, .inl (cy 0, 50, .inl eb))] → va_S A s.heap H locs → lv_has ls 7 [(3, .int (nI k125)), (5, .int (nI 50)), (4, .int v4_125), (1, .long v1_125), (0, .ref mx)] → W p l e (RM 3 0 0 69) s m args below meth c H locs 0 0 Q (F0 m 125 ls []) := by
      intro n125
      induction n125 with
      | zero =>
        intro k125 v4_125 v1_125 H locs ls hkn125 hE125 hP hD hS hl
        have hk125 : G = k125 := by omega
        subst hk125
        have hE125 : (v4_125, v1_125) = fin125 := hE125
        subst hE125
        refine lv_iload_n hx hb dX5_digest_125 rfl (lv_at hl 0 rfl) ?_
        refine lv_aload_n hx hb dX5_digest_126 rfl (lv_at hl 4 rfl) ?_
        refine va_get (D := D) (ci := 5) (v := .int (nI G)) (C := RX5) (T := TX5) (N := 9) hx hb hts hin5 hown hK hP 0 rfl rfl 5 (by decide) (hts (.fieldLink RX5 39 "FireflyInnModel" "guests" "I") (List.mem_of_getElem? (i := 6) rfl)) (fun _ h9 => h9) rfl dX5_digest_127 ?_
        refine lv_icmp_ge (tgt := 170) hx hb dX5_digest_130 (by decide) (fun c130 => ?_) (fun c130 => ?_)
        rotate_left
        · exact absurd (nI_le (a := G) (b := G) (Nat.le_refl _) (by omega)) c130
        exact kk125 _ _ _ hP hD hS (lv_sub hl [0, 1, 2, 3, 4] rfl)
      | succ n125 ih125 =>
        intro k125 v4_125 v1_125 H locs ls hkn125 hE125 hP hD hS hl
        have hlt125 : k125 < G := by omega
        refine lv_iload_n hx hb dX5_digest_125 rfl (lv_at hl 0 rfl) ?_
        refine lv_aload_n hx hb dX5_digest_126 rfl (lv_at hl 4 rfl) ?_
        refine va_get (D := D) (ci := 5) (v := .int (nI G)) (C := RX5) (T := TX5) (N := 9) hx hb hts hin5 hown hK hP 0 rfl rfl 5 (by decide) (hts (.fieldLink RX5 39 "FireflyInnModel" "guests" "I") (List.mem_of_getElem? (i := 6) rfl)) (fun _ h9 => h9) rfl dX5_digest_127 ?_
        refine lv_icmp_ge (tgt := 170) hx hb dX5_digest_130 (by decide) (fun c130 => ?_) (fun c130 => ?_)
        · exact absurd c130 (nI_ge (a := k125) (b := G) hlt125 (by omega))
        refine lv_iconst (v := 0) hx hb dX5_digest_133 (by decide) ?_
        refine lv_istore (lv' := [(4, .int 0), (3, .int (nI k125)), (5, .int (nI 50)), (1, .long v1_125), (0, .ref mx)]) hx hb dX5_digest_134 hl (by decide) rfl (fun ls hl => ?_)
        obtain ⟨fin136, hfin136⟩ : ∃ z, (I_X5_digest_136 ep k125 v1_125) = z := ⟨_, rfl⟩
        suffices kk136 : ∀ (H : Heap) (locs : List Loc) (ls : Array Slot), va_P D vwCl [(mx, .inr (5, [.int 0, .ref mh, .int (nI R), .ref mw, .ref ml, .int (nI G), .ref mp, .ref mq, .ref mb])), (mh, .inl (cy 0, 50, .inl eh)), (mw, .inl (cy 0, 6, .inl ew)), (ml, .inl (cy 0, 6, .inl el)), (mp, .inl (cy 0, 72, .inl ep)), (mq, .inl (cy 0, 2, .inl en)), (mb, .inl (cy 0, 50, .inl eb))] H → va_D A [(mx, .inr (5, [.int 0, .ref mh, .int (nI R), .ref mw, .ref ml, .int (nI G), .ref mp, .ref mq, .ref mb])), (mh, .inl (cy 0, 50, .inl eh)), (mw, .inl (cy 0, 6, .inl ew)), (ml, .inl (cy 0, 6, .inl el)), (mp, .inl (cy 0, 72, .inl ep)), (mq, .inl (cy 0, 2, .inl en)), (mb, .inl (cy 0, 50, .inl eb))] → va_S A s.heap H locs → lv_has ls 7 [(4, .int (nI 6)), (3, .int (nI k125)), (5, .int (nI 50)), (1, .long fin136), (0, .ref mx)] → W p l e (RM 3 0 0 69) s m args below meth c H locs 0 0 Q (F0 m 164 ls []) by
          have lp136 : ∀ (n136 k136 : Nat) (v1_136 : Int64) (H : Heap) (locs : List Loc) (ls : Array Slot), k136 + n136 = 6 → it (fun (k : Nat) (v : Int64) => S_X5_digest_136 ep k125 k v) n136 k136 v1_136 = fin136 → va_P D vwCl [(mx, .inr (5, [.int 0, .ref mh, .int (nI R), .ref mw, .ref ml, .int (nI G), .ref mp, .ref mq, .ref mb])), (mh, .inl (cy 0, 50, .inl eh)), (mw, .inl (cy 0, 6, .inl ew)), (ml, .inl (cy 0, 6, .inl el)), (mp, .inl (cy 0, 72, .inl ep)), (mq, .inl (cy 0, 2, .inl en)), (mb, .inl (cy 0, 50, .inl eb))] H → va_D A [(mx, .inr (5, [.int 0, .ref mh, .int (nI R), .ref mw, .ref ml, .int (nI G), .ref mp, .ref mq, .ref mb])), (mh, .inl (cy 0, 50, .inl eh)), (mw, .inl (cy 0, 6, .inl ew)), (ml, .inl (cy 0, 6, .inl el)), (mp, .inl (cy 0, 72, .inl ep)), (mq, .inl (cy 0, 2, .inl en)), (mb, .inl (cy 0, 50, .inl eb))] → va_S A s.heap H locs → lv_has ls 7 [(4, .int (nI k136)), (3, .int (nI k125)), (5, .int (nI 50)), (1, .long v1_136), (0, .ref mx)] → W p l e (RM 3 0 0 69) s m args below meth c H locs 0 0 Q (F0 m 136 ls []) := by
            intro n136
            induction n136 with
            | zero =>
              intro k136 v1_136 H locs ls hkn136 hE136 hP hD hS hl
              have hk136 : 6 = k136 := by omega
              subst hk136
              have hE136 : v1_136 = fin136 := hE136
              subst hE136
              refine lv_iload hx hb dX5_digest_136 (lv_at hl 0 rfl) ?_
              refine lv_bipush (v := 6) hx hb dX5_digest_138 (by decide) ?_
              refine lv_icmp_ge (tgt := 164) hx hb dX5_digest_140 (by decide) (fun c140 => ?_) (fun c140 => ?_)
              rotate_left
              · exact absurd (nI_le (a := 6) (b := 6) (Nat.le_refl _) (by decide)) c140
              exact kk136 _ _ _ hP hD hS (lv_sub hl [0, 1, 2, 3, 4] rfl)
            | succ n136 ih136 =>
              intro k136 v1_136 H locs ls hkn136 hE136 hP hD hS hl
              have hlt136 : k136 < 6 := by omega
              refine lv_iload hx hb dX5_digest_136 (lv_at hl 0 rfl) ?_
              refine lv_bipush (v := 6) hx hb dX5_digest_138 (by decide) ?_
              refine lv_icmp_ge (tgt := 164) hx hb dX5_digest_140 (by decide) (fun c140 => ?_) (fun c140 => ?_)
              · exact absurd c140 (nI_ge (a := k136) (b := 6) hlt136 (by decide))
              refine lv_lload_n hx hb dX5_digest_143 rfl (lv_at hl 3 rfl) ?_
              refine lv_ldc2 (v := 31) hx hb hown (hts (.constantLong RX5 138 (31)) (List.mem_of_getElem? (i := 3) rfl)) dX5_digest_144 ?_
              refine lv_lmul hx hb dX5_digest_147 ?_
              refine lv_aload_n hx hb dX5_digest_148 rfl (lv_at hl 4 rfl) ?_
              refine lv_iload_n hx hb dX5_digest_149 rfl (lv_at hl 1 rfl) ?_
              refine lv_iload hx hb dX5_digest_150 (lv_at hl 0 rfl) ?_
              refine cl_i (wr := []) (w2 := [(mx, .inr (5, [.int 0, .ref mh, .int (nI R), .ref mw, .ref ml, .int (nI G), .ref mp, .ref mq, .ref mb])), (mh, .inl (cy 0, 50, .inl eh)), (mw, .inl (cy 0, 6, .inl ew)), (ml, .inl (cy 0, 6, .inl el)), (mp, .inl (cy 0, 72, .inl ep)), (mq, .inl (cy 0, 2, .inl en)), (mb, .inl (cy 0, 50, .inl eb))]) (rn_V (As := [.int (nI k125), .int (nI k136)]) (rest := [.long (v1_136 * 31)]) (ci := 5) (q0 := 0) ⟨hx, hb, hml, hown, hts⟩ (k_X5_pe l D cy _ mx mh mw ml mp mq mb 0 eh ew el ep en eb R G k125 k136 hR hG (by omega)) (cwV 2 hts gX5_digest_X5_pe rfl rfl rfl (by decide +kernel) ⟨Nat.le_of_ble_eq_true rfl, Nat.le_of_ble_eq_true rfl⟩) hN hK hP hD [0, 1, 2, 3, 4, 5, 6] rfl (by decide) rfl rfl rfl rfl hl.1 rfl (Nat.le_of_ble_eq_true rfl) dX5_digest_152 ⟨Nat.le_of_ble_eq_true rfl, Nat.le_of_ble_eq_true rfl⟩) hP hD hS hA [0, 1, 2, 3, 4, 5, 6] [] [0, 1, 2, 3, 4, 5, 6] rfl rfl (by decide) (by decide) rfl (by decide) (fun H locs hP hD hS => ?_)
              refine lv_i2l (v := ((F_X5_pe ep k125 k136) : Int32).toInt64) hx hb dX5_digest_155 rfl ?_
              refine lv_ladd hx hb dX5_digest_156 ?_
              refine lv_lstore_n (lv' := [(1, .long ((v1_136 * 31) + ((F_X5_pe ep k125 k136) : Int32).toInt64)), (4, .int (nI k136)), (3, .int (nI k125)), (5, .int (nI 50)), (0, .ref mx)]) hx hb dX5_digest_157 rfl hl (by decide) rfl (fun ls hl => ?_)
              refine lv_iinc (v := (nI (k136 + 1))) (lv' := [(4, .int (nI (k136 + 1))), (1, .long ((v1_136 * 31) + ((F_X5_pe ep k125 k136) : Int32).toInt64)), (3, .int (nI k125)), (5, .int (nI 50)), (0, .ref mx)]) hx hb dX5_digest_158 hl (k := 1) rfl (nI_1 k136) (by decide) rfl (fun ls hl => ?_)
              refine lv_goto (tgt := 136) hx hb dX5_digest_161 (by decide) ?_
              exact ih136 (k136 + 1) ((v1_136 * 31) + ((F_X5_pe ep k125 k136) : Int32).toInt64) _ _ _ (by omega) (it_step (f := (fun (k : Nat) (v : Int64) => S_X5_digest_136 ep k125 k v)) (v := v1_136) (show S_X5_digest_136 ep k125 k136 v1_136 = ((v1_136 * 31) + ((F_X5_pe ep k125 k136) : Int32).toInt64) from by rw [S_X5_digest_136]) hE136) hP hD hS (lv_sub hl [0, 2, 3, 1, 4] rfl)
          exact lp136 6 0 v1_125 _ _ _ (by omega) hfin136 hP hD hS (lv_sub hl [0, 1, 2, 3, 4] rfl)
        intro H locs ls hP hD hS hl
        subst hfin136
        refine lv_iinc (v := (nI (k125 + 1))) (lv' := [(3, .int (nI (k125 + 1))), (4, .int (nI 6)), (5, .int (nI 50)), (1, .long (I_X5_digest_136 ep k125 v1_125)), (0, .ref mx)]) hx hb dX5_digest_164 hl (k := 1) rfl (nI_1 k125) (by decide) rfl (fun ls hl => ?_)
        refine lv_goto (tgt := 125) hx hb dX5_digest_167 (by decide) ?_
        exact ih125 (k125 + 1) (nI 6) (I_X5_digest_136 ep k125 v1_125) _ _ _ (by omega) (it_step (f := (fun (k : Nat) (v : Int32 × Int64) => S_X5_digest_125 ep k v.1 v.2)) (v := (v4_125, v1_125)) (show S_X5_digest_125 ep k125 v4_125 v1_125 = ((nI 6), (I_X5_digest_136 ep k125 v1_125)) from by rw [S_X5_digest_125]) hE125) hP hD hS (lv_sub hl [0, 2, 1, 3, 4] rfl)
    exact lp125 G 0 ((I_X5_digest_79 eh ew el ep en R G).1) ((I_X5_digest_79 eh ew el ep en R G).2) _ _ _ (by omega) hfin125 hP hD hS (lv_sub hl [0, 1, 2, 3, 4] rfl)
  intro H locs ls hP hD hS hl
  subst hfin125
  refine lv_lload_n hx hb dX5_digest_170 rfl (lv_at hl 3 rfl) ?_
  subst hQ
  exact en_l (tv := ((I_X5_digest_125 eh ew el ep en R G).2, 0)) hx hb hr hlocks (by rw [F_X5_digest]) rfl hK (by first | with_reducible exact hP | exact hP) (by first | with_reducible exact hD | exact hD) hS (Nat.le_refl _) (Nat.le_refl _) dX5_digest_171
