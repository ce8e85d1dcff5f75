def S_X4_sum_4 (fa : Nat → Int32) (k4 : Nat) (v1_4 : Int32) : Int32 :=
  (v1_4 + (fa k4))
def I_X4_sum_4 (fa : Nat → Int32) (n : Nat) : Int32 :=
  it (fun (k : Nat) (v : Int32) => S_X4_sum_4 fa k v) n 0 0
def F_X4_sum (fa : Nat → Int32) (n : Nat) : Int32 :=
  (I_X4_sum_4 fa n)
set_option maxHeartbeats 4000000 in
set_option maxRecDepth 100000 in
theorem k_X4_sum (l : Launch) (D : va_G) (cy : Nat → ClassId) (sz : Nat) (qa : Nat) (fa : Nat → Int32) (n : Nat) (hn : n < 2 ^ 31) : MTa l D cy yX4_sum wsX4_sum 0 0 0 0 [(qa, .inl (cy 0, n, .inl fa))] sz [.ref qa] (fun A => QiT D cy (fun (t : Int32) => t) (fun (_ : Int32) => [(qa, .inl (cy 0, n, .inl fa))]) (F_X4_sum fa n) A) := by
  refine ofWT (cc := cX4_sum) (maxL := 3) (ret := (some .int)) (own := RX4) (by decide) rfl (Nat.le_of_ble_eq_true rfl) rfl ?_
  intro p e s m args below meth c A ls hx hb hr hml hts hown hlocks hin hN hK hP hD hA hl
  have hS : va_S A s.heap s.heap [] := va_S.rf
  have hl : lv_has ls 3 [(0, .ref qa)] := hl
  generalize hQ : MQ below ((fun A => QiT D cy (fun (t : Int32) => t) (fun (_ : Int32) => [(qa, .inl (cy 0, n, .inl fa))]) (F_X4_sum fa n) A) A) args s 0 0 A = Q
  refine lv_iconst (v := 0) hx hb dX4_sum_0 (by decide) ?_
  refine lv_istore_n (lv' := [(1, .int 0), (0, .ref qa)]) hx hb dX4_sum_1 rfl hl (by decide) rfl (fun ls hl => ?_)
  refine lv_iconst (v := 0) hx hb dX4_sum_2 (by decide) ?_
  refine lv_istore_n (lv' := [(2, .int 0), (1, .int 0), (0, .ref qa)]) hx hb dX4_sum_3 rfl hl (by decide) rfl (fun ls hl => ?_)
  obtain ⟨fin4, hfin4⟩ : ∃ z, (I_X4_sum_4 fa n) = z := ⟨_, rfl⟩
  suffices kk4 : ∀ (H : Heap) (locs : List Loc) (ls : Array Slot), va_P D vwCl [(qa, .inl (cy 0, n, .inl fa))] H → va_D A [(qa, .inl (cy 0, n, .inl fa))] → va_S A s.heap H locs → lv_has ls 3 [(2, .int (nI n)), (1, .int fin4), (0, .ref qa)] → W p l e (RM 0 0 0 0) s m args below meth c H locs 0 0 Q (F0 m 22 ls []) by
    have lp4 : ∀ (n4 k4 : Nat) (v1_4 : Int32) (H : Heap) (locs : List Loc) (ls : Array Slot), k4 + n4 = n → it (fun (k : Nat) (v : Int32) => S_X4_sum_4 fa k v) n4 k4 v1_4 = fin4 → va_P D vwCl [(qa, .inl (cy 0, n, .inl fa))] H → va_D A [(qa, .inl (cy 0, n, .inl fa))] → va_S A s.heap H locs → lv_has ls 3 [(2, .int (nI k4)), (1, .int v1_4), (0, .ref qa)] → W p l e (RM 0 0 0 0) s m args below meth c H locs 0 0 Q (F0 m 4 ls []) := by
      intro n4
      induction n4 with
      | zero =>
        intro k4 v1_4 H locs ls hkn4 hE4 hP hD hS hl
        have hk4 : n = k4 := by omega
        subst hk4
        have hE4 : v1_4 = fin4 := hE4
        subst hE4
        refine lv_iload_n hx hb dX4_sum_4 rfl (lv_at hl 0 rfl) ?_
        refine lv_aload_n hx hb dX4_sum_5 rfl (lv_at hl 2 rfl) ?_
        refine va_alen (v := nI n) hx hb hK hP 0 0 rfl rfl rfl dX4_sum_6 ?_
        refine lv_icmp_ge (tgt := 22) hx hb dX4_sum_7 (by decide) (fun c7 => ?_) (fun c7 => ?_)
        rotate_left
        · exact absurd (nI_le (a := n) (b := n) (Nat.le_refl _) (by omega)) c7
        exact kk4 _ _ _ hP hD hS (lv_sub hl [0, 1, 2] rfl)
      | succ n4 ih4 =>
        intro k4 v1_4 H locs ls hkn4 hE4 hP hD hS hl
        have hlt4 : k4 < n := by omega
        refine lv_iload_n hx hb dX4_sum_4 rfl (lv_at hl 0 rfl) ?_
        refine lv_aload_n hx hb dX4_sum_5 rfl (lv_at hl 2 rfl) ?_
        refine va_alen (v := nI n) hx hb hK hP 0 0 rfl rfl rfl dX4_sum_6 ?_
        refine lv_icmp_ge (tgt := 22) hx hb dX4_sum_7 (by decide) (fun c7 => ?_) (fun c7 => ?_)
        · exact absurd c7 (nI_ge (a := k4) (b := n) hlt4 (by omega))
        refine lv_iload_n hx hb dX4_sum_10 rfl (lv_at hl 1 rfl) ?_
        refine lv_aload_n hx hb dX4_sum_11 rfl (lv_at hl 2 rfl) ?_
        refine lv_iload_n hx hb dX4_sum_12 rfl (lv_at hl 0 rfl) ?_
        refine ial_n (k := k4) hx hb hK hP 0 rfl (by omega) (by omega) dX4_sum_13 ?_
        refine lv_iadd hx hb dX4_sum_14 ?_
        refine lv_istore_n (lv' := [(1, .int (v1_4 + (fa k4))), (2, .int (nI k4)), (0, .ref qa)]) hx hb dX4_sum_15 rfl hl (by decide) rfl (fun ls hl => ?_)
        refine lv_iinc (v := (nI (k4 + 1))) (lv' := [(2, .int (nI (k4 + 1))), (1, .int (v1_4 + (fa k4))), (0, .ref qa)]) hx hb dX4_sum_16 hl (k := 1) rfl (nI_1 k4) (by decide) rfl (fun ls hl => ?_)
        refine lv_goto (tgt := 4) hx hb dX4_sum_19 (by decide) ?_
        exact ih4 (k4 + 1) (v1_4 + (fa k4)) _ _ _ (by omega) (it_step (f := (fun (k : Nat) (v : Int32) => S_X4_sum_4 fa k v)) (v := v1_4) (show S_X4_sum_4 fa k4 v1_4 = (v1_4 + (fa k4)) from by rw [S_X4_sum_4]) hE4) hP hD hS (lv_sub hl [0, 1, 2] rfl)
    exact lp4 n 0 0 _ _ _ (by omega) hfin4 hP hD hS (lv_sub hl [0, 1, 2] rfl)
  intro H locs ls hP hD hS hl
  subst hfin4
  refine lv_iload_n hx hb dX4_sum_22 rfl (lv_at hl 1 rfl) ?_
  subst hQ
  exact en_i (tv := (I_X4_sum_4 fa n)) hx hb hr hlocks (by rw [F_X4_sum]) rfl hK hP hD hS (Nat.le_refl _) (Nat.le_refl _) dX4_sum_23

def S_X4_countTrue_4 (fa : Nat → Int32) (k4 : Nat) (v1_4 : Int32) : Int32 :=
  if (fa k4) = 0 then
    v1_4
  else
    (v1_4 + 1)
def I_X4_countTrue_4 (fa : Nat → Int32) (n : Nat) : Int32 :=
  it (fun (k : Nat) (v : Int32) => S_X4_countTrue_4 fa k v) n 0 0
def F_X4_countTrue (fa : Nat → Int32) (n : Nat) : Int32 :=
  (I_X4_countTrue_4 fa n)
set_option maxHeartbeats 4000000 in
set_option maxRecDepth 100000 in
theorem k_X4_countTrue (l : Launch) (D : va_G) (cy : Nat → ClassId) (sz : Nat) (qa : Nat) (fa : Nat → Int32) (n : Nat) (hn : n < 2 ^ 31) : MTa l D cy yX4_countTrue wsX4_countTrue 0 0 0 0 [(qa, .inl (cy 1, n, .inl fa))] sz [.ref qa] (fun A => QiT D cy (fun (t : Int32) => t) (fun (_ : Int32) => [(qa, .inl (cy 1, n, .inl fa))]) (F_X4_countTrue fa n) A) := by
  refine ofWT (cc := cX4_countTrue) (maxL := 3) (ret := (some .int)) (own := RX4) (by decide) rfl (Nat.le_of_ble_eq_true rfl) rfl ?_
  intro p e s m args below meth c A ls hx hb hr hml hts hown hlocks hin hN hK hP hD hA hl
  have hS : va_S A s.heap s.heap [] := va_S.rf
  have hl : lv_has ls 3 [(0, .ref qa)] := hl
  generalize hQ : MQ below ((fun A => QiT D cy (fun (t : Int32) => t) (fun (_ : Int32) => [(qa, .inl (cy 1, n, .inl fa))]) (F_X4_countTrue fa n) A) A) args s 0 0 A = Q
  refine lv_iconst (v := 0) hx hb dX4_countTrue_0 (by decide) ?_
  refine lv_istore_n (lv' := [(1, .int 0), (0, .ref qa)]) hx hb dX4_countTrue_1 rfl hl (by decide) rfl (fun ls hl => ?_)
  refine lv_iconst (v := 0) hx hb dX4_countTrue_2 (by decide) ?_
  refine lv_istore_n (lv' := [(2, .int 0), (1, .int 0), (0, .ref qa)]) hx hb dX4_countTrue_3 rfl hl (by decide) rfl (fun ls hl => ?_)
  obtain ⟨fin4, hfin4⟩ : ∃ z, (I_X4_countTrue_4 fa n) = z := ⟨_, rfl⟩
  suffices kk4 : ∀ (H : Heap) (locs : List Loc) (ls : Array Slot), va_P D vwCl [(qa, .inl (cy 1, n, .inl fa))] H → va_D A [(qa, .inl (cy 1, n, .inl fa))] → va_S A s.heap H locs → lv_has ls 3 [(2, .int (nI n)), (1, .int fin4), (0, .ref qa)] → W p l e (RM 0 0 0 0) s m args below meth c H locs 0 0 Q (F0 m 25 ls []) by
    have lp4 : ∀ (n4 k4 : Nat) (v1_4 : Int32) (H : Heap) (locs : List Loc) (ls : Array Slot), k4 + n4 = n → it (fun (k : Nat) (v : Int32) => S_X4_countTrue_4 fa k v) n4 k4 v1_4 = fin4 → va_P D vwCl [(qa, .inl (cy 1, n, .inl fa))] H → va_D A [(qa, .inl (cy 1, n, .inl fa))] → va_S A s.heap H locs → lv_has ls 3 [(2, .int (nI k4)), (1, .int v1_4), (0, .ref qa)] → W p l e (RM 0 0 0 0) s m args below meth c H locs 0 0 Q (F0 m 4 ls []) := by
      intro n4
      induction n4 with
      | zero =>
        intro k4 v1_4 H locs ls hkn4 hE4 hP hD hS hl
        have hk4 : n = k4 := by omega
        subst hk4
        have hE4 : v1_4 = fin4 := hE4
        subst hE4
        refine lv_iload_n hx hb dX4_countTrue_4 rfl (lv_at hl 0 rfl) ?_
        refine lv_aload_n hx hb dX4_countTrue_5 rfl (lv_at hl 2 rfl) ?_
        refine va_alen (v := nI n) hx hb hK hP 0 1 rfl rfl rfl dX4_countTrue_6 ?_
        refine lv_icmp_ge (tgt := 25) hx hb dX4_countTrue_7 (by decide) (fun c7 => ?_) (fun c7 => ?_)
        rotate_left
        · exact absurd (nI_le (a := n) (b := n) (Nat.le_refl _) (by omega)) c7
        exact kk4 _ _ _ hP hD hS (lv_sub hl [0, 1, 2] rfl)
      | succ n4 ih4 =>
        intro k4 v1_4 H locs ls hkn4 hE4 hP hD hS hl
        have hlt4 : k4 < n := by omega
        refine lv_iload_n hx hb dX4_countTrue_4 rfl (lv_at hl 0 rfl) ?_
        refine lv_aload_n hx hb dX4_countTrue_5 rfl (lv_at hl 2 rfl) ?_
        refine va_alen (v := nI n) hx hb hK hP 0 1 rfl rfl rfl dX4_countTrue_6 ?_
        refine lv_icmp_ge (tgt := 25) hx hb dX4_countTrue_7 (by decide) (fun c7 => ?_) (fun c7 => ?_)
        · exact absurd c7 (nI_ge (a := k4) (b := n) hlt4 (by omega))
        refine lv_aload_n hx hb dX4_countTrue_10 rfl (lv_at hl 2 rfl) ?_
        refine lv_iload_n hx hb dX4_countTrue_11 rfl (lv_at hl 0 rfl) ?_
        refine zal_n (k := k4) hx hb hK hP 0 rfl (by omega) (by omega) dX4_countTrue_12 ?_
        refine lv_if_eq (tgt := 19) hx hb dX4_countTrue_13 (by decide) (fun c13 => ?_) (fun c13 => ?_)
        · refine lv_iinc (v := (nI (k4 + 1))) (lv' := [(2, .int (nI (k4 + 1))), (1, .int v1_4), (0, .ref qa)]) hx hb dX4_countTrue_19 hl (k := 0) rfl (nI_1 k4) (by decide) rfl (fun ls hl => ?_)
          refine lv_goto (tgt := 4) hx hb dX4_countTrue_22 (by decide) ?_
          exact ih4 (k4 + 1) v1_4 _ _ _ (by omega) (it_step (f := (fun (k : Nat) (v : Int32) => S_X4_countTrue_4 fa k v)) (v := v1_4) (show S_X4_countTrue_4 fa k4 v1_4 = v1_4 from by rw [S_X4_countTrue_4, if_pos c13]) hE4) hP hD hS (lv_sub hl [0, 1, 2] rfl)
        · refine lv_iinc (v := (v1_4 + 1)) (lv' := [(1, .int (v1_4 + 1)), (2, .int (nI k4)), (0, .ref qa)]) hx hb dX4_countTrue_16 hl (k := 1) rfl rfl (by decide) rfl (fun ls hl => ?_)
          refine lv_iinc (v := (nI (k4 + 1))) (lv' := [(2, .int (nI (k4 + 1))), (1, .int (v1_4 + 1)), (0, .ref qa)]) hx hb dX4_countTrue_19 hl (k := 1) rfl (nI_1 k4) (by decide) rfl (fun ls hl => ?_)
          refine lv_goto (tgt := 4) hx hb dX4_countTrue_22 (by decide) ?_
          exact ih4 (k4 + 1) (v1_4 + 1) _ _ _ (by omega) (it_step (f := (fun (k : Nat) (v : Int32) => S_X4_countTrue_4 fa k v)) (v := v1_4) (show S_X4_countTrue_4 fa k4 v1_4 = (v1_4 + 1) from by rw [S_X4_countTrue_4, if_neg c13]) hE4) hP hD hS (lv_sub hl [0, 1, 2] rfl)
    exact lp4 n 0 0 _ _ _ (by omega) hfin4 hP hD hS (lv_sub hl [0, 1, 2] rfl)
  intro H locs ls hP hD hS hl
  subst hfin4
  refine lv_iload_n hx hb dX4_countTrue_25 rfl (lv_at hl 1 rfl) ?_
  subst hQ
  exact en_i (tv := (I_X4_countTrue_4 fa n)) hx hb hr hlocks (by rw [F_X4_countTrue]) rfl hK hP hD hS (Nat.le_refl _) (Nat.le_refl _) dX4_countTrue_26

def F_X1_isInside (x : Int32) (y : Int32) : Int32 :=
  if x < 0 then
    0
  else
    if 10 ≤ x then
      0
    else
      if y < 0 then
        0
      else
        if 5 ≤ y then
          0
        else
          1
set_option maxHeartbeats 4000000 in
set_option maxRecDepth 100000 in
theorem k_X1_isInside (l : Launch) (D : va_G) (cy : Nat → ClassId) (sz : Nat) (x : Int32) (y : Int32) : MTa l D cy yX1_isInside wsX1_isInside 0 0 0 0 [] sz [.int x, .int y] (fun A => QiT D cy (fun (t : Int32) => t) (fun (_ : Int32) => []) (F_X1_isInside x y) A) := by
  refine ofWT (cc := cX1_isInside) (maxL := 2) (ret := (some .boolean)) (own := RX1) (by decide) rfl (Nat.le_of_ble_eq_true rfl) rfl ?_
  intro p e s m args below meth c A ls hx hb hr hml hts hown hlocks hin hN hK hP hD hA hl
  have hS : va_S A s.heap s.heap [] := va_S.rf
  have hl : lv_has ls 2 [(0, .int x), (1, .int y)] := hl
  generalize hQ : MQ below ((fun A => QiT D cy (fun (t : Int32) => t) (fun (_ : Int32) => []) (F_X1_isInside x y) A) A) args s 0 0 A = Q
  refine lv_iload_n hx hb dX1_isInside_0 rfl (lv_at hl 0 rfl) ?_
  refine lv_if_lt (tgt := 23) hx hb dX1_isInside_1 (by decide) (fun c1 => ?_) (fun c1 => ?_)
  · refine lv_iconst (v := 0) hx hb dX1_isInside_23 (by decide) ?_
    subst hQ
    exact en_z (tv := 0) hx hb hr hlocks (by rw [F_X1_isInside, if_pos c1]) rfl hK hP hD hS (Nat.le_refl _) (Nat.le_refl _) (by decide) dX1_isInside_24
  · refine lv_iload_n hx hb dX1_isInside_4 rfl (lv_at hl 0 rfl) ?_
    refine lv_bipush (v := 10) hx hb dX1_isInside_5 (by decide) ?_
    refine lv_icmp_ge (tgt := 23) hx hb dX1_isInside_7 (by decide) (fun c7 => ?_) (fun c7 => ?_)
    · refine lv_iconst (v := 0) hx hb dX1_isInside_23 (by decide) ?_
      subst hQ
      exact en_z (tv := 0) hx hb hr hlocks (by rw [F_X1_isInside, if_neg c1, if_pos c7]) rfl hK hP hD hS (Nat.le_refl _) (Nat.le_refl _) (by decide) dX1_isInside_24
    · refine lv_iload_n hx hb dX1_isInside_10 rfl (lv_at hl 1 rfl) ?_
      refine lv_if_lt (tgt := 23) hx hb dX1_isInside_11 (by decide) (fun c11 => ?_) (fun c11 => ?_)
      · refine lv_iconst (v := 0) hx hb dX1_isInside_23 (by decide) ?_
        subst hQ
        exact en_z (tv := 0) hx hb hr hlocks (by rw [F_X1_isInside, if_neg c1, if_neg c7, if_pos c11]) rfl hK hP hD hS (Nat.le_refl _) (Nat.le_refl _) (by decide) dX1_isInside_24
      · refine lv_iload_n hx hb dX1_isInside_14 rfl (lv_at hl 1 rfl) ?_
        refine lv_iconst (v := 5) hx hb dX1_isInside_15 (by decide) ?_
        refine lv_icmp_ge (tgt := 23) hx hb dX1_isInside_16 (by decide) (fun c16 => ?_) (fun c16 => ?_)
        · refine lv_iconst (v := 0) hx hb dX1_isInside_23 (by decide) ?_
          subst hQ
          exact en_z (tv := 0) hx hb hr hlocks (by rw [F_X1_isInside, if_neg c1, if_neg c7, if_neg c11, if_pos c16]) rfl hK hP hD hS (Nat.le_refl _) (Nat.le_refl _) (by decide) dX1_isInside_24
        · refine lv_iconst (v := 1) hx hb dX1_isInside_19 (by decide) ?_
          refine lv_goto (tgt := 24) hx hb dX1_isInside_20 (by decide) ?_
          subst hQ
          exact en_z (tv := 1) hx hb hr hlocks (by rw [F_X1_isInside, if_neg c1, if_neg c7, if_neg c11, if_neg c16]) rfl hK hP hD hS (Nat.le_refl _) (Nat.le_refl _) (by decide) dX1_isInside_24

theorem ins_in {x y : Int32} (h : ¬ F_X1_isInside x y = 0) : vp_in (10 * y + x) 50 := by
  unfold F_X1_isInside at h
  split at h
  · exact absurd rfl h
  split at h
  · exact absurd rfl h
  split at h
  · exact absurd rfl h
  split at h
  · exact absurd rfl h
  rename_i c1 c2 c3 c4
  obtain ⟨a, b, ha, hb, rfl, rfl⟩ := inside_of c1 c2 c3 c4
  rw [ten_mul]
  exact vp_in_nI (by omega) (by omega)

def F_X1_at (fc : Nat → Int32) (x : Int32) (y : Int32) : Int32 :=
  if (F_X1_isInside x y) = 0 then
    0
  else
    (fc (((10 * y) + x) : Int32).toNatClampNeg)
set_option maxHeartbeats 4000000 in
set_option maxRecDepth 100000 in
theorem k_X1_at (l : Launch) (D : va_G) (cy : Nat → ClassId) (sz : Nat) (qh qc : Nat) (fc : Nat → Int32) (x : Int32) (y : Int32) : MTa l D cy yX1_at wsX1_at 1 0 0 21 [(qh, .inr (1, [.ref qc])), (qc, .inl (cy 0, 50, .inl fc))] sz [.ref qh, .int x, .int y] (fun A => QiT D cy (fun (t : Int32) => t) (fun (_ : Int32) => [(qh, .inr (1, [.ref qc])), (qc, .inl (cy 0, 50, .inl fc))]) (F_X1_at fc x y) A) := by
  refine ofWT (cc := cX1_at) (maxL := 3) (ret := (some .int)) (own := RX1) (by decide) rfl (Nat.le_of_ble_eq_true rfl) rfl ?_
  intro p e s m args below meth c A ls hx hb hr hml hts hown hlocks hin hN hK hP hD hA hl
  have hS : va_S A s.heap s.heap [] := va_S.rf
  have hl : lv_has ls 3 [(0, .ref qh), (1, .int x), (2, .int y)] := hl
  have hin1 : ∀ w ∈ u_ws RX1 TX1 1, w ∈ wsX1_at := (fun w h => List.mem_cons_of_mem _ (List.mem_append_right _ h))
  generalize hQ : MQ below ((fun A => QiT D cy (fun (t : Int32) => t) (fun (_ : Int32) => [(qh, .inr (1, [.ref qc])), (qc, .inl (cy 0, 50, .inl fc))]) (F_X1_at fc x y) A) A) args s 0 0 A = Q
  refine lv_iload_n hx hb dX1_at_0 rfl (lv_at hl 1 rfl) ?_
  refine lv_iload_n hx hb dX1_at_1 rfl (lv_at hl 2 rfl) ?_
  refine cl_i (wr := [(qh, .inr (1, [.ref qc])), (qc, .inl (cy 0, 50, .inl fc))]) (w2 := [(qh, .inr (1, [.ref qc])), (qc, .inl (cy 0, 50, .inl fc))]) (rn_S (As := [.int x, .int y]) (rest := []) ⟨hx, hb, hml, hown, hts⟩ (k_X1_isInside l D cy _ x y) (va_cwS 2 hts gX1_at_X1_isInside rfl rfl rfl (by decide +kernel) ⟨Nat.le_of_ble_eq_true rfl, Nat.le_of_ble_eq_true rfl⟩) hN hK hP hD [] rfl (by decide) rfl hl.1 rfl (Nat.le_of_ble_eq_true rfl) dX1_at_2 ⟨Nat.le_of_ble_eq_true rfl, Nat.le_of_ble_eq_true rfl⟩) hP hD hS hA [] [0, 1] [0, 1] rfl rfl (by decide) (by decide) rfl (by decide) (fun H locs hP hD hS => ?_)
  refine lv_if_eq (tgt := 22) hx hb dX1_at_5 (by decide) (fun c5 => ?_) (fun c5 => ?_)
  · refine lv_iconst (v := 0) hx hb dX1_at_22 (by decide) ?_
    subst hQ
    exact en_i (tv := 0) hx hb hr hlocks (by rw [F_X1_at, if_pos c5]) rfl hK hP hD hS (Nat.le_refl _) (Nat.le_refl _) dX1_at_23
  · refine lv_aload_n hx hb dX1_at_8 rfl (lv_at hl 0 rfl) ?_
    refine va_get (D := D) (ci := 1) (v := .ref qc) (C := RX1) (T := TX1) (N := 1) hx hb hts hin1 hown hK hP 0 rfl rfl 0 (by decide) (hts (.fieldLink RX1 9 "FireflyInn$Hedge" "cells" "[I") (List.mem_of_getElem? (i := 1) rfl)) (fun _ h9 => h9) rfl dX1_at_9 ?_
    refine lv_bipush (v := 10) hx hb dX1_at_12 (by decide) ?_
    refine lv_iload_n hx hb dX1_at_14 rfl (lv_at hl 2 rfl) ?_
    refine lv_imul hx hb dX1_at_15 ?_
    refine lv_iload_n hx hb dX1_at_16 rfl (lv_at hl 1 rfl) ?_
    refine lv_iadd hx hb dX1_at_17 ?_
    refine va_iald hx hb hK hP 1 0 rfl rfl (ins_in c5) dX1_at_18 ?_
    refine lv_goto (tgt := 23) hx hb dX1_at_19 (by decide) ?_
    subst hQ
    exact en_i (tv := (fc (((10 * y) + x) : Int32).toNatClampNeg)) hx hb hr hlocks (by rw [F_X1_at, if_neg c5]) rfl hK hP hD hS (Nat.le_refl _) (Nat.le_refl _) dX1_at_23

def F_X1_put (fc : Nat → Int32) (x : Int32) (y : Int32) (many : Int32) : Nat → Int32 :=
  if (F_X1_isInside x y) = 0 then
    fc
  else
    (upd fc (((10 * y) + x) : Int32).toNatClampNeg (mn many 40))
set_option maxHeartbeats 4000000 in
set_option maxRecDepth 100000 in
theorem k_X1_put (l : Launch) (D : va_G) (cy : Nat → ClassId) (sz : Nat) (qh qc : Nat) (fc : Nat → Int32) (x : Int32) (y : Int32) (many : Int32) : MTa l D cy yX1_put wsX1_put 1 0 0 24 [(qh, .inr (1, [.ref qc])), (qc, .inl (cy 0, 50, .inl fc))] sz [.ref qh, .int x, .int y, .int many] (fun A => QvT D cy (fun (t : Nat → Int32) => [(qh, .inr (1, [.ref qc])), (qc, .inl (cy 0, 50, .inl t))]) (F_X1_put fc x y many) A) := by
  refine ofWT (cc := cX1_put) (maxL := 4) (ret := none) (own := RX1) (by decide) rfl (Nat.le_of_ble_eq_true rfl) rfl ?_
  intro p e s m args below meth c A ls hx hb hr hml hts hown hlocks hin hN hK hP hD hA hl
  have hS : va_S A s.heap s.heap [] := va_S.rf
  have hl : lv_has ls 4 [(0, .ref qh), (1, .int x), (2, .int y), (3, .int many)] := hl
  have hin1 : ∀ w ∈ u_ws RX1 TX1 1, w ∈ wsX1_put := (fun w h => List.mem_cons_of_mem _ (List.mem_append_right _ h))
  generalize hQ : MQ below ((fun A => QvT D cy (fun (t : Nat → Int32) => [(qh, .inr (1, [.ref qc])), (qc, .inl (cy 0, 50, .inl t))]) (F_X1_put fc x y many) A) A) args s 0 0 A = Q
  refine lv_iload_n hx hb dX1_put_0 rfl (lv_at hl 1 rfl) ?_
  refine lv_iload_n hx hb dX1_put_1 rfl (lv_at hl 2 rfl) ?_
  refine cl_i (wr := [(qh, .inr (1, [.ref qc])), (qc, .inl (cy 0, 50, .inl fc))]) (w2 := [(qh, .inr (1, [.ref qc])), (qc, .inl (cy 0, 50, .inl fc))]) (rn_S (As := [.int x, .int y]) (rest := []) ⟨hx, hb, hml, hown, hts⟩ (k_X1_isInside l D cy _ x y) (va_cwS 2 hts gX1_put_X1_isInside rfl rfl rfl (by decide +kernel) ⟨Nat.le_of_ble_eq_true rfl, Nat.le_of_ble_eq_true rfl⟩) hN hK hP hD [] rfl (by decide) rfl hl.1 rfl (Nat.le_of_ble_eq_true rfl) dX1_put_2 ⟨Nat.le_of_ble_eq_true rfl, Nat.le_of_ble_eq_true rfl⟩) hP hD hS hA [] [0, 1] [0, 1] rfl rfl (by decide) (by decide) rfl (by decide) (fun H locs hP hD hS => ?_)
  refine lv_if_eq (tgt := 25) hx hb dX1_put_5 (by decide) (fun c5 => ?_) (fun c5 => ?_)
  · subst hQ
    exact en_v (tv := fc) hx hb hr hlocks (by rw [F_X1_put, if_pos c5]) hK hP hD hS (Nat.le_refl _) (Nat.le_refl _) dX1_put_25
  · refine lv_aload_n hx hb dX1_put_8 rfl (lv_at hl 0 rfl) ?_
    refine va_get (D := D) (ci := 1) (v := .ref qc) (C := RX1) (T := TX1) (N := 1) hx hb hts hin1 hown hK hP 0 rfl rfl 0 (by decide) (hts (.fieldLink RX1 9 "FireflyInn$Hedge" "cells" "[I") (List.mem_of_getElem? (i := 1) rfl)) (fun _ h9 => h9) rfl dX1_put_9 ?_
    refine lv_bipush (v := 10) hx hb dX1_put_12 (by decide) ?_
    refine lv_iload_n hx hb dX1_put_14 rfl (lv_at hl 2 rfl) ?_
    refine lv_imul hx hb dX1_put_15 ?_
    refine lv_iload_n hx hb dX1_put_16 rfl (lv_at hl 1 rfl) ?_
    refine lv_iadd hx hb dX1_put_17 ?_
    refine lv_iload_n hx hb dX1_put_18 rfl (lv_at hl 3 rfl) ?_
    refine lv_bipush (v := 40) hx hb dX1_put_19 (by decide) ?_
    refine va_mmin (rest := [.int ((10 * y) + x), .ref qc]) hx hb (hml.trans hl.1.symm) hown (hts (.methodLink RX1 19 Lib.Math.min.name) (List.mem_of_getElem? (i := 2) rfl)) (hts (.static Lib.Math.min.name) (List.mem_of_getElem? (i := 3) rfl)) (hts (.initialized "java/lang/Math") (List.mem_of_getElem? (i := 4) rfl)) (hts (.code Lib.Math.min.name Lib.Math.min.code 2 (some .int)) (List.mem_of_getElem? (i := 5) rfl)) (Nat.le_of_ble_eq_true rfl) (Nat.le_of_ble_eq_true rfl) (Nat.le_of_ble_eq_true rfl) (Nat.le_of_ble_eq_true rfl) dX1_put_21 ?_
    refine lv_iv (y := (mn many 40)) rfl ?_
    refine va_iast hx hb hK hP hD hS 1 0 rfl rfl (ins_in c5) dX1_put_24 (fun H locs hP hD hS => ?_)
    have hP : va_P D vwCl [(qh, .inr (1, [.ref qc])), (qc, .inl (cy 0, 50, .inl (upd fc (((10 * y) + x) : Int32).toNatClampNeg (mn many 40))))] H := hP
    have hD : va_D A [(qh, .inr (1, [.ref qc])), (qc, .inl (cy 0, 50, .inl (upd fc (((10 * y) + x) : Int32).toNatClampNeg (mn many 40))))] := hD
    subst hQ
    exact en_v (tv := (upd fc (((10 * y) + x) : Int32).toNatClampNeg (mn many 40))) hx hb hr hlocks (by rw [F_X1_put, if_neg c5]) hK hP hD hS (Nat.le_refl _) (Nat.le_refl _) dX1_put_25

def F_X1_copyFrom (fc : Nat → Int32) (fcz : Nat → Int32) : Nat → Int32 :=
  (va_cpy fcz fc 0 0 50)
set_option maxHeartbeats 4000000 in
set_option maxRecDepth 100000 in
theorem k_X1_copyFrom (l : Launch) (D : va_G) (cy : Nat → ClassId) (sz : Nat) (qh qc qhz qcz : Nat) (fc : Nat → Int32) (fcz : Nat → Int32) : MTa l D cy yX1_copyFrom wsX1_copyFrom 1 0 0 40 [(qh, .inr (1, [.ref qc])), (qc, .inl (cy 0, 50, .inl fc)), (qhz, .inr (1, [.ref qcz])), (qcz, .inl (cy 0, 50, .inl fcz))] sz [.ref qh, .ref qhz] (fun A => QvT D cy (fun (t : Nat → Int32) => [(qh, .inr (1, [.ref qc])), (qc, .inl (cy 0, 50, .inl t)), (qhz, .inr (1, [.ref qcz])), (qcz, .inl (cy 0, 50, .inl fcz))]) (F_X1_copyFrom fc fcz) A) := by
  refine ofWT (cc := cX1_copyFrom) (maxL := 2) (ret := none) (own := RX1) (by decide) rfl (Nat.le_of_ble_eq_true rfl) rfl ?_
  intro p e s m args below meth c A ls hx hb hr hml hts hown hlocks hin hN hK hP hD hA hl
  have hS : va_S A s.heap s.heap [] := va_S.rf
  have hl : lv_has ls 2 [(0, .ref qh), (1, .ref qhz)] := hl
  have hin1 : ∀ w ∈ u_ws RX1 TX1 1, w ∈ wsX1_copyFrom := (fun w h => List.mem_cons_of_mem _ (List.mem_append_right _ h))
  generalize hQ : MQ below ((fun A => QvT D cy (fun (t : Nat → Int32) => [(qh, .inr (1, [.ref qc])), (qc, .inl (cy 0, 50, .inl t)), (qhz, .inr (1, [.ref qcz])), (qcz, .inl (cy 0, 50, .inl fcz))]) (F_X1_copyFrom fc fcz) A) A) args s 0 0 A = Q
  refine lv_aload_n hx hb dX1_copyFrom_0 rfl (lv_at hl 1 rfl) ?_
  refine va_get (D := D) (ci := 1) (v := .ref qcz) (C := RX1) (T := TX1) (N := 1) hx hb hts hin1 hown hK hP 2 rfl rfl 0 (by decide) (hts (.fieldLink RX1 9 "FireflyInn$Hedge" "cells" "[I") (List.mem_of_getElem? (i := 1) rfl)) (fun _ h9 => h9) rfl dX1_copyFrom_1 ?_
  refine lv_iconst (v := 0) hx hb dX1_copyFrom_4 (by decide) ?_
  refine lv_aload_n hx hb dX1_copyFrom_5 rfl (lv_at hl 0 rfl) ?_
  refine va_get (D := D) (ci := 1) (v := .ref qc) (C := RX1) (T := TX1) (N := 1) hx hb hts hin1 hown hK hP 0 rfl rfl 0 (by decide) (hts (.fieldLink RX1 9 "FireflyInn$Hedge" "cells" "[I") (List.mem_of_getElem? (i := 1) rfl)) (fun _ h9 => h9) rfl dX1_copyFrom_6 ?_
  refine lv_iconst (v := 0) hx hb dX1_copyFrom_9 (by decide) ?_
  refine lv_bipush (v := 50) hx hb dX1_copyFrom_10 (by decide) ?_
  refine cpy_n (sp := 0) (dp := 0) (n := 50) (rest := []) hx hb (hml.trans hl.1.symm) hown (hts (.methodLink RX1 25 arraycopyName) (List.mem_of_getElem? (i := 2) rfl)) (hts (.native arraycopyName) (List.mem_of_getElem? (i := 3) rfl)) (hts (.static arraycopyName) (List.mem_of_getElem? (i := 4) rfl)) (hts (.initialized "java/lang/System") (List.mem_of_getElem? (i := 5) rfl)) hK hP hD hS 3 1 rfl rfl (by omega) (by omega) (by omega) (Nat.le_of_ble_eq_true rfl) (Nat.le_of_ble_eq_true rfl) dX1_copyFrom_12 (fun H locs hP hD hS => ?_)
  have hP : va_P D vwCl [(qh, .inr (1, [.ref qc])), (qc, .inl (cy 0, 50, .inl (va_cpy fcz fc 0 0 50))), (qhz, .inr (1, [.ref qcz])), (qcz, .inl (cy 0, 50, .inl fcz))] H := hP
  have hD : va_D A [(qh, .inr (1, [.ref qc])), (qc, .inl (cy 0, 50, .inl (va_cpy fcz fc 0 0 50))), (qhz, .inr (1, [.ref qcz])), (qcz, .inl (cy 0, 50, .inl fcz))] := hD
  subst hQ
  exact en_v (tv := (va_cpy fcz fc 0 0 50)) hx hb hr hlocks (by rw [F_X1_copyFrom]) hK hP hD hS (Nat.le_refl _) (Nat.le_refl _) dX1_copyFrom_15

def F_X1_all (fc : Nat → Int32) : Int32 :=
  (F_X4_sum fc 50)
set_option maxHeartbeats 4000000 in
set_option maxRecDepth 100000 in
theorem k_X1_all (l : Launch) (D : va_G) (cy : Nat → ClassId) (sz : Nat) (qh qc : Nat) (fc : Nat → Int32) : MTa l D cy yX1_all wsX1_all 1 0 0 22 [(qh, .inr (1, [.ref qc])), (qc, .inl (cy 0, 50, .inl fc))] sz [.ref qh] (fun A => QiT D cy (fun (t : Int32) => t) (fun (_ : Int32) => [(qh, .inr (1, [.ref qc])), (qc, .inl (cy 0, 50, .inl fc))]) (F_X1_all fc) A) := by
  refine ofWT (cc := cX1_all) (maxL := 1) (ret := (some .int)) (own := RX1) (by decide) rfl (Nat.le_of_ble_eq_true rfl) rfl ?_
  intro p e s m args below meth c A ls hx hb hr hml hts hown hlocks hin hN hK hP hD hA hl
  have hS : va_S A s.heap s.heap [] := va_S.rf
  have hl : lv_has ls 1 [(0, .ref qh)] := hl
  have hin1 : ∀ w ∈ u_ws RX1 TX1 1, w ∈ wsX1_all := (fun w h => List.mem_cons_of_mem _ (List.mem_append_right _ h))
  generalize hQ : MQ below ((fun A => QiT D cy (fun (t : Int32) => t) (fun (_ : Int32) => [(qh, .inr (1, [.ref qc])), (qc, .inl (cy 0, 50, .inl fc))]) (F_X1_all fc) A) A) args s 0 0 A = Q
  refine lv_aload_n hx hb dX1_all_0 rfl (lv_at hl 0 rfl) ?_
  refine va_get (D := D) (ci := 1) (v := .ref qc) (C := RX1) (T := TX1) (N := 1) hx hb hts hin1 hown hK hP 0 rfl rfl 0 (by decide) (hts (.fieldLink RX1 9 "FireflyInn$Hedge" "cells" "[I") (List.mem_of_getElem? (i := 1) rfl)) (fun _ h9 => h9) rfl dX1_all_1 ?_
  refine cl_i (wr := [(qh, .inr (1, [.ref qc]))]) (w2 := [(qh, .inr (1, [.ref qc])), (qc, .inl (cy 0, 50, .inl fc))]) (rn_SN (As := [.ref qc]) (rest := []) ⟨hx, hb, hml, hown, hts⟩ (k_X4_sum l D cy _ qc fc 50 (by decide)) ⟨va_cnB 1 hts ggX1_all_X4_sum rfl rfl rfl (hN.at 9 rfl) (hts (.initialized RX4) (List.mem_of_getElem? (i := 3) rfl)) (by decide +kernel) ⟨Nat.le_of_ble_eq_true rfl, Nat.le_of_ble_eq_true rfl⟩, (hts (.static yX4_sum) (List.mem_of_getElem? (i := 2) rfl)), trivial⟩ hN hK hP hD [1] rfl (by decide) rfl hl.1 rfl (Nat.le_of_ble_eq_true rfl) dX1_all_4 ⟨Nat.le_of_ble_eq_true rfl, Nat.le_of_ble_eq_true rfl⟩) hP hD hS hA [1] [0] [0, 1] rfl rfl (by decide) (by decide) rfl (by decide) (fun H locs hP hD hS => ?_)
  subst hQ
  exact en_i (tv := (F_X4_sum fc 50)) hx hb hr hlocks (by rw [F_X1_all]) rfl hK hP hD hS (Nat.le_refl _) (Nat.le_refl _) dX1_all_7

def S_X1_inColumn_4 (fc : Nat → Int32) (x : Int32) (k4 : Nat) (v2_4 : Int32) : Int32 :=
  (v2_4 + (F_X1_at fc x (nI k4)))
def I_X1_inColumn_4 (fc : Nat → Int32) (x : Int32) : Int32 :=
  it (fun (k : Nat) (v : Int32) => S_X1_inColumn_4 fc x k v) 5 0 0
def F_X1_inColumn (fc : Nat → Int32) (x : Int32) : Int32 :=
  (I_X1_inColumn_4 fc x)
set_option maxHeartbeats 4000000 in
set_option maxRecDepth 100000 in
theorem k_X1_inColumn (l : Launch) (D : va_G) (cy : Nat → ClassId) (sz : Nat) (qh qc : Nat) (fc : Nat → Int32) (x : Int32) : MTa l D cy yX1_inColumn wsX1_inColumn 2 0 0 43 [(qh, .inr (1, [.ref qc])), (qc, .inl (cy 0, 50, .inl fc))] sz [.ref qh, .int x] (fun A => QiT D cy (fun (t : Int32) => t) (fun (_ : Int32) => [(qh, .inr (1, [.ref qc])), (qc, .inl (cy 0, 50, .inl fc))]) (F_X1_inColumn fc x) A) := by
  refine ofWT (cc := cX1_inColumn) (maxL := 4) (ret := (some .int)) (own := RX1) (by decide) rfl (Nat.le_of_ble_eq_true rfl) rfl ?_
  intro p e s m args below meth c A ls hx hb hr hml hts hown hlocks hin hN hK hP hD hA hl
  have hS : va_S A s.heap s.heap [] := va_S.rf
  have hl : lv_has ls 4 [(0, .ref qh), (1, .int x)] := hl
  generalize hQ : MQ below ((fun A => QiT D cy (fun (t : Int32) => t) (fun (_ : Int32) => [(qh, .inr (1, [.ref qc])), (qc, .inl (cy 0, 50, .inl fc))]) (F_X1_inColumn fc x) A) A) args s 0 0 A = Q
  refine lv_iconst (v := 0) hx hb dX1_inColumn_0 (by decide) ?_
  refine lv_istore_n (lv' := [(2, .int 0), (0, .ref qh), (1, .int x)]) hx hb dX1_inColumn_1 rfl hl (by decide) rfl (fun ls hl => ?_)
  refine lv_iconst (v := 0) hx hb dX1_inColumn_2 (by decide) ?_
  refine lv_istore_n (lv' := [(3, .int 0), (2, .int 0), (0, .ref qh), (1, .int x)]) hx hb dX1_inColumn_3 rfl hl (by decide) rfl (fun ls hl => ?_)
  obtain ⟨fin4, hfin4⟩ : ∃ z, (I_X1_inColumn_4 fc x) = z := ⟨_, rfl⟩
  suffices kk4 : ∀ (H : Heap) (locs : List Loc) (ls : Array Slot), va_P D vwCl [(qh, .inr (1, [.ref qc])), (qc, .inl (cy 0, 50, .inl fc))] H → va_D A [(qh, .inr (1, [.ref qc])), (qc, .inl (cy 0, 50, .inl fc))] → va_S A s.heap H locs → lv_has ls 4 [(3, .int (nI 5)), (2, .int fin4), (0, .ref qh), (1, .int x)] → W p l e (RM 2 0 0 43) s m args below meth c H locs 0 0 Q (F0 m 24 ls []) by
    have lp4 : ∀ (n4 k4 : Nat) (v2_4 : Int32) (H : Heap) (locs : List Loc) (ls : Array Slot), k4 + n4 = 5 → it (fun (k : Nat) (v : Int32) => S_X1_inColumn_4 fc x k v) n4 k4 v2_4 = fin4 → va_P D vwCl [(qh, .inr (1, [.ref qc])), (qc, .inl (cy 0, 50, .inl fc))] H → va_D A [(qh, .inr (1, [.ref qc])), (qc, .inl (cy 0, 50, .inl fc))] → va_S A s.heap H locs → lv_has ls 4 [(3, .int (nI k4)), (2, .int v2_4), (0, .ref qh), (1, .int x)] → W p l e (RM 2 0 0 43) s m args below meth c H locs 0 0 Q (F0 m 4 ls []) := by
      intro n4
      induction n4 with
      | zero =>
        intro k4 v2_4 H locs ls hkn4 hE4 hP hD hS hl
        have hk4 : 5 = k4 := by omega
        subst hk4
        have hE4 : v2_4 = fin4 := hE4
        subst hE4
        refine lv_iload_n hx hb dX1_inColumn_4 rfl (lv_at hl 0 rfl) ?_
        refine lv_iconst (v := 5) hx hb dX1_inColumn_5 (by decide) ?_
        refine lv_icmp_ge (tgt := 24) hx hb dX1_inColumn_6 (by decide) (fun c6 => ?_) (fun c6 => ?_)
        rotate_left
        · exact absurd (nI_le (a := 5) (b := 5) (Nat.le_refl _) (by decide)) c6
        exact kk4 _ _ _ hP hD hS (lv_sub hl [0, 1, 2, 3] rfl)
      | succ n4 ih4 =>
        intro k4 v2_4 H locs ls hkn4 hE4 hP hD hS hl
        have hlt4 : k4 < 5 := by omega
        refine lv_iload_n hx hb dX1_inColumn_4 rfl (lv_at hl 0 rfl) ?_
        refine lv_iconst (v := 5) hx hb dX1_inColumn_5 (by decide) ?_
        refine lv_icmp_ge (tgt := 24) hx hb dX1_inColumn_6 (by decide) (fun c6 => ?_) (fun c6 => ?_)
        · exact absurd c6 (nI_ge (a := k4) (b := 5) hlt4 (by decide))
        refine lv_iload_n hx hb dX1_inColumn_9 rfl (lv_at hl 1 rfl) ?_
        refine lv_aload_n hx hb dX1_inColumn_10 rfl (lv_at hl 2 rfl) ?_
        refine lv_iload_n hx hb dX1_inColumn_11 rfl (lv_at hl 3 rfl) ?_
        refine lv_iload_n hx hb dX1_inColumn_12 rfl (lv_at hl 0 rfl) ?_
        refine cl_i (wr := []) (w2 := [(qh, .inr (1, [.ref qc])), (qc, .inl (cy 0, 50, .inl fc))]) (rn_V (As := [.int x, .int (nI k4)]) (rest := [.int v2_4]) (ci := 1) (q0 := 0) ⟨hx, hb, hml, hown, hts⟩ (k_X1_at l D cy _ qh qc fc x (nI k4)) (cwV 2 hts gX1_inColumn_X1_at rfl rfl rfl (by decide +kernel) ⟨Nat.le_of_ble_eq_true rfl, Nat.le_of_ble_eq_true rfl⟩) hN hK hP hD [0, 1] rfl (by decide) rfl rfl rfl rfl hl.1 rfl (Nat.le_of_ble_eq_true rfl) dX1_inColumn_13 ⟨Nat.le_of_ble_eq_true rfl, Nat.le_of_ble_eq_true rfl⟩) hP hD hS hA [0, 1] [] [0, 1] rfl rfl (by decide) (by decide) rfl (by decide) (fun H locs hP hD hS => ?_)
        refine lv_iadd hx hb dX1_inColumn_16 ?_
        refine lv_istore_n (lv' := [(2, .int (v2_4 + (F_X1_at fc x (nI k4)))), (3, .int (nI k4)), (0, .ref qh), (1, .int x)]) hx hb dX1_inColumn_17 rfl hl (by decide) rfl (fun ls hl => ?_)
        refine lv_iinc (v := (nI (k4 + 1))) (lv' := [(3, .int (nI (k4 + 1))), (2, .int (v2_4 + (F_X1_at fc x (nI k4)))), (0, .ref qh), (1, .int x)]) hx hb dX1_inColumn_18 hl (k := 1) rfl (nI_1 k4) (by decide) rfl (fun ls hl => ?_)
        refine lv_goto (tgt := 4) hx hb dX1_inColumn_21 (by decide) ?_
        exact ih4 (k4 + 1) (v2_4 + (F_X1_at fc x (nI k4))) _ _ _ (by omega) (it_step (f := (fun (k : Nat) (v : Int32) => S_X1_inColumn_4 fc x k v)) (v := v2_4) (show S_X1_inColumn_4 fc x k4 v2_4 = (v2_4 + (F_X1_at fc x (nI k4))) from by rw [S_X1_inColumn_4]) hE4) hP hD hS (lv_sub hl [0, 1, 2, 3] rfl)
    exact lp4 5 0 0 _ _ _ (by omega) hfin4 hP hD hS (lv_sub hl [0, 1, 2, 3] rfl)
  intro H locs ls hP hD hS hl
  subst hfin4
  refine lv_iload_n hx hb dX1_inColumn_24 rfl (lv_at hl 1 rfl) ?_
  subst hQ
  exact en_i (tv := (I_X1_inColumn_4 fc x)) hx hb hr hlocks (by rw [F_X1_inColumn]) rfl hK hP hD hS (Nat.le_refl _) (Nat.le_refl _) dX1_inColumn_25

def F_X1_seenFrom (fc : Nat → Int32) (window : Int32) : Int32 :=
  (((F_X1_inColumn fc (window - 1)) + (F_X1_inColumn fc window)) + (F_X1_inColumn fc (window + 1)))
set_option maxHeartbeats 4000000 in
set_option maxRecDepth 100000 in
theorem k_X1_seenFrom (l : Launch) (D : va_G) (cy : Nat → ClassId) (sz : Nat) (qh qc : Nat) (fc : Nat → Int32) (window : Int32) : MTa l D cy yX1_seenFrom wsX1_seenFrom 3 0 0 66 [(qh, .inr (1, [.ref qc])), (qc, .inl (cy 0, 50, .inl fc))] sz [.ref qh, .int window] (fun A => QiT D cy (fun (t : Int32) => t) (fun (_ : Int32) => [(qh, .inr (1, [.ref qc])), (qc, .inl (cy 0, 50, .inl fc))]) (F_X1_seenFrom fc window) A) := by
  refine ofWT (cc := cX1_seenFrom) (maxL := 2) (ret := (some .int)) (own := RX1) (by decide) rfl (Nat.le_of_ble_eq_true rfl) rfl ?_
  intro p e s m args below meth c A ls hx hb hr hml hts hown hlocks hin hN hK hP hD hA hl
  have hS : va_S A s.heap s.heap [] := va_S.rf
  have hl : lv_has ls 2 [(0, .ref qh), (1, .int window)] := hl
  generalize hQ : MQ below ((fun A => QiT D cy (fun (t : Int32) => t) (fun (_ : Int32) => [(qh, .inr (1, [.ref qc])), (qc, .inl (cy 0, 50, .inl fc))]) (F_X1_seenFrom fc window) A) A) args s 0 0 A = Q
  refine lv_aload_n hx hb dX1_seenFrom_0 rfl (lv_at hl 0 rfl) ?_
  refine lv_iload_n hx hb dX1_seenFrom_1 rfl (lv_at hl 1 rfl) ?_
  refine lv_iconst (v := 1) hx hb dX1_seenFrom_2 (by decide) ?_
  refine lv_isub hx hb dX1_seenFrom_3 ?_
  refine cl_i (wr := []) (w2 := [(qh, .inr (1, [.ref qc])), (qc, .inl (cy 0, 50, .inl fc))]) (rn_V (As := [.int (window - 1)]) (rest := []) (ci := 1) (q0 := 0) ⟨hx, hb, hml, hown, hts⟩ (k_X1_inColumn l D cy _ qh qc fc (window - 1)) (cwV 1 hts gX1_seenFrom_X1_inColumn rfl rfl rfl (by decide +kernel) ⟨Nat.le_of_ble_eq_true rfl, Nat.le_of_ble_eq_true rfl⟩) hN hK hP hD [0, 1] rfl (by decide) rfl rfl rfl rfl hl.1 rfl (Nat.le_of_ble_eq_true rfl) dX1_seenFrom_4 ⟨Nat.le_of_ble_eq_true rfl, Nat.le_of_ble_eq_true rfl⟩) hP hD hS hA [0, 1] [] [0, 1] rfl rfl (by decide) (by decide) rfl (by decide) (fun H locs hP hD hS => ?_)
  refine lv_aload_n hx hb dX1_seenFrom_7 rfl (lv_at hl 0 rfl) ?_
  refine lv_iload_n hx hb dX1_seenFrom_8 rfl (lv_at hl 1 rfl) ?_
  refine cl_i (wr := []) (w2 := [(qh, .inr (1, [.ref qc])), (qc, .inl (cy 0, 50, .inl fc))]) (rn_V (As := [.int window]) (rest := [.int (F_X1_inColumn fc (window - 1))]) (ci := 1) (q0 := 0) ⟨hx, hb, hml, hown, hts⟩ (k_X1_inColumn l D cy _ qh qc fc window) (cwV 1 hts gX1_seenFrom_X1_inColumn rfl rfl rfl (by decide +kernel) ⟨Nat.le_of_ble_eq_true rfl, Nat.le_of_ble_eq_true rfl⟩) hN hK hP hD [0, 1] rfl (by decide) rfl rfl rfl rfl hl.1 rfl (Nat.le_of_ble_eq_true rfl) dX1_seenFrom_9 ⟨Nat.le_of_ble_eq_true rfl, Nat.le_of_ble_eq_true rfl⟩) hP hD hS hA [0, 1] [] [0, 1] rfl rfl (by decide) (by decide) rfl (by decide) (fun H locs hP hD hS => ?_)
  refine lv_iadd hx hb dX1_seenFrom_12 ?_
  refine lv_aload_n hx hb dX1_seenFrom_13 rfl (lv_at hl 0 rfl) ?_
  refine lv_iload_n hx hb dX1_seenFrom_14 rfl (lv_at hl 1 rfl) ?_
  refine lv_iconst (v := 1) hx hb dX1_seenFrom_15 (by decide) ?_
  refine lv_iadd hx hb dX1_seenFrom_16 ?_
  refine cl_i (wr := []) (w2 := [(qh, .inr (1, [.ref qc])), (qc, .inl (cy 0, 50, .inl fc))]) (rn_V (As := [.int (window + 1)]) (rest := [.int ((F_X1_inColumn fc (window - 1)) + (F_X1_inColumn fc window))]) (ci := 1) (q0 := 0) ⟨hx, hb, hml, hown, hts⟩ (k_X1_inColumn l D cy _ qh qc fc (window + 1)) (cwV 1 hts gX1_seenFrom_X1_inColumn rfl rfl rfl (by decide +kernel) ⟨Nat.le_of_ble_eq_true rfl, Nat.le_of_ble_eq_true rfl⟩) hN hK hP hD [0, 1] rfl (by decide) rfl rfl rfl rfl hl.1 rfl (Nat.le_of_ble_eq_true rfl) dX1_seenFrom_17 ⟨Nat.le_of_ble_eq_true rfl, Nat.le_of_ble_eq_true rfl⟩) hP hD hS hA [0, 1] [] [0, 1] rfl rfl (by decide) (by decide) rfl (by decide) (fun H locs hP hD hS => ?_)
  refine lv_iadd hx hb dX1_seenFrom_20 ?_
  subst hQ
  exact en_i (tv := (((F_X1_inColumn fc (window - 1)) + (F_X1_inColumn fc window)) + (F_X1_inColumn fc (window + 1)))) hx hb hr hlocks (by rw [F_X1_seenFrom]) rfl hK hP hD hS (Nat.le_refl _) (Nat.le_refl _) dX1_seenFrom_21

def C_X1_driveAside_44 (src : Int32) (dst : Int32) (k2 : Nat) (fc_2 : Nat → Int32) : Nat → Int32 :=
  F_X1_put (F_X1_put fc_2 src (nI k2) ((F_X1_at fc_2 src (nI k2)) - ((F_X1_at fc_2 src (nI k2)) / 2))) dst (nI k2) ((F_X1_at (F_X1_put fc_2 src (nI k2) ((F_X1_at fc_2 src (nI k2)) - ((F_X1_at fc_2 src (nI k2)) / 2))) dst (nI k2)) + ((F_X1_at fc_2 src (nI k2)) / 2))
def S_X1_driveAside_2 (src : Int32) (dst : Int32) (k2 : Nat) (fc_2 : Nat → Int32) : Nat → Int32 :=
  (C_X1_driveAside_44 src dst k2 fc_2)
def I_X1_driveAside_2 (fc : Nat → Int32) (src : Int32) (dst : Int32) : Nat → Int32 :=
  it (fun (k : Nat) (v : Nat → Int32) => S_X1_driveAside_2 src dst k v) 5 0 fc
def F_X1_driveAside (fc : Nat → Int32) (src : Int32) (dst : Int32) : Nat → Int32 :=
  (I_X1_driveAside_2 fc src dst)
set_option maxHeartbeats 4000000 in
set_option maxRecDepth 100000 in
theorem k_X1_driveAside (l : Launch) (D : va_G) (cy : Nat → ClassId) (sz : Nat) (qh qc : Nat) (fc : Nat → Int32) (src : Int32) (dst : Int32) : MTa l D cy yX1_driveAside wsX1_driveAside 2 0 0 47 [(qh, .inr (1, [.ref qc])), (qc, .inl (cy 0, 50, .inl fc))] sz [.ref qh, .int src, .int dst] (fun A => QvT D cy (fun (t : Nat → Int32) => [(qh, .inr (1, [.ref qc])), (qc, .inl (cy 0, 50, .inl t))]) (F_X1_driveAside fc src dst) A) := by
  refine ofWT (cc := cX1_driveAside) (maxL := 5) (ret := none) (own := RX1) (by decide) rfl (Nat.le_of_ble_eq_true rfl) rfl ?_
  intro p e s m args below meth c A ls hx hb hr hml hts hown hlocks hin hN hK hP hD hA hl
  have hS : va_S A s.heap s.heap [] := va_S.rf
  have hl : lv_has ls 5 [(0, .ref qh), (1, .int src), (2, .int dst)] := hl
  generalize hQ : MQ below ((fun A => QvT D cy (fun (t : Nat → Int32) => [(qh, .inr (1, [.ref qc])), (qc, .inl (cy 0, 50, .inl t))]) (F_X1_driveAside fc src dst) A) A) args s 0 0 A = Q
  refine lv_iconst (v := 0) hx hb dX1_driveAside_0 (by decide) ?_
  refine lv_istore_n (lv' := [(3, .int 0), (0, .ref qh), (1, .int src), (2, .int dst)]) hx hb dX1_driveAside_1 rfl hl (by decide) rfl (fun ls hl => ?_)
  obtain ⟨fin2, hfin2⟩ : ∃ z, (I_X1_driveAside_2 fc src dst) = z := ⟨_, rfl⟩
  suffices kk2 : ∀ (H : Heap) (locs : List Loc) (ls : Array Slot), va_P D vwCl [(qh, .inr (1, [.ref qc])), (qc, .inl (cy 0, 50, .inl fin2))] H → va_D A [(qh, .inr (1, [.ref qc])), (qc, .inl (cy 0, 50, .inl fin2))] → va_S A s.heap H locs → lv_has ls 5 [(3, .int (nI 5)), (0, .ref qh), (1, .int src), (2, .int dst)] → W p l e (RM 2 0 0 47) s m args below meth c H locs 0 0 Q (F0 m 53 ls []) by
    have lp2 : ∀ (n2 k2 : Nat) (fc_2 : Nat → Int32) (H : Heap) (locs : List Loc) (ls : Array Slot), k2 + n2 = 5 → it (fun (k : Nat) (v : Nat → Int32) => S_X1_driveAside_2 src dst k v) n2 k2 fc_2 = fin2 → va_P D vwCl [(qh, .inr (1, [.ref qc])), (qc, .inl (cy 0, 50, .inl fc_2))] H → va_D A [(qh, .inr (1, [.ref qc])), (qc, .inl (cy 0, 50, .inl fc_2))] → va_S A s.heap H locs → lv_has ls 5 [(3, .int (nI k2)), (0, .ref qh), (1, .int src), (2, .int dst)] → W p l e (RM 2 0 0 47) s m args below meth c H locs 0 0 Q (F0 m 2 ls []) := by
      intro n2
      induction n2 with
      | zero =>
        intro k2 fc_2 H locs ls hkn2 hE2 hP hD hS hl
        have hk2 : 5 = k2 := by omega
        subst hk2
        have hE2 : fc_2 = fin2 := hE2
        subst hE2
        refine lv_iload_n hx hb dX1_driveAside_2 rfl (lv_at hl 0 rfl) ?_
        refine lv_iconst (v := 5) hx hb dX1_driveAside_3 (by decide) ?_
        refine lv_icmp_ge (tgt := 53) hx hb dX1_driveAside_4 (by decide) (fun c4 => ?_) (fun c4 => ?_)
        rotate_left
        · exact absurd (nI_le (a := 5) (b := 5) (Nat.le_refl _) (by decide)) c4
        exact kk2 _ _ _ hP hD hS (lv_sub hl [0, 1, 2, 3] rfl)
      | succ n2 ih2 =>
        intro k2 fc_2 H locs ls hkn2 hE2 hP hD hS hl
        have hlt2 : k2 < 5 := by omega
        refine lv_iload_n hx hb dX1_driveAside_2 rfl (lv_at hl 0 rfl) ?_
        refine lv_iconst (v := 5) hx hb dX1_driveAside_3 (by decide) ?_
        refine lv_icmp_ge (tgt := 53) hx hb dX1_driveAside_4 (by decide) (fun c4 => ?_) (fun c4 => ?_)
        · exact absurd c4 (nI_ge (a := k2) (b := 5) hlt2 (by decide))
        refine lv_aload_n hx hb dX1_driveAside_7 rfl (lv_at hl 1 rfl) ?_
        refine lv_iload_n hx hb dX1_driveAside_8 rfl (lv_at hl 2 rfl) ?_
        refine lv_iload_n hx hb dX1_driveAside_9 rfl (lv_at hl 0 rfl) ?_
        refine cl_i (wr := []) (w2 := [(qh, .inr (1, [.ref qc])), (qc, .inl (cy 0, 50, .inl fc_2))]) (rn_V (As := [.int src, .int (nI k2)]) (rest := []) (ci := 1) (q0 := 0) ⟨hx, hb, hml, hown, hts⟩ (k_X1_at l D cy _ qh qc fc_2 src (nI k2)) (cwV 2 hts gX1_driveAside_X1_at rfl rfl rfl (by decide +kernel) ⟨Nat.le_of_ble_eq_true rfl, Nat.le_of_ble_eq_true rfl⟩) hN hK hP hD [0, 1] rfl (by decide) rfl rfl rfl rfl hl.1 rfl (Nat.le_of_ble_eq_true rfl) dX1_driveAside_10 ⟨Nat.le_of_ble_eq_true rfl, Nat.le_of_ble_eq_true rfl⟩) hP hD hS hA [0, 1] [] [0, 1] rfl rfl (by decide) (by decide) rfl (by decide) (fun H locs hP hD hS => ?_)
        refine lv_iconst (v := 2) hx hb dX1_driveAside_13 (by decide) ?_
        refine lv_idiv hx hb dX1_driveAside_14 (by decide) ?_
        refine lv_istore (lv' := [(4, .int ((F_X1_at fc_2 src (nI k2)) / 2)), (3, .int (nI k2)), (0, .ref qh), (1, .int src), (2, .int dst)]) hx hb dX1_driveAside_15 hl (by decide) rfl (fun ls hl => ?_)
        refine lv_aload_n hx hb dX1_driveAside_17 rfl (lv_at hl 2 rfl) ?_
        refine lv_iload_n hx hb dX1_driveAside_18 rfl (lv_at hl 3 rfl) ?_
        refine lv_iload_n hx hb dX1_driveAside_19 rfl (lv_at hl 1 rfl) ?_
        refine lv_aload_n hx hb dX1_driveAside_20 rfl (lv_at hl 2 rfl) ?_
        refine lv_iload_n hx hb dX1_driveAside_21 rfl (lv_at hl 3 rfl) ?_
        refine lv_iload_n hx hb dX1_driveAside_22 rfl (lv_at hl 1 rfl) ?_
        refine cl_i (wr := []) (w2 := [(qh, .inr (1, [.ref qc])), (qc, .inl (cy 0, 50, .inl fc_2))]) (rn_V (As := [.int src, .int (nI k2)]) (rest := [.int (nI k2), .int src, .ref qh]) (ci := 1) (q0 := 0) ⟨hx, hb, hml, hown, hts⟩ (k_X1_at l D cy _ qh qc fc_2 src (nI k2)) (cwV 2 hts gX1_driveAside_X1_at rfl rfl rfl (by decide +kernel) ⟨Nat.le_of_ble_eq_true rfl, Nat.le_of_ble_eq_true rfl⟩) hN hK hP hD [0, 1] rfl (by decide) rfl rfl rfl rfl hl.1 rfl (Nat.le_of_ble_eq_true rfl) dX1_driveAside_23 ⟨Nat.le_of_ble_eq_true rfl, Nat.le_of_ble_eq_true rfl⟩) hP hD hS hA [0, 1] [] [0, 1] rfl rfl (by decide) (by decide) rfl (by decide) (fun H locs hP hD hS => ?_)
        refine lv_iload hx hb dX1_driveAside_26 (lv_at hl 0 rfl) ?_
        refine lv_isub hx hb dX1_driveAside_28 ?_
        refine cl_v (wr := []) (w2 := [(qh, .inr (1, [.ref qc])), (qc, .inl (cy 0, 50, .inl (F_X1_put fc_2 src (nI k2) ((F_X1_at fc_2 src (nI k2)) - ((F_X1_at fc_2 src (nI k2)) / 2)))))]) (rn_V (As := [.int src, .int (nI k2), .int ((F_X1_at fc_2 src (nI k2)) - ((F_X1_at fc_2 src (nI k2)) / 2))]) (rest := []) (ci := 1) (q0 := 0) ⟨hx, hb, hml, hown, hts⟩ (k_X1_put l D cy _ qh qc fc_2 src (nI k2) ((F_X1_at fc_2 src (nI k2)) - ((F_X1_at fc_2 src (nI k2)) / 2))) (cwV 3 hts gX1_driveAside_X1_put rfl rfl rfl (by decide +kernel) ⟨Nat.le_of_ble_eq_true rfl, Nat.le_of_ble_eq_true rfl⟩) hN hK hP hD [0, 1] rfl (by decide) rfl rfl rfl rfl hl.1 rfl (Nat.le_of_ble_eq_true rfl) dX1_driveAside_29 ⟨Nat.le_of_ble_eq_true rfl, Nat.le_of_ble_eq_true rfl⟩) hP hD hS hA [0, 1] [] [0, 1] rfl rfl (by decide) (by decide) rfl (by decide) (fun H locs hP hD hS => ?_)
        refine lv_aload_n hx hb dX1_driveAside_32 rfl (lv_at hl 2 rfl) ?_
        refine lv_iload_n hx hb dX1_driveAside_33 rfl (lv_at hl 4 rfl) ?_
        refine lv_iload_n hx hb dX1_driveAside_34 rfl (lv_at hl 1 rfl) ?_
        refine lv_aload_n hx hb dX1_driveAside_35 rfl (lv_at hl 2 rfl) ?_
        refine lv_iload_n hx hb dX1_driveAside_36 rfl (lv_at hl 4 rfl) ?_
        refine lv_iload_n hx hb dX1_driveAside_37 rfl (lv_at hl 1 rfl) ?_
        refine cl_i (wr := []) (w2 := [(qh, .inr (1, [.ref qc])), (qc, .inl (cy 0, 50, .inl (F_X1_put fc_2 src (nI k2) ((F_X1_at fc_2 src (nI k2)) - ((F_X1_at fc_2 src (nI k2)) / 2)))))]) (rn_V (As := [.int dst, .int (nI k2)]) (rest := [.int (nI k2), .int dst, .ref qh]) (ci := 1) (q0 := 0) ⟨hx, hb, hml, hown, hts⟩ (k_X1_at l D cy _ qh qc (F_X1_put fc_2 src (nI k2) ((F_X1_at fc_2 src (nI k2)) - ((F_X1_at fc_2 src (nI k2)) / 2))) dst (nI k2)) (cwV 2 hts gX1_driveAside_X1_at rfl rfl rfl (by decide +kernel) ⟨Nat.le_of_ble_eq_true rfl, Nat.le_of_ble_eq_true rfl⟩) hN hK hP hD [0, 1] rfl (by decide) rfl rfl rfl rfl hl.1 rfl (Nat.le_of_ble_eq_true rfl) dX1_driveAside_38 ⟨Nat.le_of_ble_eq_true rfl, Nat.le_of_ble_eq_true rfl⟩) hP hD hS hA [0, 1] [] [0, 1] rfl rfl (by decide) (by decide) rfl (by decide) (fun H locs hP hD hS => ?_)
        refine lv_iload hx hb dX1_driveAside_41 (lv_at hl 0 rfl) ?_
        refine lv_iadd hx hb dX1_driveAside_43 ?_
        refine cl_v (wr := []) (w2 := [(qh, .inr (1, [.ref qc])), (qc, .inl (cy 0, 50, .inl (C_X1_driveAside_44 src dst k2 fc_2)))]) (rn_V (As := [.int dst, .int (nI k2), .int ((F_X1_at (F_X1_put fc_2 src (nI k2) ((F_X1_at fc_2 src (nI k2)) - ((F_X1_at fc_2 src (nI k2)) / 2))) dst (nI k2)) + ((F_X1_at fc_2 src (nI k2)) / 2))]) (rest := []) (ci := 1) (q0 := 0) ⟨hx, hb, hml, hown, hts⟩ (k_X1_put l D cy _ qh qc (F_X1_put fc_2 src (nI k2) ((F_X1_at fc_2 src (nI k2)) - ((F_X1_at fc_2 src (nI k2)) / 2))) dst (nI k2) ((F_X1_at (F_X1_put fc_2 src (nI k2) ((F_X1_at fc_2 src (nI k2)) - ((F_X1_at fc_2 src (nI k2)) / 2))) dst (nI k2)) + ((F_X1_at fc_2 src (nI k2)) / 2))) (cwV 3 hts gX1_driveAside_X1_put rfl rfl rfl (by decide +kernel) ⟨Nat.le_of_ble_eq_true rfl, Nat.le_of_ble_eq_true rfl⟩) hN hK hP hD [0, 1] rfl (by decide) rfl rfl rfl rfl hl.1 rfl (Nat.le_of_ble_eq_true rfl) dX1_driveAside_44 ⟨Nat.le_of_ble_eq_true rfl, Nat.le_of_ble_eq_true rfl⟩) hP hD hS hA [0, 1] [] [0, 1] rfl rfl (by decide) (by decide) rfl (by decide) (fun H locs hP hD hS => ?_)
        refine lv_iinc (v := (nI (k2 + 1))) (lv' := [(3, .int (nI (k2 + 1))), (4, .int ((F_X1_at fc_2 src (nI k2)) / 2)), (0, .ref qh), (1, .int src), (2, .int dst)]) hx hb dX1_driveAside_47 hl (k := 1) rfl (nI_1 k2) (by decide) rfl (fun ls hl => ?_)
        refine lv_goto (tgt := 2) hx hb dX1_driveAside_50 (by decide) ?_
        exact ih2 (k2 + 1) (C_X1_driveAside_44 src dst k2 fc_2) _ _ _ (by omega) (it_step (f := (fun (k : Nat) (v : Nat → Int32) => S_X1_driveAside_2 src dst k v)) (v := fc_2) (show S_X1_driveAside_2 src dst k2 fc_2 = (C_X1_driveAside_44 src dst k2 fc_2) from by rw [S_X1_driveAside_2]) hE2) hP hD hS (lv_sub hl [0, 2, 3, 4] rfl)
    exact lp2 5 0 fc _ _ _ (by omega) hfin2 hP hD hS (lv_sub hl [0, 1, 2, 3] rfl)
  intro H locs ls hP hD hS hl
  subst hfin2
  subst hQ
  exact en_v (tv := (I_X1_driveAside_2 fc src dst)) hx hb hr hlocks (by rw [F_X1_driveAside]) hK hP hD hS (Nat.le_refl _) (Nat.le_refl _) dX1_driveAside_53

def C_X1_driveDown_56 (x : Int32) (n2 : Nat) (fc_2 : Nat → Int32) : Nat → Int32 :=
  F_X1_put (F_X1_put fc_2 x (nI n2) ((F_X1_at fc_2 x (nI n2)) - (mn (F_X1_at fc_2 x (nI n2)) (40 - (F_X1_at fc_2 x (nI (n2 + 1))))))) x (nI (n2 + 1)) ((F_X1_at (F_X1_put fc_2 x (nI n2) ((F_X1_at fc_2 x (nI n2)) - (mn (F_X1_at fc_2 x (nI n2)) (40 - (F_X1_at fc_2 x (nI (n2 + 1))))))) x (nI (n2 + 1))) + (mn (F_X1_at fc_2 x (nI n2)) (40 - (F_X1_at fc_2 x (nI (n2 + 1))))))
def S_X1_driveDown_2 (x : Int32) (n2 : Nat) (fc_2 : Nat → Int32) : Nat → Int32 :=
  (C_X1_driveDown_56 x n2 fc_2)
def I_X1_driveDown_2 (fc : Nat → Int32) (x : Int32) : Nat → Int32 :=
  itd (fun (k : Nat) (v : Nat → Int32) => S_X1_driveDown_2 x k v) 4 fc
def F_X1_driveDown (fc : Nat → Int32) (x : Int32) : Nat → Int32 :=
  (I_X1_driveDown_2 fc x)
set_option maxHeartbeats 4000000 in
set_option maxRecDepth 100000 in
theorem k_X1_driveDown (l : Launch) (D : va_G) (cy : Nat → ClassId) (sz : Nat) (qh qc : Nat) (fc : Nat → Int32) (x : Int32) : MTa l D cy yX1_driveDown wsX1_driveDown 2 0 0 47 [(qh, .inr (1, [.ref qc])), (qc, .inl (cy 0, 50, .inl fc))] sz [.ref qh, .int x] (fun A => QvT D cy (fun (t : Nat → Int32) => [(qh, .inr (1, [.ref qc])), (qc, .inl (cy 0, 50, .inl t))]) (F_X1_driveDown fc x) A) := by
  refine ofWT (cc := cX1_driveDown) (maxL := 4) (ret := none) (own := RX1) (by decide) rfl (Nat.le_of_ble_eq_true rfl) rfl ?_
  intro p e s m args below meth c A ls hx hb hr hml hts hown hlocks hin hN hK hP hD hA hl
  have hS : va_S A s.heap s.heap [] := va_S.rf
  have hl : lv_has ls 4 [(0, .ref qh), (1, .int x)] := hl
  generalize hQ : MQ below ((fun A => QvT D cy (fun (t : Nat → Int32) => [(qh, .inr (1, [.ref qc])), (qc, .inl (cy 0, 50, .inl t))]) (F_X1_driveDown fc x) A) A) args s 0 0 A = Q
  refine lv_iconst (v := 3) hx hb dX1_driveDown_0 (by decide) ?_
  refine lv_istore_n (lv' := [(2, .int 3), (0, .ref qh), (1, .int x)]) hx hb dX1_driveDown_1 rfl hl (by decide) rfl (fun ls hl => ?_)
  obtain ⟨fin2, hfin2⟩ : ∃ z, (I_X1_driveDown_2 fc x) = z := ⟨_, rfl⟩
  suffices kk2 : ∀ (H : Heap) (locs : List Loc) (ls : Array Slot), va_P D vwCl [(qh, .inr (1, [.ref qc])), (qc, .inl (cy 0, 50, .inl fin2))] H → va_D A [(qh, .inr (1, [.ref qc])), (qc, .inl (cy 0, 50, .inl fin2))] → va_S A s.heap H locs → lv_has ls 4 [(2, .int (dN 0)), (0, .ref qh), (1, .int x)] → W p l e (RM 2 0 0 47) s m args below meth c H locs 0 0 Q (F0 m 65 ls []) by
    have lp2 : ∀ (n2 : Nat) (fc_2 : Nat → Int32) (H : Heap) (locs : List Loc) (ls : Array Slot), n2 ≤ 4 → itd (fun (k : Nat) (v : Nat → Int32) => S_X1_driveDown_2 x k v) n2 fc_2 = fin2 → va_P D vwCl [(qh, .inr (1, [.ref qc])), (qc, .inl (cy 0, 50, .inl fc_2))] H → va_D A [(qh, .inr (1, [.ref qc])), (qc, .inl (cy 0, 50, .inl fc_2))] → va_S A s.heap H locs → lv_has ls 4 [(2, .int (dN n2)), (0, .ref qh), (1, .int x)] → W p l e (RM 2 0 0 47) s m args below meth c H locs 0 0 Q (F0 m 2 ls []) := by
      intro n2
      induction n2 with
      | zero =>
        intro fc_2 H locs ls hkn2 hE2 hP hD hS hl
        have hE2 : fc_2 = fin2 := hE2
        subst hE2
        have hl : lv_has ls 4 [(2, .int (-1)), (0, .ref qh), (1, .int x)] := hl
        refine lv_iload_n hx hb dX1_driveDown_2 rfl (lv_at hl 0 rfl) ?_
        refine lv_if_lt (tgt := 65) hx hb dX1_driveDown_3 (by decide) (fun c3 => ?_) (fun c3 => ?_)
        rotate_left
        · exact absurd (by decide) c3
        exact kk2 _ _ _ hP hD hS (lv_sub hl [0, 1, 2] rfl)
      | succ n2 ih2 =>
        intro fc_2 H locs ls hkn2 hE2 hP hD hS hl
        have hl : lv_has ls 4 [(2, .int (nI n2)), (0, .ref qh), (1, .int x)] := hl
        refine lv_iload_n hx hb dX1_driveDown_2 rfl (lv_at hl 0 rfl) ?_
        refine lv_if_lt (tgt := 65) hx hb dX1_driveDown_3 (by decide) (fun c3 => ?_) (fun c3 => ?_)
        · exact absurd c3 (nI_pos (by omega))
        refine lv_aload_n hx hb dX1_driveDown_6 rfl (lv_at hl 1 rfl) ?_
        refine lv_iload_n hx hb dX1_driveDown_7 rfl (lv_at hl 2 rfl) ?_
        refine lv_iload_n hx hb dX1_driveDown_8 rfl (lv_at hl 0 rfl) ?_
        refine cl_i (wr := []) (w2 := [(qh, .inr (1, [.ref qc])), (qc, .inl (cy 0, 50, .inl fc_2))]) (rn_V (As := [.int x, .int (nI n2)]) (rest := []) (ci := 1) (q0 := 0) ⟨hx, hb, hml, hown, hts⟩ (k_X1_at l D cy _ qh qc fc_2 x (nI n2)) (cwV 2 hts gX1_driveDown_X1_at rfl rfl rfl (by decide +kernel) ⟨Nat.le_of_ble_eq_true rfl, Nat.le_of_ble_eq_true rfl⟩) hN hK hP hD [0, 1] rfl (by decide) rfl rfl rfl rfl hl.1 rfl (Nat.le_of_ble_eq_true rfl) dX1_driveDown_9 ⟨Nat.le_of_ble_eq_true rfl, Nat.le_of_ble_eq_true rfl⟩) hP hD hS hA [0, 1] [] [0, 1] rfl rfl (by decide) (by decide) rfl (by decide) (fun H locs hP hD hS => ?_)
        refine lv_bipush (v := 40) hx hb dX1_driveDown_12 (by decide) ?_
        refine lv_aload_n hx hb dX1_driveDown_14 rfl (lv_at hl 1 rfl) ?_
        refine lv_iload_n hx hb dX1_driveDown_15 rfl (lv_at hl 2 rfl) ?_
        refine lv_iload_n hx hb dX1_driveDown_16 rfl (lv_at hl 0 rfl) ?_
        refine lv_iconst (v := 1) hx hb dX1_driveDown_17 (by decide) ?_
        refine lv_iadd hx hb dX1_driveDown_18 ?_
        refine lv_iv (y := (nI (n2 + 1))) (nI_add n2 1) ?_
        refine cl_i (wr := []) (w2 := [(qh, .inr (1, [.ref qc])), (qc, .inl (cy 0, 50, .inl fc_2))]) (rn_V (As := [.int x, .int (nI (n2 + 1))]) (rest := [.int 40, .int (F_X1_at fc_2 x (nI n2))]) (ci := 1) (q0 := 0) ⟨hx, hb, hml, hown, hts⟩ (k_X1_at l D cy _ qh qc fc_2 x (nI (n2 + 1))) (cwV 2 hts gX1_driveDown_X1_at rfl rfl rfl (by decide +kernel) ⟨Nat.le_of_ble_eq_true rfl, Nat.le_of_ble_eq_true rfl⟩) hN hK hP hD [0, 1] rfl (by decide) rfl rfl rfl rfl hl.1 rfl (Nat.le_of_ble_eq_true rfl) dX1_driveDown_19 ⟨Nat.le_of_ble_eq_true rfl, Nat.le_of_ble_eq_true rfl⟩) hP hD hS hA [0, 1] [] [0, 1] rfl rfl (by decide) (by decide) rfl (by decide) (fun H locs hP hD hS => ?_)
        refine lv_isub hx hb dX1_driveDown_22 ?_
        refine va_mmin (rest := []) hx hb (hml.trans hl.1.symm) hown (hts (.methodLink RX1 19 Lib.Math.min.name) (List.mem_of_getElem? (i := 1) rfl)) (hts (.static Lib.Math.min.name) (List.mem_of_getElem? (i := 2) rfl)) (hts (.initialized "java/lang/Math") (List.mem_of_getElem? (i := 3) rfl)) (hts (.code Lib.Math.min.name Lib.Math.min.code 2 (some .int)) (List.mem_of_getElem? (i := 4) rfl)) (Nat.le_of_ble_eq_true rfl) (Nat.le_of_ble_eq_true rfl) (Nat.le_of_ble_eq_true rfl) (Nat.le_of_ble_eq_true rfl) dX1_driveDown_23 ?_
        refine lv_iv (y := (mn (F_X1_at fc_2 x (nI n2)) (40 - (F_X1_at fc_2 x (nI (n2 + 1)))))) rfl ?_
        refine lv_istore_n (lv' := [(3, .int (mn (F_X1_at fc_2 x (nI n2)) (40 - (F_X1_at fc_2 x (nI (n2 + 1)))))), (2, .int (nI n2)), (0, .ref qh), (1, .int x)]) hx hb dX1_driveDown_26 rfl hl (by decide) rfl (fun ls hl => ?_)
        refine lv_aload_n hx hb dX1_driveDown_27 rfl (lv_at hl 2 rfl) ?_
        refine lv_iload_n hx hb dX1_driveDown_28 rfl (lv_at hl 3 rfl) ?_
        refine lv_iload_n hx hb dX1_driveDown_29 rfl (lv_at hl 1 rfl) ?_
        refine lv_aload_n hx hb dX1_driveDown_30 rfl (lv_at hl 2 rfl) ?_
        refine lv_iload_n hx hb dX1_driveDown_31 rfl (lv_at hl 3 rfl) ?_
        refine lv_iload_n hx hb dX1_driveDown_32 rfl (lv_at hl 1 rfl) ?_
        refine cl_i (wr := []) (w2 := [(qh, .inr (1, [.ref qc])), (qc, .inl (cy 0, 50, .inl fc_2))]) (rn_V (As := [.int x, .int (nI n2)]) (rest := [.int (nI n2), .int x, .ref qh]) (ci := 1) (q0 := 0) ⟨hx, hb, hml, hown, hts⟩ (k_X1_at l D cy _ qh qc fc_2 x (nI n2)) (cwV 2 hts gX1_driveDown_X1_at rfl rfl rfl (by decide +kernel) ⟨Nat.le_of_ble_eq_true rfl, Nat.le_of_ble_eq_true rfl⟩) hN hK hP hD [0, 1] rfl (by decide) rfl rfl rfl rfl hl.1 rfl (Nat.le_of_ble_eq_true rfl) dX1_driveDown_33 ⟨Nat.le_of_ble_eq_true rfl, Nat.le_of_ble_eq_true rfl⟩) hP hD hS hA [0, 1] [] [0, 1] rfl rfl (by decide) (by decide) rfl (by decide) (fun H locs hP hD hS => ?_)
        refine lv_iload_n hx hb dX1_driveDown_36 rfl (lv_at hl 0 rfl) ?_
        refine lv_isub hx hb dX1_driveDown_37 ?_
        refine cl_v (wr := []) (w2 := [(qh, .inr (1, [.ref qc])), (qc, .inl (cy 0, 50, .inl (F_X1_put fc_2 x (nI n2) ((F_X1_at fc_2 x (nI n2)) - (mn (F_X1_at fc_2 x (nI n2)) (40 - (F_X1_at fc_2 x (nI (n2 + 1)))))))))]) (rn_V (As := [.int x, .int (nI n2), .int ((F_X1_at fc_2 x (nI n2)) - (mn (F_X1_at fc_2 x (nI n2)) (40 - (F_X1_at fc_2 x (nI (n2 + 1))))))]) (rest := []) (ci := 1) (q0 := 0) ⟨hx, hb, hml, hown, hts⟩ (k_X1_put l D cy _ qh qc fc_2 x (nI n2) ((F_X1_at fc_2 x (nI n2)) - (mn (F_X1_at fc_2 x (nI n2)) (40 - (F_X1_at fc_2 x (nI (n2 + 1))))))) (cwV 3 hts gX1_driveDown_X1_put rfl rfl rfl (by decide +kernel) ⟨Nat.le_of_ble_eq_true rfl, Nat.le_of_ble_eq_true rfl⟩) hN hK hP hD [0, 1] rfl (by decide) rfl rfl rfl rfl hl.1 rfl (Nat.le_of_ble_eq_true rfl) dX1_driveDown_38 ⟨Nat.le_of_ble_eq_true rfl, Nat.le_of_ble_eq_true rfl⟩) hP hD hS hA [0, 1] [] [0, 1] rfl rfl (by decide) (by decide) rfl (by decide) (fun H locs hP hD hS => ?_)
        refine lv_aload_n hx hb dX1_driveDown_41 rfl (lv_at hl 2 rfl) ?_
        refine lv_iload_n hx hb dX1_driveDown_42 rfl (lv_at hl 3 rfl) ?_
        refine lv_iload_n hx hb dX1_driveDown_43 rfl (lv_at hl 1 rfl) ?_
        refine lv_iconst (v := 1) hx hb dX1_driveDown_44 (by decide) ?_
        refine lv_iadd hx hb dX1_driveDown_45 ?_
        refine lv_iv (y := (nI (n2 + 1))) (nI_add n2 1) ?_
        refine lv_aload_n hx hb dX1_driveDown_46 rfl (lv_at hl 2 rfl) ?_
        refine lv_iload_n hx hb dX1_driveDown_47 rfl (lv_at hl 3 rfl) ?_
        refine lv_iload_n hx hb dX1_driveDown_48 rfl (lv_at hl 1 rfl) ?_
        refine lv_iconst (v := 1) hx hb dX1_driveDown_49 (by decide) ?_
        refine lv_iadd hx hb dX1_driveDown_50 ?_
        refine lv_iv (y := (nI (n2 + 1))) (nI_add n2 1) ?_
        refine cl_i (wr := []) (w2 := [(qh, .inr (1, [.ref qc])), (qc, .inl (cy 0, 50, .inl (F_X1_put fc_2 x (nI n2) ((F_X1_at fc_2 x (nI n2)) - (mn (F_X1_at fc_2 x (nI n2)) (40 - (F_X1_at fc_2 x (nI (n2 + 1)))))))))]) (rn_V (As := [.int x, .int (nI (n2 + 1))]) (rest := [.int (nI (n2 + 1)), .int x, .ref qh]) (ci := 1) (q0 := 0) ⟨hx, hb, hml, hown, hts⟩ (k_X1_at l D cy _ qh qc (F_X1_put fc_2 x (nI n2) ((F_X1_at fc_2 x (nI n2)) - (mn (F_X1_at fc_2 x (nI n2)) (40 - (F_X1_at fc_2 x (nI (n2 + 1))))))) x (nI (n2 + 1))) (cwV 2 hts gX1_driveDown_X1_at rfl rfl rfl (by decide +kernel) ⟨Nat.le_of_ble_eq_true rfl, Nat.le_of_ble_eq_true rfl⟩) hN hK hP hD [0, 1] rfl (by decide) rfl rfl rfl rfl hl.1 rfl (Nat.le_of_ble_eq_true rfl) dX1_driveDown_51 ⟨Nat.le_of_ble_eq_true rfl, Nat.le_of_ble_eq_true rfl⟩) hP hD hS hA [0, 1] [] [0, 1] rfl rfl (by decide) (by decide) rfl (by decide) (fun H locs hP hD hS => ?_)
        refine lv_iload_n hx hb dX1_driveDown_54 rfl (lv_at hl 0 rfl) ?_
        refine lv_iadd hx hb dX1_driveDown_55 ?_
        refine cl_v (wr := []) (w2 := [(qh, .inr (1, [.ref qc])), (qc, .inl (cy 0, 50, .inl (C_X1_driveDown_56 x n2 fc_2)))]) (rn_V (As := [.int x, .int (nI (n2 + 1)), .int ((F_X1_at (F_X1_put fc_2 x (nI n2) ((F_X1_at fc_2 x (nI n2)) - (mn (F_X1_at fc_2 x (nI n2)) (40 - (F_X1_at fc_2 x (nI (n2 + 1))))))) x (nI (n2 + 1))) + (mn (F_X1_at fc_2 x (nI n2)) (40 - (F_X1_at fc_2 x (nI (n2 + 1))))))]) (rest := []) (ci := 1) (q0 := 0) ⟨hx, hb, hml, hown, hts⟩ (k_X1_put l D cy _ qh qc (F_X1_put fc_2 x (nI n2) ((F_X1_at fc_2 x (nI n2)) - (mn (F_X1_at fc_2 x (nI n2)) (40 - (F_X1_at fc_2 x (nI (n2 + 1))))))) x (nI (n2 + 1)) ((F_X1_at (F_X1_put fc_2 x (nI n2) ((F_X1_at fc_2 x (nI n2)) - (mn (F_X1_at fc_2 x (nI n2)) (40 - (F_X1_at fc_2 x (nI (n2 + 1))))))) x (nI (n2 + 1))) + (mn (F_X1_at fc_2 x (nI n2)) (40 - (F_X1_at fc_2 x (nI (n2 + 1))))))) (cwV 3 hts gX1_driveDown_X1_put rfl rfl rfl (by decide +kernel) ⟨Nat.le_of_ble_eq_true rfl, Nat.le_of_ble_eq_true rfl⟩) hN hK hP hD [0, 1] rfl (by decide) rfl rfl rfl rfl hl.1 rfl (Nat.le_of_ble_eq_true rfl) dX1_driveDown_56 ⟨Nat.le_of_ble_eq_true rfl, Nat.le_of_ble_eq_true rfl⟩) hP hD hS hA [0, 1] [] [0, 1] rfl rfl (by decide) (by decide) rfl (by decide) (fun H locs hP hD hS => ?_)
        refine lv_iinc (v := (dN n2)) (lv' := [(2, .int (dN n2)), (3, .int (mn (F_X1_at fc_2 x (nI n2)) (40 - (F_X1_at fc_2 x (nI (n2 + 1)))))), (0, .ref qh), (1, .int x)]) hx hb dX1_driveDown_59 hl (k := 1) rfl (dN_m1 n2) (by decide) rfl (fun ls hl => ?_)
        refine lv_goto (tgt := 2) hx hb dX1_driveDown_62 (by decide) ?_
        exact ih2 (C_X1_driveDown_56 x n2 fc_2) _ _ _ (by omega) (itd_step (f := (fun (k : Nat) (v : Nat → Int32) => S_X1_driveDown_2 x k v)) (v := fc_2) (show S_X1_driveDown_2 x n2 fc_2 = (C_X1_driveDown_56 x n2 fc_2) from by rw [S_X1_driveDown_2]) hE2) hP hD hS (lv_sub hl [0, 2, 3] rfl)
    exact lp2 4 fc _ _ _ (by omega) hfin2 hP hD hS (lv_sub hl [0, 1, 2] rfl)
  intro H locs ls hP hD hS hl
  subst hfin2
  subst hQ
  exact en_v (tv := (I_X1_driveDown_2 fc x)) hx hb hr hlocks (by rw [F_X1_driveDown]) hK hP hD hS (Nat.le_refl _) (Nat.le_refl _) dX1_driveDown_65

def L_X1_takeUppermost_2 (fc : Nat → Int32) (x : Int32) (most : Int32) : Nat → Nat → (Int32 × (Nat → Int32))
  | 0, _ =>
    (0, fc)
  | n2 + 1, k2 =>
    if (F_X1_at fc x (nI k2)) ≤ 0 then
      L_X1_takeUppermost_2 fc x most n2 (k2 + 1)
    else
      ((mn (F_X1_at fc x (nI k2)) most), (F_X1_put fc x (nI k2) ((F_X1_at fc x (nI k2)) - (mn (F_X1_at fc x (nI k2)) most))))
def F_X1_takeUppermost (fc : Nat → Int32) (x : Int32) (most : Int32) : Int32 × (Nat → Int32) :=
  L_X1_takeUppermost_2 fc x most 5 0
set_option maxHeartbeats 4000000 in
set_option maxRecDepth 100000 in
theorem k_X1_takeUppermost (l : Launch) (D : va_G) (cy : Nat → ClassId) (sz : Nat) (qh qc : Nat) (fc : Nat → Int32) (x : Int32) (most : Int32) : MTa l D cy yX1_takeUppermost wsX1_takeUppermost 2 0 0 47 [(qh, .inr (1, [.ref qc])), (qc, .inl (cy 0, 50, .inl fc))] sz [.ref qh, .int x, .int most] (fun A => QiT D cy (fun (t : Int32 × (Nat → Int32)) => t.1) (fun (t : Int32 × (Nat → Int32)) => [(qh, .inr (1, [.ref qc])), (qc, .inl (cy 0, 50, .inl t.2))]) (F_X1_takeUppermost fc x most) A) := by
  refine ofWT (cc := cX1_takeUppermost) (maxL := 5) (ret := (some .int)) (own := RX1) (by decide) rfl (Nat.le_of_ble_eq_true rfl) rfl ?_
  intro p e s m args below meth c A ls hx hb hr hml hts hown hlocks hin hN hK hP hD hA hl
  have hS : va_S A s.heap s.heap [] := va_S.rf
  have hl : lv_has ls 5 [(0, .ref qh), (1, .int x), (2, .int most)] := hl
  generalize hQ : MQ below ((fun A => QiT D cy (fun (t : Int32 × (Nat → Int32)) => t.1) (fun (t : Int32 × (Nat → Int32)) => [(qh, .inr (1, [.ref qc])), (qc, .inl (cy 0, 50, .inl t.2))]) (F_X1_takeUppermost fc x most) A) A) args s 0 0 A = Q
  refine lv_iconst (v := 0) hx hb dX1_takeUppermost_0 (by decide) ?_
  refine lv_istore_n (lv' := [(3, .int 0), (0, .ref qh), (1, .int x), (2, .int most)]) hx hb dX1_takeUppermost_1 rfl hl (by decide) rfl (fun ls hl => ?_)
  have lp2 : ∀ (n2 k2 : Nat) (H : Heap) (locs : List Loc) (ls : Array Slot), k2 + n2 = 5 → (F_X1_takeUppermost fc x most) = L_X1_takeUppermost_2 fc x most n2 k2 → va_P D vwCl [(qh, .inr (1, [.ref qc])), (qc, .inl (cy 0, 50, .inl fc))] H → va_D A [(qh, .inr (1, [.ref qc])), (qc, .inl (cy 0, 50, .inl fc))] → va_S A s.heap H locs → lv_has ls 5 [(3, .int (nI k2)), (0, .ref qh), (1, .int x), (2, .int most)] → W p l e (RM 2 0 0 47) s m args below meth c H locs 0 0 Q (F0 m 2 ls []) := by
    intro n2
    induction n2 with
    | zero =>
      intro k2 H locs ls hkn2 hE2 hP hD hS hl
      have hk2 : 5 = k2 := by omega
      subst hk2
      refine lv_iload_n hx hb dX1_takeUppermost_2 rfl (lv_at hl 0 rfl) ?_
      refine lv_iconst (v := 5) hx hb dX1_takeUppermost_3 (by decide) ?_
      refine lv_icmp_ge (tgt := 52) hx hb dX1_takeUppermost_4 (by decide) (fun c4 => ?_) (fun c4 => ?_)
      rotate_left
      · exact absurd (nI_le (a := 5) (b := 5) (Nat.le_refl _) (by decide)) c4
      refine lv_iconst (v := 0) hx hb dX1_takeUppermost_52 (by decide) ?_
      subst hQ
      exact en_i (tv := (0, fc)) hx hb hr hlocks (hE2.trans (by rw [L_X1_takeUppermost_2])) rfl hK hP hD hS (Nat.le_refl _) (Nat.le_refl _) dX1_takeUppermost_53
    | succ n2 ih2 =>
      intro k2 H locs ls hkn2 hE2 hP hD hS hl
      have hlt2 : k2 < 5 := by omega
      refine lv_iload_n hx hb dX1_takeUppermost_2 rfl (lv_at hl 0 rfl) ?_
      refine lv_iconst (v := 5) hx hb dX1_takeUppermost_3 (by decide) ?_
      refine lv_icmp_ge (tgt := 52) hx hb dX1_takeUppermost_4 (by decide) (fun c4 => ?_) (fun c4 => ?_)
      · exact absurd c4 (nI_ge (a := k2) (b := 5) hlt2 (by decide))
      refine lv_aload_n hx hb dX1_takeUppermost_7 rfl (lv_at hl 1 rfl) ?_
      refine lv_iload_n hx hb dX1_takeUppermost_8 rfl (lv_at hl 2 rfl) ?_
      refine lv_iload_n hx hb dX1_takeUppermost_9 rfl (lv_at hl 0 rfl) ?_
      refine cl_i (wr := []) (w2 := [(qh, .inr (1, [.ref qc])), (qc, .inl (cy 0, 50, .inl fc))]) (rn_V (As := [.int x, .int (nI k2)]) (rest := []) (ci := 1) (q0 := 0) ⟨hx, hb, hml, hown, hts⟩ (k_X1_at l D cy _ qh qc fc x (nI k2)) (cwV 2 hts gX1_takeUppermost_X1_at rfl rfl rfl (by decide +kernel) ⟨Nat.le_of_ble_eq_true rfl, Nat.le_of_ble_eq_true rfl⟩) hN hK hP hD [0, 1] rfl (by decide) rfl rfl rfl rfl hl.1 rfl (Nat.le_of_ble_eq_true rfl) dX1_takeUppermost_10 ⟨Nat.le_of_ble_eq_true rfl, Nat.le_of_ble_eq_true rfl⟩) hP hD hS hA [0, 1] [] [0, 1] rfl rfl (by decide) (by decide) rfl (by decide) (fun H locs hP hD hS => ?_)
      refine lv_if_le (tgt := 46) hx hb dX1_takeUppermost_13 (by decide) (fun c13 => ?_) (fun c13 => ?_)
      · refine lv_iinc (v := (nI (k2 + 1))) (lv' := [(3, .int (nI (k2 + 1))), (0, .ref qh), (1, .int x), (2, .int most)]) hx hb dX1_takeUppermost_46 hl (k := 0) rfl (nI_1 k2) (by decide) rfl (fun ls hl => ?_)
        refine lv_goto (tgt := 2) hx hb dX1_takeUppermost_49 (by decide) ?_
        exact ih2 (k2 + 1)  _ _ _ (by omega) (hE2.trans (by rw [L_X1_takeUppermost_2, if_pos c13])) hP hD hS (lv_sub hl [0, 1, 2, 3] rfl)
      · refine lv_aload_n hx hb dX1_takeUppermost_16 rfl (lv_at hl 1 rfl) ?_
        refine lv_iload_n hx hb dX1_takeUppermost_17 rfl (lv_at hl 2 rfl) ?_
        refine lv_iload_n hx hb dX1_takeUppermost_18 rfl (lv_at hl 0 rfl) ?_
        refine cl_i (wr := []) (w2 := [(qh, .inr (1, [.ref qc])), (qc, .inl (cy 0, 50, .inl fc))]) (rn_V (As := [.int x, .int (nI k2)]) (rest := []) (ci := 1) (q0 := 0) ⟨hx, hb, hml, hown, hts⟩ (k_X1_at l D cy _ qh qc fc x (nI k2)) (cwV 2 hts gX1_takeUppermost_X1_at rfl rfl rfl (by decide +kernel) ⟨Nat.le_of_ble_eq_true rfl, Nat.le_of_ble_eq_true rfl⟩) hN hK hP hD [0, 1] rfl (by decide) rfl rfl rfl rfl hl.1 rfl (Nat.le_of_ble_eq_true rfl) dX1_takeUppermost_19 ⟨Nat.le_of_ble_eq_true rfl, Nat.le_of_ble_eq_true rfl⟩) hP hD hS hA [0, 1] [] [0, 1] rfl rfl (by decide) (by decide) rfl (by decide) (fun H locs hP hD hS => ?_)
        refine lv_iload_n hx hb dX1_takeUppermost_22 rfl (lv_at hl 3 rfl) ?_
        refine va_mmin (rest := []) hx hb (hml.trans hl.1.symm) hown (hts (.methodLink RX1 19 Lib.Math.min.name) (List.mem_of_getElem? (i := 1) rfl)) (hts (.static Lib.Math.min.name) (List.mem_of_getElem? (i := 2) rfl)) (hts (.initialized "java/lang/Math") (List.mem_of_getElem? (i := 3) rfl)) (hts (.code Lib.Math.min.name Lib.Math.min.code 2 (some .int)) (List.mem_of_getElem? (i := 4) rfl)) (Nat.le_of_ble_eq_true rfl) (Nat.le_of_ble_eq_true rfl) (Nat.le_of_ble_eq_true rfl) (Nat.le_of_ble_eq_true rfl) dX1_takeUppermost_23 ?_
        refine lv_iv (y := (mn (F_X1_at fc x (nI k2)) most)) rfl ?_
        refine lv_istore (lv' := [(4, .int (mn (F_X1_at fc x (nI k2)) most)), (3, .int (nI k2)), (0, .ref qh), (1, .int x), (2, .int most)]) hx hb dX1_takeUppermost_26 hl (by decide) rfl (fun ls hl => ?_)
        refine lv_aload_n hx hb dX1_takeUppermost_28 rfl (lv_at hl 2 rfl) ?_
        refine lv_iload_n hx hb dX1_takeUppermost_29 rfl (lv_at hl 3 rfl) ?_
        refine lv_iload_n hx hb dX1_takeUppermost_30 rfl (lv_at hl 1 rfl) ?_
        refine lv_aload_n hx hb dX1_takeUppermost_31 rfl (lv_at hl 2 rfl) ?_
        refine lv_iload_n hx hb dX1_takeUppermost_32 rfl (lv_at hl 3 rfl) ?_
        refine lv_iload_n hx hb dX1_takeUppermost_33 rfl (lv_at hl 1 rfl) ?_
        refine cl_i (wr := []) (w2 := [(qh, .inr (1, [.ref qc])), (qc, .inl (cy 0, 50, .inl fc))]) (rn_V (As := [.int x, .int (nI k2)]) (rest := [.int (nI k2), .int x, .ref qh]) (ci := 1) (q0 := 0) ⟨hx, hb, hml, hown, hts⟩ (k_X1_at l D cy _ qh qc fc x (nI k2)) (cwV 2 hts gX1_takeUppermost_X1_at rfl rfl rfl (by decide +kernel) ⟨Nat.le_of_ble_eq_true rfl, Nat.le_of_ble_eq_true rfl⟩) hN hK hP hD [0, 1] rfl (by decide) rfl rfl rfl rfl hl.1 rfl (Nat.le_of_ble_eq_true rfl) dX1_takeUppermost_34 ⟨Nat.le_of_ble_eq_true rfl, Nat.le_of_ble_eq_true rfl⟩) hP hD hS hA [0, 1] [] [0, 1] rfl rfl (by decide) (by decide) rfl (by decide) (fun H locs hP hD hS => ?_)
        refine lv_iload hx hb dX1_takeUppermost_37 (lv_at hl 0 rfl) ?_
        refine lv_isub hx hb dX1_takeUppermost_39 ?_
        refine cl_v (wr := []) (w2 := [(qh, .inr (1, [.ref qc])), (qc, .inl (cy 0, 50, .inl (F_X1_put fc x (nI k2) ((F_X1_at fc x (nI k2)) - (mn (F_X1_at fc x (nI k2)) most)))))]) (rn_V (As := [.int x, .int (nI k2), .int ((F_X1_at fc x (nI k2)) - (mn (F_X1_at fc x (nI k2)) most))]) (rest := []) (ci := 1) (q0 := 0) ⟨hx, hb, hml, hown, hts⟩ (k_X1_put l D cy _ qh qc fc x (nI k2) ((F_X1_at fc x (nI k2)) - (mn (F_X1_at fc x (nI k2)) most))) (cwV 3 hts gX1_takeUppermost_X1_put rfl rfl rfl (by decide +kernel) ⟨Nat.le_of_ble_eq_true rfl, Nat.le_of_ble_eq_true rfl⟩) hN hK hP hD [0, 1] rfl (by decide) rfl rfl rfl rfl hl.1 rfl (Nat.le_of_ble_eq_true rfl) dX1_takeUppermost_40 ⟨Nat.le_of_ble_eq_true rfl, Nat.le_of_ble_eq_true rfl⟩) hP hD hS hA [0, 1] [] [0, 1] rfl rfl (by decide) (by decide) rfl (by decide) (fun H locs hP hD hS => ?_)
        refine lv_iload hx hb dX1_takeUppermost_43 (lv_at hl 0 rfl) ?_
        subst hQ
        exact en_i (tv := ((mn (F_X1_at fc x (nI k2)) most), (F_X1_put fc x (nI k2) ((F_X1_at fc x (nI k2)) - (mn (F_X1_at fc x (nI k2)) most))))) hx hb hr hlocks (hE2.trans (by rw [L_X1_takeUppermost_2, if_neg c13])) rfl hK hP hD hS (Nat.le_refl _) (Nat.le_refl _) dX1_takeUppermost_45
  exact lp2 5 0  _ _ _ (by omega) (by rw [F_X1_takeUppermost]) hP hD hS (lv_sub hl [0, 1, 2, 3] rfl)

def S_X1_grow_2 (x : Int32) (k2 : Nat) (fc_2 : Nat → Int32) : Nat → Int32 :=
  (F_X1_put fc_2 x (nI k2) ((F_X1_at fc_2 x (nI k2)) + ((F_X1_at fc_2 x (nI k2)) / 10)))
def I_X1_grow_2 (fc : Nat → Int32) (x : Int32) : Nat → Int32 :=
  it (fun (k : Nat) (v : Nat → Int32) => S_X1_grow_2 x k v) 5 0 fc
def F_X1_grow (fc : Nat → Int32) (x : Int32) : Nat → Int32 :=
  (I_X1_grow_2 fc x)
set_option maxHeartbeats 4000000 in
set_option maxRecDepth 100000 in
theorem k_X1_grow (l : Launch) (D : va_G) (cy : Nat → ClassId) (sz : Nat) (qh qc : Nat) (fc : Nat → Int32) (x : Int32) : MTa l D cy yX1_grow wsX1_grow 2 0 0 47 [(qh, .inr (1, [.ref qc])), (qc, .inl (cy 0, 50, .inl fc))] sz [.ref qh, .int x] (fun A => QvT D cy (fun (t : Nat → Int32) => [(qh, .inr (1, [.ref qc])), (qc, .inl (cy 0, 50, .inl t))]) (F_X1_grow fc x) A) := by
  refine ofWT (cc := cX1_grow) (maxL := 3) (ret := none) (own := RX1) (by decide) rfl (Nat.le_of_ble_eq_true rfl) rfl ?_
  intro p e s m args below meth c A ls hx hb hr hml hts hown hlocks hin hN hK hP hD hA hl
  have hS : va_S A s.heap s.heap [] := va_S.rf
  have hl : lv_has ls 3 [(0, .ref qh), (1, .int x)] := hl
  generalize hQ : MQ below ((fun A => QvT D cy (fun (t : Nat → Int32) => [(qh, .inr (1, [.ref qc])), (qc, .inl (cy 0, 50, .inl t))]) (F_X1_grow fc x) A) A) args s 0 0 A = Q
  refine lv_iconst (v := 0) hx hb dX1_grow_0 (by decide) ?_
  refine lv_istore_n (lv' := [(2, .int 0), (0, .ref qh), (1, .int x)]) hx hb dX1_grow_1 rfl hl (by decide) rfl (fun ls hl => ?_)
  obtain ⟨fin2, hfin2⟩ : ∃ z, (I_X1_grow_2 fc x) = z := ⟨_, rfl⟩
  suffices kk2 : ∀ (H : Heap) (locs : List Loc) (ls : Array Slot), va_P D vwCl [(qh, .inr (1, [.ref qc])), (qc, .inl (cy 0, 50, .inl fin2))] H → va_D A [(qh, .inr (1, [.ref qc])), (qc, .inl (cy 0, 50, .inl fin2))] → va_S A s.heap H locs → lv_has ls 3 [(2, .int (nI 5)), (0, .ref qh), (1, .int x)] → W p l e (RM 2 0 0 47) s m args below meth c H locs 0 0 Q (F0 m 35 ls []) by
    have lp2 : ∀ (n2 k2 : Nat) (fc_2 : Nat → Int32) (H : Heap) (locs : List Loc) (ls : Array Slot), k2 + n2 = 5 → it (fun (k : Nat) (v : Nat → Int32) => S_X1_grow_2 x k v) n2 k2 fc_2 = fin2 → va_P D vwCl [(qh, .inr (1, [.ref qc])), (qc, .inl (cy 0, 50, .inl fc_2))] H → va_D A [(qh, .inr (1, [.ref qc])), (qc, .inl (cy 0, 50, .inl fc_2))] → va_S A s.heap H locs → lv_has ls 3 [(2, .int (nI k2)), (0, .ref qh), (1, .int x)] → W p l e (RM 2 0 0 47) s m args below meth c H locs 0 0 Q (F0 m 2 ls []) := by
      intro n2
      induction n2 with
      | zero =>
        intro k2 fc_2 H locs ls hkn2 hE2 hP hD hS hl
        have hk2 : 5 = k2 := by omega
        subst hk2
        have hE2 : fc_2 = fin2 := hE2
        subst hE2
        refine lv_iload_n hx hb dX1_grow_2 rfl (lv_at hl 0 rfl) ?_
        refine lv_iconst (v := 5) hx hb dX1_grow_3 (by decide) ?_
        refine lv_icmp_ge (tgt := 35) hx hb dX1_grow_4 (by decide) (fun c4 => ?_) (fun c4 => ?_)
        rotate_left
        · exact absurd (nI_le (a := 5) (b := 5) (Nat.le_refl _) (by decide)) c4
        exact kk2 _ _ _ hP hD hS (lv_sub hl [0, 1, 2] rfl)
      | succ n2 ih2 =>
        intro k2 fc_2 H locs ls hkn2 hE2 hP hD hS hl
        have hlt2 : k2 < 5 := by omega
        refine lv_iload_n hx hb dX1_grow_2 rfl (lv_at hl 0 rfl) ?_
        refine lv_iconst (v := 5) hx hb dX1_grow_3 (by decide) ?_
        refine lv_icmp_ge (tgt := 35) hx hb dX1_grow_4 (by decide) (fun c4 => ?_) (fun c4 => ?_)
        · exact absurd c4 (nI_ge (a := k2) (b := 5) hlt2 (by decide))
        refine lv_aload_n hx hb dX1_grow_7 rfl (lv_at hl 1 rfl) ?_
        refine lv_iload_n hx hb dX1_grow_8 rfl (lv_at hl 2 rfl) ?_
        refine lv_iload_n hx hb dX1_grow_9 rfl (lv_at hl 0 rfl) ?_
        refine lv_aload_n hx hb dX1_grow_10 rfl (lv_at hl 1 rfl) ?_
        refine lv_iload_n hx hb dX1_grow_11 rfl (lv_at hl 2 rfl) ?_
        refine lv_iload_n hx hb dX1_grow_12 rfl (lv_at hl 0 rfl) ?_
        refine cl_i (wr := []) (w2 := [(qh, .inr (1, [.ref qc])), (qc, .inl (cy 0, 50, .inl fc_2))]) (rn_V (As := [.int x, .int (nI k2)]) (rest := [.int (nI k2), .int x, .ref qh]) (ci := 1) (q0 := 0) ⟨hx, hb, hml, hown, hts⟩ (k_X1_at l D cy _ qh qc fc_2 x (nI k2)) (cwV 2 hts gX1_grow_X1_at rfl rfl rfl (by decide +kernel) ⟨Nat.le_of_ble_eq_true rfl, Nat.le_of_ble_eq_true rfl⟩) hN hK hP hD [0, 1] rfl (by decide) rfl rfl rfl rfl hl.1 rfl (Nat.le_of_ble_eq_true rfl) dX1_grow_13 ⟨Nat.le_of_ble_eq_true rfl, Nat.le_of_ble_eq_true rfl⟩) hP hD hS hA [0, 1] [] [0, 1] rfl rfl (by decide) (by decide) rfl (by decide) (fun H locs hP hD hS => ?_)
        refine lv_aload_n hx hb dX1_grow_16 rfl (lv_at hl 1 rfl) ?_
        refine lv_iload_n hx hb dX1_grow_17 rfl (lv_at hl 2 rfl) ?_
        refine lv_iload_n hx hb dX1_grow_18 rfl (lv_at hl 0 rfl) ?_
        refine cl_i (wr := []) (w2 := [(qh, .inr (1, [.ref qc])), (qc, .inl (cy 0, 50, .inl fc_2))]) (rn_V (As := [.int x, .int (nI k2)]) (rest := [.int (F_X1_at fc_2 x (nI k2)), .int (nI k2), .int x, .ref qh]) (ci := 1) (q0 := 0) ⟨hx, hb, hml, hown, hts⟩ (k_X1_at l D cy _ qh qc fc_2 x (nI k2)) (cwV 2 hts gX1_grow_X1_at rfl rfl rfl (by decide +kernel) ⟨Nat.le_of_ble_eq_true rfl, Nat.le_of_ble_eq_true rfl⟩) hN hK hP hD [0, 1] rfl (by decide) rfl rfl rfl rfl hl.1 rfl (Nat.le_of_ble_eq_true rfl) dX1_grow_19 ⟨Nat.le_of_ble_eq_true rfl, Nat.le_of_ble_eq_true rfl⟩) hP hD hS hA [0, 1] [] [0, 1] rfl rfl (by decide) (by decide) rfl (by decide) (fun H locs hP hD hS => ?_)
        refine lv_bipush (v := 10) hx hb dX1_grow_22 (by decide) ?_
        refine lv_idiv hx hb dX1_grow_24 (by decide) ?_
        refine lv_iadd hx hb dX1_grow_25 ?_
        refine cl_v (wr := []) (w2 := [(qh, .inr (1, [.ref qc])), (qc, .inl (cy 0, 50, .inl (F_X1_put fc_2 x (nI k2) ((F_X1_at fc_2 x (nI k2)) + ((F_X1_at fc_2 x (nI k2)) / 10)))))]) (rn_V (As := [.int x, .int (nI k2), .int ((F_X1_at fc_2 x (nI k2)) + ((F_X1_at fc_2 x (nI k2)) / 10))]) (rest := []) (ci := 1) (q0 := 0) ⟨hx, hb, hml, hown, hts⟩ (k_X1_put l D cy _ qh qc fc_2 x (nI k2) ((F_X1_at fc_2 x (nI k2)) + ((F_X1_at fc_2 x (nI k2)) / 10))) (cwV 3 hts gX1_grow_X1_put rfl rfl rfl (by decide +kernel) ⟨Nat.le_of_ble_eq_true rfl, Nat.le_of_ble_eq_true rfl⟩) hN hK hP hD [0, 1] rfl (by decide) rfl rfl rfl rfl hl.1 rfl (Nat.le_of_ble_eq_true rfl) dX1_grow_26 ⟨Nat.le_of_ble_eq_true rfl, Nat.le_of_ble_eq_true rfl⟩) hP hD hS hA [0, 1] [] [0, 1] rfl rfl (by decide) (by decide) rfl (by decide) (fun H locs hP hD hS => ?_)
        refine lv_iinc (v := (nI (k2 + 1))) (lv' := [(2, .int (nI (k2 + 1))), (0, .ref qh), (1, .int x)]) hx hb dX1_grow_29 hl (k := 0) rfl (nI_1 k2) (by decide) rfl (fun ls hl => ?_)
        refine lv_goto (tgt := 2) hx hb dX1_grow_32 (by decide) ?_
        exact ih2 (k2 + 1) (F_X1_put fc_2 x (nI k2) ((F_X1_at fc_2 x (nI k2)) + ((F_X1_at fc_2 x (nI k2)) / 10))) _ _ _ (by omega) (it_step (f := (fun (k : Nat) (v : Nat → Int32) => S_X1_grow_2 x k v)) (v := fc_2) (show S_X1_grow_2 x k2 fc_2 = (F_X1_put fc_2 x (nI k2) ((F_X1_at fc_2 x (nI k2)) + ((F_X1_at fc_2 x (nI k2)) / 10))) from by rw [S_X1_grow_2]) hE2) hP hD hS (lv_sub hl [0, 1, 2] rfl)
    exact lp2 5 0 fc _ _ _ (by omega) hfin2 hP hD hS (lv_sub hl [0, 1, 2] rfl)
  intro H locs ls hP hD hS hl
  subst hfin2
  subst hQ
  exact en_v (tv := (I_X1_grow_2 fc x)) hx hb hr hlocks (by rw [F_X1_grow]) hK hP hD hS (Nat.le_refl _) (Nat.le_refl _) dX1_grow_35
