def F_X3_many (nr : Int32) : Int32 :=
  nr
set_option maxHeartbeats 4000000 in
set_option maxRecDepth 100000 in
theorem k_X3_many (l : Launch) (D : va_G) (cy : Nat → ClassId) (sz : Nat) (qr qw qb : Nat) (nr : Int32) (fw : Nat → Int32) (fb : Nat → Int32) : MTa l D cy yX3_many wsX3_many 0 0 0 0 [(qr, .inr (3, [.ref qw, .ref qb, .int nr])), (qw, .inl (cy 0, 6, .inl fw)), (qb, .inl (cy 1, 6, .inl fb))] sz [.ref qr] (fun A => QiT D cy (fun (t : Int32) => t) (fun (_ : Int32) => [(qr, .inr (3, [.ref qw, .ref qb, .int nr])), (qw, .inl (cy 0, 6, .inl fw)), (qb, .inl (cy 1, 6, .inl fb))]) (F_X3_many nr) A) := by
  refine ofWT (cc := cX3_many) (maxL := 1) (ret := (some .int)) (own := RX3) (by decide) rfl (Nat.le_of_ble_eq_true rfl) rfl ?_
  intro p e s m args below meth c A ls hx hb hr hml hts hown hlocks hin hN hK hP hD hA hl
  have hS : va_S A s.heap s.heap [] := va_S.rf
  have hl : lv_has ls 1 [(0, .ref qr)] := hl
  have hin3 : ∀ w ∈ u_ws RX3 TX3 3, w ∈ wsX3_many := (fun w h => List.mem_cons_of_mem _ (List.mem_append_right _ h))
  generalize hQ : MQ below ((fun A => QiT D cy (fun (t : Int32) => t) (fun (_ : Int32) => [(qr, .inr (3, [.ref qw, .ref qb, .int nr])), (qw, .inl (cy 0, 6, .inl fw)), (qb, .inl (cy 1, 6, .inl fb))]) (F_X3_many nr) A) A) args s 0 0 A = Q
  refine lv_aload_n hx hb dX3_many_0 rfl (lv_at hl 0 rfl) ?_
  refine va_get (D := D) (ci := 3) (v := .int nr) (C := RX3) (T := TX3) (N := 3) hx hb hts hin3 hown hK hP 0 rfl rfl 2 (by decide) (hts (.fieldLink RX3 19 "FireflyInn$Rooms" "many" "I") (List.mem_of_getElem? (i := 1) rfl)) (fun _ h9 => h9) rfl dX3_many_1 ?_
  subst hQ
  exact en_i (tv := nr) hx hb hr hlocks (by rw [F_X3_many]) rfl hK hP hD hS (Nat.le_refl _) (Nat.le_refl _) dX3_many_4

def F_X3_isFull (nr : Int32) : Int32 :=
  if nr < 6 then
    0
  else
    1
set_option maxHeartbeats 4000000 in
set_option maxRecDepth 100000 in
theorem k_X3_isFull (l : Launch) (D : va_G) (cy : Nat → ClassId) (sz : Nat) (qr qw qb : Nat) (nr : Int32) (fw : Nat → Int32) (fb : Nat → Int32) : MTa l D cy yX3_isFull wsX3_isFull 0 0 0 0 [(qr, .inr (3, [.ref qw, .ref qb, .int nr])), (qw, .inl (cy 0, 6, .inl fw)), (qb, .inl (cy 1, 6, .inl fb))] sz [.ref qr] (fun A => QiT D cy (fun (t : Int32) => t) (fun (_ : Int32) => [(qr, .inr (3, [.ref qw, .ref qb, .int nr])), (qw, .inl (cy 0, 6, .inl fw)), (qb, .inl (cy 1, 6, .inl fb))]) (F_X3_isFull nr) A) := by
  refine ofWT (cc := cX3_isFull) (maxL := 1) (ret := (some .boolean)) (own := RX3) (by decide) rfl (Nat.le_of_ble_eq_true rfl) rfl ?_
  intro p e s m args below meth c A ls hx hb hr hml hts hown hlocks hin hN hK hP hD hA hl
  have hS : va_S A s.heap s.heap [] := va_S.rf
  have hl : lv_has ls 1 [(0, .ref qr)] := hl
  have hin3 : ∀ w ∈ u_ws RX3 TX3 3, w ∈ wsX3_isFull := (fun w h => List.mem_cons_of_mem _ (List.mem_append_right _ h))
  generalize hQ : MQ below ((fun A => QiT D cy (fun (t : Int32) => t) (fun (_ : Int32) => [(qr, .inr (3, [.ref qw, .ref qb, .int nr])), (qw, .inl (cy 0, 6, .inl fw)), (qb, .inl (cy 1, 6, .inl fb))]) (F_X3_isFull nr) A) A) args s 0 0 A = Q
  refine lv_aload_n hx hb dX3_isFull_0 rfl (lv_at hl 0 rfl) ?_
  refine va_get (D := D) (ci := 3) (v := .int nr) (C := RX3) (T := TX3) (N := 3) hx hb hts hin3 hown hK hP 0 rfl rfl 2 (by decide) (hts (.fieldLink RX3 19 "FireflyInn$Rooms" "many" "I") (List.mem_of_getElem? (i := 1) rfl)) (fun _ h9 => h9) rfl dX3_isFull_1 ?_
  refine lv_bipush (v := 6) hx hb dX3_isFull_4 (by decide) ?_
  refine lv_icmp_lt (tgt := 13) hx hb dX3_isFull_6 (by decide) (fun c6 => ?_) (fun c6 => ?_)
  · refine lv_iconst (v := 0) hx hb dX3_isFull_13 (by decide) ?_
    subst hQ
    exact en_z (tv := 0) hx hb hr hlocks (by rw [F_X3_isFull, if_pos c6]) rfl hK hP hD hS (Nat.le_refl _) (Nat.le_refl _) (by decide) dX3_isFull_14
  · refine lv_iconst (v := 1) hx hb dX3_isFull_9 (by decide) ?_
    refine lv_goto (tgt := 14) hx hb dX3_isFull_10 (by decide) ?_
    subst hQ
    exact en_z (tv := 1) hx hb hr hlocks (by rw [F_X3_isFull, if_neg c6]) rfl hK hP hD hS (Nat.le_refl _) (Nat.le_refl _) (by decide) dX3_isFull_14

def F_X3_has (nr : Int32) (room : Int32) : Int32 :=
  if room < 0 then
    0
  else
    if nr ≤ room then
      0
    else
      if 6 ≤ room then
        0
      else
        1
set_option maxHeartbeats 4000000 in
set_option maxRecDepth 100000 in
theorem k_X3_has (l : Launch) (D : va_G) (cy : Nat → ClassId) (sz : Nat) (qr qw qb : Nat) (nr : Int32) (fw : Nat → Int32) (fb : Nat → Int32) (room : Int32) : MTa l D cy yX3_has wsX3_has 0 0 0 0 [(qr, .inr (3, [.ref qw, .ref qb, .int nr])), (qw, .inl (cy 0, 6, .inl fw)), (qb, .inl (cy 1, 6, .inl fb))] sz [.ref qr, .int room] (fun A => QiT D cy (fun (t : Int32) => t) (fun (_ : Int32) => [(qr, .inr (3, [.ref qw, .ref qb, .int nr])), (qw, .inl (cy 0, 6, .inl fw)), (qb, .inl (cy 1, 6, .inl fb))]) (F_X3_has nr room) A) := by
  refine ofWT (cc := cX3_has) (maxL := 2) (ret := (some .boolean)) (own := RX3) (by decide) rfl (Nat.le_of_ble_eq_true rfl) rfl ?_
  intro p e s m args below meth c A ls hx hb hr hml hts hown hlocks hin hN hK hP hD hA hl
  have hS : va_S A s.heap s.heap [] := va_S.rf
  have hl : lv_has ls 2 [(0, .ref qr), (1, .int room)] := hl
  have hin3 : ∀ w ∈ u_ws RX3 TX3 3, w ∈ wsX3_has := (fun w h => List.mem_cons_of_mem _ (List.mem_append_right _ h))
  generalize hQ : MQ below ((fun A => QiT D cy (fun (t : Int32) => t) (fun (_ : Int32) => [(qr, .inr (3, [.ref qw, .ref qb, .int nr])), (qw, .inl (cy 0, 6, .inl fw)), (qb, .inl (cy 1, 6, .inl fb))]) (F_X3_has nr room) A) A) args s 0 0 A = Q
  refine lv_iload_n hx hb dX3_has_0 rfl (lv_at hl 1 rfl) ?_
  refine lv_if_lt (tgt := 22) hx hb dX3_has_1 (by decide) (fun c1 => ?_) (fun c1 => ?_)
  · refine lv_iconst (v := 0) hx hb dX3_has_22 (by decide) ?_
    subst hQ
    exact en_z (tv := 0) hx hb hr hlocks (by rw [F_X3_has, if_pos c1]) rfl hK hP hD hS (Nat.le_refl _) (Nat.le_refl _) (by decide) dX3_has_23
  · refine lv_iload_n hx hb dX3_has_4 rfl (lv_at hl 1 rfl) ?_
    refine lv_aload_n hx hb dX3_has_5 rfl (lv_at hl 0 rfl) ?_
    refine va_get (D := D) (ci := 3) (v := .int nr) (C := RX3) (T := TX3) (N := 3) hx hb hts hin3 hown hK hP 0 rfl rfl 2 (by decide) (hts (.fieldLink RX3 19 "FireflyInn$Rooms" "many" "I") (List.mem_of_getElem? (i := 1) rfl)) (fun _ h9 => h9) rfl dX3_has_6 ?_
    refine lv_icmp_ge (tgt := 22) hx hb dX3_has_9 (by decide) (fun c9 => ?_) (fun c9 => ?_)
    · refine lv_iconst (v := 0) hx hb dX3_has_22 (by decide) ?_
      subst hQ
      exact en_z (tv := 0) hx hb hr hlocks (by rw [F_X3_has, if_neg c1, if_pos c9]) rfl hK hP hD hS (Nat.le_refl _) (Nat.le_refl _) (by decide) dX3_has_23
    · refine lv_iload_n hx hb dX3_has_12 rfl (lv_at hl 1 rfl) ?_
      refine lv_bipush (v := 6) hx hb dX3_has_13 (by decide) ?_
      refine lv_icmp_ge (tgt := 22) hx hb dX3_has_15 (by decide) (fun c15 => ?_) (fun c15 => ?_)
      · refine lv_iconst (v := 0) hx hb dX3_has_22 (by decide) ?_
        subst hQ
        exact en_z (tv := 0) hx hb hr hlocks (by rw [F_X3_has, if_neg c1, if_neg c9, if_pos c15]) rfl hK hP hD hS (Nat.le_refl _) (Nat.le_refl _) (by decide) dX3_has_23
      · refine lv_iconst (v := 1) hx hb dX3_has_18 (by decide) ?_
        refine lv_goto (tgt := 23) hx hb dX3_has_19 (by decide) ?_
        subst hQ
        exact en_z (tv := 1) hx hb hr hlocks (by rw [F_X3_has, if_neg c1, if_neg c9, if_neg c15]) rfl hK hP hD hS (Nat.le_refl _) (Nat.le_refl _) (by decide) dX3_has_23

theorem has3_in {nr room : Int32} (h : ¬ F_X3_has nr room = 0) : vp_in room 6 := by
  unfold F_X3_has at h
  split at h
  · exact absurd rfl h
  split at h
  · exact absurd rfl h
  split at h
  · exact absurd rfl h
  rename_i c1 c2 c3
  obtain ⟨a, ha, rfl⟩ := i_nat (n := 6) c1 (by rw [i_le] at c3; have : (6 : Int32).toInt = 6 := rfl; omega)
  exact vp_in_nI ha (by omega)
theorem rng_in {x : Int32} {n : Nat} {M : Int32} (hM : M.toInt = n) (h1 : ¬ x < 0) (h2 : ¬ M ≤ x) (hn : n < 2 ^ 31) : vp_in x n := by
  obtain ⟨a, ha, rfl⟩ := i_nat (n := n) h1 (by rw [i_le] at h2; omega)
  exact vp_in_nI ha hn

def F_X3_add (nr : Int32) (fw : Nat → Int32) (fb : Nat → Int32) (window : Int32) : Int32 × Int32 × (Nat → Int32) × (Nat → Int32) :=
  if nr < 0 then
    (nr, nr, fw, fb)
  else
    if 6 ≤ nr then
      (nr, nr, fw, fb)
    else
      (nr, (nr + 1), (upd fw (nr : Int32).toNatClampNeg window), (upd fb (nr : Int32).toNatClampNeg (vp_nar .boolean 1)))
set_option maxHeartbeats 4000000 in
set_option maxRecDepth 100000 in
theorem k_X3_add (l : Launch) (D : va_G) (cy : Nat → ClassId) (sz : Nat) (qr qw qb : Nat) (nr : Int32) (fw : Nat → Int32) (fb : Nat → Int32) (window : Int32) : MTa l D cy yX3_add wsX3_add 0 0 0 0 [(qr, .inr (3, [.ref qw, .ref qb, .int nr])), (qw, .inl (cy 0, 6, .inl fw)), (qb, .inl (cy 1, 6, .inl fb))] sz [.ref qr, .int window] (fun A => QiT D cy (fun (t : Int32 × Int32 × (Nat → Int32) × (Nat → Int32)) => t.1) (fun (t : Int32 × Int32 × (Nat → Int32) × (Nat → Int32)) => [(qr, .inr (3, [.ref qw, .ref qb, .int t.2.1])), (qw, .inl (cy 0, 6, .inl t.2.2.1)), (qb, .inl (cy 1, 6, .inl t.2.2.2))]) (F_X3_add nr fw fb window) A) := by
  refine ofWT (cc := cX3_add) (maxL := 3) (ret := (some .int)) (own := RX3) (by decide) rfl (Nat.le_of_ble_eq_true rfl) rfl ?_
  intro p e s m args below meth c A ls hx hb hr hml hts hown hlocks hin hN hK hP hD hA hl
  have hS : va_S A s.heap s.heap [] := va_S.rf
  have hl : lv_has ls 3 [(0, .ref qr), (1, .int window)] := hl
  have hin3 : ∀ w ∈ u_ws RX3 TX3 3, w ∈ wsX3_add := (fun w h => List.mem_cons_of_mem _ (List.mem_append_right _ h))
  generalize hQ : MQ below ((fun A => QiT D cy (fun (t : Int32 × Int32 × (Nat → Int32) × (Nat → Int32)) => t.1) (fun (t : Int32 × Int32 × (Nat → Int32) × (Nat → Int32)) => [(qr, .inr (3, [.ref qw, .ref qb, .int t.2.1])), (qw, .inl (cy 0, 6, .inl t.2.2.1)), (qb, .inl (cy 1, 6, .inl t.2.2.2))]) (F_X3_add nr fw fb window) A) A) args s 0 0 A = Q
  refine lv_aload_n hx hb dX3_add_0 rfl (lv_at hl 0 rfl) ?_
  refine va_get (D := D) (ci := 3) (v := .int nr) (C := RX3) (T := TX3) (N := 3) hx hb hts hin3 hown hK hP 0 rfl rfl 2 (by decide) (hts (.fieldLink RX3 19 "FireflyInn$Rooms" "many" "I") (List.mem_of_getElem? (i := 1) rfl)) (fun _ h9 => h9) rfl dX3_add_1 ?_
  refine lv_istore_n (lv' := [(2, .int nr), (0, .ref qr), (1, .int window)]) hx hb dX3_add_4 rfl hl (by decide) rfl (fun ls hl => ?_)
  refine lv_iload_n hx hb dX3_add_5 rfl (lv_at hl 0 rfl) ?_
  refine lv_if_lt (tgt := 36) hx hb dX3_add_6 (by decide) (fun c6 => ?_) (fun c6 => ?_)
  · refine lv_iload_n hx hb dX3_add_36 rfl (lv_at hl 0 rfl) ?_
    subst hQ
    exact en_i (tv := (nr, nr, fw, fb)) hx hb hr hlocks (by rw [F_X3_add, if_pos c6]) rfl hK hP hD hS (Nat.le_refl _) (Nat.le_refl _) dX3_add_37
  · refine lv_iload_n hx hb dX3_add_9 rfl (lv_at hl 0 rfl) ?_
    refine lv_bipush (v := 6) hx hb dX3_add_10 (by decide) ?_
    refine lv_icmp_ge (tgt := 36) hx hb dX3_add_12 (by decide) (fun c12 => ?_) (fun c12 => ?_)
    · refine lv_iload_n hx hb dX3_add_36 rfl (lv_at hl 0 rfl) ?_
      subst hQ
      exact en_i (tv := (nr, nr, fw, fb)) hx hb hr hlocks (by rw [F_X3_add, if_neg c6, if_pos c12]) rfl hK hP hD hS (Nat.le_refl _) (Nat.le_refl _) dX3_add_37
    · refine lv_aload_n hx hb dX3_add_15 rfl (lv_at hl 1 rfl) ?_
      refine va_get (D := D) (ci := 3) (v := .ref qw) (C := RX3) (T := TX3) (N := 3) hx hb hts hin3 hown hK hP 0 rfl rfl 0 (by decide) (hts (.fieldLink RX3 9 "FireflyInn$Rooms" "windows" "[I") (List.mem_of_getElem? (i := 2) rfl)) (fun _ h9 => h9) rfl dX3_add_16 ?_
      refine lv_iload_n hx hb dX3_add_19 rfl (lv_at hl 0 rfl) ?_
      refine lv_iload_n hx hb dX3_add_20 rfl (lv_at hl 2 rfl) ?_
      refine va_iast hx hb hK hP hD hS 1 0 rfl rfl (rng_in (M := 6) rfl c6 c12 (by decide)) dX3_add_21 (fun H locs hP hD hS => ?_)
      have hP : va_P D vwCl [(qr, .inr (3, [.ref qw, .ref qb, .int nr])), (qw, .inl (cy 0, 6, .inl (upd fw (nr : Int32).toNatClampNeg window))), (qb, .inl (cy 1, 6, .inl fb))] H := hP
      have hD : va_D A [(qr, .inr (3, [.ref qw, .ref qb, .int nr])), (qw, .inl (cy 0, 6, .inl (upd fw (nr : Int32).toNatClampNeg window))), (qb, .inl (cy 1, 6, .inl fb))] := hD
      refine lv_aload_n hx hb dX3_add_22 rfl (lv_at hl 1 rfl) ?_
      refine va_get (D := D) (ci := 3) (v := .ref qb) (C := RX3) (T := TX3) (N := 3) hx hb hts hin3 hown hK hP 0 rfl rfl 1 (by decide) (hts (.fieldLink RX3 15 "FireflyInn$Rooms" "burning" "[Z") (List.mem_of_getElem? (i := 3) rfl)) (fun _ h9 => h9) rfl dX3_add_23 ?_
      refine lv_iload_n hx hb dX3_add_26 rfl (lv_at hl 0 rfl) ?_
      refine lv_iconst (v := 1) hx hb dX3_add_27 (by decide) ?_
      refine va_zast hx hb hK hP hD hS 2 1 rfl rfl (rng_in (M := 6) rfl c6 c12 (by decide)) dX3_add_28 (fun H locs hP hD hS => ?_)
      have hP : va_P D vwCl [(qr, .inr (3, [.ref qw, .ref qb, .int nr])), (qw, .inl (cy 0, 6, .inl (upd fw (nr : Int32).toNatClampNeg window))), (qb, .inl (cy 1, 6, .inl (upd fb (nr : Int32).toNatClampNeg (vp_nar .boolean 1))))] H := hP
      have hD : va_D A [(qr, .inr (3, [.ref qw, .ref qb, .int nr])), (qw, .inl (cy 0, 6, .inl (upd fw (nr : Int32).toNatClampNeg window))), (qb, .inl (cy 1, 6, .inl (upd fb (nr : Int32).toNatClampNeg (vp_nar .boolean 1))))] := hD
      refine lv_aload_n hx hb dX3_add_29 rfl (lv_at hl 1 rfl) ?_
      refine lv_iload_n hx hb dX3_add_30 rfl (lv_at hl 0 rfl) ?_
      refine lv_iconst (v := 1) hx hb dX3_add_31 (by decide) ?_
      refine lv_iadd hx hb dX3_add_32 ?_
      refine va_put (D := D) (ci := 3) (v := .int (nr + 1)) (ty := .int) (C := RX3) (T := TX3) (N := 3) hx hb hts hin3 tyX3 tyX3_ok nmX3 hown hK hP hD hS 0 rfl rfl 2 (by decide) (hts (.fieldLink RX3 19 "FireflyInn$Rooms" "many" "I") (List.mem_of_getElem? (i := 1) rfl)) (fun _ h9 => h9) rfl (by decide +kernel) rfl rfl (Nat.le_of_ble_eq_true rfl) dX3_add_33 (fun H locs hP hD hS => ?_)
      have hP : va_P D vwCl [(qr, .inr (3, [.ref qw, .ref qb, .int (nr + 1)])), (qw, .inl (cy 0, 6, .inl (upd fw (nr : Int32).toNatClampNeg window))), (qb, .inl (cy 1, 6, .inl (upd fb (nr : Int32).toNatClampNeg (vp_nar .boolean 1))))] H := hP
      have hD : va_D A [(qr, .inr (3, [.ref qw, .ref qb, .int (nr + 1)])), (qw, .inl (cy 0, 6, .inl (upd fw (nr : Int32).toNatClampNeg window))), (qb, .inl (cy 1, 6, .inl (upd fb (nr : Int32).toNatClampNeg (vp_nar .boolean 1))))] := hD
      refine lv_iload_n hx hb dX3_add_36 rfl (lv_at hl 0 rfl) ?_
      subst hQ
      exact en_i (tv := (nr, (nr + 1), (upd fw (nr : Int32).toNatClampNeg window), (upd fb (nr : Int32).toNatClampNeg (vp_nar .boolean 1)))) hx hb hr hlocks (by rw [F_X3_add, if_neg c6, if_neg c12]) rfl hK hP hD hS (Nat.le_refl _) (Nat.le_refl _) dX3_add_37

def F_X3_windowOf (nr : Int32) (fw : Nat → Int32) (room : Int32) : Int32 :=
  if (F_X3_has nr room) = 0 then
    (-1)
  else
    (fw (room : Int32).toNatClampNeg)
set_option maxHeartbeats 4000000 in
set_option maxRecDepth 100000 in
theorem k_X3_windowOf (l : Launch) (D : va_G) (cy : Nat → ClassId) (sz : Nat) (qr qw qb : Nat) (nr : Int32) (fw : Nat → Int32) (fb : Nat → Int32) (room : Int32) : MTa l D cy yX3_windowOf wsX3_windowOf 1 0 0 21 [(qr, .inr (3, [.ref qw, .ref qb, .int nr])), (qw, .inl (cy 0, 6, .inl fw)), (qb, .inl (cy 1, 6, .inl fb))] sz [.ref qr, .int room] (fun A => QiT D cy (fun (t : Int32) => t) (fun (_ : Int32) => [(qr, .inr (3, [.ref qw, .ref qb, .int nr])), (qw, .inl (cy 0, 6, .inl fw)), (qb, .inl (cy 1, 6, .inl fb))]) (F_X3_windowOf nr fw room) A) := by
  refine ofWT (cc := cX3_windowOf) (maxL := 2) (ret := (some .int)) (own := RX3) (by decide) rfl (Nat.le_of_ble_eq_true rfl) rfl ?_
  intro p e s m args below meth c A ls hx hb hr hml hts hown hlocks hin hN hK hP hD hA hl
  have hS : va_S A s.heap s.heap [] := va_S.rf
  have hl : lv_has ls 2 [(0, .ref qr), (1, .int room)] := hl
  have hin3 : ∀ w ∈ u_ws RX3 TX3 3, w ∈ wsX3_windowOf := (fun w h => List.mem_cons_of_mem _ (List.mem_append_right _ h))
  generalize hQ : MQ below ((fun A => QiT D cy (fun (t : Int32) => t) (fun (_ : Int32) => [(qr, .inr (3, [.ref qw, .ref qb, .int nr])), (qw, .inl (cy 0, 6, .inl fw)), (qb, .inl (cy 1, 6, .inl fb))]) (F_X3_windowOf nr fw room) A) A) args s 0 0 A = Q
  refine lv_aload_n hx hb dX3_windowOf_0 rfl (lv_at hl 0 rfl) ?_
  refine lv_iload_n hx hb dX3_windowOf_1 rfl (lv_at hl 1 rfl) ?_
  refine cl_i (wr := []) (w2 := [(qr, .inr (3, [.ref qw, .ref qb, .int nr])), (qw, .inl (cy 0, 6, .inl fw)), (qb, .inl (cy 1, 6, .inl fb))]) (rn_V (As := [.int room]) (rest := []) (ci := 3) (q0 := 0) ⟨hx, hb, hml, hown, hts⟩ (k_X3_has l D cy _ qr qw qb nr fw fb room) (cwV 1 hts gX3_windowOf_X3_has rfl rfl rfl (by decide +kernel) ⟨Nat.le_of_ble_eq_true rfl, Nat.le_of_ble_eq_true rfl⟩) hN hK hP hD [0, 1, 2] rfl (by decide) rfl rfl rfl rfl hl.1 rfl (Nat.le_of_ble_eq_true rfl) dX3_windowOf_2 ⟨Nat.le_of_ble_eq_true rfl, Nat.le_of_ble_eq_true rfl⟩) hP hD hS hA [0, 1, 2] [] [0, 1, 2] rfl rfl (by decide) (by decide) rfl (by decide) (fun H locs hP hD hS => ?_)
  refine lv_if_eq (tgt := 17) hx hb dX3_windowOf_5 (by decide) (fun c5 => ?_) (fun c5 => ?_)
  · refine lv_iconst (v := (-1)) hx hb dX3_windowOf_17 (by decide) ?_
    subst hQ
    exact en_i (tv := (-1)) hx hb hr hlocks (by rw [F_X3_windowOf, if_pos c5]) rfl hK hP hD hS (Nat.le_refl _) (Nat.le_refl _) dX3_windowOf_18
  · refine lv_aload_n hx hb dX3_windowOf_8 rfl (lv_at hl 0 rfl) ?_
    refine va_get (D := D) (ci := 3) (v := .ref qw) (C := RX3) (T := TX3) (N := 3) hx hb hts hin3 hown hK hP 0 rfl rfl 0 (by decide) (hts (.fieldLink RX3 9 "FireflyInn$Rooms" "windows" "[I") (List.mem_of_getElem? (i := 1) rfl)) (fun _ h9 => h9) rfl dX3_windowOf_9 ?_
    refine lv_iload_n hx hb dX3_windowOf_12 rfl (lv_at hl 1 rfl) ?_
    refine va_iald hx hb hK hP 1 0 rfl rfl (has3_in c5) dX3_windowOf_13 ?_
    refine lv_goto (tgt := 18) hx hb dX3_windowOf_14 (by decide) ?_
    subst hQ
    exact en_i (tv := (fw (room : Int32).toNatClampNeg)) hx hb hr hlocks (by rw [F_X3_windowOf, if_neg c5]) rfl hK hP hD hS (Nat.le_refl _) (Nat.le_refl _) dX3_windowOf_18

def F_X3_isBurning (nr : Int32) (fb : Nat → Int32) (room : Int32) : Int32 :=
  if (F_X3_has nr room) = 0 then
    0
  else
    if (fb (room : Int32).toNatClampNeg) = 0 then
      0
    else
      1
set_option maxHeartbeats 4000000 in
set_option maxRecDepth 100000 in
theorem k_X3_isBurning (l : Launch) (D : va_G) (cy : Nat → ClassId) (sz : Nat) (qr qw qb : Nat) (nr : Int32) (fw : Nat → Int32) (fb : Nat → Int32) (room : Int32) : MTa l D cy yX3_isBurning wsX3_isBurning 1 0 0 21 [(qr, .inr (3, [.ref qw, .ref qb, .int nr])), (qw, .inl (cy 0, 6, .inl fw)), (qb, .inl (cy 1, 6, .inl fb))] sz [.ref qr, .int room] (fun A => QiT D cy (fun (t : Int32) => t) (fun (_ : Int32) => [(qr, .inr (3, [.ref qw, .ref qb, .int nr])), (qw, .inl (cy 0, 6, .inl fw)), (qb, .inl (cy 1, 6, .inl fb))]) (F_X3_isBurning nr fb room) A) := by
  refine ofWT (cc := cX3_isBurning) (maxL := 2) (ret := (some .boolean)) (own := RX3) (by decide) rfl (Nat.le_of_ble_eq_true rfl) rfl ?_
  intro p e s m args below meth c A ls hx hb hr hml hts hown hlocks hin hN hK hP hD hA hl
  have hS : va_S A s.heap s.heap [] := va_S.rf
  have hl : lv_has ls 2 [(0, .ref qr), (1, .int room)] := hl
  have hin3 : ∀ w ∈ u_ws RX3 TX3 3, w ∈ wsX3_isBurning := (fun w h => List.mem_cons_of_mem _ (List.mem_append_right _ h))
  generalize hQ : MQ below ((fun A => QiT D cy (fun (t : Int32) => t) (fun (_ : Int32) => [(qr, .inr (3, [.ref qw, .ref qb, .int nr])), (qw, .inl (cy 0, 6, .inl fw)), (qb, .inl (cy 1, 6, .inl fb))]) (F_X3_isBurning nr fb room) A) A) args s 0 0 A = Q
  refine lv_aload_n hx hb dX3_isBurning_0 rfl (lv_at hl 0 rfl) ?_
  refine lv_iload_n hx hb dX3_isBurning_1 rfl (lv_at hl 1 rfl) ?_
  refine cl_i (wr := []) (w2 := [(qr, .inr (3, [.ref qw, .ref qb, .int nr])), (qw, .inl (cy 0, 6, .inl fw)), (qb, .inl (cy 1, 6, .inl fb))]) (rn_V (As := [.int room]) (rest := []) (ci := 3) (q0 := 0) ⟨hx, hb, hml, hown, hts⟩ (k_X3_has l D cy _ qr qw qb nr fw fb room) (cwV 1 hts gX3_isBurning_X3_has rfl rfl rfl (by decide +kernel) ⟨Nat.le_of_ble_eq_true rfl, Nat.le_of_ble_eq_true rfl⟩) hN hK hP hD [0, 1, 2] rfl (by decide) rfl rfl rfl rfl hl.1 rfl (Nat.le_of_ble_eq_true rfl) dX3_isBurning_2 ⟨Nat.le_of_ble_eq_true rfl, Nat.le_of_ble_eq_true rfl⟩) hP hD hS hA [0, 1, 2] [] [0, 1, 2] rfl rfl (by decide) (by decide) rfl (by decide) (fun H locs hP hD hS => ?_)
  refine lv_if_eq (tgt := 21) hx hb dX3_isBurning_5 (by decide) (fun c5 => ?_) (fun c5 => ?_)
  · refine lv_iconst (v := 0) hx hb dX3_isBurning_21 (by decide) ?_
    subst hQ
    exact en_z (tv := 0) hx hb hr hlocks (by rw [F_X3_isBurning, if_pos c5]) rfl hK hP hD hS (Nat.le_refl _) (Nat.le_refl _) (by decide) dX3_isBurning_22
  · refine lv_aload_n hx hb dX3_isBurning_8 rfl (lv_at hl 0 rfl) ?_
    refine va_get (D := D) (ci := 3) (v := .ref qb) (C := RX3) (T := TX3) (N := 3) hx hb hts hin3 hown hK hP 0 rfl rfl 1 (by decide) (hts (.fieldLink RX3 15 "FireflyInn$Rooms" "burning" "[Z") (List.mem_of_getElem? (i := 1) rfl)) (fun _ h9 => h9) rfl dX3_isBurning_9 ?_
    refine lv_iload_n hx hb dX3_isBurning_12 rfl (lv_at hl 1 rfl) ?_
    refine va_zald hx hb hK hP 2 1 rfl rfl (has3_in c5) dX3_isBurning_13 ?_
    refine lv_if_eq (tgt := 21) hx hb dX3_isBurning_14 (by decide) (fun c14 => ?_) (fun c14 => ?_)
    · refine lv_iconst (v := 0) hx hb dX3_isBurning_21 (by decide) ?_
      subst hQ
      exact en_z (tv := 0) hx hb hr hlocks (by rw [F_X3_isBurning, if_neg c5, if_pos c14]) rfl hK hP hD hS (Nat.le_refl _) (Nat.le_refl _) (by decide) dX3_isBurning_22
    · refine lv_iconst (v := 1) hx hb dX3_isBurning_17 (by decide) ?_
      refine lv_goto (tgt := 22) hx hb dX3_isBurning_18 (by decide) ?_
      subst hQ
      exact en_z (tv := 1) hx hb hr hlocks (by rw [F_X3_isBurning, if_neg c5, if_neg c14]) rfl hK hP hD hS (Nat.le_refl _) (Nat.le_refl _) (by decide) dX3_isBurning_22

def F_X3_setBurning (nr : Int32) (fb : Nat → Int32) (room : Int32) (burns : Int32) : Nat → Int32 :=
  if (F_X3_has nr room) = 0 then
    fb
  else
    (upd fb (room : Int32).toNatClampNeg (vp_nar .boolean burns))
set_option maxHeartbeats 4000000 in
set_option maxRecDepth 100000 in
theorem k_X3_setBurning (l : Launch) (D : va_G) (cy : Nat → ClassId) (sz : Nat) (qr qw qb : Nat) (nr : Int32) (fw : Nat → Int32) (fb : Nat → Int32) (room : Int32) (burns : Int32) : MTa l D cy yX3_setBurning wsX3_setBurning 1 0 0 21 [(qr, .inr (3, [.ref qw, .ref qb, .int nr])), (qw, .inl (cy 0, 6, .inl fw)), (qb, .inl (cy 1, 6, .inl fb))] sz [.ref qr, .int room, .int burns] (fun A => QvT D cy (fun (t : Nat → Int32) => [(qr, .inr (3, [.ref qw, .ref qb, .int nr])), (qw, .inl (cy 0, 6, .inl fw)), (qb, .inl (cy 1, 6, .inl t))]) (F_X3_setBurning nr fb room burns) A) := by
  refine ofWT (cc := cX3_setBurning) (maxL := 3) (ret := none) (own := RX3) (by decide) rfl (Nat.le_of_ble_eq_true rfl) rfl ?_
  intro p e s m args below meth c A ls hx hb hr hml hts hown hlocks hin hN hK hP hD hA hl
  have hS : va_S A s.heap s.heap [] := va_S.rf
  have hl : lv_has ls 3 [(0, .ref qr), (1, .int room), (2, .int burns)] := hl
  have hin3 : ∀ w ∈ u_ws RX3 TX3 3, w ∈ wsX3_setBurning := (fun w h => List.mem_cons_of_mem _ (List.mem_append_right _ h))
  generalize hQ : MQ below ((fun A => QvT D cy (fun (t : Nat → Int32) => [(qr, .inr (3, [.ref qw, .ref qb, .int nr])), (qw, .inl (cy 0, 6, .inl fw)), (qb, .inl (cy 1, 6, .inl t))]) (F_X3_setBurning nr fb room burns) A) A) args s 0 0 A = Q
  refine lv_aload_n hx hb dX3_setBurning_0 rfl (lv_at hl 0 rfl) ?_
  refine lv_iload_n hx hb dX3_setBurning_1 rfl (lv_at hl 1 rfl) ?_
  refine cl_i (wr := []) (w2 := [(qr, .inr (3, [.ref qw, .ref qb, .int nr])), (qw, .inl (cy 0, 6, .inl fw)), (qb, .inl (cy 1, 6, .inl fb))]) (rn_V (As := [.int room]) (rest := []) (ci := 3) (q0 := 0) ⟨hx, hb, hml, hown, hts⟩ (k_X3_has l D cy _ qr qw qb nr fw fb room) (cwV 1 hts gX3_setBurning_X3_has rfl rfl rfl (by decide +kernel) ⟨Nat.le_of_ble_eq_true rfl, Nat.le_of_ble_eq_true rfl⟩) hN hK hP hD [0, 1, 2] rfl (by decide) rfl rfl rfl rfl hl.1 rfl (Nat.le_of_ble_eq_true rfl) dX3_setBurning_2 ⟨Nat.le_of_ble_eq_true rfl, Nat.le_of_ble_eq_true rfl⟩) hP hD hS hA [0, 1, 2] [] [0, 1, 2] rfl rfl (by decide) (by decide) rfl (by decide) (fun H locs hP hD hS => ?_)
  refine lv_if_eq (tgt := 15) hx hb dX3_setBurning_5 (by decide) (fun c5 => ?_) (fun c5 => ?_)
  · subst hQ
    exact en_v (tv := fb) hx hb hr hlocks (by rw [F_X3_setBurning, if_pos c5]) hK hP hD hS (Nat.le_refl _) (Nat.le_refl _) dX3_setBurning_15
  · refine lv_aload_n hx hb dX3_setBurning_8 rfl (lv_at hl 0 rfl) ?_
    refine va_get (D := D) (ci := 3) (v := .ref qb) (C := RX3) (T := TX3) (N := 3) hx hb hts hin3 hown hK hP 0 rfl rfl 1 (by decide) (hts (.fieldLink RX3 15 "FireflyInn$Rooms" "burning" "[Z") (List.mem_of_getElem? (i := 1) rfl)) (fun _ h9 => h9) rfl dX3_setBurning_9 ?_
    refine lv_iload_n hx hb dX3_setBurning_12 rfl (lv_at hl 1 rfl) ?_
    refine lv_iload_n hx hb dX3_setBurning_13 rfl (lv_at hl 2 rfl) ?_
    refine va_zast hx hb hK hP hD hS 2 1 rfl rfl (has3_in c5) dX3_setBurning_14 (fun H locs hP hD hS => ?_)
    have hP : va_P D vwCl [(qr, .inr (3, [.ref qw, .ref qb, .int nr])), (qw, .inl (cy 0, 6, .inl fw)), (qb, .inl (cy 1, 6, .inl (upd fb (room : Int32).toNatClampNeg (vp_nar .boolean burns))))] H := hP
    have hD : va_D A [(qr, .inr (3, [.ref qw, .ref qb, .int nr])), (qw, .inl (cy 0, 6, .inl fw)), (qb, .inl (cy 1, 6, .inl (upd fb (room : Int32).toNatClampNeg (vp_nar .boolean burns))))] := hD
    subst hQ
    exact en_v (tv := (upd fb (room : Int32).toNatClampNeg (vp_nar .boolean burns))) hx hb hr hlocks (by rw [F_X3_setBurning, if_neg c5]) hK hP hD hS (Nat.le_refl _) (Nat.le_refl _) dX3_setBurning_15

def F_X3_lampsBurning (fb : Nat → Int32) : Int32 :=
  (F_X4_countTrue fb 6)
set_option maxHeartbeats 4000000 in
set_option maxRecDepth 100000 in
theorem k_X3_lampsBurning (l : Launch) (D : va_G) (cy : Nat → ClassId) (sz : Nat) (qr qw qb : Nat) (nr : Int32) (fw : Nat → Int32) (fb : Nat → Int32) : MTa l D cy yX3_lampsBurning wsX3_lampsBurning 1 0 0 22 [(qr, .inr (3, [.ref qw, .ref qb, .int nr])), (qw, .inl (cy 0, 6, .inl fw)), (qb, .inl (cy 1, 6, .inl fb))] sz [.ref qr] (fun A => QiT D cy (fun (t : Int32) => t) (fun (_ : Int32) => [(qr, .inr (3, [.ref qw, .ref qb, .int nr])), (qw, .inl (cy 0, 6, .inl fw)), (qb, .inl (cy 1, 6, .inl fb))]) (F_X3_lampsBurning fb) A) := by
  refine ofWT (cc := cX3_lampsBurning) (maxL := 1) (ret := (some .int)) (own := RX3) (by decide) rfl (Nat.le_of_ble_eq_true rfl) rfl ?_
  intro p e s m args below meth c A ls hx hb hr hml hts hown hlocks hin hN hK hP hD hA hl
  have hS : va_S A s.heap s.heap [] := va_S.rf
  have hl : lv_has ls 1 [(0, .ref qr)] := hl
  have hin3 : ∀ w ∈ u_ws RX3 TX3 3, w ∈ wsX3_lampsBurning := (fun w h => List.mem_cons_of_mem _ (List.mem_append_right _ h))
  generalize hQ : MQ below ((fun A => QiT D cy (fun (t : Int32) => t) (fun (_ : Int32) => [(qr, .inr (3, [.ref qw, .ref qb, .int nr])), (qw, .inl (cy 0, 6, .inl fw)), (qb, .inl (cy 1, 6, .inl fb))]) (F_X3_lampsBurning fb) A) A) args s 0 0 A = Q
  refine lv_aload_n hx hb dX3_lampsBurning_0 rfl (lv_at hl 0 rfl) ?_
  refine va_get (D := D) (ci := 3) (v := .ref qb) (C := RX3) (T := TX3) (N := 3) hx hb hts hin3 hown hK hP 0 rfl rfl 1 (by decide) (hts (.fieldLink RX3 15 "FireflyInn$Rooms" "burning" "[Z") (List.mem_of_getElem? (i := 1) rfl)) (fun _ h9 => h9) rfl dX3_lampsBurning_1 ?_
  refine cl_i (wr := [(qr, .inr (3, [.ref qw, .ref qb, .int nr])), (qw, .inl (cy 0, 6, .inl fw))]) (w2 := [(qr, .inr (3, [.ref qw, .ref qb, .int nr])), (qw, .inl (cy 0, 6, .inl fw)), (qb, .inl (cy 1, 6, .inl fb))]) (rn_SN (As := [.ref qb]) (rest := []) ⟨hx, hb, hml, hown, hts⟩ (k_X4_countTrue l D cy _ qb fb 6 (by decide)) ⟨va_cnB 1 hts ggX3_lampsBurning_X4_countTrue rfl rfl rfl (hN.at 10 rfl) (hts (.initialized RX4) (List.mem_of_getElem? (i := 3) rfl)) (by decide +kernel) ⟨Nat.le_of_ble_eq_true rfl, Nat.le_of_ble_eq_true rfl⟩, (hts (.static yX4_countTrue) (List.mem_of_getElem? (i := 2) rfl)), trivial⟩ hN hK hP hD [2] rfl (by decide) rfl hl.1 rfl (Nat.le_of_ble_eq_true rfl) dX3_lampsBurning_4 ⟨Nat.le_of_ble_eq_true rfl, Nat.le_of_ble_eq_true rfl⟩) hP hD hS hA [2] [0, 1] [0, 1, 2] rfl rfl (by decide) (by decide) rfl (by decide) (fun H locs hP hD hS => ?_)
  subst hQ
  exact en_i (tv := (F_X4_countTrue fb 6)) hx hb hr hlocks (by rw [F_X3_lampsBurning]) rfl hK hP hD hS (Nat.le_refl _) (Nat.le_refl _) dX3_lampsBurning_7

def L_X3_shineOn_2 (fw : Nat → Int32) (fb : Nat → Int32) (x : Int32) : Nat → Nat → Int32
  | 0, _ =>
    0
  | n2 + 1, k2 =>
    if (fb k2) = 0 then
      L_X3_shineOn_2 fw fb x n2 (k2 + 1)
    else
      if 1 < (ab ((fw k2) - x)) then
        L_X3_shineOn_2 fw fb x n2 (k2 + 1)
      else
        1
def F_X3_shineOn (fw : Nat → Int32) (fb : Nat → Int32) (x : Int32) : Int32 :=
  L_X3_shineOn_2 fw fb x 6 0
set_option maxHeartbeats 4000000 in
set_option maxRecDepth 100000 in
theorem k_X3_shineOn (l : Launch) (D : va_G) (cy : Nat → ClassId) (sz : Nat) (qr qw qb : Nat) (nr : Int32) (fw : Nat → Int32) (fb : Nat → Int32) (x : Int32) : MTa l D cy yX3_shineOn wsX3_shineOn 1 0 0 24 [(qr, .inr (3, [.ref qw, .ref qb, .int nr])), (qw, .inl (cy 0, 6, .inl fw)), (qb, .inl (cy 1, 6, .inl fb))] sz [.ref qr, .int x] (fun A => QiT D cy (fun (t : Int32) => t) (fun (_ : Int32) => [(qr, .inr (3, [.ref qw, .ref qb, .int nr])), (qw, .inl (cy 0, 6, .inl fw)), (qb, .inl (cy 1, 6, .inl fb))]) (F_X3_shineOn fw fb x) A) := by
  refine ofWT (cc := cX3_shineOn) (maxL := 3) (ret := (some .boolean)) (own := RX3) (by decide) rfl (Nat.le_of_ble_eq_true rfl) rfl ?_
  intro p e s m args below meth c A ls hx hb hr hml hts hown hlocks hin hN hK hP hD hA hl
  have hS : va_S A s.heap s.heap [] := va_S.rf
  have hl : lv_has ls 3 [(0, .ref qr), (1, .int x)] := hl
  have hin3 : ∀ w ∈ u_ws RX3 TX3 3, w ∈ wsX3_shineOn := (fun w h => List.mem_cons_of_mem _ (List.mem_append_right _ h))
  generalize hQ : MQ below ((fun A => QiT D cy (fun (t : Int32) => t) (fun (_ : Int32) => [(qr, .inr (3, [.ref qw, .ref qb, .int nr])), (qw, .inl (cy 0, 6, .inl fw)), (qb, .inl (cy 1, 6, .inl fb))]) (F_X3_shineOn fw fb x) A) A) args s 0 0 A = Q
  refine lv_iconst (v := 0) hx hb dX3_shineOn_0 (by decide) ?_
  refine lv_istore_n (lv' := [(2, .int 0), (0, .ref qr), (1, .int x)]) hx hb dX3_shineOn_1 rfl hl (by decide) rfl (fun ls hl => ?_)
  have lp2 : ∀ (n2 k2 : Nat) (H : Heap) (locs : List Loc) (ls : Array Slot), k2 + n2 = 6 → (F_X3_shineOn fw fb x) = L_X3_shineOn_2 fw fb x n2 k2 → va_P D vwCl [(qr, .inr (3, [.ref qw, .ref qb, .int nr])), (qw, .inl (cy 0, 6, .inl fw)), (qb, .inl (cy 1, 6, .inl fb))] H → va_D A [(qr, .inr (3, [.ref qw, .ref qb, .int nr])), (qw, .inl (cy 0, 6, .inl fw)), (qb, .inl (cy 1, 6, .inl fb))] → va_S A s.heap H locs → lv_has ls 3 [(2, .int (nI k2)), (0, .ref qr), (1, .int x)] → W p l e (RM 1 0 0 24) s m args below meth c H locs 0 0 Q (F0 m 2 ls []) := by
    intro n2
    induction n2 with
    | zero =>
      intro k2 H locs ls hkn2 hE2 hP hD hS hl
      have hk2 : 6 = k2 := by omega
      subst hk2
      refine lv_iload_n hx hb dX3_shineOn_2 rfl (lv_at hl 0 rfl) ?_
      refine lv_bipush (v := 6) hx hb dX3_shineOn_3 (by decide) ?_
      refine lv_icmp_ge (tgt := 40) hx hb dX3_shineOn_5 (by decide) (fun c5 => ?_) (fun c5 => ?_)
      rotate_left
      · exact absurd (nI_le (a := 6) (b := 6) (Nat.le_refl _) (by decide)) c5
      refine lv_iconst (v := 0) hx hb dX3_shineOn_40 (by decide) ?_
      subst hQ
      exact en_z (tv := 0) hx hb hr hlocks (hE2.trans (by rw [L_X3_shineOn_2])) rfl hK hP hD hS (Nat.le_refl _) (Nat.le_refl _) (by decide) dX3_shineOn_41
    | succ n2 ih2 =>
      intro k2 H locs ls hkn2 hE2 hP hD hS hl
      have hlt2 : k2 < 6 := by omega
      refine lv_iload_n hx hb dX3_shineOn_2 rfl (lv_at hl 0 rfl) ?_
      refine lv_bipush (v := 6) hx hb dX3_shineOn_3 (by decide) ?_
      refine lv_icmp_ge (tgt := 40) hx hb dX3_shineOn_5 (by decide) (fun c5 => ?_) (fun c5 => ?_)
      · exact absurd c5 (nI_ge (a := k2) (b := 6) hlt2 (by decide))
      refine lv_aload_n hx hb dX3_shineOn_8 rfl (lv_at hl 1 rfl) ?_
      refine va_get (D := D) (ci := 3) (v := .ref qb) (C := RX3) (T := TX3) (N := 3) hx hb hts hin3 hown hK hP 0 rfl rfl 1 (by decide) (hts (.fieldLink RX3 15 "FireflyInn$Rooms" "burning" "[Z") (List.mem_of_getElem? (i := 1) rfl)) (fun _ h9 => h9) rfl dX3_shineOn_9 ?_
      refine lv_iload_n hx hb dX3_shineOn_12 rfl (lv_at hl 0 rfl) ?_
      refine zal_n (k := k2) hx hb hK hP 2 rfl (by omega) (by decide) dX3_shineOn_13 ?_
      refine lv_if_eq (tgt := 34) hx hb dX3_shineOn_14 (by decide) (fun c14 => ?_) (fun c14 => ?_)
      · refine lv_iinc (v := (nI (k2 + 1))) (lv' := [(2, .int (nI (k2 + 1))), (0, .ref qr), (1, .int x)]) hx hb dX3_shineOn_34 hl (k := 0) rfl (nI_1 k2) (by decide) rfl (fun ls hl => ?_)
        refine lv_goto (tgt := 2) hx hb dX3_shineOn_37 (by decide) ?_
        exact ih2 (k2 + 1)  _ _ _ (by omega) (hE2.trans (by rw [L_X3_shineOn_2, if_pos c14])) hP hD hS (lv_sub hl [0, 1, 2] rfl)
      · refine lv_aload_n hx hb dX3_shineOn_17 rfl (lv_at hl 1 rfl) ?_
        refine va_get (D := D) (ci := 3) (v := .ref qw) (C := RX3) (T := TX3) (N := 3) hx hb hts hin3 hown hK hP 0 rfl rfl 0 (by decide) (hts (.fieldLink RX3 9 "FireflyInn$Rooms" "windows" "[I") (List.mem_of_getElem? (i := 2) rfl)) (fun _ h9 => h9) rfl dX3_shineOn_18 ?_
        refine lv_iload_n hx hb dX3_shineOn_21 rfl (lv_at hl 0 rfl) ?_
        refine ial_n (k := k2) hx hb hK hP 1 rfl (by omega) (by decide) dX3_shineOn_22 ?_
        refine lv_iload_n hx hb dX3_shineOn_23 rfl (lv_at hl 2 rfl) ?_
        refine lv_isub hx hb dX3_shineOn_24 ?_
        refine va_mabs (rest := []) hx hb (hml.trans hl.1.symm) hown (hts (.methodLink RX3 31 Lib.Math.abs.name) (List.mem_of_getElem? (i := 3) rfl)) (hts (.static Lib.Math.abs.name) (List.mem_of_getElem? (i := 4) rfl)) (hts (.initialized "java/lang/Math") (List.mem_of_getElem? (i := 5) rfl)) (hts (.code Lib.Math.abs.name Lib.Math.abs.code 1 (some .int)) (List.mem_of_getElem? (i := 6) rfl)) (Nat.le_of_ble_eq_true rfl) (Nat.le_of_ble_eq_true rfl) (Nat.le_of_ble_eq_true rfl) (Nat.le_of_ble_eq_true rfl) dX3_shineOn_25 ?_
        refine lv_iv (y := (ab ((fw k2) - x))) rfl ?_
        refine lv_iconst (v := 1) hx hb dX3_shineOn_28 (by decide) ?_
        refine lv_icmp_gt (tgt := 34) hx hb dX3_shineOn_29 (by decide) (fun c29 => ?_) (fun c29 => ?_)
        · refine lv_iinc (v := (nI (k2 + 1))) (lv' := [(2, .int (nI (k2 + 1))), (0, .ref qr), (1, .int x)]) hx hb dX3_shineOn_34 hl (k := 0) rfl (nI_1 k2) (by decide) rfl (fun ls hl => ?_)
          refine lv_goto (tgt := 2) hx hb dX3_shineOn_37 (by decide) ?_
          exact ih2 (k2 + 1)  _ _ _ (by omega) (hE2.trans (by rw [L_X3_shineOn_2, if_neg c14, if_pos c29])) hP hD hS (lv_sub hl [0, 1, 2] rfl)
        · refine lv_iconst (v := 1) hx hb dX3_shineOn_32 (by decide) ?_
          subst hQ
          exact en_z (tv := 1) hx hb hr hlocks (hE2.trans (by rw [L_X3_shineOn_2, if_neg c14, if_neg c29])) rfl hK hP hD hS (Nat.le_refl _) (Nat.le_refl _) (by decide) dX3_shineOn_33
  exact lp2 6 0  _ _ _ (by omega) (by rw [F_X3_shineOn]) hP hD hS (lv_sub hl [0, 1, 2] rfl)

def S_X3_copyFrom_2 (fwz : Nat → Int32) (fbz : Nat → Int32) (k2 : Nat) (fw_2 : Nat → Int32) (fb_2 : Nat → Int32) : (Nat → Int32) × (Nat → Int32) :=
  ((upd fw_2 k2 (fwz k2)), (upd fb_2 k2 (vp_nar .boolean (fbz k2))))
def I_X3_copyFrom_2 (fw : Nat → Int32) (fb : Nat → Int32) (fwz : Nat → Int32) (fbz : Nat → Int32) : (Nat → Int32) × (Nat → Int32) :=
  it (fun (k : Nat) (v : (Nat → Int32) × (Nat → Int32)) => S_X3_copyFrom_2 fwz fbz k v.1 v.2) 6 0 (fw, fb)
def F_X3_copyFrom (fw : Nat → Int32) (fb : Nat → Int32) (nrz : Int32) (fwz : Nat → Int32) (fbz : Nat → Int32) : Int32 × (Nat → Int32) × (Nat → Int32) :=
  (nrz, (I_X3_copyFrom_2 fw fb fwz fbz).1, (I_X3_copyFrom_2 fw fb fwz fbz).2)
set_option maxHeartbeats 4000000 in
set_option maxRecDepth 100000 in
theorem k_X3_copyFrom (l : Launch) (D : va_G) (cy : Nat → ClassId) (sz : Nat) (qr qw qb qrz qwz qbz : Nat) (nr : Int32) (fw : Nat → Int32) (fb : Nat → Int32) (nrz : Int32) (fwz : Nat → Int32) (fbz : Nat → Int32) : MTa l D cy yX3_copyFrom wsX3_copyFrom 0 0 0 0 [(qr, .inr (3, [.ref qw, .ref qb, .int nr])), (qw, .inl (cy 0, 6, .inl fw)), (qb, .inl (cy 1, 6, .inl fb)), (qrz, .inr (3, [.ref qwz, .ref qbz, .int nrz])), (qwz, .inl (cy 0, 6, .inl fwz)), (qbz, .inl (cy 1, 6, .inl fbz))] sz [.ref qr, .ref qrz] (fun A => QvT D cy (fun (t : Int32 × (Nat → Int32) × (Nat → Int32)) => [(qr, .inr (3, [.ref qw, .ref qb, .int t.1])), (qw, .inl (cy 0, 6, .inl t.2.1)), (qb, .inl (cy 1, 6, .inl t.2.2)), (qrz, .inr (3, [.ref qwz, .ref qbz, .int nrz])), (qwz, .inl (cy 0, 6, .inl fwz)), (qbz, .inl (cy 1, 6, .inl fbz))]) (F_X3_copyFrom fw fb nrz fwz fbz) A) := by
  refine ofWT (cc := cX3_copyFrom) (maxL := 3) (ret := none) (own := RX3) (by decide) rfl (Nat.le_of_ble_eq_true rfl) rfl ?_
  intro p e s m args below meth c A ls hx hb hr hml hts hown hlocks hin hN hK hP hD hA hl
  have hS : va_S A s.heap s.heap [] := va_S.rf
  have hl : lv_has ls 3 [(0, .ref qr), (1, .ref qrz)] := hl
  have hin3 : ∀ w ∈ u_ws RX3 TX3 3, w ∈ wsX3_copyFrom := (fun w h => List.mem_cons_of_mem _ (List.mem_append_right _ h))
  generalize hQ : MQ below ((fun A => QvT D cy (fun (t : Int32 × (Nat → Int32) × (Nat → Int32)) => [(qr, .inr (3, [.ref qw, .ref qb, .int t.1])), (qw, .inl (cy 0, 6, .inl t.2.1)), (qb, .inl (cy 1, 6, .inl t.2.2)), (qrz, .inr (3, [.ref qwz, .ref qbz, .int nrz])), (qwz, .inl (cy 0, 6, .inl fwz)), (qbz, .inl (cy 1, 6, .inl fbz))]) (F_X3_copyFrom fw fb nrz fwz fbz) A) A) args s 0 0 A = Q
  refine lv_iconst (v := 0) hx hb dX3_copyFrom_0 (by decide) ?_
  refine lv_istore_n (lv' := [(2, .int 0), (0, .ref qr), (1, .ref qrz)]) hx hb dX3_copyFrom_1 rfl hl (by decide) rfl (fun ls hl => ?_)
  obtain ⟨fin2, hfin2⟩ : ∃ z, (I_X3_copyFrom_2 fw fb fwz fbz) = z := ⟨_, rfl⟩
  suffices kk2 : ∀ (H : Heap) (locs : List Loc) (ls : Array Slot), va_P D vwCl [(qr, .inr (3, [.ref qw, .ref qb, .int nr])), (qw, .inl (cy 0, 6, .inl fin2.1)), (qb, .inl (cy 1, 6, .inl fin2.2)), (qrz, .inr (3, [.ref qwz, .ref qbz, .int nrz])), (qwz, .inl (cy 0, 6, .inl fwz)), (qbz, .inl (cy 1, 6, .inl fbz))] H → va_D A [(qr, .inr (3, [.ref qw, .ref qb, .int nr])), (qw, .inl (cy 0, 6, .inl fin2.1)), (qb, .inl (cy 1, 6, .inl fin2.2)), (qrz, .inr (3, [.ref qwz, .ref qbz, .int nrz])), (qwz, .inl (cy 0, 6, .inl fwz)), (qbz, .inl (cy 1, 6, .inl fbz))] → va_S A s.heap H locs → lv_has ls 3 [(2, .int (nI 6)), (0, .ref qr), (1, .ref qrz)] → W p l e (RM 0 0 0 0) s m args below meth c H locs 0 0 Q (F0 m 38 ls []) by
    have lp2 : ∀ (n2 k2 : Nat) (fw_2 : Nat → Int32) (fb_2 : Nat → Int32) (H : Heap) (locs : List Loc) (ls : Array Slot), k2 + n2 = 6 → it (fun (k : Nat) (v : (Nat → Int32) × (Nat → Int32)) => S_X3_copyFrom_2 fwz fbz k v.1 v.2) n2 k2 (fw_2, fb_2) = fin2 → va_P D vwCl [(qr, .inr (3, [.ref qw, .ref qb, .int nr])), (qw, .inl (cy 0, 6, .inl fw_2)), (qb, .inl (cy 1, 6, .inl fb_2)), (qrz, .inr (3, [.ref qwz, .ref qbz, .int nrz])), (qwz, .inl (cy 0, 6, .inl fwz)), (qbz, .inl (cy 1, 6, .inl fbz))] H → va_D A [(qr, .inr (3, [.ref qw, .ref qb, .int nr])), (qw, .inl (cy 0, 6, .inl fw_2)), (qb, .inl (cy 1, 6, .inl fb_2)), (qrz, .inr (3, [.ref qwz, .ref qbz, .int nrz])), (qwz, .inl (cy 0, 6, .inl fwz)), (qbz, .inl (cy 1, 6, .inl fbz))] → va_S A s.heap H locs → lv_has ls 3 [(2, .int (nI k2)), (0, .ref qr), (1, .ref qrz)] → W p l e (RM 0 0 0 0) s m args below meth c H locs 0 0 Q (F0 m 2 ls []) := by
      intro n2
      induction n2 with
      | zero =>
        intro k2 fw_2 fb_2 H locs ls hkn2 hE2 hP hD hS hl
        have hk2 : 6 = k2 := by omega
        subst hk2
        have hE2 : (fw_2, fb_2) = fin2 := hE2
        subst hE2
        refine lv_iload_n hx hb dX3_copyFrom_2 rfl (lv_at hl 0 rfl) ?_
        refine lv_bipush (v := 6) hx hb dX3_copyFrom_3 (by decide) ?_
        refine lv_icmp_ge (tgt := 38) hx hb dX3_copyFrom_5 (by decide) (fun c5 => ?_) (fun c5 => ?_)
        rotate_left
        · exact absurd (nI_le (a := 6) (b := 6) (Nat.le_refl _) (by decide)) c5
        exact kk2 _ _ _ hP hD hS (lv_sub hl [0, 1, 2] rfl)
      | succ n2 ih2 =>
        intro k2 fw_2 fb_2 H locs ls hkn2 hE2 hP hD hS hl
        have hlt2 : k2 < 6 := by omega
        refine lv_iload_n hx hb dX3_copyFrom_2 rfl (lv_at hl 0 rfl) ?_
        refine lv_bipush (v := 6) hx hb dX3_copyFrom_3 (by decide) ?_
        refine lv_icmp_ge (tgt := 38) hx hb dX3_copyFrom_5 (by decide) (fun c5 => ?_) (fun c5 => ?_)
        · exact absurd c5 (nI_ge (a := k2) (b := 6) hlt2 (by decide))
        refine lv_aload_n hx hb dX3_copyFrom_8 rfl (lv_at hl 1 rfl) ?_
        refine va_get (D := D) (ci := 3) (v := .ref qw) (C := RX3) (T := TX3) (N := 3) hx hb hts hin3 hown hK hP 0 rfl rfl 0 (by decide) (hts (.fieldLink RX3 9 "FireflyInn$Rooms" "windows" "[I") (List.mem_of_getElem? (i := 1) rfl)) (fun _ h9 => h9) rfl dX3_copyFrom_9 ?_
        refine lv_iload_n hx hb dX3_copyFrom_12 rfl (lv_at hl 0 rfl) ?_
        refine lv_aload_n hx hb dX3_copyFrom_13 rfl (lv_at hl 2 rfl) ?_
        refine va_get (D := D) (ci := 3) (v := .ref qwz) (C := RX3) (T := TX3) (N := 3) hx hb hts hin3 hown hK hP 3 rfl rfl 0 (by decide) (hts (.fieldLink RX3 9 "FireflyInn$Rooms" "windows" "[I") (List.mem_of_getElem? (i := 1) rfl)) (fun _ h9 => h9) rfl dX3_copyFrom_14 ?_
        refine lv_iload_n hx hb dX3_copyFrom_17 rfl (lv_at hl 0 rfl) ?_
        refine ial_n (k := k2) hx hb hK hP 4 rfl (by omega) (by decide) dX3_copyFrom_18 ?_
        refine ias_n (k := k2) hx hb hK hP hD hS 1 rfl (by omega) (by decide) dX3_copyFrom_19 (fun H locs hP hD hS => ?_)
        have hP : va_P D vwCl [(qr, .inr (3, [.ref qw, .ref qb, .int nr])), (qw, .inl (cy 0, 6, .inl (upd fw_2 k2 (fwz k2)))), (qb, .inl (cy 1, 6, .inl fb_2)), (qrz, .inr (3, [.ref qwz, .ref qbz, .int nrz])), (qwz, .inl (cy 0, 6, .inl fwz)), (qbz, .inl (cy 1, 6, .inl fbz))] H := hP
        have hD : va_D A [(qr, .inr (3, [.ref qw, .ref qb, .int nr])), (qw, .inl (cy 0, 6, .inl (upd fw_2 k2 (fwz k2)))), (qb, .inl (cy 1, 6, .inl fb_2)), (qrz, .inr (3, [.ref qwz, .ref qbz, .int nrz])), (qwz, .inl (cy 0, 6, .inl fwz)), (qbz, .inl (cy 1, 6, .inl fbz))] := hD
        refine lv_aload_n hx hb dX3_copyFrom_20 rfl (lv_at hl 1 rfl) ?_
        refine va_get (D := D) (ci := 3) (v := .ref qb) (C := RX3) (T := TX3) (N := 3) hx hb hts hin3 hown hK hP 0 rfl rfl 1 (by decide) (hts (.fieldLink RX3 15 "FireflyInn$Rooms" "burning" "[Z") (List.mem_of_getElem? (i := 2) rfl)) (fun _ h9 => h9) rfl dX3_copyFrom_21 ?_
        refine lv_iload_n hx hb dX3_copyFrom_24 rfl (lv_at hl 0 rfl) ?_
        refine lv_aload_n hx hb dX3_copyFrom_25 rfl (lv_at hl 2 rfl) ?_
        refine va_get (D := D) (ci := 3) (v := .ref qbz) (C := RX3) (T := TX3) (N := 3) hx hb hts hin3 hown hK hP 3 rfl rfl 1 (by decide) (hts (.fieldLink RX3 15 "FireflyInn$Rooms" "burning" "[Z") (List.mem_of_getElem? (i := 2) rfl)) (fun _ h9 => h9) rfl dX3_copyFrom_26 ?_
        refine lv_iload_n hx hb dX3_copyFrom_29 rfl (lv_at hl 0 rfl) ?_
        refine zal_n (k := k2) hx hb hK hP 5 rfl (by omega) (by decide) dX3_copyFrom_30 ?_
        refine zas_n (k := k2) hx hb hK hP hD hS 2 rfl (by omega) (by decide) dX3_copyFrom_31 (fun H locs hP hD hS => ?_)
        have hP : va_P D vwCl [(qr, .inr (3, [.ref qw, .ref qb, .int nr])), (qw, .inl (cy 0, 6, .inl (upd fw_2 k2 (fwz k2)))), (qb, .inl (cy 1, 6, .inl (upd fb_2 k2 (vp_nar .boolean (fbz k2))))), (qrz, .inr (3, [.ref qwz, .ref qbz, .int nrz])), (qwz, .inl (cy 0, 6, .inl fwz)), (qbz, .inl (cy 1, 6, .inl fbz))] H := hP
        have hD : va_D A [(qr, .inr (3, [.ref qw, .ref qb, .int nr])), (qw, .inl (cy 0, 6, .inl (upd fw_2 k2 (fwz k2)))), (qb, .inl (cy 1, 6, .inl (upd fb_2 k2 (vp_nar .boolean (fbz k2))))), (qrz, .inr (3, [.ref qwz, .ref qbz, .int nrz])), (qwz, .inl (cy 0, 6, .inl fwz)), (qbz, .inl (cy 1, 6, .inl fbz))] := hD
        refine lv_iinc (v := (nI (k2 + 1))) (lv' := [(2, .int (nI (k2 + 1))), (0, .ref qr), (1, .ref qrz)]) hx hb dX3_copyFrom_32 hl (k := 0) rfl (nI_1 k2) (by decide) rfl (fun ls hl => ?_)
        refine lv_goto (tgt := 2) hx hb dX3_copyFrom_35 (by decide) ?_
        exact ih2 (k2 + 1) (upd fw_2 k2 (fwz k2)) (upd fb_2 k2 (vp_nar .boolean (fbz k2))) _ _ _ (by omega) (it_step (f := (fun (k : Nat) (v : (Nat → Int32) × (Nat → Int32)) => S_X3_copyFrom_2 fwz fbz k v.1 v.2)) (v := (fw_2, fb_2)) (show S_X3_copyFrom_2 fwz fbz k2 fw_2 fb_2 = ((upd fw_2 k2 (fwz k2)), (upd fb_2 k2 (vp_nar .boolean (fbz k2)))) from by rw [S_X3_copyFrom_2]) hE2) hP hD hS (lv_sub hl [0, 1, 2] rfl)
    exact lp2 6 0 fw fb _ _ _ (by omega) hfin2 hP hD hS (lv_sub hl [0, 1, 2] rfl)
  intro H locs ls hP hD hS hl
  subst hfin2
  refine lv_aload_n hx hb dX3_copyFrom_38 rfl (lv_at hl 1 rfl) ?_
  refine lv_aload_n hx hb dX3_copyFrom_39 rfl (lv_at hl 2 rfl) ?_
  refine va_get (D := D) (ci := 3) (v := .int nrz) (C := RX3) (T := TX3) (N := 3) hx hb hts hin3 hown hK hP 3 rfl rfl 2 (by decide) (hts (.fieldLink RX3 19 "FireflyInn$Rooms" "many" "I") (List.mem_of_getElem? (i := 3) rfl)) (fun _ h9 => h9) rfl dX3_copyFrom_40 ?_
  refine va_put (D := D) (ci := 3) (v := .int nrz) (ty := .int) (C := RX3) (T := TX3) (N := 3) hx hb hts hin3 tyX3 tyX3_ok nmX3 hown hK hP hD hS 0 rfl rfl 2 (by decide) (hts (.fieldLink RX3 19 "FireflyInn$Rooms" "many" "I") (List.mem_of_getElem? (i := 3) rfl)) (fun _ h9 => h9) rfl (by decide +kernel) rfl rfl (Nat.le_of_ble_eq_true rfl) dX3_copyFrom_43 (fun H locs hP hD hS => ?_)
  have hP : va_P D vwCl [(qr, .inr (3, [.ref qw, .ref qb, .int nrz])), (qw, .inl (cy 0, 6, .inl ((I_X3_copyFrom_2 fw fb fwz fbz).1))), (qb, .inl (cy 1, 6, .inl ((I_X3_copyFrom_2 fw fb fwz fbz).2))), (qrz, .inr (3, [.ref qwz, .ref qbz, .int nrz])), (qwz, .inl (cy 0, 6, .inl fwz)), (qbz, .inl (cy 1, 6, .inl fbz))] H := hP
  have hD : va_D A [(qr, .inr (3, [.ref qw, .ref qb, .int nrz])), (qw, .inl (cy 0, 6, .inl ((I_X3_copyFrom_2 fw fb fwz fbz).1))), (qb, .inl (cy 1, 6, .inl ((I_X3_copyFrom_2 fw fb fwz fbz).2))), (qrz, .inr (3, [.ref qwz, .ref qbz, .int nrz])), (qwz, .inl (cy 0, 6, .inl fwz)), (qbz, .inl (cy 1, 6, .inl fbz))] := hD
  subst hQ
  exact en_v (tv := (nrz, (I_X3_copyFrom_2 fw fb fwz fbz).1, (I_X3_copyFrom_2 fw fb fwz fbz).2)) hx hb hr hlocks (by rw [F_X3_copyFrom]) hK hP hD hS (Nat.le_refl _) (Nat.le_refl _) dX3_copyFrom_46
