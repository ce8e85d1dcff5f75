def F_X0_many (ng : Int32) : Int32 :=
  ng
set_option maxHeartbeats 4000000 in
set_option maxRecDepth 100000 in
theorem k_X0_many (l : Launch) (D : va_G) (cy : Nat → ClassId) (sz : Nat) (qg qR qW qT qS qJ qY : Nat) (ng : Int32) (gR : Nat → Int32) (gW : Nat → Int32) (gT : Nat → Int32) (gS : Nat → Int32) (gJ : Nat → Int32) (gY : Nat → Int32) : MTa l D cy yX0_many wsX0_many 0 0 0 0 [(qg, .inr (0, [.ref qR, .ref qW, .ref qT, .ref qS, .ref qJ, .ref qY, .int ng])), (qR, .inl (cy 0, 12, .inl gR)), (qW, .inl (cy 0, 12, .inl gW)), (qT, .inl (cy 0, 12, .inl gT)), (qS, .inl (cy 0, 12, .inl gS)), (qJ, .inl (cy 1, 12, .inl gJ)), (qY, .inl (cy 1, 12, .inl gY))] sz [.ref qg] (fun A => QiT D cy (fun (t : Int32) => t) (fun (_ : Int32) => [(qg, .inr (0, [.ref qR, .ref qW, .ref qT, .ref qS, .ref qJ, .ref qY, .int ng])), (qR, .inl (cy 0, 12, .inl gR)), (qW, .inl (cy 0, 12, .inl gW)), (qT, .inl (cy 0, 12, .inl gT)), (qS, .inl (cy 0, 12, .inl gS)), (qJ, .inl (cy 1, 12, .inl gJ)), (qY, .inl (cy 1, 12, .inl gY))]) (F_X0_many ng) A) := by
  refine ofWT (cc := cX0_many) (maxL := 1) (ret := (some .int)) (own := RX0) (by decide) rfl (Nat.le_of_ble_eq_true rfl) rfl ?_
  intro p e s m args below meth c A ls hx hb hr hml hts hown hlocks hin hN hK hP hD hA hl
  have hS : va_S A s.heap s.heap [] := va_S.rf
  have hl : lv_has ls 1 [(0, .ref qg)] := hl
  have hin0 : ∀ w ∈ u_ws RX0 TX0 7, w ∈ wsX0_many := (fun w h => List.mem_cons_of_mem _ (List.mem_append_right _ h))
  generalize hQ : MQ below ((fun A => QiT D cy (fun (t : Int32) => t) (fun (_ : Int32) => [(qg, .inr (0, [.ref qR, .ref qW, .ref qT, .ref qS, .ref qJ, .ref qY, .int ng])), (qR, .inl (cy 0, 12, .inl gR)), (qW, .inl (cy 0, 12, .inl gW)), (qT, .inl (cy 0, 12, .inl gT)), (qS, .inl (cy 0, 12, .inl gS)), (qJ, .inl (cy 1, 12, .inl gJ)), (qY, .inl (cy 1, 12, .inl gY))]) (F_X0_many ng) A) A) args s 0 0 A = Q
  refine lv_aload_n hx hb dX0_many_0 rfl (lv_at hl 0 rfl) ?_
  refine va_get (D := D) (ci := 0) (v := .int ng) (C := RX0) (T := TX0) (N := 7) hx hb hts hin0 hown hK hP 0 rfl rfl 6 (by decide) (hts (.fieldLink RX0 31 "FireflyInn$Guests" "many" "I") (List.mem_of_getElem? (i := 1) rfl)) (fun _ h9 => h9) rfl dX0_many_1 ?_
  subst hQ
  exact en_i (tv := ng) hx hb hr hlocks (by rw [F_X0_many]) rfl hK hP hD hS (Nat.le_refl _) (Nat.le_refl _) dX0_many_4

def F_X0_isFull (ng : Int32) : Int32 :=
  if ng < 12 then
    0
  else
    1
set_option maxHeartbeats 4000000 in
set_option maxRecDepth 100000 in
theorem k_X0_isFull (l : Launch) (D : va_G) (cy : Nat → ClassId) (sz : Nat) (qg qR qW qT qS qJ qY : Nat) (ng : Int32) (gR : Nat → Int32) (gW : Nat → Int32) (gT : Nat → Int32) (gS : Nat → Int32) (gJ : Nat → Int32) (gY : Nat → Int32) : MTa l D cy yX0_isFull wsX0_isFull 0 0 0 0 [(qg, .inr (0, [.ref qR, .ref qW, .ref qT, .ref qS, .ref qJ, .ref qY, .int ng])), (qR, .inl (cy 0, 12, .inl gR)), (qW, .inl (cy 0, 12, .inl gW)), (qT, .inl (cy 0, 12, .inl gT)), (qS, .inl (cy 0, 12, .inl gS)), (qJ, .inl (cy 1, 12, .inl gJ)), (qY, .inl (cy 1, 12, .inl gY))] sz [.ref qg] (fun A => QiT D cy (fun (t : Int32) => t) (fun (_ : Int32) => [(qg, .inr (0, [.ref qR, .ref qW, .ref qT, .ref qS, .ref qJ, .ref qY, .int ng])), (qR, .inl (cy 0, 12, .inl gR)), (qW, .inl (cy 0, 12, .inl gW)), (qT, .inl (cy 0, 12, .inl gT)), (qS, .inl (cy 0, 12, .inl gS)), (qJ, .inl (cy 1, 12, .inl gJ)), (qY, .inl (cy 1, 12, .inl gY))]) (F_X0_isFull ng) A) := by
  refine ofWT (cc := cX0_isFull) (maxL := 1) (ret := (some .boolean)) (own := RX0) (by decide) rfl (Nat.le_of_ble_eq_true rfl) rfl ?_
  intro p e s m args below meth c A ls hx hb hr hml hts hown hlocks hin hN hK hP hD hA hl
  have hS : va_S A s.heap s.heap [] := va_S.rf
  have hl : lv_has ls 1 [(0, .ref qg)] := hl
  have hin0 : ∀ w ∈ u_ws RX0 TX0 7, w ∈ wsX0_isFull := (fun w h => List.mem_cons_of_mem _ (List.mem_append_right _ h))
  generalize hQ : MQ below ((fun A => QiT D cy (fun (t : Int32) => t) (fun (_ : Int32) => [(qg, .inr (0, [.ref qR, .ref qW, .ref qT, .ref qS, .ref qJ, .ref qY, .int ng])), (qR, .inl (cy 0, 12, .inl gR)), (qW, .inl (cy 0, 12, .inl gW)), (qT, .inl (cy 0, 12, .inl gT)), (qS, .inl (cy 0, 12, .inl gS)), (qJ, .inl (cy 1, 12, .inl gJ)), (qY, .inl (cy 1, 12, .inl gY))]) (F_X0_isFull ng) A) A) args s 0 0 A = Q
  refine lv_aload_n hx hb dX0_isFull_0 rfl (lv_at hl 0 rfl) ?_
  refine va_get (D := D) (ci := 0) (v := .int ng) (C := RX0) (T := TX0) (N := 7) hx hb hts hin0 hown hK hP 0 rfl rfl 6 (by decide) (hts (.fieldLink RX0 31 "FireflyInn$Guests" "many" "I") (List.mem_of_getElem? (i := 1) rfl)) (fun _ h9 => h9) rfl dX0_isFull_1 ?_
  refine lv_bipush (v := 12) hx hb dX0_isFull_4 (by decide) ?_
  refine lv_icmp_lt (tgt := 13) hx hb dX0_isFull_6 (by decide) (fun c6 => ?_) (fun c6 => ?_)
  · refine lv_iconst (v := 0) hx hb dX0_isFull_13 (by decide) ?_
    subst hQ
    exact en_z (tv := 0) hx hb hr hlocks (by rw [F_X0_isFull, if_pos c6]) rfl hK hP hD hS (Nat.le_refl _) (Nat.le_refl _) (by decide) dX0_isFull_14
  · refine lv_iconst (v := 1) hx hb dX0_isFull_9 (by decide) ?_
    refine lv_goto (tgt := 14) hx hb dX0_isFull_10 (by decide) ?_
    subst hQ
    exact en_z (tv := 1) hx hb hr hlocks (by rw [F_X0_isFull, if_neg c6]) rfl hK hP hD hS (Nat.le_refl _) (Nat.le_refl _) (by decide) dX0_isFull_14

def F_X0_has (ng : Int32) (guest : Int32) : Int32 :=
  if guest < 0 then
    0
  else
    if ng ≤ guest then
      0
    else
      if 12 ≤ guest then
        0
      else
        1
set_option maxHeartbeats 4000000 in
set_option maxRecDepth 100000 in
theorem k_X0_has (l : Launch) (D : va_G) (cy : Nat → ClassId) (sz : Nat) (qg qR qW qT qS qJ qY : Nat) (ng : Int32) (gR : Nat → Int32) (gW : Nat → Int32) (gT : Nat → Int32) (gS : Nat → Int32) (gJ : Nat → Int32) (gY : Nat → Int32) (guest : Int32) : MTa l D cy yX0_has wsX0_has 0 0 0 0 [(qg, .inr (0, [.ref qR, .ref qW, .ref qT, .ref qS, .ref qJ, .ref qY, .int ng])), (qR, .inl (cy 0, 12, .inl gR)), (qW, .inl (cy 0, 12, .inl gW)), (qT, .inl (cy 0, 12, .inl gT)), (qS, .inl (cy 0, 12, .inl gS)), (qJ, .inl (cy 1, 12, .inl gJ)), (qY, .inl (cy 1, 12, .inl gY))] sz [.ref qg, .int guest] (fun A => QiT D cy (fun (t : Int32) => t) (fun (_ : Int32) => [(qg, .inr (0, [.ref qR, .ref qW, .ref qT, .ref qS, .ref qJ, .ref qY, .int ng])), (qR, .inl (cy 0, 12, .inl gR)), (qW, .inl (cy 0, 12, .inl gW)), (qT, .inl (cy 0, 12, .inl gT)), (qS, .inl (cy 0, 12, .inl gS)), (qJ, .inl (cy 1, 12, .inl gJ)), (qY, .inl (cy 1, 12, .inl gY))]) (F_X0_has ng guest) A) := by
  refine ofWT (cc := cX0_has) (maxL := 2) (ret := (some .boolean)) (own := RX0) (by decide) rfl (Nat.le_of_ble_eq_true rfl) rfl ?_
  intro p e s m args below meth c A ls hx hb hr hml hts hown hlocks hin hN hK hP hD hA hl
  have hS : va_S A s.heap s.heap [] := va_S.rf
  have hl : lv_has ls 2 [(0, .ref qg), (1, .int guest)] := hl
  have hin0 : ∀ w ∈ u_ws RX0 TX0 7, w ∈ wsX0_has := (fun w h => List.mem_cons_of_mem _ (List.mem_append_right _ h))
  generalize hQ : MQ below ((fun A => QiT D cy (fun (t : Int32) => t) (fun (_ : Int32) => [(qg, .inr (0, [.ref qR, .ref qW, .ref qT, .ref qS, .ref qJ, .ref qY, .int ng])), (qR, .inl (cy 0, 12, .inl gR)), (qW, .inl (cy 0, 12, .inl gW)), (qT, .inl (cy 0, 12, .inl gT)), (qS, .inl (cy 0, 12, .inl gS)), (qJ, .inl (cy 1, 12, .inl gJ)), (qY, .inl (cy 1, 12, .inl gY))]) (F_X0_has ng guest) A) A) args s 0 0 A = Q
  refine lv_iload_n hx hb dX0_has_0 rfl (lv_at hl 1 rfl) ?_
  refine lv_if_lt (tgt := 22) hx hb dX0_has_1 (by decide) (fun c1 => ?_) (fun c1 => ?_)
  · refine lv_iconst (v := 0) hx hb dX0_has_22 (by decide) ?_
    subst hQ
    exact en_z (tv := 0) hx hb hr hlocks (by rw [F_X0_has, if_pos c1]) rfl hK hP hD hS (Nat.le_refl _) (Nat.le_refl _) (by decide) dX0_has_23
  · refine lv_iload_n hx hb dX0_has_4 rfl (lv_at hl 1 rfl) ?_
    refine lv_aload_n hx hb dX0_has_5 rfl (lv_at hl 0 rfl) ?_
    refine va_get (D := D) (ci := 0) (v := .int ng) (C := RX0) (T := TX0) (N := 7) hx hb hts hin0 hown hK hP 0 rfl rfl 6 (by decide) (hts (.fieldLink RX0 31 "FireflyInn$Guests" "many" "I") (List.mem_of_getElem? (i := 1) rfl)) (fun _ h9 => h9) rfl dX0_has_6 ?_
    refine lv_icmp_ge (tgt := 22) hx hb dX0_has_9 (by decide) (fun c9 => ?_) (fun c9 => ?_)
    · refine lv_iconst (v := 0) hx hb dX0_has_22 (by decide) ?_
      subst hQ
      exact en_z (tv := 0) hx hb hr hlocks (by rw [F_X0_has, if_neg c1, if_pos c9]) rfl hK hP hD hS (Nat.le_refl _) (Nat.le_refl _) (by decide) dX0_has_23
    · refine lv_iload_n hx hb dX0_has_12 rfl (lv_at hl 1 rfl) ?_
      refine lv_bipush (v := 12) hx hb dX0_has_13 (by decide) ?_
      refine lv_icmp_ge (tgt := 22) hx hb dX0_has_15 (by decide) (fun c15 => ?_) (fun c15 => ?_)
      · refine lv_iconst (v := 0) hx hb dX0_has_22 (by decide) ?_
        subst hQ
        exact en_z (tv := 0) hx hb hr hlocks (by rw [F_X0_has, if_neg c1, if_neg c9, if_pos c15]) rfl hK hP hD hS (Nat.le_refl _) (Nat.le_refl _) (by decide) dX0_has_23
      · refine lv_iconst (v := 1) hx hb dX0_has_18 (by decide) ?_
        refine lv_goto (tgt := 23) hx hb dX0_has_19 (by decide) ?_
        subst hQ
        exact en_z (tv := 1) hx hb hr hlocks (by rw [F_X0_has, if_neg c1, if_neg c9, if_neg c15]) rfl hK hP hD hS (Nat.le_refl _) (Nat.le_refl _) (by decide) dX0_has_23

theorem has0_in {ng guest : Int32} (h : ¬ F_X0_has ng guest = 0) : vp_in guest 12 := by
  unfold F_X0_has at h
  split at h
  · exact absurd rfl h
  split at h
  · exact absurd rfl h
  split at h
  · exact absurd rfl h
  rename_i c1 c2 c3
  obtain ⟨a, ha, rfl⟩ := i_nat (n := 12) c1 (by rw [i_le] at c3; have : (12 : Int32).toInt = 12 := rfl; omega)
  exact vp_in_nI ha (by omega)

def F_X0_add (ng : Int32) (gR : Nat → Int32) (gW : Nat → Int32) (gJ : Nat → Int32) (gY : Nat → Int32) (room : Int32) (whisper : Int32) (jar : Int32) : Int32 × Int32 × (Nat → Int32) × (Nat → Int32) × (Nat → Int32) × (Nat → Int32) :=
  if ng < 0 then
    (ng, ng, gR, gW, gJ, gY)
  else
    if 12 ≤ ng then
      (ng, ng, gR, gW, gJ, gY)
    else
      (ng, (ng + 1), (upd gR (ng : Int32).toNatClampNeg room), (upd gW (ng : Int32).toNatClampNeg whisper), (upd gJ (ng : Int32).toNatClampNeg (vp_nar .boolean jar)), (upd gY (ng : Int32).toNatClampNeg (vp_nar .boolean 1)))
set_option maxHeartbeats 4000000 in
set_option maxRecDepth 100000 in
theorem k_X0_add (l : Launch) (D : va_G) (cy : Nat → ClassId) (sz : Nat) (qg qR qW qT qS qJ qY : Nat) (ng : Int32) (gR : Nat → Int32) (gW : Nat → Int32) (gT : Nat → Int32) (gS : Nat → Int32) (gJ : Nat → Int32) (gY : Nat → Int32) (room : Int32) (whisper : Int32) (jar : Int32) : MTa l D cy yX0_add wsX0_add 0 0 0 0 [(qg, .inr (0, [.ref qR, .ref qW, .ref qT, .ref qS, .ref qJ, .ref qY, .int ng])), (qR, .inl (cy 0, 12, .inl gR)), (qW, .inl (cy 0, 12, .inl gW)), (qT, .inl (cy 0, 12, .inl gT)), (qS, .inl (cy 0, 12, .inl gS)), (qJ, .inl (cy 1, 12, .inl gJ)), (qY, .inl (cy 1, 12, .inl gY))] sz [.ref qg, .int room, .int whisper, .int jar] (fun A => QiT D cy (fun (t : Int32 × Int32 × (Nat → Int32) × (Nat → Int32) × (Nat → Int32) × (Nat → Int32)) => t.1) (fun (t : Int32 × Int32 × (Nat → Int32) × (Nat → Int32) × (Nat → Int32) × (Nat → Int32)) => [(qg, .inr (0, [.ref qR, .ref qW, .ref qT, .ref qS, .ref qJ, .ref qY, .int t.2.1])), (qR, .inl (cy 0, 12, .inl t.2.2.1)), (qW, .inl (cy 0, 12, .inl t.2.2.2.1)), (qT, .inl (cy 0, 12, .inl gT)), (qS, .inl (cy 0, 12, .inl gS)), (qJ, .inl (cy 1, 12, .inl t.2.2.2.2.1)), (qY, .inl (cy 1, 12, .inl t.2.2.2.2.2))]) (F_X0_add ng gR gW gJ gY room whisper jar) A) := by
  refine ofWT (cc := cX0_add) (maxL := 5) (ret := (some .int)) (own := RX0) (by decide) rfl (Nat.le_of_ble_eq_true rfl) rfl ?_
  intro p e s m args below meth c A ls hx hb hr hml hts hown hlocks hin hN hK hP hD hA hl
  have hS : va_S A s.heap s.heap [] := va_S.rf
  have hl : lv_has ls 5 [(0, .ref qg), (1, .int room), (2, .int whisper), (3, .int jar)] := hl
  have hin0 : ∀ w ∈ u_ws RX0 TX0 7, w ∈ wsX0_add := (fun w h => List.mem_cons_of_mem _ (List.mem_append_right _ h))
  generalize hQ : MQ below ((fun A => QiT D cy (fun (t : Int32 × Int32 × (Nat → Int32) × (Nat → Int32) × (Nat → Int32) × (Nat → Int32)) => t.1) (fun (t : Int32 × Int32 × (Nat → Int32) × (Nat → Int32) × (Nat → Int32) × (Nat → Int32)) => [(qg, .inr (0, [.ref qR, .ref qW, .ref qT, .ref qS, .ref qJ, .ref qY, .int t.2.1])), (qR, .inl (cy 0, 12, .inl t.2.2.1)), (qW, .inl (cy 0, 12, .inl t.2.2.2.1)), (qT, .inl (cy 0, 12, .inl gT)), (qS, .inl (cy 0, 12, .inl gS)), (qJ, .inl (cy 1, 12, .inl t.2.2.2.2.1)), (qY, .inl (cy 1, 12, .inl t.2.2.2.2.2))]) (F_X0_add ng gR gW gJ gY room whisper jar) A) A) args s 0 0 A = Q
  refine lv_aload_n hx hb dX0_add_0 rfl (lv_at hl 0 rfl) ?_
  refine va_get (D := D) (ci := 0) (v := .int ng) (C := RX0) (T := TX0) (N := 7) hx hb hts hin0 hown hK hP 0 rfl rfl 6 (by decide) (hts (.fieldLink RX0 31 "FireflyInn$Guests" "many" "I") (List.mem_of_getElem? (i := 1) rfl)) (fun _ h9 => h9) rfl dX0_add_1 ?_
  refine lv_istore (lv' := [(4, .int ng), (0, .ref qg), (1, .int room), (2, .int whisper), (3, .int jar)]) hx hb dX0_add_4 hl (by decide) rfl (fun ls hl => ?_)
  refine lv_iload hx hb dX0_add_6 (lv_at hl 0 rfl) ?_
  refine lv_if_lt (tgt := 58) hx hb dX0_add_8 (by decide) (fun c8 => ?_) (fun c8 => ?_)
  · refine lv_iload hx hb dX0_add_58 (lv_at hl 0 rfl) ?_
    subst hQ
    exact en_i (tv := (ng, ng, gR, gW, gJ, gY)) hx hb hr hlocks (by rw [F_X0_add, if_pos c8]) rfl hK hP hD hS (Nat.le_refl _) (Nat.le_refl _) dX0_add_60
  · refine lv_iload hx hb dX0_add_11 (lv_at hl 0 rfl) ?_
    refine lv_bipush (v := 12) hx hb dX0_add_13 (by decide) ?_
    refine lv_icmp_ge (tgt := 58) hx hb dX0_add_15 (by decide) (fun c15 => ?_) (fun c15 => ?_)
    · refine lv_iload hx hb dX0_add_58 (lv_at hl 0 rfl) ?_
      subst hQ
      exact en_i (tv := (ng, ng, gR, gW, gJ, gY)) hx hb hr hlocks (by rw [F_X0_add, if_neg c8, if_pos c15]) rfl hK hP hD hS (Nat.le_refl _) (Nat.le_refl _) dX0_add_60
    · refine lv_aload_n hx hb dX0_add_18 rfl (lv_at hl 1 rfl) ?_
      refine va_get (D := D) (ci := 0) (v := .ref qR) (C := RX0) (T := TX0) (N := 7) hx hb hts hin0 hown hK hP 0 rfl rfl 0 (by decide) (hts (.fieldLink RX0 9 "FireflyInn$Guests" "rooms" "[I") (List.mem_of_getElem? (i := 2) rfl)) (fun _ h9 => h9) rfl dX0_add_19 ?_
      refine lv_iload hx hb dX0_add_22 (lv_at hl 0 rfl) ?_
      refine lv_iload_n hx hb dX0_add_24 rfl (lv_at hl 2 rfl) ?_
      refine va_iast hx hb hK hP hD hS 1 0 rfl rfl (rng_in (M := 12) rfl c8 c15 (by decide)) dX0_add_25 (fun H locs hP hD hS => ?_)
      have hP : va_P D vwCl [(qg, .inr (0, [.ref qR, .ref qW, .ref qT, .ref qS, .ref qJ, .ref qY, .int ng])), (qR, .inl (cy 0, 12, .inl (upd gR (ng : Int32).toNatClampNeg room))), (qW, .inl (cy 0, 12, .inl gW)), (qT, .inl (cy 0, 12, .inl gT)), (qS, .inl (cy 0, 12, .inl gS)), (qJ, .inl (cy 1, 12, .inl gJ)), (qY, .inl (cy 1, 12, .inl gY))] H := hP
      have hD : va_D A [(qg, .inr (0, [.ref qR, .ref qW, .ref qT, .ref qS, .ref qJ, .ref qY, .int ng])), (qR, .inl (cy 0, 12, .inl (upd gR (ng : Int32).toNatClampNeg room))), (qW, .inl (cy 0, 12, .inl gW)), (qT, .inl (cy 0, 12, .inl gT)), (qS, .inl (cy 0, 12, .inl gS)), (qJ, .inl (cy 1, 12, .inl gJ)), (qY, .inl (cy 1, 12, .inl gY))] := hD
      refine lv_aload_n hx hb dX0_add_26 rfl (lv_at hl 1 rfl) ?_
      refine va_get (D := D) (ci := 0) (v := .ref qW) (C := RX0) (T := TX0) (N := 7) hx hb hts hin0 hown hK hP 0 rfl rfl 1 (by decide) (hts (.fieldLink RX0 15 "FireflyInn$Guests" "whispers" "[I") (List.mem_of_getElem? (i := 3) rfl)) (fun _ h9 => h9) rfl dX0_add_27 ?_
      refine lv_iload hx hb dX0_add_30 (lv_at hl 0 rfl) ?_
      refine lv_iload_n hx hb dX0_add_32 rfl (lv_at hl 3 rfl) ?_
      refine va_iast hx hb hK hP hD hS 2 0 rfl rfl (rng_in (M := 12) rfl c8 c15 (by decide)) dX0_add_33 (fun H locs hP hD hS => ?_)
      have hP : va_P D vwCl [(qg, .inr (0, [.ref qR, .ref qW, .ref qT, .ref qS, .ref qJ, .ref qY, .int ng])), (qR, .inl (cy 0, 12, .inl (upd gR (ng : Int32).toNatClampNeg room))), (qW, .inl (cy 0, 12, .inl (upd gW (ng : Int32).toNatClampNeg whisper))), (qT, .inl (cy 0, 12, .inl gT)), (qS, .inl (cy 0, 12, .inl gS)), (qJ, .inl (cy 1, 12, .inl gJ)), (qY, .inl (cy 1, 12, .inl gY))] H := hP
      have hD : va_D A [(qg, .inr (0, [.ref qR, .ref qW, .ref qT, .ref qS, .ref qJ, .ref qY, .int ng])), (qR, .inl (cy 0, 12, .inl (upd gR (ng : Int32).toNatClampNeg room))), (qW, .inl (cy 0, 12, .inl (upd gW (ng : Int32).toNatClampNeg whisper))), (qT, .inl (cy 0, 12, .inl gT)), (qS, .inl (cy 0, 12, .inl gS)), (qJ, .inl (cy 1, 12, .inl gJ)), (qY, .inl (cy 1, 12, .inl gY))] := hD
      refine lv_aload_n hx hb dX0_add_34 rfl (lv_at hl 1 rfl) ?_
      refine va_get (D := D) (ci := 0) (v := .ref qJ) (C := RX0) (T := TX0) (N := 7) hx hb hts hin0 hown hK hP 0 rfl rfl 4 (by decide) (hts (.fieldLink RX0 24 "FireflyInn$Guests" "jars" "[Z") (List.mem_of_getElem? (i := 4) rfl)) (fun _ h9 => h9) rfl dX0_add_35 ?_
      refine lv_iload hx hb dX0_add_38 (lv_at hl 0 rfl) ?_
      refine lv_iload_n hx hb dX0_add_40 rfl (lv_at hl 4 rfl) ?_
      refine va_zast hx hb hK hP hD hS 5 1 rfl rfl (rng_in (M := 12) rfl c8 c15 (by decide)) dX0_add_41 (fun H locs hP hD hS => ?_)
      have hP : va_P D vwCl [(qg, .inr (0, [.ref qR, .ref qW, .ref qT, .ref qS, .ref qJ, .ref qY, .int ng])), (qR, .inl (cy 0, 12, .inl (upd gR (ng : Int32).toNatClampNeg room))), (qW, .inl (cy 0, 12, .inl (upd gW (ng : Int32).toNatClampNeg whisper))), (qT, .inl (cy 0, 12, .inl gT)), (qS, .inl (cy 0, 12, .inl gS)), (qJ, .inl (cy 1, 12, .inl (upd gJ (ng : Int32).toNatClampNeg (vp_nar .boolean jar)))), (qY, .inl (cy 1, 12, .inl gY))] H := hP
      have hD : va_D A [(qg, .inr (0, [.ref qR, .ref qW, .ref qT, .ref qS, .ref qJ, .ref qY, .int ng])), (qR, .inl (cy 0, 12, .inl (upd gR (ng : Int32).toNatClampNeg room))), (qW, .inl (cy 0, 12, .inl (upd gW (ng : Int32).toNatClampNeg whisper))), (qT, .inl (cy 0, 12, .inl gT)), (qS, .inl (cy 0, 12, .inl gS)), (qJ, .inl (cy 1, 12, .inl (upd gJ (ng : Int32).toNatClampNeg (vp_nar .boolean jar)))), (qY, .inl (cy 1, 12, .inl gY))] := hD
      refine lv_aload_n hx hb dX0_add_42 rfl (lv_at hl 1 rfl) ?_
      refine va_get (D := D) (ci := 0) (v := .ref qY) (C := RX0) (T := TX0) (N := 7) hx hb hts hin0 hown hK hP 0 rfl rfl 5 (by decide) (hts (.fieldLink RX0 28 "FireflyInn$Guests" "staying" "[Z") (List.mem_of_getElem? (i := 5) rfl)) (fun _ h9 => h9) rfl dX0_add_43 ?_
      refine lv_iload hx hb dX0_add_46 (lv_at hl 0 rfl) ?_
      refine lv_iconst (v := 1) hx hb dX0_add_48 (by decide) ?_
      refine va_zast hx hb hK hP hD hS 6 1 rfl rfl (rng_in (M := 12) rfl c8 c15 (by decide)) dX0_add_49 (fun H locs hP hD hS => ?_)
      have hP : va_P D vwCl [(qg, .inr (0, [.ref qR, .ref qW, .ref qT, .ref qS, .ref qJ, .ref qY, .int ng])), (qR, .inl (cy 0, 12, .inl (upd gR (ng : Int32).toNatClampNeg room))), (qW, .inl (cy 0, 12, .inl (upd gW (ng : Int32).toNatClampNeg whisper))), (qT, .inl (cy 0, 12, .inl gT)), (qS, .inl (cy 0, 12, .inl gS)), (qJ, .inl (cy 1, 12, .inl (upd gJ (ng : Int32).toNatClampNeg (vp_nar .boolean jar)))), (qY, .inl (cy 1, 12, .inl (upd gY (ng : Int32).toNatClampNeg (vp_nar .boolean 1))))] H := hP
      have hD : va_D A [(qg, .inr (0, [.ref qR, .ref qW, .ref qT, .ref qS, .ref qJ, .ref qY, .int ng])), (qR, .inl (cy 0, 12, .inl (upd gR (ng : Int32).toNatClampNeg room))), (qW, .inl (cy 0, 12, .inl (upd gW (ng : Int32).toNatClampNeg whisper))), (qT, .inl (cy 0, 12, .inl gT)), (qS, .inl (cy 0, 12, .inl gS)), (qJ, .inl (cy 1, 12, .inl (upd gJ (ng : Int32).toNatClampNeg (vp_nar .boolean jar)))), (qY, .inl (cy 1, 12, .inl (upd gY (ng : Int32).toNatClampNeg (vp_nar .boolean 1))))] := hD
      refine lv_aload_n hx hb dX0_add_50 rfl (lv_at hl 1 rfl) ?_
      refine lv_iload hx hb dX0_add_51 (lv_at hl 0 rfl) ?_
      refine lv_iconst (v := 1) hx hb dX0_add_53 (by decide) ?_
      refine lv_iadd hx hb dX0_add_54 ?_
      refine va_put (D := D) (ci := 0) (v := .int (ng + 1)) (ty := .int) (C := RX0) (T := TX0) (N := 7) hx hb hts hin0 tyX0 tyX0_ok nmX0 hown hK hP hD hS 0 rfl rfl 6 (by decide) (hts (.fieldLink RX0 31 "FireflyInn$Guests" "many" "I") (List.mem_of_getElem? (i := 1) rfl)) (fun _ h9 => h9) rfl (by decide +kernel) rfl rfl (Nat.le_of_ble_eq_true rfl) dX0_add_55 (fun H locs hP hD hS => ?_)
      have hP : va_P D vwCl [(qg, .inr (0, [.ref qR, .ref qW, .ref qT, .ref qS, .ref qJ, .ref qY, .int (ng + 1)])), (qR, .inl (cy 0, 12, .inl (upd gR (ng : Int32).toNatClampNeg room))), (qW, .inl (cy 0, 12, .inl (upd gW (ng : Int32).toNatClampNeg whisper))), (qT, .inl (cy 0, 12, .inl gT)), (qS, .inl (cy 0, 12, .inl gS)), (qJ, .inl (cy 1, 12, .inl (upd gJ (ng : Int32).toNatClampNeg (vp_nar .boolean jar)))), (qY, .inl (cy 1, 12, .inl (upd gY (ng : Int32).toNatClampNeg (vp_nar .boolean 1))))] H := hP
      have hD : va_D A [(qg, .inr (0, [.ref qR, .ref qW, .ref qT, .ref qS, .ref qJ, .ref qY, .int (ng + 1)])), (qR, .inl (cy 0, 12, .inl (upd gR (ng : Int32).toNatClampNeg room))), (qW, .inl (cy 0, 12, .inl (upd gW (ng : Int32).toNatClampNeg whisper))), (qT, .inl (cy 0, 12, .inl gT)), (qS, .inl (cy 0, 12, .inl gS)), (qJ, .inl (cy 1, 12, .inl (upd gJ (ng : Int32).toNatClampNeg (vp_nar .boolean jar)))), (qY, .inl (cy 1, 12, .inl (upd gY (ng : Int32).toNatClampNeg (vp_nar .boolean 1))))] := hD
      refine lv_iload hx hb dX0_add_58 (lv_at hl 0 rfl) ?_
      subst hQ
      exact en_i (tv := (ng, (ng + 1), (upd gR (ng : Int32).toNatClampNeg room), (upd gW (ng : Int32).toNatClampNeg whisper), (upd gJ (ng : Int32).toNatClampNeg (vp_nar .boolean jar)), (upd gY (ng : Int32).toNatClampNeg (vp_nar .boolean 1)))) hx hb hr hlocks (by rw [F_X0_add, if_neg c8, if_neg c15]) rfl hK hP hD hS (Nat.le_refl _) (Nat.le_refl _) dX0_add_60

def F_X0_isStaying (ng : Int32) (gY : Nat → Int32) (guest : Int32) : Int32 :=
  if (F_X0_has ng guest) = 0 then
    0
  else
    if (gY (guest : Int32).toNatClampNeg) = 0 then
      0
    else
      1
set_option maxHeartbeats 4000000 in
set_option maxRecDepth 100000 in
theorem k_X0_isStaying (l : Launch) (D : va_G) (cy : Nat → ClassId) (sz : Nat) (qg qR qW qT qS qJ qY : Nat) (ng : Int32) (gR : Nat → Int32) (gW : Nat → Int32) (gT : Nat → Int32) (gS : Nat → Int32) (gJ : Nat → Int32) (gY : Nat → Int32) (guest : Int32) : MTa l D cy yX0_isStaying wsX0_isStaying 1 0 0 21 [(qg, .inr (0, [.ref qR, .ref qW, .ref qT, .ref qS, .ref qJ, .ref qY, .int ng])), (qR, .inl (cy 0, 12, .inl gR)), (qW, .inl (cy 0, 12, .inl gW)), (qT, .inl (cy 0, 12, .inl gT)), (qS, .inl (cy 0, 12, .inl gS)), (qJ, .inl (cy 1, 12, .inl gJ)), (qY, .inl (cy 1, 12, .inl gY))] sz [.ref qg, .int guest] (fun A => QiT D cy (fun (t : Int32) => t) (fun (_ : Int32) => [(qg, .inr (0, [.ref qR, .ref qW, .ref qT, .ref qS, .ref qJ, .ref qY, .int ng])), (qR, .inl (cy 0, 12, .inl gR)), (qW, .inl (cy 0, 12, .inl gW)), (qT, .inl (cy 0, 12, .inl gT)), (qS, .inl (cy 0, 12, .inl gS)), (qJ, .inl (cy 1, 12, .inl gJ)), (qY, .inl (cy 1, 12, .inl gY))]) (F_X0_isStaying ng gY guest) A) := by
  refine ofWT (cc := cX0_isStaying) (maxL := 2) (ret := (some .boolean)) (own := RX0) (by decide) rfl (Nat.le_of_ble_eq_true rfl) rfl ?_
  intro p e s m args below meth c A ls hx hb hr hml hts hown hlocks hin hN hK hP hD hA hl
  have hS : va_S A s.heap s.heap [] := va_S.rf
  have hl : lv_has ls 2 [(0, .ref qg), (1, .int guest)] := hl
  have hin0 : ∀ w ∈ u_ws RX0 TX0 7, w ∈ wsX0_isStaying := (fun w h => List.mem_cons_of_mem _ (List.mem_append_right _ h))
  generalize hQ : MQ below ((fun A => QiT D cy (fun (t : Int32) => t) (fun (_ : Int32) => [(qg, .inr (0, [.ref qR, .ref qW, .ref qT, .ref qS, .ref qJ, .ref qY, .int ng])), (qR, .inl (cy 0, 12, .inl gR)), (qW, .inl (cy 0, 12, .inl gW)), (qT, .inl (cy 0, 12, .inl gT)), (qS, .inl (cy 0, 12, .inl gS)), (qJ, .inl (cy 1, 12, .inl gJ)), (qY, .inl (cy 1, 12, .inl gY))]) (F_X0_isStaying ng gY guest) A) A) args s 0 0 A = Q
  refine lv_aload_n hx hb dX0_isStaying_0 rfl (lv_at hl 0 rfl) ?_
  refine lv_iload_n hx hb dX0_isStaying_1 rfl (lv_at hl 1 rfl) ?_
  refine cl_i (wr := []) (w2 := [(qg, .inr (0, [.ref qR, .ref qW, .ref qT, .ref qS, .ref qJ, .ref qY, .int ng])), (qR, .inl (cy 0, 12, .inl gR)), (qW, .inl (cy 0, 12, .inl gW)), (qT, .inl (cy 0, 12, .inl gT)), (qS, .inl (cy 0, 12, .inl gS)), (qJ, .inl (cy 1, 12, .inl gJ)), (qY, .inl (cy 1, 12, .inl gY))]) (rn_V (As := [.int guest]) (rest := []) (ci := 0) (q0 := 0) ⟨hx, hb, hml, hown, hts⟩ (k_X0_has l D cy _ qg qR qW qT qS qJ qY ng gR gW gT gS gJ gY guest) (cwV 1 hts gX0_isStaying_X0_has rfl rfl rfl (by decide +kernel) ⟨Nat.le_of_ble_eq_true rfl, Nat.le_of_ble_eq_true rfl⟩) hN hK hP hD [0, 1, 2, 3, 4, 5, 6] rfl (by decide) rfl rfl rfl rfl hl.1 rfl (Nat.le_of_ble_eq_true rfl) dX0_isStaying_2 ⟨Nat.le_of_ble_eq_true rfl, Nat.le_of_ble_eq_true rfl⟩) hP hD hS hA [0, 1, 2, 3, 4, 5, 6] [] [0, 1, 2, 3, 4, 5, 6] rfl rfl (by decide) (by decide) rfl (by decide) (fun H locs hP hD hS => ?_)
  refine lv_if_eq (tgt := 21) hx hb dX0_isStaying_5 (by decide) (fun c5 => ?_) (fun c5 => ?_)
  · refine lv_iconst (v := 0) hx hb dX0_isStaying_21 (by decide) ?_
    subst hQ
    exact en_z (tv := 0) hx hb hr hlocks (by rw [F_X0_isStaying, if_pos c5]) rfl hK hP hD hS (Nat.le_refl _) (Nat.le_refl _) (by decide) dX0_isStaying_22
  · refine lv_aload_n hx hb dX0_isStaying_8 rfl (lv_at hl 0 rfl) ?_
    refine va_get (D := D) (ci := 0) (v := .ref qY) (C := RX0) (T := TX0) (N := 7) hx hb hts hin0 hown hK hP 0 rfl rfl 5 (by decide) (hts (.fieldLink RX0 28 "FireflyInn$Guests" "staying" "[Z") (List.mem_of_getElem? (i := 1) rfl)) (fun _ h9 => h9) rfl dX0_isStaying_9 ?_
    refine lv_iload_n hx hb dX0_isStaying_12 rfl (lv_at hl 1 rfl) ?_
    refine va_zald hx hb hK hP 6 1 rfl rfl (has0_in c5) dX0_isStaying_13 ?_
    refine lv_if_eq (tgt := 21) hx hb dX0_isStaying_14 (by decide) (fun c14 => ?_) (fun c14 => ?_)
    · refine lv_iconst (v := 0) hx hb dX0_isStaying_21 (by decide) ?_
      subst hQ
      exact en_z (tv := 0) hx hb hr hlocks (by rw [F_X0_isStaying, if_neg c5, if_pos c14]) rfl hK hP hD hS (Nat.le_refl _) (Nat.le_refl _) (by decide) dX0_isStaying_22
    · refine lv_iconst (v := 1) hx hb dX0_isStaying_17 (by decide) ?_
      refine lv_goto (tgt := 22) hx hb dX0_isStaying_18 (by decide) ?_
      subst hQ
      exact en_z (tv := 1) hx hb hr hlocks (by rw [F_X0_isStaying, if_neg c5, if_neg c14]) rfl hK hP hD hS (Nat.le_refl _) (Nat.le_refl _) (by decide) dX0_isStaying_22

def F_X0_hasJar (ng : Int32) (gJ : Nat → Int32) (guest : Int32) : Int32 :=
  if (F_X0_has ng guest) = 0 then
    0
  else
    if (gJ (guest : Int32).toNatClampNeg) = 0 then
      0
    else
      1
set_option maxHeartbeats 4000000 in
set_option maxRecDepth 100000 in
theorem k_X0_hasJar (l : Launch) (D : va_G) (cy : Nat → ClassId) (sz : Nat) (qg qR qW qT qS qJ qY : Nat) (ng : Int32) (gR : Nat → Int32) (gW : Nat → Int32) (gT : Nat → Int32) (gS : Nat → Int32) (gJ : Nat → Int32) (gY : Nat → Int32) (guest : Int32) : MTa l D cy yX0_hasJar wsX0_hasJar 1 0 0 21 [(qg, .inr (0, [.ref qR, .ref qW, .ref qT, .ref qS, .ref qJ, .ref qY, .int ng])), (qR, .inl (cy 0, 12, .inl gR)), (qW, .inl (cy 0, 12, .inl gW)), (qT, .inl (cy 0, 12, .inl gT)), (qS, .inl (cy 0, 12, .inl gS)), (qJ, .inl (cy 1, 12, .inl gJ)), (qY, .inl (cy 1, 12, .inl gY))] sz [.ref qg, .int guest] (fun A => QiT D cy (fun (t : Int32) => t) (fun (_ : Int32) => [(qg, .inr (0, [.ref qR, .ref qW, .ref qT, .ref qS, .ref qJ, .ref qY, .int ng])), (qR, .inl (cy 0, 12, .inl gR)), (qW, .inl (cy 0, 12, .inl gW)), (qT, .inl (cy 0, 12, .inl gT)), (qS, .inl (cy 0, 12, .inl gS)), (qJ, .inl (cy 1, 12, .inl gJ)), (qY, .inl (cy 1, 12, .inl gY))]) (F_X0_hasJar ng gJ guest) A) := by
  refine ofWT (cc := cX0_hasJar) (maxL := 2) (ret := (some .boolean)) (own := RX0) (by decide) rfl (Nat.le_of_ble_eq_true rfl) rfl ?_
  intro p e s m args below meth c A ls hx hb hr hml hts hown hlocks hin hN hK hP hD hA hl
  have hS : va_S A s.heap s.heap [] := va_S.rf
  have hl : lv_has ls 2 [(0, .ref qg), (1, .int guest)] := hl
  have hin0 : ∀ w ∈ u_ws RX0 TX0 7, w ∈ wsX0_hasJar := (fun w h => List.mem_cons_of_mem _ (List.mem_append_right _ h))
  generalize hQ : MQ below ((fun A => QiT D cy (fun (t : Int32) => t) (fun (_ : Int32) => [(qg, .inr (0, [.ref qR, .ref qW, .ref qT, .ref qS, .ref qJ, .ref qY, .int ng])), (qR, .inl (cy 0, 12, .inl gR)), (qW, .inl (cy 0, 12, .inl gW)), (qT, .inl (cy 0, 12, .inl gT)), (qS, .inl (cy 0, 12, .inl gS)), (qJ, .inl (cy 1, 12, .inl gJ)), (qY, .inl (cy 1, 12, .inl gY))]) (F_X0_hasJar ng gJ guest) A) A) args s 0 0 A = Q
  refine lv_aload_n hx hb dX0_hasJar_0 rfl (lv_at hl 0 rfl) ?_
  refine lv_iload_n hx hb dX0_hasJar_1 rfl (lv_at hl 1 rfl) ?_
  refine cl_i (wr := []) (w2 := [(qg, .inr (0, [.ref qR, .ref qW, .ref qT, .ref qS, .ref qJ, .ref qY, .int ng])), (qR, .inl (cy 0, 12, .inl gR)), (qW, .inl (cy 0, 12, .inl gW)), (qT, .inl (cy 0, 12, .inl gT)), (qS, .inl (cy 0, 12, .inl gS)), (qJ, .inl (cy 1, 12, .inl gJ)), (qY, .inl (cy 1, 12, .inl gY))]) (rn_V (As := [.int guest]) (rest := []) (ci := 0) (q0 := 0) ⟨hx, hb, hml, hown, hts⟩ (k_X0_has l D cy _ qg qR qW qT qS qJ qY ng gR gW gT gS gJ gY guest) (cwV 1 hts gX0_hasJar_X0_has rfl rfl rfl (by decide +kernel) ⟨Nat.le_of_ble_eq_true rfl, Nat.le_of_ble_eq_true rfl⟩) hN hK hP hD [0, 1, 2, 3, 4, 5, 6] rfl (by decide) rfl rfl rfl rfl hl.1 rfl (Nat.le_of_ble_eq_true rfl) dX0_hasJar_2 ⟨Nat.le_of_ble_eq_true rfl, Nat.le_of_ble_eq_true rfl⟩) hP hD hS hA [0, 1, 2, 3, 4, 5, 6] [] [0, 1, 2, 3, 4, 5, 6] rfl rfl (by decide) (by decide) rfl (by decide) (fun H locs hP hD hS => ?_)
  refine lv_if_eq (tgt := 21) hx hb dX0_hasJar_5 (by decide) (fun c5 => ?_) (fun c5 => ?_)
  · refine lv_iconst (v := 0) hx hb dX0_hasJar_21 (by decide) ?_
    subst hQ
    exact en_z (tv := 0) hx hb hr hlocks (by rw [F_X0_hasJar, if_pos c5]) rfl hK hP hD hS (Nat.le_refl _) (Nat.le_refl _) (by decide) dX0_hasJar_22
  · refine lv_aload_n hx hb dX0_hasJar_8 rfl (lv_at hl 0 rfl) ?_
    refine va_get (D := D) (ci := 0) (v := .ref qJ) (C := RX0) (T := TX0) (N := 7) hx hb hts hin0 hown hK hP 0 rfl rfl 4 (by decide) (hts (.fieldLink RX0 24 "FireflyInn$Guests" "jars" "[Z") (List.mem_of_getElem? (i := 1) rfl)) (fun _ h9 => h9) rfl dX0_hasJar_9 ?_
    refine lv_iload_n hx hb dX0_hasJar_12 rfl (lv_at hl 1 rfl) ?_
    refine va_zald hx hb hK hP 5 1 rfl rfl (has0_in c5) dX0_hasJar_13 ?_
    refine lv_if_eq (tgt := 21) hx hb dX0_hasJar_14 (by decide) (fun c14 => ?_) (fun c14 => ?_)
    · refine lv_iconst (v := 0) hx hb dX0_hasJar_21 (by decide) ?_
      subst hQ
      exact en_z (tv := 0) hx hb hr hlocks (by rw [F_X0_hasJar, if_neg c5, if_pos c14]) rfl hK hP hD hS (Nat.le_refl _) (Nat.le_refl _) (by decide) dX0_hasJar_22
    · refine lv_iconst (v := 1) hx hb dX0_hasJar_17 (by decide) ?_
      refine lv_goto (tgt := 22) hx hb dX0_hasJar_18 (by decide) ?_
      subst hQ
      exact en_z (tv := 1) hx hb hr hlocks (by rw [F_X0_hasJar, if_neg c5, if_neg c14]) rfl hK hP hD hS (Nat.le_refl _) (Nat.le_refl _) (by decide) dX0_hasJar_22

def F_X0_roomOf (ng : Int32) (gR : Nat → Int32) (guest : Int32) : Int32 :=
  if (F_X0_has ng guest) = 0 then
    (-1)
  else
    (gR (guest : Int32).toNatClampNeg)
set_option maxHeartbeats 4000000 in
set_option maxRecDepth 100000 in
theorem k_X0_roomOf (l : Launch) (D : va_G) (cy : Nat → ClassId) (sz : Nat) (qg qR qW qT qS qJ qY : Nat) (ng : Int32) (gR : Nat → Int32) (gW : Nat → Int32) (gT : Nat → Int32) (gS : Nat → Int32) (gJ : Nat → Int32) (gY : Nat → Int32) (guest : Int32) : MTa l D cy yX0_roomOf wsX0_roomOf 1 0 0 21 [(qg, .inr (0, [.ref qR, .ref qW, .ref qT, .ref qS, .ref qJ, .ref qY, .int ng])), (qR, .inl (cy 0, 12, .inl gR)), (qW, .inl (cy 0, 12, .inl gW)), (qT, .inl (cy 0, 12, .inl gT)), (qS, .inl (cy 0, 12, .inl gS)), (qJ, .inl (cy 1, 12, .inl gJ)), (qY, .inl (cy 1, 12, .inl gY))] sz [.ref qg, .int guest] (fun A => QiT D cy (fun (t : Int32) => t) (fun (_ : Int32) => [(qg, .inr (0, [.ref qR, .ref qW, .ref qT, .ref qS, .ref qJ, .ref qY, .int ng])), (qR, .inl (cy 0, 12, .inl gR)), (qW, .inl (cy 0, 12, .inl gW)), (qT, .inl (cy 0, 12, .inl gT)), (qS, .inl (cy 0, 12, .inl gS)), (qJ, .inl (cy 1, 12, .inl gJ)), (qY, .inl (cy 1, 12, .inl gY))]) (F_X0_roomOf ng gR guest) A) := by
  refine ofWT (cc := cX0_roomOf) (maxL := 2) (ret := (some .int)) (own := RX0) (by decide) rfl (Nat.le_of_ble_eq_true rfl) rfl ?_
  intro p e s m args below meth c A ls hx hb hr hml hts hown hlocks hin hN hK hP hD hA hl
  have hS : va_S A s.heap s.heap [] := va_S.rf
  have hl : lv_has ls 2 [(0, .ref qg), (1, .int guest)] := hl
  have hin0 : ∀ w ∈ u_ws RX0 TX0 7, w ∈ wsX0_roomOf := (fun w h => List.mem_cons_of_mem _ (List.mem_append_right _ h))
  generalize hQ : MQ below ((fun A => QiT D cy (fun (t : Int32) => t) (fun (_ : Int32) => [(qg, .inr (0, [.ref qR, .ref qW, .ref qT, .ref qS, .ref qJ, .ref qY, .int ng])), (qR, .inl (cy 0, 12, .inl gR)), (qW, .inl (cy 0, 12, .inl gW)), (qT, .inl (cy 0, 12, .inl gT)), (qS, .inl (cy 0, 12, .inl gS)), (qJ, .inl (cy 1, 12, .inl gJ)), (qY, .inl (cy 1, 12, .inl gY))]) (F_X0_roomOf ng gR guest) A) A) args s 0 0 A = Q
  refine lv_aload_n hx hb dX0_roomOf_0 rfl (lv_at hl 0 rfl) ?_
  refine lv_iload_n hx hb dX0_roomOf_1 rfl (lv_at hl 1 rfl) ?_
  refine cl_i (wr := []) (w2 := [(qg, .inr (0, [.ref qR, .ref qW, .ref qT, .ref qS, .ref qJ, .ref qY, .int ng])), (qR, .inl (cy 0, 12, .inl gR)), (qW, .inl (cy 0, 12, .inl gW)), (qT, .inl (cy 0, 12, .inl gT)), (qS, .inl (cy 0, 12, .inl gS)), (qJ, .inl (cy 1, 12, .inl gJ)), (qY, .inl (cy 1, 12, .inl gY))]) (rn_V (As := [.int guest]) (rest := []) (ci := 0) (q0 := 0) ⟨hx, hb, hml, hown, hts⟩ (k_X0_has l D cy _ qg qR qW qT qS qJ qY ng gR gW gT gS gJ gY guest) (cwV 1 hts gX0_roomOf_X0_has rfl rfl rfl (by decide +kernel) ⟨Nat.le_of_ble_eq_true rfl, Nat.le_of_ble_eq_true rfl⟩) hN hK hP hD [0, 1, 2, 3, 4, 5, 6] rfl (by decide) rfl rfl rfl rfl hl.1 rfl (Nat.le_of_ble_eq_true rfl) dX0_roomOf_2 ⟨Nat.le_of_ble_eq_true rfl, Nat.le_of_ble_eq_true rfl⟩) hP hD hS hA [0, 1, 2, 3, 4, 5, 6] [] [0, 1, 2, 3, 4, 5, 6] rfl rfl (by decide) (by decide) rfl (by decide) (fun H locs hP hD hS => ?_)
  refine lv_if_eq (tgt := 17) hx hb dX0_roomOf_5 (by decide) (fun c5 => ?_) (fun c5 => ?_)
  · refine lv_iconst (v := (-1)) hx hb dX0_roomOf_17 (by decide) ?_
    subst hQ
    exact en_i (tv := (-1)) hx hb hr hlocks (by rw [F_X0_roomOf, if_pos c5]) rfl hK hP hD hS (Nat.le_refl _) (Nat.le_refl _) dX0_roomOf_18
  · refine lv_aload_n hx hb dX0_roomOf_8 rfl (lv_at hl 0 rfl) ?_
    refine va_get (D := D) (ci := 0) (v := .ref qR) (C := RX0) (T := TX0) (N := 7) hx hb hts hin0 hown hK hP 0 rfl rfl 0 (by decide) (hts (.fieldLink RX0 9 "FireflyInn$Guests" "rooms" "[I") (List.mem_of_getElem? (i := 1) rfl)) (fun _ h9 => h9) rfl dX0_roomOf_9 ?_
    refine lv_iload_n hx hb dX0_roomOf_12 rfl (lv_at hl 1 rfl) ?_
    refine va_iald hx hb hK hP 1 0 rfl rfl (has0_in c5) dX0_roomOf_13 ?_
    refine lv_goto (tgt := 18) hx hb dX0_roomOf_14 (by decide) ?_
    subst hQ
    exact en_i (tv := (gR (guest : Int32).toNatClampNeg)) hx hb hr hlocks (by rw [F_X0_roomOf, if_neg c5]) rfl hK hP hD hS (Nat.le_refl _) (Nat.le_refl _) dX0_roomOf_18

def F_X0_whisperOf (ng : Int32) (gW : Nat → Int32) (guest : Int32) : Int32 :=
  if (F_X0_has ng guest) = 0 then
    0
  else
    (gW (guest : Int32).toNatClampNeg)
set_option maxHeartbeats 4000000 in
set_option maxRecDepth 100000 in
theorem k_X0_whisperOf (l : Launch) (D : va_G) (cy : Nat → ClassId) (sz : Nat) (qg qR qW qT qS qJ qY : Nat) (ng : Int32) (gR : Nat → Int32) (gW : Nat → Int32) (gT : Nat → Int32) (gS : Nat → Int32) (gJ : Nat → Int32) (gY : Nat → Int32) (guest : Int32) : MTa l D cy yX0_whisperOf wsX0_whisperOf 1 0 0 21 [(qg, .inr (0, [.ref qR, .ref qW, .ref qT, .ref qS, .ref qJ, .ref qY, .int ng])), (qR, .inl (cy 0, 12, .inl gR)), (qW, .inl (cy 0, 12, .inl gW)), (qT, .inl (cy 0, 12, .inl gT)), (qS, .inl (cy 0, 12, .inl gS)), (qJ, .inl (cy 1, 12, .inl gJ)), (qY, .inl (cy 1, 12, .inl gY))] sz [.ref qg, .int guest] (fun A => QiT D cy (fun (t : Int32) => t) (fun (_ : Int32) => [(qg, .inr (0, [.ref qR, .ref qW, .ref qT, .ref qS, .ref qJ, .ref qY, .int ng])), (qR, .inl (cy 0, 12, .inl gR)), (qW, .inl (cy 0, 12, .inl gW)), (qT, .inl (cy 0, 12, .inl gT)), (qS, .inl (cy 0, 12, .inl gS)), (qJ, .inl (cy 1, 12, .inl gJ)), (qY, .inl (cy 1, 12, .inl gY))]) (F_X0_whisperOf ng gW guest) A) := by
  refine ofWT (cc := cX0_whisperOf) (maxL := 2) (ret := (some .int)) (own := RX0) (by decide) rfl (Nat.le_of_ble_eq_true rfl) rfl ?_
  intro p e s m args below meth c A ls hx hb hr hml hts hown hlocks hin hN hK hP hD hA hl
  have hS : va_S A s.heap s.heap [] := va_S.rf
  have hl : lv_has ls 2 [(0, .ref qg), (1, .int guest)] := hl
  have hin0 : ∀ w ∈ u_ws RX0 TX0 7, w ∈ wsX0_whisperOf := (fun w h => List.mem_cons_of_mem _ (List.mem_append_right _ h))
  generalize hQ : MQ below ((fun A => QiT D cy (fun (t : Int32) => t) (fun (_ : Int32) => [(qg, .inr (0, [.ref qR, .ref qW, .ref qT, .ref qS, .ref qJ, .ref qY, .int ng])), (qR, .inl (cy 0, 12, .inl gR)), (qW, .inl (cy 0, 12, .inl gW)), (qT, .inl (cy 0, 12, .inl gT)), (qS, .inl (cy 0, 12, .inl gS)), (qJ, .inl (cy 1, 12, .inl gJ)), (qY, .inl (cy 1, 12, .inl gY))]) (F_X0_whisperOf ng gW guest) A) A) args s 0 0 A = Q
  refine lv_aload_n hx hb dX0_whisperOf_0 rfl (lv_at hl 0 rfl) ?_
  refine lv_iload_n hx hb dX0_whisperOf_1 rfl (lv_at hl 1 rfl) ?_
  refine cl_i (wr := []) (w2 := [(qg, .inr (0, [.ref qR, .ref qW, .ref qT, .ref qS, .ref qJ, .ref qY, .int ng])), (qR, .inl (cy 0, 12, .inl gR)), (qW, .inl (cy 0, 12, .inl gW)), (qT, .inl (cy 0, 12, .inl gT)), (qS, .inl (cy 0, 12, .inl gS)), (qJ, .inl (cy 1, 12, .inl gJ)), (qY, .inl (cy 1, 12, .inl gY))]) (rn_V (As := [.int guest]) (rest := []) (ci := 0) (q0 := 0) ⟨hx, hb, hml, hown, hts⟩ (k_X0_has l D cy _ qg qR qW qT qS qJ qY ng gR gW gT gS gJ gY guest) (cwV 1 hts gX0_whisperOf_X0_has rfl rfl rfl (by decide +kernel) ⟨Nat.le_of_ble_eq_true rfl, Nat.le_of_ble_eq_true rfl⟩) hN hK hP hD [0, 1, 2, 3, 4, 5, 6] rfl (by decide) rfl rfl rfl rfl hl.1 rfl (Nat.le_of_ble_eq_true rfl) dX0_whisperOf_2 ⟨Nat.le_of_ble_eq_true rfl, Nat.le_of_ble_eq_true rfl⟩) hP hD hS hA [0, 1, 2, 3, 4, 5, 6] [] [0, 1, 2, 3, 4, 5, 6] rfl rfl (by decide) (by decide) rfl (by decide) (fun H locs hP hD hS => ?_)
  refine lv_if_eq (tgt := 17) hx hb dX0_whisperOf_5 (by decide) (fun c5 => ?_) (fun c5 => ?_)
  · refine lv_iconst (v := 0) hx hb dX0_whisperOf_17 (by decide) ?_
    subst hQ
    exact en_i (tv := 0) hx hb hr hlocks (by rw [F_X0_whisperOf, if_pos c5]) rfl hK hP hD hS (Nat.le_refl _) (Nat.le_refl _) dX0_whisperOf_18
  · refine lv_aload_n hx hb dX0_whisperOf_8 rfl (lv_at hl 0 rfl) ?_
    refine va_get (D := D) (ci := 0) (v := .ref qW) (C := RX0) (T := TX0) (N := 7) hx hb hts hin0 hown hK hP 0 rfl rfl 1 (by decide) (hts (.fieldLink RX0 15 "FireflyInn$Guests" "whispers" "[I") (List.mem_of_getElem? (i := 1) rfl)) (fun _ h9 => h9) rfl dX0_whisperOf_9 ?_
    refine lv_iload_n hx hb dX0_whisperOf_12 rfl (lv_at hl 1 rfl) ?_
    refine va_iald hx hb hK hP 2 0 rfl rfl (has0_in c5) dX0_whisperOf_13 ?_
    refine lv_goto (tgt := 18) hx hb dX0_whisperOf_14 (by decide) ?_
    subst hQ
    exact en_i (tv := (gW (guest : Int32).toNatClampNeg)) hx hb hr hlocks (by rw [F_X0_whisperOf, if_neg c5]) rfl hK hP hD hS (Nat.le_refl _) (Nat.le_refl _) dX0_whisperOf_18

def F_X0_tookOf (ng : Int32) (gT : Nat → Int32) (guest : Int32) : Int32 :=
  if (F_X0_has ng guest) = 0 then
    0
  else
    (gT (guest : Int32).toNatClampNeg)
set_option maxHeartbeats 4000000 in
set_option maxRecDepth 100000 in
theorem k_X0_tookOf (l : Launch) (D : va_G) (cy : Nat → ClassId) (sz : Nat) (qg qR qW qT qS qJ qY : Nat) (ng : Int32) (gR : Nat → Int32) (gW : Nat → Int32) (gT : Nat → Int32) (gS : Nat → Int32) (gJ : Nat → Int32) (gY : Nat → Int32) (guest : Int32) : MTa l D cy yX0_tookOf wsX0_tookOf 1 0 0 21 [(qg, .inr (0, [.ref qR, .ref qW, .ref qT, .ref qS, .ref qJ, .ref qY, .int ng])), (qR, .inl (cy 0, 12, .inl gR)), (qW, .inl (cy 0, 12, .inl gW)), (qT, .inl (cy 0, 12, .inl gT)), (qS, .inl (cy 0, 12, .inl gS)), (qJ, .inl (cy 1, 12, .inl gJ)), (qY, .inl (cy 1, 12, .inl gY))] sz [.ref qg, .int guest] (fun A => QiT D cy (fun (t : Int32) => t) (fun (_ : Int32) => [(qg, .inr (0, [.ref qR, .ref qW, .ref qT, .ref qS, .ref qJ, .ref qY, .int ng])), (qR, .inl (cy 0, 12, .inl gR)), (qW, .inl (cy 0, 12, .inl gW)), (qT, .inl (cy 0, 12, .inl gT)), (qS, .inl (cy 0, 12, .inl gS)), (qJ, .inl (cy 1, 12, .inl gJ)), (qY, .inl (cy 1, 12, .inl gY))]) (F_X0_tookOf ng gT guest) A) := by
  refine ofWT (cc := cX0_tookOf) (maxL := 2) (ret := (some .int)) (own := RX0) (by decide) rfl (Nat.le_of_ble_eq_true rfl) rfl ?_
  intro p e s m args below meth c A ls hx hb hr hml hts hown hlocks hin hN hK hP hD hA hl
  have hS : va_S A s.heap s.heap [] := va_S.rf
  have hl : lv_has ls 2 [(0, .ref qg), (1, .int guest)] := hl
  have hin0 : ∀ w ∈ u_ws RX0 TX0 7, w ∈ wsX0_tookOf := (fun w h => List.mem_cons_of_mem _ (List.mem_append_right _ h))
  generalize hQ : MQ below ((fun A => QiT D cy (fun (t : Int32) => t) (fun (_ : Int32) => [(qg, .inr (0, [.ref qR, .ref qW, .ref qT, .ref qS, .ref qJ, .ref qY, .int ng])), (qR, .inl (cy 0, 12, .inl gR)), (qW, .inl (cy 0, 12, .inl gW)), (qT, .inl (cy 0, 12, .inl gT)), (qS, .inl (cy 0, 12, .inl gS)), (qJ, .inl (cy 1, 12, .inl gJ)), (qY, .inl (cy 1, 12, .inl gY))]) (F_X0_tookOf ng gT guest) A) A) args s 0 0 A = Q
  refine lv_aload_n hx hb dX0_tookOf_0 rfl (lv_at hl 0 rfl) ?_
  refine lv_iload_n hx hb dX0_tookOf_1 rfl (lv_at hl 1 rfl) ?_
  refine cl_i (wr := []) (w2 := [(qg, .inr (0, [.ref qR, .ref qW, .ref qT, .ref qS, .ref qJ, .ref qY, .int ng])), (qR, .inl (cy 0, 12, .inl gR)), (qW, .inl (cy 0, 12, .inl gW)), (qT, .inl (cy 0, 12, .inl gT)), (qS, .inl (cy 0, 12, .inl gS)), (qJ, .inl (cy 1, 12, .inl gJ)), (qY, .inl (cy 1, 12, .inl gY))]) (rn_V (As := [.int guest]) (rest := []) (ci := 0) (q0 := 0) ⟨hx, hb, hml, hown, hts⟩ (k_X0_has l D cy _ qg qR qW qT qS qJ qY ng gR gW gT gS gJ gY guest) (cwV 1 hts gX0_tookOf_X0_has rfl rfl rfl (by decide +kernel) ⟨Nat.le_of_ble_eq_true rfl, Nat.le_of_ble_eq_true rfl⟩) hN hK hP hD [0, 1, 2, 3, 4, 5, 6] rfl (by decide) rfl rfl rfl rfl hl.1 rfl (Nat.le_of_ble_eq_true rfl) dX0_tookOf_2 ⟨Nat.le_of_ble_eq_true rfl, Nat.le_of_ble_eq_true rfl⟩) hP hD hS hA [0, 1, 2, 3, 4, 5, 6] [] [0, 1, 2, 3, 4, 5, 6] rfl rfl (by decide) (by decide) rfl (by decide) (fun H locs hP hD hS => ?_)
  refine lv_if_eq (tgt := 17) hx hb dX0_tookOf_5 (by decide) (fun c5 => ?_) (fun c5 => ?_)
  · refine lv_iconst (v := 0) hx hb dX0_tookOf_17 (by decide) ?_
    subst hQ
    exact en_i (tv := 0) hx hb hr hlocks (by rw [F_X0_tookOf, if_pos c5]) rfl hK hP hD hS (Nat.le_refl _) (Nat.le_refl _) dX0_tookOf_18
  · refine lv_aload_n hx hb dX0_tookOf_8 rfl (lv_at hl 0 rfl) ?_
    refine va_get (D := D) (ci := 0) (v := .ref qT) (C := RX0) (T := TX0) (N := 7) hx hb hts hin0 hown hK hP 0 rfl rfl 2 (by decide) (hts (.fieldLink RX0 18 "FireflyInn$Guests" "took" "[I") (List.mem_of_getElem? (i := 1) rfl)) (fun _ h9 => h9) rfl dX0_tookOf_9 ?_
    refine lv_iload_n hx hb dX0_tookOf_12 rfl (lv_at hl 1 rfl) ?_
    refine va_iald hx hb hK hP 3 0 rfl rfl (has0_in c5) dX0_tookOf_13 ?_
    refine lv_goto (tgt := 18) hx hb dX0_tookOf_14 (by decide) ?_
    subst hQ
    exact en_i (tv := (gT (guest : Int32).toNatClampNeg)) hx hb hr hlocks (by rw [F_X0_tookOf, if_neg c5]) rfl hK hP hD hS (Nat.le_refl _) (Nat.le_refl _) dX0_tookOf_18

def F_X0_sawOf (ng : Int32) (gS : Nat → Int32) (guest : Int32) : Int32 :=
  if (F_X0_has ng guest) = 0 then
    0
  else
    (gS (guest : Int32).toNatClampNeg)
set_option maxHeartbeats 4000000 in
set_option maxRecDepth 100000 in
theorem k_X0_sawOf (l : Launch) (D : va_G) (cy : Nat → ClassId) (sz : Nat) (qg qR qW qT qS qJ qY : Nat) (ng : Int32) (gR : Nat → Int32) (gW : Nat → Int32) (gT : Nat → Int32) (gS : Nat → Int32) (gJ : Nat → Int32) (gY : Nat → Int32) (guest : Int32) : MTa l D cy yX0_sawOf wsX0_sawOf 1 0 0 21 [(qg, .inr (0, [.ref qR, .ref qW, .ref qT, .ref qS, .ref qJ, .ref qY, .int ng])), (qR, .inl (cy 0, 12, .inl gR)), (qW, .inl (cy 0, 12, .inl gW)), (qT, .inl (cy 0, 12, .inl gT)), (qS, .inl (cy 0, 12, .inl gS)), (qJ, .inl (cy 1, 12, .inl gJ)), (qY, .inl (cy 1, 12, .inl gY))] sz [.ref qg, .int guest] (fun A => QiT D cy (fun (t : Int32) => t) (fun (_ : Int32) => [(qg, .inr (0, [.ref qR, .ref qW, .ref qT, .ref qS, .ref qJ, .ref qY, .int ng])), (qR, .inl (cy 0, 12, .inl gR)), (qW, .inl (cy 0, 12, .inl gW)), (qT, .inl (cy 0, 12, .inl gT)), (qS, .inl (cy 0, 12, .inl gS)), (qJ, .inl (cy 1, 12, .inl gJ)), (qY, .inl (cy 1, 12, .inl gY))]) (F_X0_sawOf ng gS guest) A) := by
  refine ofWT (cc := cX0_sawOf) (maxL := 2) (ret := (some .int)) (own := RX0) (by decide) rfl (Nat.le_of_ble_eq_true rfl) rfl ?_
  intro p e s m args below meth c A ls hx hb hr hml hts hown hlocks hin hN hK hP hD hA hl
  have hS : va_S A s.heap s.heap [] := va_S.rf
  have hl : lv_has ls 2 [(0, .ref qg), (1, .int guest)] := hl
  have hin0 : ∀ w ∈ u_ws RX0 TX0 7, w ∈ wsX0_sawOf := (fun w h => List.mem_cons_of_mem _ (List.mem_append_right _ h))
  generalize hQ : MQ below ((fun A => QiT D cy (fun (t : Int32) => t) (fun (_ : Int32) => [(qg, .inr (0, [.ref qR, .ref qW, .ref qT, .ref qS, .ref qJ, .ref qY, .int ng])), (qR, .inl (cy 0, 12, .inl gR)), (qW, .inl (cy 0, 12, .inl gW)), (qT, .inl (cy 0, 12, .inl gT)), (qS, .inl (cy 0, 12, .inl gS)), (qJ, .inl (cy 1, 12, .inl gJ)), (qY, .inl (cy 1, 12, .inl gY))]) (F_X0_sawOf ng gS guest) A) A) args s 0 0 A = Q
  refine lv_aload_n hx hb dX0_sawOf_0 rfl (lv_at hl 0 rfl) ?_
  refine lv_iload_n hx hb dX0_sawOf_1 rfl (lv_at hl 1 rfl) ?_
  refine cl_i (wr := []) (w2 := [(qg, .inr (0, [.ref qR, .ref qW, .ref qT, .ref qS, .ref qJ, .ref qY, .int ng])), (qR, .inl (cy 0, 12, .inl gR)), (qW, .inl (cy 0, 12, .inl gW)), (qT, .inl (cy 0, 12, .inl gT)), (qS, .inl (cy 0, 12, .inl gS)), (qJ, .inl (cy 1, 12, .inl gJ)), (qY, .inl (cy 1, 12, .inl gY))]) (rn_V (As := [.int guest]) (rest := []) (ci := 0) (q0 := 0) ⟨hx, hb, hml, hown, hts⟩ (k_X0_has l D cy _ qg qR qW qT qS qJ qY ng gR gW gT gS gJ gY guest) (cwV 1 hts gX0_sawOf_X0_has rfl rfl rfl (by decide +kernel) ⟨Nat.le_of_ble_eq_true rfl, Nat.le_of_ble_eq_true rfl⟩) hN hK hP hD [0, 1, 2, 3, 4, 5, 6] rfl (by decide) rfl rfl rfl rfl hl.1 rfl (Nat.le_of_ble_eq_true rfl) dX0_sawOf_2 ⟨Nat.le_of_ble_eq_true rfl, Nat.le_of_ble_eq_true rfl⟩) hP hD hS hA [0, 1, 2, 3, 4, 5, 6] [] [0, 1, 2, 3, 4, 5, 6] rfl rfl (by decide) (by decide) rfl (by decide) (fun H locs hP hD hS => ?_)
  refine lv_if_eq (tgt := 17) hx hb dX0_sawOf_5 (by decide) (fun c5 => ?_) (fun c5 => ?_)
  · refine lv_iconst (v := 0) hx hb dX0_sawOf_17 (by decide) ?_
    subst hQ
    exact en_i (tv := 0) hx hb hr hlocks (by rw [F_X0_sawOf, if_pos c5]) rfl hK hP hD hS (Nat.le_refl _) (Nat.le_refl _) dX0_sawOf_18
  · refine lv_aload_n hx hb dX0_sawOf_8 rfl (lv_at hl 0 rfl) ?_
    refine va_get (D := D) (ci := 0) (v := .ref qS) (C := RX0) (T := TX0) (N := 7) hx hb hts hin0 hown hK hP 0 rfl rfl 3 (by decide) (hts (.fieldLink RX0 21 "FireflyInn$Guests" "saw" "[I") (List.mem_of_getElem? (i := 1) rfl)) (fun _ h9 => h9) rfl dX0_sawOf_9 ?_
    refine lv_iload_n hx hb dX0_sawOf_12 rfl (lv_at hl 1 rfl) ?_
    refine va_iald hx hb hK hP 4 0 rfl rfl (has0_in c5) dX0_sawOf_13 ?_
    refine lv_goto (tgt := 18) hx hb dX0_sawOf_14 (by decide) ?_
    subst hQ
    exact en_i (tv := (gS (guest : Int32).toNatClampNeg)) hx hb hr hlocks (by rw [F_X0_sawOf, if_neg c5]) rfl hK hP hD hS (Nat.le_refl _) (Nat.le_refl _) dX0_sawOf_18

def F_X0_setRoom (ng : Int32) (gR : Nat → Int32) (guest : Int32) (room : Int32) : Nat → Int32 :=
  if (F_X0_has ng guest) = 0 then
    gR
  else
    (upd gR (guest : Int32).toNatClampNeg room)
set_option maxHeartbeats 4000000 in
set_option maxRecDepth 100000 in
theorem k_X0_setRoom (l : Launch) (D : va_G) (cy : Nat → ClassId) (sz : Nat) (qg qR qW qT qS qJ qY : Nat) (ng : Int32) (gR : Nat → Int32) (gW : Nat → Int32) (gT : Nat → Int32) (gS : Nat → Int32) (gJ : Nat → Int32) (gY : Nat → Int32) (guest : Int32) (room : Int32) : MTa l D cy yX0_setRoom wsX0_setRoom 1 0 0 21 [(qg, .inr (0, [.ref qR, .ref qW, .ref qT, .ref qS, .ref qJ, .ref qY, .int ng])), (qR, .inl (cy 0, 12, .inl gR)), (qW, .inl (cy 0, 12, .inl gW)), (qT, .inl (cy 0, 12, .inl gT)), (qS, .inl (cy 0, 12, .inl gS)), (qJ, .inl (cy 1, 12, .inl gJ)), (qY, .inl (cy 1, 12, .inl gY))] sz [.ref qg, .int guest, .int room] (fun A => QvT D cy (fun (t : Nat → Int32) => [(qg, .inr (0, [.ref qR, .ref qW, .ref qT, .ref qS, .ref qJ, .ref qY, .int ng])), (qR, .inl (cy 0, 12, .inl t)), (qW, .inl (cy 0, 12, .inl gW)), (qT, .inl (cy 0, 12, .inl gT)), (qS, .inl (cy 0, 12, .inl gS)), (qJ, .inl (cy 1, 12, .inl gJ)), (qY, .inl (cy 1, 12, .inl gY))]) (F_X0_setRoom ng gR guest room) A) := by
  refine ofWT (cc := cX0_setRoom) (maxL := 3) (ret := none) (own := RX0) (by decide) rfl (Nat.le_of_ble_eq_true rfl) rfl ?_
  intro p e s m args below meth c A ls hx hb hr hml hts hown hlocks hin hN hK hP hD hA hl
  have hS : va_S A s.heap s.heap [] := va_S.rf
  have hl : lv_has ls 3 [(0, .ref qg), (1, .int guest), (2, .int room)] := hl
  have hin0 : ∀ w ∈ u_ws RX0 TX0 7, w ∈ wsX0_setRoom := (fun w h => List.mem_cons_of_mem _ (List.mem_append_right _ h))
  generalize hQ : MQ below ((fun A => QvT D cy (fun (t : Nat → Int32) => [(qg, .inr (0, [.ref qR, .ref qW, .ref qT, .ref qS, .ref qJ, .ref qY, .int ng])), (qR, .inl (cy 0, 12, .inl t)), (qW, .inl (cy 0, 12, .inl gW)), (qT, .inl (cy 0, 12, .inl gT)), (qS, .inl (cy 0, 12, .inl gS)), (qJ, .inl (cy 1, 12, .inl gJ)), (qY, .inl (cy 1, 12, .inl gY))]) (F_X0_setRoom ng gR guest room) A) A) args s 0 0 A = Q
  refine lv_aload_n hx hb dX0_setRoom_0 rfl (lv_at hl 0 rfl) ?_
  refine lv_iload_n hx hb dX0_setRoom_1 rfl (lv_at hl 1 rfl) ?_
  refine cl_i (wr := []) (w2 := [(qg, .inr (0, [.ref qR, .ref qW, .ref qT, .ref qS, .ref qJ, .ref qY, .int ng])), (qR, .inl (cy 0, 12, .inl gR)), (qW, .inl (cy 0, 12, .inl gW)), (qT, .inl (cy 0, 12, .inl gT)), (qS, .inl (cy 0, 12, .inl gS)), (qJ, .inl (cy 1, 12, .inl gJ)), (qY, .inl (cy 1, 12, .inl gY))]) (rn_V (As := [.int guest]) (rest := []) (ci := 0) (q0 := 0) ⟨hx, hb, hml, hown, hts⟩ (k_X0_has l D cy _ qg qR qW qT qS qJ qY ng gR gW gT gS gJ gY guest) (cwV 1 hts gX0_setRoom_X0_has rfl rfl rfl (by decide +kernel) ⟨Nat.le_of_ble_eq_true rfl, Nat.le_of_ble_eq_true rfl⟩) hN hK hP hD [0, 1, 2, 3, 4, 5, 6] rfl (by decide) rfl rfl rfl rfl hl.1 rfl (Nat.le_of_ble_eq_true rfl) dX0_setRoom_2 ⟨Nat.le_of_ble_eq_true rfl, Nat.le_of_ble_eq_true rfl⟩) hP hD hS hA [0, 1, 2, 3, 4, 5, 6] [] [0, 1, 2, 3, 4, 5, 6] rfl rfl (by decide) (by decide) rfl (by decide) (fun H locs hP hD hS => ?_)
  refine lv_if_eq (tgt := 15) hx hb dX0_setRoom_5 (by decide) (fun c5 => ?_) (fun c5 => ?_)
  · subst hQ
    exact en_v (tv := gR) hx hb hr hlocks (by rw [F_X0_setRoom, if_pos c5]) hK hP hD hS (Nat.le_refl _) (Nat.le_refl _) dX0_setRoom_15
  · refine lv_aload_n hx hb dX0_setRoom_8 rfl (lv_at hl 0 rfl) ?_
    refine va_get (D := D) (ci := 0) (v := .ref qR) (C := RX0) (T := TX0) (N := 7) hx hb hts hin0 hown hK hP 0 rfl rfl 0 (by decide) (hts (.fieldLink RX0 9 "FireflyInn$Guests" "rooms" "[I") (List.mem_of_getElem? (i := 1) rfl)) (fun _ h9 => h9) rfl dX0_setRoom_9 ?_
    refine lv_iload_n hx hb dX0_setRoom_12 rfl (lv_at hl 1 rfl) ?_
    refine lv_iload_n hx hb dX0_setRoom_13 rfl (lv_at hl 2 rfl) ?_
    refine va_iast hx hb hK hP hD hS 1 0 rfl rfl (has0_in c5) dX0_setRoom_14 (fun H locs hP hD hS => ?_)
    have hP : va_P D vwCl [(qg, .inr (0, [.ref qR, .ref qW, .ref qT, .ref qS, .ref qJ, .ref qY, .int ng])), (qR, .inl (cy 0, 12, .inl (upd gR (guest : Int32).toNatClampNeg room))), (qW, .inl (cy 0, 12, .inl gW)), (qT, .inl (cy 0, 12, .inl gT)), (qS, .inl (cy 0, 12, .inl gS)), (qJ, .inl (cy 1, 12, .inl gJ)), (qY, .inl (cy 1, 12, .inl gY))] H := hP
    have hD : va_D A [(qg, .inr (0, [.ref qR, .ref qW, .ref qT, .ref qS, .ref qJ, .ref qY, .int ng])), (qR, .inl (cy 0, 12, .inl (upd gR (guest : Int32).toNatClampNeg room))), (qW, .inl (cy 0, 12, .inl gW)), (qT, .inl (cy 0, 12, .inl gT)), (qS, .inl (cy 0, 12, .inl gS)), (qJ, .inl (cy 1, 12, .inl gJ)), (qY, .inl (cy 1, 12, .inl gY))] := hD
    subst hQ
    exact en_v (tv := (upd gR (guest : Int32).toNatClampNeg room)) hx hb hr hlocks (by rw [F_X0_setRoom, if_neg c5]) hK hP hD hS (Nat.le_refl _) (Nat.le_refl _) dX0_setRoom_15

def F_X0_setWhisper (ng : Int32) (gW : Nat → Int32) (guest : Int32) (whisper : Int32) : Nat → Int32 :=
  if (F_X0_has ng guest) = 0 then
    gW
  else
    (upd gW (guest : Int32).toNatClampNeg whisper)
set_option maxHeartbeats 4000000 in
set_option maxRecDepth 100000 in
theorem k_X0_setWhisper (l : Launch) (D : va_G) (cy : Nat → ClassId) (sz : Nat) (qg qR qW qT qS qJ qY : Nat) (ng : Int32) (gR : Nat → Int32) (gW : Nat → Int32) (gT : Nat → Int32) (gS : Nat → Int32) (gJ : Nat → Int32) (gY : Nat → Int32) (guest : Int32) (whisper : Int32) : MTa l D cy yX0_setWhisper wsX0_setWhisper 1 0 0 21 [(qg, .inr (0, [.ref qR, .ref qW, .ref qT, .ref qS, .ref qJ, .ref qY, .int ng])), (qR, .inl (cy 0, 12, .inl gR)), (qW, .inl (cy 0, 12, .inl gW)), (qT, .inl (cy 0, 12, .inl gT)), (qS, .inl (cy 0, 12, .inl gS)), (qJ, .inl (cy 1, 12, .inl gJ)), (qY, .inl (cy 1, 12, .inl gY))] sz [.ref qg, .int guest, .int whisper] (fun A => QvT D cy (fun (t : Nat → Int32) => [(qg, .inr (0, [.ref qR, .ref qW, .ref qT, .ref qS, .ref qJ, .ref qY, .int ng])), (qR, .inl (cy 0, 12, .inl gR)), (qW, .inl (cy 0, 12, .inl t)), (qT, .inl (cy 0, 12, .inl gT)), (qS, .inl (cy 0, 12, .inl gS)), (qJ, .inl (cy 1, 12, .inl gJ)), (qY, .inl (cy 1, 12, .inl gY))]) (F_X0_setWhisper ng gW guest whisper) A) := by
  refine ofWT (cc := cX0_setWhisper) (maxL := 3) (ret := none) (own := RX0) (by decide) rfl (Nat.le_of_ble_eq_true rfl) rfl ?_
  intro p e s m args below meth c A ls hx hb hr hml hts hown hlocks hin hN hK hP hD hA hl
  have hS : va_S A s.heap s.heap [] := va_S.rf
  have hl : lv_has ls 3 [(0, .ref qg), (1, .int guest), (2, .int whisper)] := hl
  have hin0 : ∀ w ∈ u_ws RX0 TX0 7, w ∈ wsX0_setWhisper := (fun w h => List.mem_cons_of_mem _ (List.mem_append_right _ h))
  generalize hQ : MQ below ((fun A => QvT D cy (fun (t : Nat → Int32) => [(qg, .inr (0, [.ref qR, .ref qW, .ref qT, .ref qS, .ref qJ, .ref qY, .int ng])), (qR, .inl (cy 0, 12, .inl gR)), (qW, .inl (cy 0, 12, .inl t)), (qT, .inl (cy 0, 12, .inl gT)), (qS, .inl (cy 0, 12, .inl gS)), (qJ, .inl (cy 1, 12, .inl gJ)), (qY, .inl (cy 1, 12, .inl gY))]) (F_X0_setWhisper ng gW guest whisper) A) A) args s 0 0 A = Q
  refine lv_aload_n hx hb dX0_setWhisper_0 rfl (lv_at hl 0 rfl) ?_
  refine lv_iload_n hx hb dX0_setWhisper_1 rfl (lv_at hl 1 rfl) ?_
  refine cl_i (wr := []) (w2 := [(qg, .inr (0, [.ref qR, .ref qW, .ref qT, .ref qS, .ref qJ, .ref qY, .int ng])), (qR, .inl (cy 0, 12, .inl gR)), (qW, .inl (cy 0, 12, .inl gW)), (qT, .inl (cy 0, 12, .inl gT)), (qS, .inl (cy 0, 12, .inl gS)), (qJ, .inl (cy 1, 12, .inl gJ)), (qY, .inl (cy 1, 12, .inl gY))]) (rn_V (As := [.int guest]) (rest := []) (ci := 0) (q0 := 0) ⟨hx, hb, hml, hown, hts⟩ (k_X0_has l D cy _ qg qR qW qT qS qJ qY ng gR gW gT gS gJ gY guest) (cwV 1 hts gX0_setWhisper_X0_has rfl rfl rfl (by decide +kernel) ⟨Nat.le_of_ble_eq_true rfl, Nat.le_of_ble_eq_true rfl⟩) hN hK hP hD [0, 1, 2, 3, 4, 5, 6] rfl (by decide) rfl rfl rfl rfl hl.1 rfl (Nat.le_of_ble_eq_true rfl) dX0_setWhisper_2 ⟨Nat.le_of_ble_eq_true rfl, Nat.le_of_ble_eq_true rfl⟩) hP hD hS hA [0, 1, 2, 3, 4, 5, 6] [] [0, 1, 2, 3, 4, 5, 6] rfl rfl (by decide) (by decide) rfl (by decide) (fun H locs hP hD hS => ?_)
  refine lv_if_eq (tgt := 15) hx hb dX0_setWhisper_5 (by decide) (fun c5 => ?_) (fun c5 => ?_)
  · subst hQ
    exact en_v (tv := gW) hx hb hr hlocks (by rw [F_X0_setWhisper, if_pos c5]) hK hP hD hS (Nat.le_refl _) (Nat.le_refl _) dX0_setWhisper_15
  · refine lv_aload_n hx hb dX0_setWhisper_8 rfl (lv_at hl 0 rfl) ?_
    refine va_get (D := D) (ci := 0) (v := .ref qW) (C := RX0) (T := TX0) (N := 7) hx hb hts hin0 hown hK hP 0 rfl rfl 1 (by decide) (hts (.fieldLink RX0 15 "FireflyInn$Guests" "whispers" "[I") (List.mem_of_getElem? (i := 1) rfl)) (fun _ h9 => h9) rfl dX0_setWhisper_9 ?_
    refine lv_iload_n hx hb dX0_setWhisper_12 rfl (lv_at hl 1 rfl) ?_
    refine lv_iload_n hx hb dX0_setWhisper_13 rfl (lv_at hl 2 rfl) ?_
    refine va_iast hx hb hK hP hD hS 2 0 rfl rfl (has0_in c5) dX0_setWhisper_14 (fun H locs hP hD hS => ?_)
    have hP : va_P D vwCl [(qg, .inr (0, [.ref qR, .ref qW, .ref qT, .ref qS, .ref qJ, .ref qY, .int ng])), (qR, .inl (cy 0, 12, .inl gR)), (qW, .inl (cy 0, 12, .inl (upd gW (guest : Int32).toNatClampNeg whisper))), (qT, .inl (cy 0, 12, .inl gT)), (qS, .inl (cy 0, 12, .inl gS)), (qJ, .inl (cy 1, 12, .inl gJ)), (qY, .inl (cy 1, 12, .inl gY))] H := hP
    have hD : va_D A [(qg, .inr (0, [.ref qR, .ref qW, .ref qT, .ref qS, .ref qJ, .ref qY, .int ng])), (qR, .inl (cy 0, 12, .inl gR)), (qW, .inl (cy 0, 12, .inl (upd gW (guest : Int32).toNatClampNeg whisper))), (qT, .inl (cy 0, 12, .inl gT)), (qS, .inl (cy 0, 12, .inl gS)), (qJ, .inl (cy 1, 12, .inl gJ)), (qY, .inl (cy 1, 12, .inl gY))] := hD
    subst hQ
    exact en_v (tv := (upd gW (guest : Int32).toNatClampNeg whisper)) hx hb hr hlocks (by rw [F_X0_setWhisper, if_neg c5]) hK hP hD hS (Nat.le_refl _) (Nat.le_refl _) dX0_setWhisper_15

def F_X0_sendOff (ng : Int32) (gJ : Nat → Int32) (gY : Nat → Int32) (guest : Int32) : (Nat → Int32) × (Nat → Int32) :=
  if (F_X0_has ng guest) = 0 then
    (gJ, gY)
  else
    ((upd gJ (guest : Int32).toNatClampNeg (vp_nar .boolean 0)), (upd gY (guest : Int32).toNatClampNeg (vp_nar .boolean 0)))
set_option maxHeartbeats 4000000 in
set_option maxRecDepth 100000 in
theorem k_X0_sendOff (l : Launch) (D : va_G) (cy : Nat → ClassId) (sz : Nat) (qg qR qW qT qS qJ qY : Nat) (ng : Int32) (gR : Nat → Int32) (gW : Nat → Int32) (gT : Nat → Int32) (gS : Nat → Int32) (gJ : Nat → Int32) (gY : Nat → Int32) (guest : Int32) : MTa l D cy yX0_sendOff wsX0_sendOff 1 0 0 21 [(qg, .inr (0, [.ref qR, .ref qW, .ref qT, .ref qS, .ref qJ, .ref qY, .int ng])), (qR, .inl (cy 0, 12, .inl gR)), (qW, .inl (cy 0, 12, .inl gW)), (qT, .inl (cy 0, 12, .inl gT)), (qS, .inl (cy 0, 12, .inl gS)), (qJ, .inl (cy 1, 12, .inl gJ)), (qY, .inl (cy 1, 12, .inl gY))] sz [.ref qg, .int guest] (fun A => QvT D cy (fun (t : (Nat → Int32) × (Nat → Int32)) => [(qg, .inr (0, [.ref qR, .ref qW, .ref qT, .ref qS, .ref qJ, .ref qY, .int ng])), (qR, .inl (cy 0, 12, .inl gR)), (qW, .inl (cy 0, 12, .inl gW)), (qT, .inl (cy 0, 12, .inl gT)), (qS, .inl (cy 0, 12, .inl gS)), (qJ, .inl (cy 1, 12, .inl t.1)), (qY, .inl (cy 1, 12, .inl t.2))]) (F_X0_sendOff ng gJ gY guest) A) := by
  refine ofWT (cc := cX0_sendOff) (maxL := 2) (ret := none) (own := RX0) (by decide) rfl (Nat.le_of_ble_eq_true rfl) rfl ?_
  intro p e s m args below meth c A ls hx hb hr hml hts hown hlocks hin hN hK hP hD hA hl
  have hS : va_S A s.heap s.heap [] := va_S.rf
  have hl : lv_has ls 2 [(0, .ref qg), (1, .int guest)] := hl
  have hin0 : ∀ w ∈ u_ws RX0 TX0 7, w ∈ wsX0_sendOff := (fun w h => List.mem_cons_of_mem _ (List.mem_append_right _ h))
  generalize hQ : MQ below ((fun A => QvT D cy (fun (t : (Nat → Int32) × (Nat → Int32)) => [(qg, .inr (0, [.ref qR, .ref qW, .ref qT, .ref qS, .ref qJ, .ref qY, .int ng])), (qR, .inl (cy 0, 12, .inl gR)), (qW, .inl (cy 0, 12, .inl gW)), (qT, .inl (cy 0, 12, .inl gT)), (qS, .inl (cy 0, 12, .inl gS)), (qJ, .inl (cy 1, 12, .inl t.1)), (qY, .inl (cy 1, 12, .inl t.2))]) (F_X0_sendOff ng gJ gY guest) A) A) args s 0 0 A = Q
  refine lv_aload_n hx hb dX0_sendOff_0 rfl (lv_at hl 0 rfl) ?_
  refine lv_iload_n hx hb dX0_sendOff_1 rfl (lv_at hl 1 rfl) ?_
  refine cl_i (wr := []) (w2 := [(qg, .inr (0, [.ref qR, .ref qW, .ref qT, .ref qS, .ref qJ, .ref qY, .int ng])), (qR, .inl (cy 0, 12, .inl gR)), (qW, .inl (cy 0, 12, .inl gW)), (qT, .inl (cy 0, 12, .inl gT)), (qS, .inl (cy 0, 12, .inl gS)), (qJ, .inl (cy 1, 12, .inl gJ)), (qY, .inl (cy 1, 12, .inl gY))]) (rn_V (As := [.int guest]) (rest := []) (ci := 0) (q0 := 0) ⟨hx, hb, hml, hown, hts⟩ (k_X0_has l D cy _ qg qR qW qT qS qJ qY ng gR gW gT gS gJ gY guest) (cwV 1 hts gX0_sendOff_X0_has rfl rfl rfl (by decide +kernel) ⟨Nat.le_of_ble_eq_true rfl, Nat.le_of_ble_eq_true rfl⟩) hN hK hP hD [0, 1, 2, 3, 4, 5, 6] rfl (by decide) rfl rfl rfl rfl hl.1 rfl (Nat.le_of_ble_eq_true rfl) dX0_sendOff_2 ⟨Nat.le_of_ble_eq_true rfl, Nat.le_of_ble_eq_true rfl⟩) hP hD hS hA [0, 1, 2, 3, 4, 5, 6] [] [0, 1, 2, 3, 4, 5, 6] rfl rfl (by decide) (by decide) rfl (by decide) (fun H locs hP hD hS => ?_)
  refine lv_if_eq (tgt := 22) hx hb dX0_sendOff_5 (by decide) (fun c5 => ?_) (fun c5 => ?_)
  · subst hQ
    exact en_v (tv := (gJ, gY)) hx hb hr hlocks (by rw [F_X0_sendOff, if_pos c5]) hK hP hD hS (Nat.le_refl _) (Nat.le_refl _) dX0_sendOff_22
  · refine lv_aload_n hx hb dX0_sendOff_8 rfl (lv_at hl 0 rfl) ?_
    refine va_get (D := D) (ci := 0) (v := .ref qY) (C := RX0) (T := TX0) (N := 7) hx hb hts hin0 hown hK hP 0 rfl rfl 5 (by decide) (hts (.fieldLink RX0 28 "FireflyInn$Guests" "staying" "[Z") (List.mem_of_getElem? (i := 1) rfl)) (fun _ h9 => h9) rfl dX0_sendOff_9 ?_
    refine lv_iload_n hx hb dX0_sendOff_12 rfl (lv_at hl 1 rfl) ?_
    refine lv_iconst (v := 0) hx hb dX0_sendOff_13 (by decide) ?_
    refine va_zast hx hb hK hP hD hS 6 1 rfl rfl (has0_in c5) dX0_sendOff_14 (fun H locs hP hD hS => ?_)
    have hP : va_P D vwCl [(qg, .inr (0, [.ref qR, .ref qW, .ref qT, .ref qS, .ref qJ, .ref qY, .int ng])), (qR, .inl (cy 0, 12, .inl gR)), (qW, .inl (cy 0, 12, .inl gW)), (qT, .inl (cy 0, 12, .inl gT)), (qS, .inl (cy 0, 12, .inl gS)), (qJ, .inl (cy 1, 12, .inl gJ)), (qY, .inl (cy 1, 12, .inl (upd gY (guest : Int32).toNatClampNeg (vp_nar .boolean 0))))] H := hP
    have hD : va_D A [(qg, .inr (0, [.ref qR, .ref qW, .ref qT, .ref qS, .ref qJ, .ref qY, .int ng])), (qR, .inl (cy 0, 12, .inl gR)), (qW, .inl (cy 0, 12, .inl gW)), (qT, .inl (cy 0, 12, .inl gT)), (qS, .inl (cy 0, 12, .inl gS)), (qJ, .inl (cy 1, 12, .inl gJ)), (qY, .inl (cy 1, 12, .inl (upd gY (guest : Int32).toNatClampNeg (vp_nar .boolean 0))))] := hD
    refine lv_aload_n hx hb dX0_sendOff_15 rfl (lv_at hl 0 rfl) ?_
    refine va_get (D := D) (ci := 0) (v := .ref qJ) (C := RX0) (T := TX0) (N := 7) hx hb hts hin0 hown hK hP 0 rfl rfl 4 (by decide) (hts (.fieldLink RX0 24 "FireflyInn$Guests" "jars" "[Z") (List.mem_of_getElem? (i := 2) rfl)) (fun _ h9 => h9) rfl dX0_sendOff_16 ?_
    refine lv_iload_n hx hb dX0_sendOff_19 rfl (lv_at hl 1 rfl) ?_
    refine lv_iconst (v := 0) hx hb dX0_sendOff_20 (by decide) ?_
    refine va_zast hx hb hK hP hD hS 5 1 rfl rfl (has0_in c5) dX0_sendOff_21 (fun H locs hP hD hS => ?_)
    have hP : va_P D vwCl [(qg, .inr (0, [.ref qR, .ref qW, .ref qT, .ref qS, .ref qJ, .ref qY, .int ng])), (qR, .inl (cy 0, 12, .inl gR)), (qW, .inl (cy 0, 12, .inl gW)), (qT, .inl (cy 0, 12, .inl gT)), (qS, .inl (cy 0, 12, .inl gS)), (qJ, .inl (cy 1, 12, .inl (upd gJ (guest : Int32).toNatClampNeg (vp_nar .boolean 0)))), (qY, .inl (cy 1, 12, .inl (upd gY (guest : Int32).toNatClampNeg (vp_nar .boolean 0))))] H := hP
    have hD : va_D A [(qg, .inr (0, [.ref qR, .ref qW, .ref qT, .ref qS, .ref qJ, .ref qY, .int ng])), (qR, .inl (cy 0, 12, .inl gR)), (qW, .inl (cy 0, 12, .inl gW)), (qT, .inl (cy 0, 12, .inl gT)), (qS, .inl (cy 0, 12, .inl gS)), (qJ, .inl (cy 1, 12, .inl (upd gJ (guest : Int32).toNatClampNeg (vp_nar .boolean 0)))), (qY, .inl (cy 1, 12, .inl (upd gY (guest : Int32).toNatClampNeg (vp_nar .boolean 0))))] := hD
    subst hQ
    exact en_v (tv := ((upd gJ (guest : Int32).toNatClampNeg (vp_nar .boolean 0)), (upd gY (guest : Int32).toNatClampNeg (vp_nar .boolean 0)))) hx hb hr hlocks (by rw [F_X0_sendOff, if_neg c5]) hK hP hD hS (Nat.le_refl _) (Nat.le_refl _) dX0_sendOff_22

def F_X0_addSeen (ng : Int32) (gS : Nat → Int32) (guest : Int32) (seen : Int32) : Nat → Int32 :=
  if (F_X0_has ng guest) = 0 then
    gS
  else
    (upd gS (guest : Int32).toNatClampNeg ((gS (guest : Int32).toNatClampNeg) + seen))
set_option maxHeartbeats 4000000 in
set_option maxRecDepth 100000 in
theorem k_X0_addSeen (l : Launch) (D : va_G) (cy : Nat → ClassId) (sz : Nat) (qg qR qW qT qS qJ qY : Nat) (ng : Int32) (gR : Nat → Int32) (gW : Nat → Int32) (gT : Nat → Int32) (gS : Nat → Int32) (gJ : Nat → Int32) (gY : Nat → Int32) (guest : Int32) (seen : Int32) : MTa l D cy yX0_addSeen wsX0_addSeen 1 0 0 21 [(qg, .inr (0, [.ref qR, .ref qW, .ref qT, .ref qS, .ref qJ, .ref qY, .int ng])), (qR, .inl (cy 0, 12, .inl gR)), (qW, .inl (cy 0, 12, .inl gW)), (qT, .inl (cy 0, 12, .inl gT)), (qS, .inl (cy 0, 12, .inl gS)), (qJ, .inl (cy 1, 12, .inl gJ)), (qY, .inl (cy 1, 12, .inl gY))] sz [.ref qg, .int guest, .int seen] (fun A => QvT D cy (fun (t : Nat → Int32) => [(qg, .inr (0, [.ref qR, .ref qW, .ref qT, .ref qS, .ref qJ, .ref qY, .int ng])), (qR, .inl (cy 0, 12, .inl gR)), (qW, .inl (cy 0, 12, .inl gW)), (qT, .inl (cy 0, 12, .inl gT)), (qS, .inl (cy 0, 12, .inl t)), (qJ, .inl (cy 1, 12, .inl gJ)), (qY, .inl (cy 1, 12, .inl gY))]) (F_X0_addSeen ng gS guest seen) A) := by
  refine ofWT (cc := cX0_addSeen) (maxL := 3) (ret := none) (own := RX0) (by decide) rfl (Nat.le_of_ble_eq_true rfl) rfl ?_
  intro p e s m args below meth c A ls hx hb hr hml hts hown hlocks hin hN hK hP hD hA hl
  have hS : va_S A s.heap s.heap [] := va_S.rf
  have hl : lv_has ls 3 [(0, .ref qg), (1, .int guest), (2, .int seen)] := hl
  have hin0 : ∀ w ∈ u_ws RX0 TX0 7, w ∈ wsX0_addSeen := (fun w h => List.mem_cons_of_mem _ (List.mem_append_right _ h))
  generalize hQ : MQ below ((fun A => QvT D cy (fun (t : Nat → Int32) => [(qg, .inr (0, [.ref qR, .ref qW, .ref qT, .ref qS, .ref qJ, .ref qY, .int ng])), (qR, .inl (cy 0, 12, .inl gR)), (qW, .inl (cy 0, 12, .inl gW)), (qT, .inl (cy 0, 12, .inl gT)), (qS, .inl (cy 0, 12, .inl t)), (qJ, .inl (cy 1, 12, .inl gJ)), (qY, .inl (cy 1, 12, .inl gY))]) (F_X0_addSeen ng gS guest seen) A) A) args s 0 0 A = Q
  refine lv_aload_n hx hb dX0_addSeen_0 rfl (lv_at hl 0 rfl) ?_
  refine lv_iload_n hx hb dX0_addSeen_1 rfl (lv_at hl 1 rfl) ?_
  refine cl_i (wr := []) (w2 := [(qg, .inr (0, [.ref qR, .ref qW, .ref qT, .ref qS, .ref qJ, .ref qY, .int ng])), (qR, .inl (cy 0, 12, .inl gR)), (qW, .inl (cy 0, 12, .inl gW)), (qT, .inl (cy 0, 12, .inl gT)), (qS, .inl (cy 0, 12, .inl gS)), (qJ, .inl (cy 1, 12, .inl gJ)), (qY, .inl (cy 1, 12, .inl gY))]) (rn_V (As := [.int guest]) (rest := []) (ci := 0) (q0 := 0) ⟨hx, hb, hml, hown, hts⟩ (k_X0_has l D cy _ qg qR qW qT qS qJ qY ng gR gW gT gS gJ gY guest) (cwV 1 hts gX0_addSeen_X0_has rfl rfl rfl (by decide +kernel) ⟨Nat.le_of_ble_eq_true rfl, Nat.le_of_ble_eq_true rfl⟩) hN hK hP hD [0, 1, 2, 3, 4, 5, 6] rfl (by decide) rfl rfl rfl rfl hl.1 rfl (Nat.le_of_ble_eq_true rfl) dX0_addSeen_2 ⟨Nat.le_of_ble_eq_true rfl, Nat.le_of_ble_eq_true rfl⟩) hP hD hS hA [0, 1, 2, 3, 4, 5, 6] [] [0, 1, 2, 3, 4, 5, 6] rfl rfl (by decide) (by decide) rfl (by decide) (fun H locs hP hD hS => ?_)
  refine lv_if_eq (tgt := 18) hx hb dX0_addSeen_5 (by decide) (fun c5 => ?_) (fun c5 => ?_)
  · subst hQ
    exact en_v (tv := gS) hx hb hr hlocks (by rw [F_X0_addSeen, if_pos c5]) hK hP hD hS (Nat.le_refl _) (Nat.le_refl _) dX0_addSeen_18
  · refine lv_aload_n hx hb dX0_addSeen_8 rfl (lv_at hl 0 rfl) ?_
    refine va_get (D := D) (ci := 0) (v := .ref qS) (C := RX0) (T := TX0) (N := 7) hx hb hts hin0 hown hK hP 0 rfl rfl 3 (by decide) (hts (.fieldLink RX0 21 "FireflyInn$Guests" "saw" "[I") (List.mem_of_getElem? (i := 1) rfl)) (fun _ h9 => h9) rfl dX0_addSeen_9 ?_
    refine lv_iload_n hx hb dX0_addSeen_12 rfl (lv_at hl 1 rfl) ?_
    refine lv_dup2_11 hx hb dX0_addSeen_13 rfl rfl ?_
    refine va_iald hx hb hK hP 4 0 rfl rfl (has0_in c5) dX0_addSeen_14 ?_
    refine lv_iload_n hx hb dX0_addSeen_15 rfl (lv_at hl 2 rfl) ?_
    refine lv_iadd hx hb dX0_addSeen_16 ?_
    refine va_iast hx hb hK hP hD hS 4 0 rfl rfl (has0_in c5) dX0_addSeen_17 (fun H locs hP hD hS => ?_)
    have hP : va_P D vwCl [(qg, .inr (0, [.ref qR, .ref qW, .ref qT, .ref qS, .ref qJ, .ref qY, .int ng])), (qR, .inl (cy 0, 12, .inl gR)), (qW, .inl (cy 0, 12, .inl gW)), (qT, .inl (cy 0, 12, .inl gT)), (qS, .inl (cy 0, 12, .inl (upd gS (guest : Int32).toNatClampNeg ((gS (guest : Int32).toNatClampNeg) + seen)))), (qJ, .inl (cy 1, 12, .inl gJ)), (qY, .inl (cy 1, 12, .inl gY))] H := hP
    have hD : va_D A [(qg, .inr (0, [.ref qR, .ref qW, .ref qT, .ref qS, .ref qJ, .ref qY, .int ng])), (qR, .inl (cy 0, 12, .inl gR)), (qW, .inl (cy 0, 12, .inl gW)), (qT, .inl (cy 0, 12, .inl gT)), (qS, .inl (cy 0, 12, .inl (upd gS (guest : Int32).toNatClampNeg ((gS (guest : Int32).toNatClampNeg) + seen)))), (qJ, .inl (cy 1, 12, .inl gJ)), (qY, .inl (cy 1, 12, .inl gY))] := hD
    subst hQ
    exact en_v (tv := (upd gS (guest : Int32).toNatClampNeg ((gS (guest : Int32).toNatClampNeg) + seen))) hx hb hr hlocks (by rw [F_X0_addSeen, if_neg c5]) hK hP hD hS (Nat.le_refl _) (Nat.le_refl _) dX0_addSeen_18

def F_X0_addTaken (ng : Int32) (gT : Nat → Int32) (guest : Int32) (taken : Int32) : Nat → Int32 :=
  if (F_X0_has ng guest) = 0 then
    gT
  else
    (upd gT (guest : Int32).toNatClampNeg ((gT (guest : Int32).toNatClampNeg) + taken))
set_option maxHeartbeats 4000000 in
set_option maxRecDepth 100000 in
theorem k_X0_addTaken (l : Launch) (D : va_G) (cy : Nat → ClassId) (sz : Nat) (qg qR qW qT qS qJ qY : Nat) (ng : Int32) (gR : Nat → Int32) (gW : Nat → Int32) (gT : Nat → Int32) (gS : Nat → Int32) (gJ : Nat → Int32) (gY : Nat → Int32) (guest : Int32) (taken : Int32) : MTa l D cy yX0_addTaken wsX0_addTaken 1 0 0 21 [(qg, .inr (0, [.ref qR, .ref qW, .ref qT, .ref qS, .ref qJ, .ref qY, .int ng])), (qR, .inl (cy 0, 12, .inl gR)), (qW, .inl (cy 0, 12, .inl gW)), (qT, .inl (cy 0, 12, .inl gT)), (qS, .inl (cy 0, 12, .inl gS)), (qJ, .inl (cy 1, 12, .inl gJ)), (qY, .inl (cy 1, 12, .inl gY))] sz [.ref qg, .int guest, .int taken] (fun A => QvT D cy (fun (t : Nat → Int32) => [(qg, .inr (0, [.ref qR, .ref qW, .ref qT, .ref qS, .ref qJ, .ref qY, .int ng])), (qR, .inl (cy 0, 12, .inl gR)), (qW, .inl (cy 0, 12, .inl gW)), (qT, .inl (cy 0, 12, .inl t)), (qS, .inl (cy 0, 12, .inl gS)), (qJ, .inl (cy 1, 12, .inl gJ)), (qY, .inl (cy 1, 12, .inl gY))]) (F_X0_addTaken ng gT guest taken) A) := by
  refine ofWT (cc := cX0_addTaken) (maxL := 3) (ret := none) (own := RX0) (by decide) rfl (Nat.le_of_ble_eq_true rfl) rfl ?_
  intro p e s m args below meth c A ls hx hb hr hml hts hown hlocks hin hN hK hP hD hA hl
  have hS : va_S A s.heap s.heap [] := va_S.rf
  have hl : lv_has ls 3 [(0, .ref qg), (1, .int guest), (2, .int taken)] := hl
  have hin0 : ∀ w ∈ u_ws RX0 TX0 7, w ∈ wsX0_addTaken := (fun w h => List.mem_cons_of_mem _ (List.mem_append_right _ h))
  generalize hQ : MQ below ((fun A => QvT D cy (fun (t : Nat → Int32) => [(qg, .inr (0, [.ref qR, .ref qW, .ref qT, .ref qS, .ref qJ, .ref qY, .int ng])), (qR, .inl (cy 0, 12, .inl gR)), (qW, .inl (cy 0, 12, .inl gW)), (qT, .inl (cy 0, 12, .inl t)), (qS, .inl (cy 0, 12, .inl gS)), (qJ, .inl (cy 1, 12, .inl gJ)), (qY, .inl (cy 1, 12, .inl gY))]) (F_X0_addTaken ng gT guest taken) A) A) args s 0 0 A = Q
  refine lv_aload_n hx hb dX0_addTaken_0 rfl (lv_at hl 0 rfl) ?_
  refine lv_iload_n hx hb dX0_addTaken_1 rfl (lv_at hl 1 rfl) ?_
  refine cl_i (wr := []) (w2 := [(qg, .inr (0, [.ref qR, .ref qW, .ref qT, .ref qS, .ref qJ, .ref qY, .int ng])), (qR, .inl (cy 0, 12, .inl gR)), (qW, .inl (cy 0, 12, .inl gW)), (qT, .inl (cy 0, 12, .inl gT)), (qS, .inl (cy 0, 12, .inl gS)), (qJ, .inl (cy 1, 12, .inl gJ)), (qY, .inl (cy 1, 12, .inl gY))]) (rn_V (As := [.int guest]) (rest := []) (ci := 0) (q0 := 0) ⟨hx, hb, hml, hown, hts⟩ (k_X0_has l D cy _ qg qR qW qT qS qJ qY ng gR gW gT gS gJ gY guest) (cwV 1 hts gX0_addTaken_X0_has rfl rfl rfl (by decide +kernel) ⟨Nat.le_of_ble_eq_true rfl, Nat.le_of_ble_eq_true rfl⟩) hN hK hP hD [0, 1, 2, 3, 4, 5, 6] rfl (by decide) rfl rfl rfl rfl hl.1 rfl (Nat.le_of_ble_eq_true rfl) dX0_addTaken_2 ⟨Nat.le_of_ble_eq_true rfl, Nat.le_of_ble_eq_true rfl⟩) hP hD hS hA [0, 1, 2, 3, 4, 5, 6] [] [0, 1, 2, 3, 4, 5, 6] rfl rfl (by decide) (by decide) rfl (by decide) (fun H locs hP hD hS => ?_)
  refine lv_if_eq (tgt := 18) hx hb dX0_addTaken_5 (by decide) (fun c5 => ?_) (fun c5 => ?_)
  · subst hQ
    exact en_v (tv := gT) hx hb hr hlocks (by rw [F_X0_addTaken, if_pos c5]) hK hP hD hS (Nat.le_refl _) (Nat.le_refl _) dX0_addTaken_18
  · refine lv_aload_n hx hb dX0_addTaken_8 rfl (lv_at hl 0 rfl) ?_
    refine va_get (D := D) (ci := 0) (v := .ref qT) (C := RX0) (T := TX0) (N := 7) hx hb hts hin0 hown hK hP 0 rfl rfl 2 (by decide) (hts (.fieldLink RX0 18 "FireflyInn$Guests" "took" "[I") (List.mem_of_getElem? (i := 1) rfl)) (fun _ h9 => h9) rfl dX0_addTaken_9 ?_
    refine lv_iload_n hx hb dX0_addTaken_12 rfl (lv_at hl 1 rfl) ?_
    refine lv_dup2_11 hx hb dX0_addTaken_13 rfl rfl ?_
    refine va_iald hx hb hK hP 3 0 rfl rfl (has0_in c5) dX0_addTaken_14 ?_
    refine lv_iload_n hx hb dX0_addTaken_15 rfl (lv_at hl 2 rfl) ?_
    refine lv_iadd hx hb dX0_addTaken_16 ?_
    refine va_iast hx hb hK hP hD hS 3 0 rfl rfl (has0_in c5) dX0_addTaken_17 (fun H locs hP hD hS => ?_)
    have hP : va_P D vwCl [(qg, .inr (0, [.ref qR, .ref qW, .ref qT, .ref qS, .ref qJ, .ref qY, .int ng])), (qR, .inl (cy 0, 12, .inl gR)), (qW, .inl (cy 0, 12, .inl gW)), (qT, .inl (cy 0, 12, .inl (upd gT (guest : Int32).toNatClampNeg ((gT (guest : Int32).toNatClampNeg) + taken)))), (qS, .inl (cy 0, 12, .inl gS)), (qJ, .inl (cy 1, 12, .inl gJ)), (qY, .inl (cy 1, 12, .inl gY))] H := hP
    have hD : va_D A [(qg, .inr (0, [.ref qR, .ref qW, .ref qT, .ref qS, .ref qJ, .ref qY, .int ng])), (qR, .inl (cy 0, 12, .inl gR)), (qW, .inl (cy 0, 12, .inl gW)), (qT, .inl (cy 0, 12, .inl (upd gT (guest : Int32).toNatClampNeg ((gT (guest : Int32).toNatClampNeg) + taken)))), (qS, .inl (cy 0, 12, .inl gS)), (qJ, .inl (cy 1, 12, .inl gJ)), (qY, .inl (cy 1, 12, .inl gY))] := hD
    subst hQ
    exact en_v (tv := (upd gT (guest : Int32).toNatClampNeg ((gT (guest : Int32).toNatClampNeg) + taken))) hx hb hr hlocks (by rw [F_X0_addTaken, if_neg c5]) hK hP hD hS (Nat.le_refl _) (Nat.le_refl _) dX0_addTaken_18

def F_X0_tell (ng : Int32) (gR : Nat → Int32) (gW : Nat → Int32) (gT : Nat → Int32) (gS : Nat → Int32) (gJ : Nat → Int32) (gY : Nat → Int32) (guest : Int32) (what : Int32) : Int32 :=
  if what = 0 then
    (F_X0_roomOf ng gR guest)
  else
    if what = 1 then
      (F_X0_whisperOf ng gW guest)
    else
      if what = 2 then
        if (F_X0_hasJar ng gJ guest) = 0 then
          0
        else
          1
      else
        if what = 3 then
          (F_X0_tookOf ng gT guest)
        else
          if what = 4 then
            (F_X0_sawOf ng gS guest)
          else
            if (F_X0_isStaying ng gY guest) = 0 then
              1
            else
              0
set_option maxHeartbeats 4000000 in
set_option maxRecDepth 100000 in
theorem k_X0_tell (l : Launch) (D : va_G) (cy : Nat → ClassId) (sz : Nat) (qg qR qW qT qS qJ qY : Nat) (ng : Int32) (gR : Nat → Int32) (gW : Nat → Int32) (gT : Nat → Int32) (gS : Nat → Int32) (gJ : Nat → Int32) (gY : Nat → Int32) (guest : Int32) (what : Int32) : MTa l D cy yX0_tell wsX0_tell 2 0 0 42 [(qg, .inr (0, [.ref qR, .ref qW, .ref qT, .ref qS, .ref qJ, .ref qY, .int ng])), (qR, .inl (cy 0, 12, .inl gR)), (qW, .inl (cy 0, 12, .inl gW)), (qT, .inl (cy 0, 12, .inl gT)), (qS, .inl (cy 0, 12, .inl gS)), (qJ, .inl (cy 1, 12, .inl gJ)), (qY, .inl (cy 1, 12, .inl gY))] sz [.ref qg, .int guest, .int what] (fun A => QiT D cy (fun (t : Int32) => t) (fun (_ : Int32) => [(qg, .inr (0, [.ref qR, .ref qW, .ref qT, .ref qS, .ref qJ, .ref qY, .int ng])), (qR, .inl (cy 0, 12, .inl gR)), (qW, .inl (cy 0, 12, .inl gW)), (qT, .inl (cy 0, 12, .inl gT)), (qS, .inl (cy 0, 12, .inl gS)), (qJ, .inl (cy 1, 12, .inl gJ)), (qY, .inl (cy 1, 12, .inl gY))]) (F_X0_tell ng gR gW gT gS gJ gY guest what) A) := by
  refine ofWT (cc := cX0_tell) (maxL := 3) (ret := (some .int)) (own := RX0) (by decide) rfl (Nat.le_of_ble_eq_true rfl) rfl ?_
  intro p e s m args below meth c A ls hx hb hr hml hts hown hlocks hin hN hK hP hD hA hl
  have hS : va_S A s.heap s.heap [] := va_S.rf
  have hl : lv_has ls 3 [(0, .ref qg), (1, .int guest), (2, .int what)] := hl
  generalize hQ : MQ below ((fun A => QiT D cy (fun (t : Int32) => t) (fun (_ : Int32) => [(qg, .inr (0, [.ref qR, .ref qW, .ref qT, .ref qS, .ref qJ, .ref qY, .int ng])), (qR, .inl (cy 0, 12, .inl gR)), (qW, .inl (cy 0, 12, .inl gW)), (qT, .inl (cy 0, 12, .inl gT)), (qS, .inl (cy 0, 12, .inl gS)), (qJ, .inl (cy 1, 12, .inl gJ)), (qY, .inl (cy 1, 12, .inl gY))]) (F_X0_tell ng gR gW gT gS gJ gY guest what) A) A) args s 0 0 A = Q
  refine lv_iload_n hx hb dX0_tell_0 rfl (lv_at hl 2 rfl) ?_
  by_cases c1_0 : what = 0
  · refine lv_tableIn (off := 35) (tgt := 36) hx hb dX0_tell_1 (by rw [c1_0]; decide) (by rw [c1_0]; decide) (by rw [c1_0]; rfl) (by decide) ?_
    refine lv_aload_n hx hb dX0_tell_36 rfl (lv_at hl 0 rfl) ?_
    refine lv_iload_n hx hb dX0_tell_37 rfl (lv_at hl 1 rfl) ?_
    refine cl_i (wr := []) (w2 := [(qg, .inr (0, [.ref qR, .ref qW, .ref qT, .ref qS, .ref qJ, .ref qY, .int ng])), (qR, .inl (cy 0, 12, .inl gR)), (qW, .inl (cy 0, 12, .inl gW)), (qT, .inl (cy 0, 12, .inl gT)), (qS, .inl (cy 0, 12, .inl gS)), (qJ, .inl (cy 1, 12, .inl gJ)), (qY, .inl (cy 1, 12, .inl gY))]) (rn_V (As := [.int guest]) (rest := []) (ci := 0) (q0 := 0) ⟨hx, hb, hml, hown, hts⟩ (k_X0_roomOf l D cy _ qg qR qW qT qS qJ qY ng gR gW gT gS gJ gY guest) (cwV 1 hts gX0_tell_X0_roomOf rfl rfl rfl (by decide +kernel) ⟨Nat.le_of_ble_eq_true rfl, Nat.le_of_ble_eq_true rfl⟩) hN hK hP hD [0, 1, 2, 3, 4, 5, 6] rfl (by decide) rfl rfl rfl rfl hl.1 rfl (Nat.le_of_ble_eq_true rfl) dX0_tell_38 ⟨Nat.le_of_ble_eq_true rfl, Nat.le_of_ble_eq_true rfl⟩) hP hD hS hA [0, 1, 2, 3, 4, 5, 6] [] [0, 1, 2, 3, 4, 5, 6] rfl rfl (by decide) (by decide) rfl (by decide) (fun H locs hP hD hS => ?_)
    subst hQ
    exact en_i (tv := (F_X0_roomOf ng gR guest)) hx hb hr hlocks (by rw [F_X0_tell, if_pos c1_0]) rfl hK hP hD hS (Nat.le_refl _) (Nat.le_refl _) dX0_tell_41
  by_cases c1_1 : what = 1
  · refine lv_tableIn (off := 41) (tgt := 42) hx hb dX0_tell_1 (by rw [c1_1]; decide) (by rw [c1_1]; decide) (by rw [c1_1]; rfl) (by decide) ?_
    refine lv_aload_n hx hb dX0_tell_42 rfl (lv_at hl 0 rfl) ?_
    refine lv_iload_n hx hb dX0_tell_43 rfl (lv_at hl 1 rfl) ?_
    refine cl_i (wr := []) (w2 := [(qg, .inr (0, [.ref qR, .ref qW, .ref qT, .ref qS, .ref qJ, .ref qY, .int ng])), (qR, .inl (cy 0, 12, .inl gR)), (qW, .inl (cy 0, 12, .inl gW)), (qT, .inl (cy 0, 12, .inl gT)), (qS, .inl (cy 0, 12, .inl gS)), (qJ, .inl (cy 1, 12, .inl gJ)), (qY, .inl (cy 1, 12, .inl gY))]) (rn_V (As := [.int guest]) (rest := []) (ci := 0) (q0 := 0) ⟨hx, hb, hml, hown, hts⟩ (k_X0_whisperOf l D cy _ qg qR qW qT qS qJ qY ng gR gW gT gS gJ gY guest) (cwV 1 hts gX0_tell_X0_whisperOf rfl rfl rfl (by decide +kernel) ⟨Nat.le_of_ble_eq_true rfl, Nat.le_of_ble_eq_true rfl⟩) hN hK hP hD [0, 1, 2, 3, 4, 5, 6] rfl (by decide) rfl rfl rfl rfl hl.1 rfl (Nat.le_of_ble_eq_true rfl) dX0_tell_44 ⟨Nat.le_of_ble_eq_true rfl, Nat.le_of_ble_eq_true rfl⟩) hP hD hS hA [0, 1, 2, 3, 4, 5, 6] [] [0, 1, 2, 3, 4, 5, 6] rfl rfl (by decide) (by decide) rfl (by decide) (fun H locs hP hD hS => ?_)
    subst hQ
    exact en_i (tv := (F_X0_whisperOf ng gW guest)) hx hb hr hlocks (by rw [F_X0_tell, if_neg c1_0, if_pos c1_1]) rfl hK hP hD hS (Nat.le_refl _) (Nat.le_refl _) dX0_tell_47
  by_cases c1_2 : what = 2
  · refine lv_tableIn (off := 47) (tgt := 48) hx hb dX0_tell_1 (by rw [c1_2]; decide) (by rw [c1_2]; decide) (by rw [c1_2]; rfl) (by decide) ?_
    refine lv_aload_n hx hb dX0_tell_48 rfl (lv_at hl 0 rfl) ?_
    refine lv_iload_n hx hb dX0_tell_49 rfl (lv_at hl 1 rfl) ?_
    refine cl_i (wr := []) (w2 := [(qg, .inr (0, [.ref qR, .ref qW, .ref qT, .ref qS, .ref qJ, .ref qY, .int ng])), (qR, .inl (cy 0, 12, .inl gR)), (qW, .inl (cy 0, 12, .inl gW)), (qT, .inl (cy 0, 12, .inl gT)), (qS, .inl (cy 0, 12, .inl gS)), (qJ, .inl (cy 1, 12, .inl gJ)), (qY, .inl (cy 1, 12, .inl gY))]) (rn_V (As := [.int guest]) (rest := []) (ci := 0) (q0 := 0) ⟨hx, hb, hml, hown, hts⟩ (k_X0_hasJar l D cy _ qg qR qW qT qS qJ qY ng gR gW gT gS gJ gY guest) (cwV 1 hts gX0_tell_X0_hasJar rfl rfl rfl (by decide +kernel) ⟨Nat.le_of_ble_eq_true rfl, Nat.le_of_ble_eq_true rfl⟩) hN hK hP hD [0, 1, 2, 3, 4, 5, 6] rfl (by decide) rfl rfl rfl rfl hl.1 rfl (Nat.le_of_ble_eq_true rfl) dX0_tell_50 ⟨Nat.le_of_ble_eq_true rfl, Nat.le_of_ble_eq_true rfl⟩) hP hD hS hA [0, 1, 2, 3, 4, 5, 6] [] [0, 1, 2, 3, 4, 5, 6] rfl rfl (by decide) (by decide) rfl (by decide) (fun H locs hP hD hS => ?_)
    refine lv_if_eq (tgt := 60) hx hb dX0_tell_53 (by decide) (fun c53 => ?_) (fun c53 => ?_)
    · refine lv_iconst (v := 0) hx hb dX0_tell_60 (by decide) ?_
      subst hQ
      exact en_i (tv := 0) hx hb hr hlocks (by rw [F_X0_tell, if_neg c1_0, if_neg c1_1, if_pos c1_2, if_pos c53]) rfl hK hP hD hS (Nat.le_refl _) (Nat.le_refl _) dX0_tell_61
    · refine lv_iconst (v := 1) hx hb dX0_tell_56 (by decide) ?_
      refine lv_goto (tgt := 61) hx hb dX0_tell_57 (by decide) ?_
      subst hQ
      exact en_i (tv := 1) hx hb hr hlocks (by rw [F_X0_tell, if_neg c1_0, if_neg c1_1, if_pos c1_2, if_neg c53]) rfl hK hP hD hS (Nat.le_refl _) (Nat.le_refl _) dX0_tell_61
  by_cases c1_3 : what = 3
  · refine lv_tableIn (off := 61) (tgt := 62) hx hb dX0_tell_1 (by rw [c1_3]; decide) (by rw [c1_3]; decide) (by rw [c1_3]; rfl) (by decide) ?_
    refine lv_aload_n hx hb dX0_tell_62 rfl (lv_at hl 0 rfl) ?_
    refine lv_iload_n hx hb dX0_tell_63 rfl (lv_at hl 1 rfl) ?_
    refine cl_i (wr := []) (w2 := [(qg, .inr (0, [.ref qR, .ref qW, .ref qT, .ref qS, .ref qJ, .ref qY, .int ng])), (qR, .inl (cy 0, 12, .inl gR)), (qW, .inl (cy 0, 12, .inl gW)), (qT, .inl (cy 0, 12, .inl gT)), (qS, .inl (cy 0, 12, .inl gS)), (qJ, .inl (cy 1, 12, .inl gJ)), (qY, .inl (cy 1, 12, .inl gY))]) (rn_V (As := [.int guest]) (rest := []) (ci := 0) (q0 := 0) ⟨hx, hb, hml, hown, hts⟩ (k_X0_tookOf l D cy _ qg qR qW qT qS qJ qY ng gR gW gT gS gJ gY guest) (cwV 1 hts gX0_tell_X0_tookOf rfl rfl rfl (by decide +kernel) ⟨Nat.le_of_ble_eq_true rfl, Nat.le_of_ble_eq_true rfl⟩) hN hK hP hD [0, 1, 2, 3, 4, 5, 6] rfl (by decide) rfl rfl rfl rfl hl.1 rfl (Nat.le_of_ble_eq_true rfl) dX0_tell_64 ⟨Nat.le_of_ble_eq_true rfl, Nat.le_of_ble_eq_true rfl⟩) hP hD hS hA [0, 1, 2, 3, 4, 5, 6] [] [0, 1, 2, 3, 4, 5, 6] rfl rfl (by decide) (by decide) rfl (by decide) (fun H locs hP hD hS => ?_)
    subst hQ
    exact en_i (tv := (F_X0_tookOf ng gT guest)) hx hb hr hlocks (by rw [F_X0_tell, if_neg c1_0, if_neg c1_1, if_neg c1_2, if_pos c1_3]) rfl hK hP hD hS (Nat.le_refl _) (Nat.le_refl _) dX0_tell_67
  by_cases c1_4 : what = 4
  · refine lv_tableIn (off := 67) (tgt := 68) hx hb dX0_tell_1 (by rw [c1_4]; decide) (by rw [c1_4]; decide) (by rw [c1_4]; rfl) (by decide) ?_
    refine lv_aload_n hx hb dX0_tell_68 rfl (lv_at hl 0 rfl) ?_
    refine lv_iload_n hx hb dX0_tell_69 rfl (lv_at hl 1 rfl) ?_
    refine cl_i (wr := []) (w2 := [(qg, .inr (0, [.ref qR, .ref qW, .ref qT, .ref qS, .ref qJ, .ref qY, .int ng])), (qR, .inl (cy 0, 12, .inl gR)), (qW, .inl (cy 0, 12, .inl gW)), (qT, .inl (cy 0, 12, .inl gT)), (qS, .inl (cy 0, 12, .inl gS)), (qJ, .inl (cy 1, 12, .inl gJ)), (qY, .inl (cy 1, 12, .inl gY))]) (rn_V (As := [.int guest]) (rest := []) (ci := 0) (q0 := 0) ⟨hx, hb, hml, hown, hts⟩ (k_X0_sawOf l D cy _ qg qR qW qT qS qJ qY ng gR gW gT gS gJ gY guest) (cwV 1 hts gX0_tell_X0_sawOf rfl rfl rfl (by decide +kernel) ⟨Nat.le_of_ble_eq_true rfl, Nat.le_of_ble_eq_true rfl⟩) hN hK hP hD [0, 1, 2, 3, 4, 5, 6] rfl (by decide) rfl rfl rfl rfl hl.1 rfl (Nat.le_of_ble_eq_true rfl) dX0_tell_70 ⟨Nat.le_of_ble_eq_true rfl, Nat.le_of_ble_eq_true rfl⟩) hP hD hS hA [0, 1, 2, 3, 4, 5, 6] [] [0, 1, 2, 3, 4, 5, 6] rfl rfl (by decide) (by decide) rfl (by decide) (fun H locs hP hD hS => ?_)
    subst hQ
    exact en_i (tv := (F_X0_sawOf ng gS guest)) hx hb hr hlocks (by rw [F_X0_tell, if_neg c1_0, if_neg c1_1, if_neg c1_2, if_neg c1_3, if_pos c1_4]) rfl hK hP hD hS (Nat.le_refl _) (Nat.le_refl _) dX0_tell_73
  refine lv_tableOut (tgt := 74) hx hb dX0_tell_1 (by have := lv_neT (a := 0) c1_0 rfl; have := lv_neT (a := 1) c1_1 rfl; have := lv_neT (a := 2) c1_2 rfl; have := lv_neT (a := 3) c1_3 rfl; have := lv_neT (a := 4) c1_4 rfl; omega) (by decide) ?_
  refine lv_aload_n hx hb dX0_tell_74 rfl (lv_at hl 0 rfl) ?_
  refine lv_iload_n hx hb dX0_tell_75 rfl (lv_at hl 1 rfl) ?_
  refine cl_i (wr := []) (w2 := [(qg, .inr (0, [.ref qR, .ref qW, .ref qT, .ref qS, .ref qJ, .ref qY, .int ng])), (qR, .inl (cy 0, 12, .inl gR)), (qW, .inl (cy 0, 12, .inl gW)), (qT, .inl (cy 0, 12, .inl gT)), (qS, .inl (cy 0, 12, .inl gS)), (qJ, .inl (cy 1, 12, .inl gJ)), (qY, .inl (cy 1, 12, .inl gY))]) (rn_V (As := [.int guest]) (rest := []) (ci := 0) (q0 := 0) ⟨hx, hb, hml, hown, hts⟩ (k_X0_isStaying l D cy _ qg qR qW qT qS qJ qY ng gR gW gT gS gJ gY guest) (cwV 1 hts gX0_tell_X0_isStaying rfl rfl rfl (by decide +kernel) ⟨Nat.le_of_ble_eq_true rfl, Nat.le_of_ble_eq_true rfl⟩) hN hK hP hD [0, 1, 2, 3, 4, 5, 6] rfl (by decide) rfl rfl rfl rfl hl.1 rfl (Nat.le_of_ble_eq_true rfl) dX0_tell_76 ⟨Nat.le_of_ble_eq_true rfl, Nat.le_of_ble_eq_true rfl⟩) hP hD hS hA [0, 1, 2, 3, 4, 5, 6] [] [0, 1, 2, 3, 4, 5, 6] rfl rfl (by decide) (by decide) rfl (by decide) (fun H locs hP hD hS => ?_)
  refine lv_if_eq (tgt := 86) hx hb dX0_tell_79 (by decide) (fun c79 => ?_) (fun c79 => ?_)
  · refine lv_iconst (v := 1) hx hb dX0_tell_86 (by decide) ?_
    subst hQ
    exact en_i (tv := 1) hx hb hr hlocks (by rw [F_X0_tell, if_neg c1_0, if_neg c1_1, if_neg c1_2, if_neg c1_3, if_neg c1_4, if_pos c79]) rfl hK hP hD hS (Nat.le_refl _) (Nat.le_refl _) dX0_tell_87
  · refine lv_iconst (v := 0) hx hb dX0_tell_82 (by decide) ?_
    refine lv_goto (tgt := 87) hx hb dX0_tell_83 (by decide) ?_
    subst hQ
    exact en_i (tv := 0) hx hb hr hlocks (by rw [F_X0_tell, if_neg c1_0, if_neg c1_1, if_neg c1_2, if_neg c1_3, if_neg c1_4, if_neg c79]) rfl hK hP hD hS (Nat.le_refl _) (Nat.le_refl _) dX0_tell_87

def F_X0_stayingInAll (gY : Nat → Int32) : Int32 :=
  (F_X4_countTrue gY 12)
set_option maxHeartbeats 4000000 in
set_option maxRecDepth 100000 in
theorem k_X0_stayingInAll (l : Launch) (D : va_G) (cy : Nat → ClassId) (sz : Nat) (qg qR qW qT qS qJ qY : Nat) (ng : Int32) (gR : Nat → Int32) (gW : Nat → Int32) (gT : Nat → Int32) (gS : Nat → Int32) (gJ : Nat → Int32) (gY : Nat → Int32) : MTa l D cy yX0_stayingInAll wsX0_stayingInAll 1 0 0 22 [(qg, .inr (0, [.ref qR, .ref qW, .ref qT, .ref qS, .ref qJ, .ref qY, .int ng])), (qR, .inl (cy 0, 12, .inl gR)), (qW, .inl (cy 0, 12, .inl gW)), (qT, .inl (cy 0, 12, .inl gT)), (qS, .inl (cy 0, 12, .inl gS)), (qJ, .inl (cy 1, 12, .inl gJ)), (qY, .inl (cy 1, 12, .inl gY))] sz [.ref qg] (fun A => QiT D cy (fun (t : Int32) => t) (fun (_ : Int32) => [(qg, .inr (0, [.ref qR, .ref qW, .ref qT, .ref qS, .ref qJ, .ref qY, .int ng])), (qR, .inl (cy 0, 12, .inl gR)), (qW, .inl (cy 0, 12, .inl gW)), (qT, .inl (cy 0, 12, .inl gT)), (qS, .inl (cy 0, 12, .inl gS)), (qJ, .inl (cy 1, 12, .inl gJ)), (qY, .inl (cy 1, 12, .inl gY))]) (F_X0_stayingInAll gY) A) := by
  refine ofWT (cc := cX0_stayingInAll) (maxL := 1) (ret := (some .int)) (own := RX0) (by decide) rfl (Nat.le_of_ble_eq_true rfl) rfl ?_
  intro p e s m args below meth c A ls hx hb hr hml hts hown hlocks hin hN hK hP hD hA hl
  have hS : va_S A s.heap s.heap [] := va_S.rf
  have hl : lv_has ls 1 [(0, .ref qg)] := hl
  have hin0 : ∀ w ∈ u_ws RX0 TX0 7, w ∈ wsX0_stayingInAll := (fun w h => List.mem_cons_of_mem _ (List.mem_append_right _ h))
  generalize hQ : MQ below ((fun A => QiT D cy (fun (t : Int32) => t) (fun (_ : Int32) => [(qg, .inr (0, [.ref qR, .ref qW, .ref qT, .ref qS, .ref qJ, .ref qY, .int ng])), (qR, .inl (cy 0, 12, .inl gR)), (qW, .inl (cy 0, 12, .inl gW)), (qT, .inl (cy 0, 12, .inl gT)), (qS, .inl (cy 0, 12, .inl gS)), (qJ, .inl (cy 1, 12, .inl gJ)), (qY, .inl (cy 1, 12, .inl gY))]) (F_X0_stayingInAll gY) A) A) args s 0 0 A = Q
  refine lv_aload_n hx hb dX0_stayingInAll_0 rfl (lv_at hl 0 rfl) ?_
  refine va_get (D := D) (ci := 0) (v := .ref qY) (C := RX0) (T := TX0) (N := 7) hx hb hts hin0 hown hK hP 0 rfl rfl 5 (by decide) (hts (.fieldLink RX0 28 "FireflyInn$Guests" "staying" "[Z") (List.mem_of_getElem? (i := 1) rfl)) (fun _ h9 => h9) rfl dX0_stayingInAll_1 ?_
  refine cl_i (wr := [(qg, .inr (0, [.ref qR, .ref qW, .ref qT, .ref qS, .ref qJ, .ref qY, .int ng])), (qR, .inl (cy 0, 12, .inl gR)), (qW, .inl (cy 0, 12, .inl gW)), (qT, .inl (cy 0, 12, .inl gT)), (qS, .inl (cy 0, 12, .inl gS)), (qJ, .inl (cy 1, 12, .inl gJ))]) (w2 := [(qg, .inr (0, [.ref qR, .ref qW, .ref qT, .ref qS, .ref qJ, .ref qY, .int ng])), (qR, .inl (cy 0, 12, .inl gR)), (qW, .inl (cy 0, 12, .inl gW)), (qT, .inl (cy 0, 12, .inl gT)), (qS, .inl (cy 0, 12, .inl gS)), (qJ, .inl (cy 1, 12, .inl gJ)), (qY, .inl (cy 1, 12, .inl gY))]) (rn_SN (As := [.ref qY]) (rest := []) ⟨hx, hb, hml, hown, hts⟩ (k_X4_countTrue l D cy _ qY gY 12 (by decide)) ⟨va_cnB 1 hts ggX0_stayingInAll_X4_countTrue rfl rfl rfl (hN.at 11 rfl) (hts (.initialized RX4) (List.mem_of_getElem? (i := 3) rfl)) (by decide +kernel) ⟨Nat.le_of_ble_eq_true rfl, Nat.le_of_ble_eq_true rfl⟩, (hts (.static yX4_countTrue) (List.mem_of_getElem? (i := 2) rfl)), trivial⟩ hN hK hP hD [6] rfl (by decide) rfl hl.1 rfl (Nat.le_of_ble_eq_true rfl) dX0_stayingInAll_4 ⟨Nat.le_of_ble_eq_true rfl, Nat.le_of_ble_eq_true rfl⟩) hP hD hS hA [6] [0, 1, 2, 3, 4, 5] [0, 1, 2, 3, 4, 5, 6] rfl rfl (by decide) (by decide) rfl (by decide) (fun H locs hP hD hS => ?_)
  subst hQ
  exact en_i (tv := (F_X4_countTrue gY 12)) hx hb hr hlocks (by rw [F_X0_stayingInAll]) rfl hK hP hD hS (Nat.le_refl _) (Nat.le_refl _) dX0_stayingInAll_7

def F_X0_jarsInAll (gJ : Nat → Int32) : Int32 :=
  (F_X4_countTrue gJ 12)
set_option maxHeartbeats 4000000 in
set_option maxRecDepth 100000 in
theorem k_X0_jarsInAll (l : Launch) (D : va_G) (cy : Nat → ClassId) (sz : Nat) (qg qR qW qT qS qJ qY : Nat) (ng : Int32) (gR : Nat → Int32) (gW : Nat → Int32) (gT : Nat → Int32) (gS : Nat → Int32) (gJ : Nat → Int32) (gY : Nat → Int32) : MTa l D cy yX0_jarsInAll wsX0_jarsInAll 1 0 0 22 [(qg, .inr (0, [.ref qR, .ref qW, .ref qT, .ref qS, .ref qJ, .ref qY, .int ng])), (qR, .inl (cy 0, 12, .inl gR)), (qW, .inl (cy 0, 12, .inl gW)), (qT, .inl (cy 0, 12, .inl gT)), (qS, .inl (cy 0, 12, .inl gS)), (qJ, .inl (cy 1, 12, .inl gJ)), (qY, .inl (cy 1, 12, .inl gY))] sz [.ref qg] (fun A => QiT D cy (fun (t : Int32) => t) (fun (_ : Int32) => [(qg, .inr (0, [.ref qR, .ref qW, .ref qT, .ref qS, .ref qJ, .ref qY, .int ng])), (qR, .inl (cy 0, 12, .inl gR)), (qW, .inl (cy 0, 12, .inl gW)), (qT, .inl (cy 0, 12, .inl gT)), (qS, .inl (cy 0, 12, .inl gS)), (qJ, .inl (cy 1, 12, .inl gJ)), (qY, .inl (cy 1, 12, .inl gY))]) (F_X0_jarsInAll gJ) A) := by
  refine ofWT (cc := cX0_jarsInAll) (maxL := 1) (ret := (some .int)) (own := RX0) (by decide) rfl (Nat.le_of_ble_eq_true rfl) rfl ?_
  intro p e s m args below meth c A ls hx hb hr hml hts hown hlocks hin hN hK hP hD hA hl
  have hS : va_S A s.heap s.heap [] := va_S.rf
  have hl : lv_has ls 1 [(0, .ref qg)] := hl
  have hin0 : ∀ w ∈ u_ws RX0 TX0 7, w ∈ wsX0_jarsInAll := (fun w h => List.mem_cons_of_mem _ (List.mem_append_right _ h))
  generalize hQ : MQ below ((fun A => QiT D cy (fun (t : Int32) => t) (fun (_ : Int32) => [(qg, .inr (0, [.ref qR, .ref qW, .ref qT, .ref qS, .ref qJ, .ref qY, .int ng])), (qR, .inl (cy 0, 12, .inl gR)), (qW, .inl (cy 0, 12, .inl gW)), (qT, .inl (cy 0, 12, .inl gT)), (qS, .inl (cy 0, 12, .inl gS)), (qJ, .inl (cy 1, 12, .inl gJ)), (qY, .inl (cy 1, 12, .inl gY))]) (F_X0_jarsInAll gJ) A) A) args s 0 0 A = Q
  refine lv_aload_n hx hb dX0_jarsInAll_0 rfl (lv_at hl 0 rfl) ?_
  refine va_get (D := D) (ci := 0) (v := .ref qJ) (C := RX0) (T := TX0) (N := 7) hx hb hts hin0 hown hK hP 0 rfl rfl 4 (by decide) (hts (.fieldLink RX0 24 "FireflyInn$Guests" "jars" "[Z") (List.mem_of_getElem? (i := 1) rfl)) (fun _ h9 => h9) rfl dX0_jarsInAll_1 ?_
  refine cl_i (wr := [(qg, .inr (0, [.ref qR, .ref qW, .ref qT, .ref qS, .ref qJ, .ref qY, .int ng])), (qR, .inl (cy 0, 12, .inl gR)), (qW, .inl (cy 0, 12, .inl gW)), (qT, .inl (cy 0, 12, .inl gT)), (qS, .inl (cy 0, 12, .inl gS)), (qY, .inl (cy 1, 12, .inl gY))]) (w2 := [(qg, .inr (0, [.ref qR, .ref qW, .ref qT, .ref qS, .ref qJ, .ref qY, .int ng])), (qR, .inl (cy 0, 12, .inl gR)), (qW, .inl (cy 0, 12, .inl gW)), (qT, .inl (cy 0, 12, .inl gT)), (qS, .inl (cy 0, 12, .inl gS)), (qJ, .inl (cy 1, 12, .inl gJ)), (qY, .inl (cy 1, 12, .inl gY))]) (rn_SN (As := [.ref qJ]) (rest := []) ⟨hx, hb, hml, hown, hts⟩ (k_X4_countTrue l D cy _ qJ gJ 12 (by decide)) ⟨va_cnB 1 hts ggX0_jarsInAll_X4_countTrue rfl rfl rfl (hN.at 11 rfl) (hts (.initialized RX4) (List.mem_of_getElem? (i := 3) rfl)) (by decide +kernel) ⟨Nat.le_of_ble_eq_true rfl, Nat.le_of_ble_eq_true rfl⟩, (hts (.static yX4_countTrue) (List.mem_of_getElem? (i := 2) rfl)), trivial⟩ hN hK hP hD [5] rfl (by decide) rfl hl.1 rfl (Nat.le_of_ble_eq_true rfl) dX0_jarsInAll_4 ⟨Nat.le_of_ble_eq_true rfl, Nat.le_of_ble_eq_true rfl⟩) hP hD hS hA [5] [0, 1, 2, 3, 4, 6] [0, 1, 2, 3, 4, 6, 5] rfl rfl (by decide) (by decide) rfl (by decide) (fun H locs hP hD hS => ?_)
  subst hQ
  exact en_i (tv := (F_X4_countTrue gJ 12)) hx hb hr hlocks (by rw [F_X0_jarsInAll]) rfl hK hP hD hS (Nat.le_refl _) (Nat.le_refl _) dX0_jarsInAll_7

def F_X0_tookInAll (gT : Nat → Int32) : Int32 :=
  (F_X4_sum gT 12)
set_option maxHeartbeats 4000000 in
set_option maxRecDepth 100000 in
theorem k_X0_tookInAll (l : Launch) (D : va_G) (cy : Nat → ClassId) (sz : Nat) (qg qR qW qT qS qJ qY : Nat) (ng : Int32) (gR : Nat → Int32) (gW : Nat → Int32) (gT : Nat → Int32) (gS : Nat → Int32) (gJ : Nat → Int32) (gY : Nat → Int32) : MTa l D cy yX0_tookInAll wsX0_tookInAll 1 0 0 22 [(qg, .inr (0, [.ref qR, .ref qW, .ref qT, .ref qS, .ref qJ, .ref qY, .int ng])), (qR, .inl (cy 0, 12, .inl gR)), (qW, .inl (cy 0, 12, .inl gW)), (qT, .inl (cy 0, 12, .inl gT)), (qS, .inl (cy 0, 12, .inl gS)), (qJ, .inl (cy 1, 12, .inl gJ)), (qY, .inl (cy 1, 12, .inl gY))] sz [.ref qg] (fun A => QiT D cy (fun (t : Int32) => t) (fun (_ : Int32) => [(qg, .inr (0, [.ref qR, .ref qW, .ref qT, .ref qS, .ref qJ, .ref qY, .int ng])), (qR, .inl (cy 0, 12, .inl gR)), (qW, .inl (cy 0, 12, .inl gW)), (qT, .inl (cy 0, 12, .inl gT)), (qS, .inl (cy 0, 12, .inl gS)), (qJ, .inl (cy 1, 12, .inl gJ)), (qY, .inl (cy 1, 12, .inl gY))]) (F_X0_tookInAll gT) A) := by
  refine ofWT (cc := cX0_tookInAll) (maxL := 1) (ret := (some .int)) (own := RX0) (by decide) rfl (Nat.le_of_ble_eq_true rfl) rfl ?_
  intro p e s m args below meth c A ls hx hb hr hml hts hown hlocks hin hN hK hP hD hA hl
  have hS : va_S A s.heap s.heap [] := va_S.rf
  have hl : lv_has ls 1 [(0, .ref qg)] := hl
  have hin0 : ∀ w ∈ u_ws RX0 TX0 7, w ∈ wsX0_tookInAll := (fun w h => List.mem_cons_of_mem _ (List.mem_append_right _ h))
  generalize hQ : MQ below ((fun A => QiT D cy (fun (t : Int32) => t) (fun (_ : Int32) => [(qg, .inr (0, [.ref qR, .ref qW, .ref qT, .ref qS, .ref qJ, .ref qY, .int ng])), (qR, .inl (cy 0, 12, .inl gR)), (qW, .inl (cy 0, 12, .inl gW)), (qT, .inl (cy 0, 12, .inl gT)), (qS, .inl (cy 0, 12, .inl gS)), (qJ, .inl (cy 1, 12, .inl gJ)), (qY, .inl (cy 1, 12, .inl gY))]) (F_X0_tookInAll gT) A) A) args s 0 0 A = Q
  refine lv_aload_n hx hb dX0_tookInAll_0 rfl (lv_at hl 0 rfl) ?_
  refine va_get (D := D) (ci := 0) (v := .ref qT) (C := RX0) (T := TX0) (N := 7) hx hb hts hin0 hown hK hP 0 rfl rfl 2 (by decide) (hts (.fieldLink RX0 18 "FireflyInn$Guests" "took" "[I") (List.mem_of_getElem? (i := 1) rfl)) (fun _ h9 => h9) rfl dX0_tookInAll_1 ?_
  refine cl_i (wr := [(qg, .inr (0, [.ref qR, .ref qW, .ref qT, .ref qS, .ref qJ, .ref qY, .int ng])), (qR, .inl (cy 0, 12, .inl gR)), (qW, .inl (cy 0, 12, .inl gW)), (qS, .inl (cy 0, 12, .inl gS)), (qJ, .inl (cy 1, 12, .inl gJ)), (qY, .inl (cy 1, 12, .inl gY))]) (w2 := [(qg, .inr (0, [.ref qR, .ref qW, .ref qT, .ref qS, .ref qJ, .ref qY, .int ng])), (qR, .inl (cy 0, 12, .inl gR)), (qW, .inl (cy 0, 12, .inl gW)), (qT, .inl (cy 0, 12, .inl gT)), (qS, .inl (cy 0, 12, .inl gS)), (qJ, .inl (cy 1, 12, .inl gJ)), (qY, .inl (cy 1, 12, .inl gY))]) (rn_SN (As := [.ref qT]) (rest := []) ⟨hx, hb, hml, hown, hts⟩ (k_X4_sum l D cy _ qT gT 12 (by decide)) ⟨va_cnB 1 hts ggX0_tookInAll_X4_sum rfl rfl rfl (hN.at 8 rfl) (hts (.initialized RX4) (List.mem_of_getElem? (i := 3) rfl)) (by decide +kernel) ⟨Nat.le_of_ble_eq_true rfl, Nat.le_of_ble_eq_true rfl⟩, (hts (.static yX4_sum) (List.mem_of_getElem? (i := 2) rfl)), trivial⟩ hN hK hP hD [3] rfl (by decide) rfl hl.1 rfl (Nat.le_of_ble_eq_true rfl) dX0_tookInAll_4 ⟨Nat.le_of_ble_eq_true rfl, Nat.le_of_ble_eq_true rfl⟩) hP hD hS hA [3] [0, 1, 2, 4, 5, 6] [0, 1, 2, 6, 3, 4, 5] rfl rfl (by decide) (by decide) rfl (by decide) (fun H locs hP hD hS => ?_)
  subst hQ
  exact en_i (tv := (F_X4_sum gT 12)) hx hb hr hlocks (by rw [F_X0_tookInAll]) rfl hK hP hD hS (Nat.le_refl _) (Nat.le_refl _) dX0_tookInAll_7

def F_X0_sawInAll (gS : Nat → Int32) : Int32 :=
  (F_X4_sum gS 12)
set_option maxHeartbeats 4000000 in
set_option maxRecDepth 100000 in
theorem k_X0_sawInAll (l : Launch) (D : va_G) (cy : Nat → ClassId) (sz : Nat) (qg qR qW qT qS qJ qY : Nat) (ng : Int32) (gR : Nat → Int32) (gW : Nat → Int32) (gT : Nat → Int32) (gS : Nat → Int32) (gJ : Nat → Int32) (gY : Nat → Int32) : MTa l D cy yX0_sawInAll wsX0_sawInAll 1 0 0 22 [(qg, .inr (0, [.ref qR, .ref qW, .ref qT, .ref qS, .ref qJ, .ref qY, .int ng])), (qR, .inl (cy 0, 12, .inl gR)), (qW, .inl (cy 0, 12, .inl gW)), (qT, .inl (cy 0, 12, .inl gT)), (qS, .inl (cy 0, 12, .inl gS)), (qJ, .inl (cy 1, 12, .inl gJ)), (qY, .inl (cy 1, 12, .inl gY))] sz [.ref qg] (fun A => QiT D cy (fun (t : Int32) => t) (fun (_ : Int32) => [(qg, .inr (0, [.ref qR, .ref qW, .ref qT, .ref qS, .ref qJ, .ref qY, .int ng])), (qR, .inl (cy 0, 12, .inl gR)), (qW, .inl (cy 0, 12, .inl gW)), (qT, .inl (cy 0, 12, .inl gT)), (qS, .inl (cy 0, 12, .inl gS)), (qJ, .inl (cy 1, 12, .inl gJ)), (qY, .inl (cy 1, 12, .inl gY))]) (F_X0_sawInAll gS) A) := by
  refine ofWT (cc := cX0_sawInAll) (maxL := 1) (ret := (some .int)) (own := RX0) (by decide) rfl (Nat.le_of_ble_eq_true rfl) rfl ?_
  intro p e s m args below meth c A ls hx hb hr hml hts hown hlocks hin hN hK hP hD hA hl
  have hS : va_S A s.heap s.heap [] := va_S.rf
  have hl : lv_has ls 1 [(0, .ref qg)] := hl
  have hin0 : ∀ w ∈ u_ws RX0 TX0 7, w ∈ wsX0_sawInAll := (fun w h => List.mem_cons_of_mem _ (List.mem_append_right _ h))
  generalize hQ : MQ below ((fun A => QiT D cy (fun (t : Int32) => t) (fun (_ : Int32) => [(qg, .inr (0, [.ref qR, .ref qW, .ref qT, .ref qS, .ref qJ, .ref qY, .int ng])), (qR, .inl (cy 0, 12, .inl gR)), (qW, .inl (cy 0, 12, .inl gW)), (qT, .inl (cy 0, 12, .inl gT)), (qS, .inl (cy 0, 12, .inl gS)), (qJ, .inl (cy 1, 12, .inl gJ)), (qY, .inl (cy 1, 12, .inl gY))]) (F_X0_sawInAll gS) A) A) args s 0 0 A = Q
  refine lv_aload_n hx hb dX0_sawInAll_0 rfl (lv_at hl 0 rfl) ?_
  refine va_get (D := D) (ci := 0) (v := .ref qS) (C := RX0) (T := TX0) (N := 7) hx hb hts hin0 hown hK hP 0 rfl rfl 3 (by decide) (hts (.fieldLink RX0 21 "FireflyInn$Guests" "saw" "[I") (List.mem_of_getElem? (i := 1) rfl)) (fun _ h9 => h9) rfl dX0_sawInAll_1 ?_
  refine cl_i (wr := [(qg, .inr (0, [.ref qR, .ref qW, .ref qT, .ref qS, .ref qJ, .ref qY, .int ng])), (qR, .inl (cy 0, 12, .inl gR)), (qW, .inl (cy 0, 12, .inl gW)), (qT, .inl (cy 0, 12, .inl gT)), (qJ, .inl (cy 1, 12, .inl gJ)), (qY, .inl (cy 1, 12, .inl gY))]) (w2 := [(qg, .inr (0, [.ref qR, .ref qW, .ref qT, .ref qS, .ref qJ, .ref qY, .int ng])), (qR, .inl (cy 0, 12, .inl gR)), (qW, .inl (cy 0, 12, .inl gW)), (qT, .inl (cy 0, 12, .inl gT)), (qS, .inl (cy 0, 12, .inl gS)), (qJ, .inl (cy 1, 12, .inl gJ)), (qY, .inl (cy 1, 12, .inl gY))]) (rn_SN (As := [.ref qS]) (rest := []) ⟨hx, hb, hml, hown, hts⟩ (k_X4_sum l D cy _ qS gS 12 (by decide)) ⟨va_cnB 1 hts ggX0_sawInAll_X4_sum rfl rfl rfl (hN.at 8 rfl) (hts (.initialized RX4) (List.mem_of_getElem? (i := 3) rfl)) (by decide +kernel) ⟨Nat.le_of_ble_eq_true rfl, Nat.le_of_ble_eq_true rfl⟩, (hts (.static yX4_sum) (List.mem_of_getElem? (i := 2) rfl)), trivial⟩ hN hK hP hD [4] rfl (by decide) rfl hl.1 rfl (Nat.le_of_ble_eq_true rfl) dX0_sawInAll_4 ⟨Nat.le_of_ble_eq_true rfl, Nat.le_of_ble_eq_true rfl⟩) hP hD hS hA [4] [0, 1, 2, 3, 5, 6] [0, 1, 2, 3, 6, 4, 5] rfl rfl (by decide) (by decide) rfl (by decide) (fun H locs hP hD hS => ?_)
  subst hQ
  exact en_i (tv := (F_X4_sum gS 12)) hx hb hr hlocks (by rw [F_X0_sawInAll]) rfl hK hP hD hS (Nat.le_refl _) (Nat.le_refl _) dX0_sawInAll_7

def S_X0_stayingIn_4 (gR : Nat → Int32) (gY : Nat → Int32) (room : Int32) (k4 : Nat) (v2_4 : Int32) : Int32 :=
  if (gY k4) = 0 then
    v2_4
  else
    if (gR k4) = room then
      (v2_4 + 1)
    else
      v2_4
def I_X0_stayingIn_4 (gR : Nat → Int32) (gY : Nat → Int32) (room : Int32) : Int32 :=
  it (fun (k : Nat) (v : Int32) => S_X0_stayingIn_4 gR gY room k v) 12 0 0
def F_X0_stayingIn (gR : Nat → Int32) (gY : Nat → Int32) (room : Int32) : Int32 :=
  (I_X0_stayingIn_4 gR gY room)
set_option maxHeartbeats 4000000 in
set_option maxRecDepth 100000 in
theorem k_X0_stayingIn (l : Launch) (D : va_G) (cy : Nat → ClassId) (sz : Nat) (qg qR qW qT qS qJ qY : Nat) (ng : Int32) (gR : Nat → Int32) (gW : Nat → Int32) (gT : Nat → Int32) (gS : Nat → Int32) (gJ : Nat → Int32) (gY : Nat → Int32) (room : Int32) : MTa l D cy yX0_stayingIn wsX0_stayingIn 0 0 0 0 [(qg, .inr (0, [.ref qR, .ref qW, .ref qT, .ref qS, .ref qJ, .ref qY, .int ng])), (qR, .inl (cy 0, 12, .inl gR)), (qW, .inl (cy 0, 12, .inl gW)), (qT, .inl (cy 0, 12, .inl gT)), (qS, .inl (cy 0, 12, .inl gS)), (qJ, .inl (cy 1, 12, .inl gJ)), (qY, .inl (cy 1, 12, .inl gY))] sz [.ref qg, .int room] (fun A => QiT D cy (fun (t : Int32) => t) (fun (_ : Int32) => [(qg, .inr (0, [.ref qR, .ref qW, .ref qT, .ref qS, .ref qJ, .ref qY, .int ng])), (qR, .inl (cy 0, 12, .inl gR)), (qW, .inl (cy 0, 12, .inl gW)), (qT, .inl (cy 0, 12, .inl gT)), (qS, .inl (cy 0, 12, .inl gS)), (qJ, .inl (cy 1, 12, .inl gJ)), (qY, .inl (cy 1, 12, .inl gY))]) (F_X0_stayingIn gR gY room) A) := by
  refine ofWT (cc := cX0_stayingIn) (maxL := 4) (ret := (some .int)) (own := RX0) (by decide) rfl (Nat.le_of_ble_eq_true rfl) rfl ?_
  intro p e s m args below meth c A ls hx hb hr hml hts hown hlocks hin hN hK hP hD hA hl
  have hS : va_S A s.heap s.heap [] := va_S.rf
  have hl : lv_has ls 4 [(0, .ref qg), (1, .int room)] := hl
  have hin0 : ∀ w ∈ u_ws RX0 TX0 7, w ∈ wsX0_stayingIn := (fun w h => List.mem_cons_of_mem _ (List.mem_append_right _ h))
  generalize hQ : MQ below ((fun A => QiT D cy (fun (t : Int32) => t) (fun (_ : Int32) => [(qg, .inr (0, [.ref qR, .ref qW, .ref qT, .ref qS, .ref qJ, .ref qY, .int ng])), (qR, .inl (cy 0, 12, .inl gR)), (qW, .inl (cy 0, 12, .inl gW)), (qT, .inl (cy 0, 12, .inl gT)), (qS, .inl (cy 0, 12, .inl gS)), (qJ, .inl (cy 1, 12, .inl gJ)), (qY, .inl (cy 1, 12, .inl gY))]) (F_X0_stayingIn gR gY room) A) A) args s 0 0 A = Q
  refine lv_iconst (v := 0) hx hb dX0_stayingIn_0 (by decide) ?_
  refine lv_istore_n (lv' := [(2, .int 0), (0, .ref qg), (1, .int room)]) hx hb dX0_stayingIn_1 rfl hl (by decide) rfl (fun ls hl => ?_)
  refine lv_iconst (v := 0) hx hb dX0_stayingIn_2 (by decide) ?_
  refine lv_istore_n (lv' := [(3, .int 0), (2, .int 0), (0, .ref qg), (1, .int room)]) hx hb dX0_stayingIn_3 rfl hl (by decide) rfl (fun ls hl => ?_)
  obtain ⟨fin4, hfin4⟩ : ∃ z, (I_X0_stayingIn_4 gR gY room) = z := ⟨_, rfl⟩
  suffices kk4 : ∀ (H : Heap) (locs : List Loc) (ls : Array Slot), va_P D vwCl [(qg, .inr (0, [.ref qR, .ref qW, .ref qT, .ref qS, .ref qJ, .ref qY, .int ng])), (qR, .inl (cy 0, 12, .inl gR)), (qW, .inl (cy 0, 12, .inl gW)), (qT, .inl (cy 0, 12, .inl gT)), (qS, .inl (cy 0, 12, .inl gS)), (qJ, .inl (cy 1, 12, .inl gJ)), (qY, .inl (cy 1, 12, .inl gY))] H → va_D A [(qg, .inr (0, [.ref qR, .ref qW, .ref qT, .ref qS, .ref qJ, .ref qY, .int ng])), (qR, .inl (cy 0, 12, .inl gR)), (qW, .inl (cy 0, 12, .inl gW)), (qT, .inl (cy 0, 12, .inl gT)), (qS, .inl (cy 0, 12, .inl gS)), (qJ, .inl (cy 1, 12, .inl gJ)), (qY, .inl (cy 1, 12, .inl gY))] → va_S A s.heap H locs → lv_has ls 4 [(3, .int (nI 12)), (2, .int fin4), (0, .ref qg), (1, .int room)] → W p l e (RM 0 0 0 0) s m args below meth c H locs 0 0 Q (F0 m 38 ls []) by
    have lp4 : ∀ (n4 k4 : Nat) (v2_4 : Int32) (H : Heap) (locs : List Loc) (ls : Array Slot), k4 + n4 = 12 → it (fun (k : Nat) (v : Int32) => S_X0_stayingIn_4 gR gY room k v) n4 k4 v2_4 = fin4 → va_P D vwCl [(qg, .inr (0, [.ref qR, .ref qW, .ref qT, .ref qS, .ref qJ, .ref qY, .int ng])), (qR, .inl (cy 0, 12, .inl gR)), (qW, .inl (cy 0, 12, .inl gW)), (qT, .inl (cy 0, 12, .inl gT)), (qS, .inl (cy 0, 12, .inl gS)), (qJ, .inl (cy 1, 12, .inl gJ)), (qY, .inl (cy 1, 12, .inl gY))] H → va_D A [(qg, .inr (0, [.ref qR, .ref qW, .ref qT, .ref qS, .ref qJ, .ref qY, .int ng])), (qR, .inl (cy 0, 12, .inl gR)), (qW, .inl (cy 0, 12, .inl gW)), (qT, .inl (cy 0, 12, .inl gT)), (qS, .inl (cy 0, 12, .inl gS)), (qJ, .inl (cy 1, 12, .inl gJ)), (qY, .inl (cy 1, 12, .inl gY))] → va_S A s.heap H locs → lv_has ls 4 [(3, .int (nI k4)), (2, .int v2_4), (0, .ref qg), (1, .int room)] → W p l e (RM 0 0 0 0) s m args below meth c H locs 0 0 Q (F0 m 4 ls []) := by
      intro n4
      induction n4 with
      | zero =>
        intro k4 v2_4 H locs ls hkn4 hE4 hP hD hS hl
        have hk4 : 12 = k4 := by omega
        subst hk4
        have hE4 : v2_4 = fin4 := hE4
        subst hE4
        refine lv_iload_n hx hb dX0_stayingIn_4 rfl (lv_at hl 0 rfl) ?_
        refine lv_bipush (v := 12) hx hb dX0_stayingIn_5 (by decide) ?_
        refine lv_icmp_ge (tgt := 38) hx hb dX0_stayingIn_7 (by decide) (fun c7 => ?_) (fun c7 => ?_)
        rotate_left
        · exact absurd (nI_le (a := 12) (b := 12) (Nat.le_refl _) (by decide)) c7
        exact kk4 _ _ _ hP hD hS (lv_sub hl [0, 1, 2, 3] rfl)
      | succ n4 ih4 =>
        intro k4 v2_4 H locs ls hkn4 hE4 hP hD hS hl
        have hlt4 : k4 < 12 := by omega
        refine lv_iload_n hx hb dX0_stayingIn_4 rfl (lv_at hl 0 rfl) ?_
        refine lv_bipush (v := 12) hx hb dX0_stayingIn_5 (by decide) ?_
        refine lv_icmp_ge (tgt := 38) hx hb dX0_stayingIn_7 (by decide) (fun c7 => ?_) (fun c7 => ?_)
        · exact absurd c7 (nI_ge (a := k4) (b := 12) hlt4 (by decide))
        refine lv_aload_n hx hb dX0_stayingIn_10 rfl (lv_at hl 2 rfl) ?_
        refine va_get (D := D) (ci := 0) (v := .ref qY) (C := RX0) (T := TX0) (N := 7) hx hb hts hin0 hown hK hP 0 rfl rfl 5 (by decide) (hts (.fieldLink RX0 28 "FireflyInn$Guests" "staying" "[Z") (List.mem_of_getElem? (i := 1) rfl)) (fun _ h9 => h9) rfl dX0_stayingIn_11 ?_
        refine lv_iload_n hx hb dX0_stayingIn_14 rfl (lv_at hl 0 rfl) ?_
        refine zal_n (k := k4) hx hb hK hP 6 rfl (by omega) (by decide) dX0_stayingIn_15 ?_
        refine lv_if_eq (tgt := 32) hx hb dX0_stayingIn_16 (by decide) (fun c16 => ?_) (fun c16 => ?_)
        · refine lv_iinc (v := (nI (k4 + 1))) (lv' := [(3, .int (nI (k4 + 1))), (2, .int v2_4), (0, .ref qg), (1, .int room)]) hx hb dX0_stayingIn_32 hl (k := 0) rfl (nI_1 k4) (by decide) rfl (fun ls hl => ?_)
          refine lv_goto (tgt := 4) hx hb dX0_stayingIn_35 (by decide) ?_
          exact ih4 (k4 + 1) v2_4 _ _ _ (by omega) (it_step (f := (fun (k : Nat) (v : Int32) => S_X0_stayingIn_4 gR gY room k v)) (v := v2_4) (show S_X0_stayingIn_4 gR gY room k4 v2_4 = v2_4 from by rw [S_X0_stayingIn_4, if_pos c16]) hE4) hP hD hS (lv_sub hl [0, 1, 2, 3] rfl)
        · refine lv_aload_n hx hb dX0_stayingIn_19 rfl (lv_at hl 2 rfl) ?_
          refine va_get (D := D) (ci := 0) (v := .ref qR) (C := RX0) (T := TX0) (N := 7) hx hb hts hin0 hown hK hP 0 rfl rfl 0 (by decide) (hts (.fieldLink RX0 9 "FireflyInn$Guests" "rooms" "[I") (List.mem_of_getElem? (i := 2) rfl)) (fun _ h9 => h9) rfl dX0_stayingIn_20 ?_
          refine lv_iload_n hx hb dX0_stayingIn_23 rfl (lv_at hl 0 rfl) ?_
          refine ial_n (k := k4) hx hb hK hP 1 rfl (by omega) (by decide) dX0_stayingIn_24 ?_
          refine lv_iload_n hx hb dX0_stayingIn_25 rfl (lv_at hl 3 rfl) ?_
          refine lv_icmp_ne (tgt := 32) hx hb dX0_stayingIn_26 (by decide) (fun c26 => ?_) (fun c26 => ?_)
          · refine lv_iinc (v := (nI (k4 + 1))) (lv' := [(3, .int (nI (k4 + 1))), (2, .int v2_4), (0, .ref qg), (1, .int room)]) hx hb dX0_stayingIn_32 hl (k := 0) rfl (nI_1 k4) (by decide) rfl (fun ls hl => ?_)
            refine lv_goto (tgt := 4) hx hb dX0_stayingIn_35 (by decide) ?_
            exact ih4 (k4 + 1) v2_4 _ _ _ (by omega) (it_step (f := (fun (k : Nat) (v : Int32) => S_X0_stayingIn_4 gR gY room k v)) (v := v2_4) (show S_X0_stayingIn_4 gR gY room k4 v2_4 = v2_4 from by rw [S_X0_stayingIn_4, if_neg c16, if_neg c26]) hE4) hP hD hS (lv_sub hl [0, 1, 2, 3] rfl)
          · refine lv_iinc (v := (v2_4 + 1)) (lv' := [(2, .int (v2_4 + 1)), (3, .int (nI k4)), (0, .ref qg), (1, .int room)]) hx hb dX0_stayingIn_29 hl (k := 1) rfl rfl (by decide) rfl (fun ls hl => ?_)
            refine lv_iinc (v := (nI (k4 + 1))) (lv' := [(3, .int (nI (k4 + 1))), (2, .int (v2_4 + 1)), (0, .ref qg), (1, .int room)]) hx hb dX0_stayingIn_32 hl (k := 1) rfl (nI_1 k4) (by decide) rfl (fun ls hl => ?_)
            refine lv_goto (tgt := 4) hx hb dX0_stayingIn_35 (by decide) ?_
            exact ih4 (k4 + 1) (v2_4 + 1) _ _ _ (by omega) (it_step (f := (fun (k : Nat) (v : Int32) => S_X0_stayingIn_4 gR gY room k v)) (v := v2_4) (show S_X0_stayingIn_4 gR gY room k4 v2_4 = (v2_4 + 1) from by rw [S_X0_stayingIn_4, if_neg c16, if_pos c26]) hE4) hP hD hS (lv_sub hl [0, 1, 2, 3] rfl)
    exact lp4 12 0 0 _ _ _ (by omega) hfin4 hP hD hS (lv_sub hl [0, 1, 2, 3] rfl)
  intro H locs ls hP hD hS hl
  subst hfin4
  refine lv_iload_n hx hb dX0_stayingIn_38 rfl (lv_at hl 1 rfl) ?_
  subst hQ
  exact en_i (tv := (I_X0_stayingIn_4 gR gY room)) hx hb hr hlocks (by rw [F_X0_stayingIn]) rfl hK hP hD hS (Nat.le_refl _) (Nat.le_refl _) dX0_stayingIn_39

def S_X0_whispersIn_4 (gR : Nat → Int32) (gW : Nat → Int32) (gY : Nat → Int32) (room : Int32) (k4 : Nat) (v2_4 : Int32) : Int32 :=
  if (gY k4) = 0 then
    v2_4
  else
    if (gR k4) = room then
      (v2_4 + (gW k4))
    else
      v2_4
def I_X0_whispersIn_4 (gR : Nat → Int32) (gW : Nat → Int32) (gY : Nat → Int32) (room : Int32) : Int32 :=
  it (fun (k : Nat) (v : Int32) => S_X0_whispersIn_4 gR gW gY room k v) 12 0 0
def F_X0_whispersIn (gR : Nat → Int32) (gW : Nat → Int32) (gY : Nat → Int32) (room : Int32) : Int32 :=
  (I_X0_whispersIn_4 gR gW gY room)
set_option maxHeartbeats 4000000 in
set_option maxRecDepth 100000 in
theorem k_X0_whispersIn (l : Launch) (D : va_G) (cy : Nat → ClassId) (sz : Nat) (qg qR qW qT qS qJ qY : Nat) (ng : Int32) (gR : Nat → Int32) (gW : Nat → Int32) (gT : Nat → Int32) (gS : Nat → Int32) (gJ : Nat → Int32) (gY : Nat → Int32) (room : Int32) : MTa l D cy yX0_whispersIn wsX0_whispersIn 0 0 0 0 [(qg, .inr (0, [.ref qR, .ref qW, .ref qT, .ref qS, .ref qJ, .ref qY, .int ng])), (qR, .inl (cy 0, 12, .inl gR)), (qW, .inl (cy 0, 12, .inl gW)), (qT, .inl (cy 0, 12, .inl gT)), (qS, .inl (cy 0, 12, .inl gS)), (qJ, .inl (cy 1, 12, .inl gJ)), (qY, .inl (cy 1, 12, .inl gY))] sz [.ref qg, .int room] (fun A => QiT D cy (fun (t : Int32) => t) (fun (_ : Int32) => [(qg, .inr (0, [.ref qR, .ref qW, .ref qT, .ref qS, .ref qJ, .ref qY, .int ng])), (qR, .inl (cy 0, 12, .inl gR)), (qW, .inl (cy 0, 12, .inl gW)), (qT, .inl (cy 0, 12, .inl gT)), (qS, .inl (cy 0, 12, .inl gS)), (qJ, .inl (cy 1, 12, .inl gJ)), (qY, .inl (cy 1, 12, .inl gY))]) (F_X0_whispersIn gR gW gY room) A) := by
  refine ofWT (cc := cX0_whispersIn) (maxL := 4) (ret := (some .int)) (own := RX0) (by decide) rfl (Nat.le_of_ble_eq_true rfl) rfl ?_
  intro p e s m args below meth c A ls hx hb hr hml hts hown hlocks hin hN hK hP hD hA hl
  have hS : va_S A s.heap s.heap [] := va_S.rf
  have hl : lv_has ls 4 [(0, .ref qg), (1, .int room)] := hl
  have hin0 : ∀ w ∈ u_ws RX0 TX0 7, w ∈ wsX0_whispersIn := (fun w h => List.mem_cons_of_mem _ (List.mem_append_right _ h))
  generalize hQ : MQ below ((fun A => QiT D cy (fun (t : Int32) => t) (fun (_ : Int32) => [(qg, .inr (0, [.ref qR, .ref qW, .ref qT, .ref qS, .ref qJ, .ref qY, .int ng])), (qR, .inl (cy 0, 12, .inl gR)), (qW, .inl (cy 0, 12, .inl gW)), (qT, .inl (cy 0, 12, .inl gT)), (qS, .inl (cy 0, 12, .inl gS)), (qJ, .inl (cy 1, 12, .inl gJ)), (qY, .inl (cy 1, 12, .inl gY))]) (F_X0_whispersIn gR gW gY room) A) A) args s 0 0 A = Q
  refine lv_iconst (v := 0) hx hb dX0_whispersIn_0 (by decide) ?_
  refine lv_istore_n (lv' := [(2, .int 0), (0, .ref qg), (1, .int room)]) hx hb dX0_whispersIn_1 rfl hl (by decide) rfl (fun ls hl => ?_)
  refine lv_iconst (v := 0) hx hb dX0_whispersIn_2 (by decide) ?_
  refine lv_istore_n (lv' := [(3, .int 0), (2, .int 0), (0, .ref qg), (1, .int room)]) hx hb dX0_whispersIn_3 rfl hl (by decide) rfl (fun ls hl => ?_)
  obtain ⟨fin4, hfin4⟩ : ∃ z, (I_X0_whispersIn_4 gR gW gY room) = z := ⟨_, rfl⟩
  suffices kk4 : ∀ (H : Heap) (locs : List Loc) (ls : Array Slot), va_P D vwCl [(qg, .inr (0, [.ref qR, .ref qW, .ref qT, .ref qS, .ref qJ, .ref qY, .int ng])), (qR, .inl (cy 0, 12, .inl gR)), (qW, .inl (cy 0, 12, .inl gW)), (qT, .inl (cy 0, 12, .inl gT)), (qS, .inl (cy 0, 12, .inl gS)), (qJ, .inl (cy 1, 12, .inl gJ)), (qY, .inl (cy 1, 12, .inl gY))] H → va_D A [(qg, .inr (0, [.ref qR, .ref qW, .ref qT, .ref qS, .ref qJ, .ref qY, .int ng])), (qR, .inl (cy 0, 12, .inl gR)), (qW, .inl (cy 0, 12, .inl gW)), (qT, .inl (cy 0, 12, .inl gT)), (qS, .inl (cy 0, 12, .inl gS)), (qJ, .inl (cy 1, 12, .inl gJ)), (qY, .inl (cy 1, 12, .inl gY))] → va_S A s.heap H locs → lv_has ls 4 [(3, .int (nI 12)), (2, .int fin4), (0, .ref qg), (1, .int room)] → W p l e (RM 0 0 0 0) s m args below meth c H locs 0 0 Q (F0 m 44 ls []) by
    have lp4 : ∀ (n4 k4 : Nat) (v2_4 : Int32) (H : Heap) (locs : List Loc) (ls : Array Slot), k4 + n4 = 12 → it (fun (k : Nat) (v : Int32) => S_X0_whispersIn_4 gR gW gY room k v) n4 k4 v2_4 = fin4 → va_P D vwCl [(qg, .inr (0, [.ref qR, .ref qW, .ref qT, .ref qS, .ref qJ, .ref qY, .int ng])), (qR, .inl (cy 0, 12, .inl gR)), (qW, .inl (cy 0, 12, .inl gW)), (qT, .inl (cy 0, 12, .inl gT)), (qS, .inl (cy 0, 12, .inl gS)), (qJ, .inl (cy 1, 12, .inl gJ)), (qY, .inl (cy 1, 12, .inl gY))] H → va_D A [(qg, .inr (0, [.ref qR, .ref qW, .ref qT, .ref qS, .ref qJ, .ref qY, .int ng])), (qR, .inl (cy 0, 12, .inl gR)), (qW, .inl (cy 0, 12, .inl gW)), (qT, .inl (cy 0, 12, .inl gT)), (qS, .inl (cy 0, 12, .inl gS)), (qJ, .inl (cy 1, 12, .inl gJ)), (qY, .inl (cy 1, 12, .inl gY))] → va_S A s.heap H locs → lv_has ls 4 [(3, .int (nI k4)), (2, .int v2_4), (0, .ref qg), (1, .int room)] → W p l e (RM 0 0 0 0) s m args below meth c H locs 0 0 Q (F0 m 4 ls []) := by
      intro n4
      induction n4 with
      | zero =>
        intro k4 v2_4 H locs ls hkn4 hE4 hP hD hS hl
        have hk4 : 12 = k4 := by omega
        subst hk4
        have hE4 : v2_4 = fin4 := hE4
        subst hE4
        refine lv_iload_n hx hb dX0_whispersIn_4 rfl (lv_at hl 0 rfl) ?_
        refine lv_bipush (v := 12) hx hb dX0_whispersIn_5 (by decide) ?_
        refine lv_icmp_ge (tgt := 44) hx hb dX0_whispersIn_7 (by decide) (fun c7 => ?_) (fun c7 => ?_)
        rotate_left
        · exact absurd (nI_le (a := 12) (b := 12) (Nat.le_refl _) (by decide)) c7
        exact kk4 _ _ _ hP hD hS (lv_sub hl [0, 1, 2, 3] rfl)
      | succ n4 ih4 =>
        intro k4 v2_4 H locs ls hkn4 hE4 hP hD hS hl
        have hlt4 : k4 < 12 := by omega
        refine lv_iload_n hx hb dX0_whispersIn_4 rfl (lv_at hl 0 rfl) ?_
        refine lv_bipush (v := 12) hx hb dX0_whispersIn_5 (by decide) ?_
        refine lv_icmp_ge (tgt := 44) hx hb dX0_whispersIn_7 (by decide) (fun c7 => ?_) (fun c7 => ?_)
        · exact absurd c7 (nI_ge (a := k4) (b := 12) hlt4 (by decide))
        refine lv_aload_n hx hb dX0_whispersIn_10 rfl (lv_at hl 2 rfl) ?_
        refine va_get (D := D) (ci := 0) (v := .ref qY) (C := RX0) (T := TX0) (N := 7) hx hb hts hin0 hown hK hP 0 rfl rfl 5 (by decide) (hts (.fieldLink RX0 28 "FireflyInn$Guests" "staying" "[Z") (List.mem_of_getElem? (i := 1) rfl)) (fun _ h9 => h9) rfl dX0_whispersIn_11 ?_
        refine lv_iload_n hx hb dX0_whispersIn_14 rfl (lv_at hl 0 rfl) ?_
        refine zal_n (k := k4) hx hb hK hP 6 rfl (by omega) (by decide) dX0_whispersIn_15 ?_
        refine lv_if_eq (tgt := 38) hx hb dX0_whispersIn_16 (by decide) (fun c16 => ?_) (fun c16 => ?_)
        · refine lv_iinc (v := (nI (k4 + 1))) (lv' := [(3, .int (nI (k4 + 1))), (2, .int v2_4), (0, .ref qg), (1, .int room)]) hx hb dX0_whispersIn_38 hl (k := 0) rfl (nI_1 k4) (by decide) rfl (fun ls hl => ?_)
          refine lv_goto (tgt := 4) hx hb dX0_whispersIn_41 (by decide) ?_
          exact ih4 (k4 + 1) v2_4 _ _ _ (by omega) (it_step (f := (fun (k : Nat) (v : Int32) => S_X0_whispersIn_4 gR gW gY room k v)) (v := v2_4) (show S_X0_whispersIn_4 gR gW gY room k4 v2_4 = v2_4 from by rw [S_X0_whispersIn_4, if_pos c16]) hE4) hP hD hS (lv_sub hl [0, 1, 2, 3] rfl)
        · refine lv_aload_n hx hb dX0_whispersIn_19 rfl (lv_at hl 2 rfl) ?_
          refine va_get (D := D) (ci := 0) (v := .ref qR) (C := RX0) (T := TX0) (N := 7) hx hb hts hin0 hown hK hP 0 rfl rfl 0 (by decide) (hts (.fieldLink RX0 9 "FireflyInn$Guests" "rooms" "[I") (List.mem_of_getElem? (i := 2) rfl)) (fun _ h9 => h9) rfl dX0_whispersIn_20 ?_
          refine lv_iload_n hx hb dX0_whispersIn_23 rfl (lv_at hl 0 rfl) ?_
          refine ial_n (k := k4) hx hb hK hP 1 rfl (by omega) (by decide) dX0_whispersIn_24 ?_
          refine lv_iload_n hx hb dX0_whispersIn_25 rfl (lv_at hl 3 rfl) ?_
          refine lv_icmp_ne (tgt := 38) hx hb dX0_whispersIn_26 (by decide) (fun c26 => ?_) (fun c26 => ?_)
          · refine lv_iinc (v := (nI (k4 + 1))) (lv' := [(3, .int (nI (k4 + 1))), (2, .int v2_4), (0, .ref qg), (1, .int room)]) hx hb dX0_whispersIn_38 hl (k := 0) rfl (nI_1 k4) (by decide) rfl (fun ls hl => ?_)
            refine lv_goto (tgt := 4) hx hb dX0_whispersIn_41 (by decide) ?_
            exact ih4 (k4 + 1) v2_4 _ _ _ (by omega) (it_step (f := (fun (k : Nat) (v : Int32) => S_X0_whispersIn_4 gR gW gY room k v)) (v := v2_4) (show S_X0_whispersIn_4 gR gW gY room k4 v2_4 = v2_4 from by rw [S_X0_whispersIn_4, if_neg c16, if_neg c26]) hE4) hP hD hS (lv_sub hl [0, 1, 2, 3] rfl)
          · refine lv_iload_n hx hb dX0_whispersIn_29 rfl (lv_at hl 1 rfl) ?_
            refine lv_aload_n hx hb dX0_whispersIn_30 rfl (lv_at hl 2 rfl) ?_
            refine va_get (D := D) (ci := 0) (v := .ref qW) (C := RX0) (T := TX0) (N := 7) hx hb hts hin0 hown hK hP 0 rfl rfl 1 (by decide) (hts (.fieldLink RX0 15 "FireflyInn$Guests" "whispers" "[I") (List.mem_of_getElem? (i := 3) rfl)) (fun _ h9 => h9) rfl dX0_whispersIn_31 ?_
            refine lv_iload_n hx hb dX0_whispersIn_34 rfl (lv_at hl 0 rfl) ?_
            refine ial_n (k := k4) hx hb hK hP 2 rfl (by omega) (by decide) dX0_whispersIn_35 ?_
            refine lv_iadd hx hb dX0_whispersIn_36 ?_
            refine lv_istore_n (lv' := [(2, .int (v2_4 + (gW k4))), (3, .int (nI k4)), (0, .ref qg), (1, .int room)]) hx hb dX0_whispersIn_37 rfl hl (by decide) rfl (fun ls hl => ?_)
            refine lv_iinc (v := (nI (k4 + 1))) (lv' := [(3, .int (nI (k4 + 1))), (2, .int (v2_4 + (gW k4))), (0, .ref qg), (1, .int room)]) hx hb dX0_whispersIn_38 hl (k := 1) rfl (nI_1 k4) (by decide) rfl (fun ls hl => ?_)
            refine lv_goto (tgt := 4) hx hb dX0_whispersIn_41 (by decide) ?_
            exact ih4 (k4 + 1) (v2_4 + (gW k4)) _ _ _ (by omega) (it_step (f := (fun (k : Nat) (v : Int32) => S_X0_whispersIn_4 gR gW gY room k v)) (v := v2_4) (show S_X0_whispersIn_4 gR gW gY room k4 v2_4 = (v2_4 + (gW k4)) from by rw [S_X0_whispersIn_4, if_neg c16, if_pos c26]) hE4) hP hD hS (lv_sub hl [0, 1, 2, 3] rfl)
    exact lp4 12 0 0 _ _ _ (by omega) hfin4 hP hD hS (lv_sub hl [0, 1, 2, 3] rfl)
  intro H locs ls hP hD hS hl
  subst hfin4
  refine lv_iload_n hx hb dX0_whispersIn_44 rfl (lv_at hl 1 rfl) ?_
  subst hQ
  exact en_i (tv := (I_X0_whispersIn_4 gR gW gY room)) hx hb hr hlocks (by rw [F_X0_whispersIn]) rfl hK hP hD hS (Nat.le_refl _) (Nat.le_refl _) dX0_whispersIn_45

def S_X0_jarsIn_4 (gR : Nat → Int32) (gJ : Nat → Int32) (room : Int32) (k4 : Nat) (v2_4 : Int32) : Int32 :=
  if (gJ k4) = 0 then
    v2_4
  else
    if (gR k4) = room then
      (v2_4 + 1)
    else
      v2_4
def I_X0_jarsIn_4 (gR : Nat → Int32) (gJ : Nat → Int32) (room : Int32) : Int32 :=
  it (fun (k : Nat) (v : Int32) => S_X0_jarsIn_4 gR gJ room k v) 12 0 0
def F_X0_jarsIn (gR : Nat → Int32) (gJ : Nat → Int32) (room : Int32) : Int32 :=
  (I_X0_jarsIn_4 gR gJ room)
set_option maxHeartbeats 4000000 in
set_option maxRecDepth 100000 in
theorem k_X0_jarsIn (l : Launch) (D : va_G) (cy : Nat → ClassId) (sz : Nat) (qg qR qW qT qS qJ qY : Nat) (ng : Int32) (gR : Nat → Int32) (gW : Nat → Int32) (gT : Nat → Int32) (gS : Nat → Int32) (gJ : Nat → Int32) (gY : Nat → Int32) (room : Int32) : MTa l D cy yX0_jarsIn wsX0_jarsIn 0 0 0 0 [(qg, .inr (0, [.ref qR, .ref qW, .ref qT, .ref qS, .ref qJ, .ref qY, .int ng])), (qR, .inl (cy 0, 12, .inl gR)), (qW, .inl (cy 0, 12, .inl gW)), (qT, .inl (cy 0, 12, .inl gT)), (qS, .inl (cy 0, 12, .inl gS)), (qJ, .inl (cy 1, 12, .inl gJ)), (qY, .inl (cy 1, 12, .inl gY))] sz [.ref qg, .int room] (fun A => QiT D cy (fun (t : Int32) => t) (fun (_ : Int32) => [(qg, .inr (0, [.ref qR, .ref qW, .ref qT, .ref qS, .ref qJ, .ref qY, .int ng])), (qR, .inl (cy 0, 12, .inl gR)), (qW, .inl (cy 0, 12, .inl gW)), (qT, .inl (cy 0, 12, .inl gT)), (qS, .inl (cy 0, 12, .inl gS)), (qJ, .inl (cy 1, 12, .inl gJ)), (qY, .inl (cy 1, 12, .inl gY))]) (F_X0_jarsIn gR gJ room) A) := by
  refine ofWT (cc := cX0_jarsIn) (maxL := 4) (ret := (some .int)) (own := RX0) (by decide) rfl (Nat.le_of_ble_eq_true rfl) rfl ?_
  intro p e s m args below meth c A ls hx hb hr hml hts hown hlocks hin hN hK hP hD hA hl
  have hS : va_S A s.heap s.heap [] := va_S.rf
  have hl : lv_has ls 4 [(0, .ref qg), (1, .int room)] := hl
  have hin0 : ∀ w ∈ u_ws RX0 TX0 7, w ∈ wsX0_jarsIn := (fun w h => List.mem_cons_of_mem _ (List.mem_append_right _ h))
  generalize hQ : MQ below ((fun A => QiT D cy (fun (t : Int32) => t) (fun (_ : Int32) => [(qg, .inr (0, [.ref qR, .ref qW, .ref qT, .ref qS, .ref qJ, .ref qY, .int ng])), (qR, .inl (cy 0, 12, .inl gR)), (qW, .inl (cy 0, 12, .inl gW)), (qT, .inl (cy 0, 12, .inl gT)), (qS, .inl (cy 0, 12, .inl gS)), (qJ, .inl (cy 1, 12, .inl gJ)), (qY, .inl (cy 1, 12, .inl gY))]) (F_X0_jarsIn gR gJ room) A) A) args s 0 0 A = Q
  refine lv_iconst (v := 0) hx hb dX0_jarsIn_0 (by decide) ?_
  refine lv_istore_n (lv' := [(2, .int 0), (0, .ref qg), (1, .int room)]) hx hb dX0_jarsIn_1 rfl hl (by decide) rfl (fun ls hl => ?_)
  refine lv_iconst (v := 0) hx hb dX0_jarsIn_2 (by decide) ?_
  refine lv_istore_n (lv' := [(3, .int 0), (2, .int 0), (0, .ref qg), (1, .int room)]) hx hb dX0_jarsIn_3 rfl hl (by decide) rfl (fun ls hl => ?_)
  obtain ⟨fin4, hfin4⟩ : ∃ z, (I_X0_jarsIn_4 gR gJ room) = z := ⟨_, rfl⟩
  suffices kk4 : ∀ (H : Heap) (locs : List Loc) (ls : Array Slot), va_P D vwCl [(qg, .inr (0, [.ref qR, .ref qW, .ref qT, .ref qS, .ref qJ, .ref qY, .int ng])), (qR, .inl (cy 0, 12, .inl gR)), (qW, .inl (cy 0, 12, .inl gW)), (qT, .inl (cy 0, 12, .inl gT)), (qS, .inl (cy 0, 12, .inl gS)), (qJ, .inl (cy 1, 12, .inl gJ)), (qY, .inl (cy 1, 12, .inl gY))] H → va_D A [(qg, .inr (0, [.ref qR, .ref qW, .ref qT, .ref qS, .ref qJ, .ref qY, .int ng])), (qR, .inl (cy 0, 12, .inl gR)), (qW, .inl (cy 0, 12, .inl gW)), (qT, .inl (cy 0, 12, .inl gT)), (qS, .inl (cy 0, 12, .inl gS)), (qJ, .inl (cy 1, 12, .inl gJ)), (qY, .inl (cy 1, 12, .inl gY))] → va_S A s.heap H locs → lv_has ls 4 [(3, .int (nI 12)), (2, .int fin4), (0, .ref qg), (1, .int room)] → W p l e (RM 0 0 0 0) s m args below meth c H locs 0 0 Q (F0 m 38 ls []) by
    have lp4 : ∀ (n4 k4 : Nat) (v2_4 : Int32) (H : Heap) (locs : List Loc) (ls : Array Slot), k4 + n4 = 12 → it (fun (k : Nat) (v : Int32) => S_X0_jarsIn_4 gR gJ room k v) n4 k4 v2_4 = fin4 → va_P D vwCl [(qg, .inr (0, [.ref qR, .ref qW, .ref qT, .ref qS, .ref qJ, .ref qY, .int ng])), (qR, .inl (cy 0, 12, .inl gR)), (qW, .inl (cy 0, 12, .inl gW)), (qT, .inl (cy 0, 12, .inl gT)), (qS, .inl (cy 0, 12, .inl gS)), (qJ, .inl (cy 1, 12, .inl gJ)), (qY, .inl (cy 1, 12, .inl gY))] H → va_D A [(qg, .inr (0, [.ref qR, .ref qW, .ref qT, .ref qS, .ref qJ, .ref qY, .int ng])), (qR, .inl (cy 0, 12, .inl gR)), (qW, .inl (cy 0, 12, .inl gW)), (qT, .inl (cy 0, 12, .inl gT)), (qS, .inl (cy 0, 12, .inl gS)), (qJ, .inl (cy 1, 12, .inl gJ)), (qY, .inl (cy 1, 12, .inl gY))] → va_S A s.heap H locs → lv_has ls 4 [(3, .int (nI k4)), (2, .int v2_4), (0, .ref qg), (1, .int room)] → W p l e (RM 0 0 0 0) s m args below meth c H locs 0 0 Q (F0 m 4 ls []) := by
      intro n4
      induction n4 with
      | zero =>
        intro k4 v2_4 H locs ls hkn4 hE4 hP hD hS hl
        have hk4 : 12 = k4 := by omega
        subst hk4
        have hE4 : v2_4 = fin4 := hE4
        subst hE4
        refine lv_iload_n hx hb dX0_jarsIn_4 rfl (lv_at hl 0 rfl) ?_
        refine lv_bipush (v := 12) hx hb dX0_jarsIn_5 (by decide) ?_
        refine lv_icmp_ge (tgt := 38) hx hb dX0_jarsIn_7 (by decide) (fun c7 => ?_) (fun c7 => ?_)
        rotate_left
        · exact absurd (nI_le (a := 12) (b := 12) (Nat.le_refl _) (by decide)) c7
        exact kk4 _ _ _ hP hD hS (lv_sub hl [0, 1, 2, 3] rfl)
      | succ n4 ih4 =>
        intro k4 v2_4 H locs ls hkn4 hE4 hP hD hS hl
        have hlt4 : k4 < 12 := by omega
        refine lv_iload_n hx hb dX0_jarsIn_4 rfl (lv_at hl 0 rfl) ?_
        refine lv_bipush (v := 12) hx hb dX0_jarsIn_5 (by decide) ?_
        refine lv_icmp_ge (tgt := 38) hx hb dX0_jarsIn_7 (by decide) (fun c7 => ?_) (fun c7 => ?_)
        · exact absurd c7 (nI_ge (a := k4) (b := 12) hlt4 (by decide))
        refine lv_aload_n hx hb dX0_jarsIn_10 rfl (lv_at hl 2 rfl) ?_
        refine va_get (D := D) (ci := 0) (v := .ref qJ) (C := RX0) (T := TX0) (N := 7) hx hb hts hin0 hown hK hP 0 rfl rfl 4 (by decide) (hts (.fieldLink RX0 24 "FireflyInn$Guests" "jars" "[Z") (List.mem_of_getElem? (i := 1) rfl)) (fun _ h9 => h9) rfl dX0_jarsIn_11 ?_
        refine lv_iload_n hx hb dX0_jarsIn_14 rfl (lv_at hl 0 rfl) ?_
        refine zal_n (k := k4) hx hb hK hP 5 rfl (by omega) (by decide) dX0_jarsIn_15 ?_
        refine lv_if_eq (tgt := 32) hx hb dX0_jarsIn_16 (by decide) (fun c16 => ?_) (fun c16 => ?_)
        · refine lv_iinc (v := (nI (k4 + 1))) (lv' := [(3, .int (nI (k4 + 1))), (2, .int v2_4), (0, .ref qg), (1, .int room)]) hx hb dX0_jarsIn_32 hl (k := 0) rfl (nI_1 k4) (by decide) rfl (fun ls hl => ?_)
          refine lv_goto (tgt := 4) hx hb dX0_jarsIn_35 (by decide) ?_
          exact ih4 (k4 + 1) v2_4 _ _ _ (by omega) (it_step (f := (fun (k : Nat) (v : Int32) => S_X0_jarsIn_4 gR gJ room k v)) (v := v2_4) (show S_X0_jarsIn_4 gR gJ room k4 v2_4 = v2_4 from by rw [S_X0_jarsIn_4, if_pos c16]) hE4) hP hD hS (lv_sub hl [0, 1, 2, 3] rfl)
        · refine lv_aload_n hx hb dX0_jarsIn_19 rfl (lv_at hl 2 rfl) ?_
          refine va_get (D := D) (ci := 0) (v := .ref qR) (C := RX0) (T := TX0) (N := 7) hx hb hts hin0 hown hK hP 0 rfl rfl 0 (by decide) (hts (.fieldLink RX0 9 "FireflyInn$Guests" "rooms" "[I") (List.mem_of_getElem? (i := 2) rfl)) (fun _ h9 => h9) rfl dX0_jarsIn_20 ?_
          refine lv_iload_n hx hb dX0_jarsIn_23 rfl (lv_at hl 0 rfl) ?_
          refine ial_n (k := k4) hx hb hK hP 1 rfl (by omega) (by decide) dX0_jarsIn_24 ?_
          refine lv_iload_n hx hb dX0_jarsIn_25 rfl (lv_at hl 3 rfl) ?_
          refine lv_icmp_ne (tgt := 32) hx hb dX0_jarsIn_26 (by decide) (fun c26 => ?_) (fun c26 => ?_)
          · refine lv_iinc (v := (nI (k4 + 1))) (lv' := [(3, .int (nI (k4 + 1))), (2, .int v2_4), (0, .ref qg), (1, .int room)]) hx hb dX0_jarsIn_32 hl (k := 0) rfl (nI_1 k4) (by decide) rfl (fun ls hl => ?_)
            refine lv_goto (tgt := 4) hx hb dX0_jarsIn_35 (by decide) ?_
            exact ih4 (k4 + 1) v2_4 _ _ _ (by omega) (it_step (f := (fun (k : Nat) (v : Int32) => S_X0_jarsIn_4 gR gJ room k v)) (v := v2_4) (show S_X0_jarsIn_4 gR gJ room k4 v2_4 = v2_4 from by rw [S_X0_jarsIn_4, if_neg c16, if_neg c26]) hE4) hP hD hS (lv_sub hl [0, 1, 2, 3] rfl)
          · refine lv_iinc (v := (v2_4 + 1)) (lv' := [(2, .int (v2_4 + 1)), (3, .int (nI k4)), (0, .ref qg), (1, .int room)]) hx hb dX0_jarsIn_29 hl (k := 1) rfl rfl (by decide) rfl (fun ls hl => ?_)
            refine lv_iinc (v := (nI (k4 + 1))) (lv' := [(3, .int (nI (k4 + 1))), (2, .int (v2_4 + 1)), (0, .ref qg), (1, .int room)]) hx hb dX0_jarsIn_32 hl (k := 1) rfl (nI_1 k4) (by decide) rfl (fun ls hl => ?_)
            refine lv_goto (tgt := 4) hx hb dX0_jarsIn_35 (by decide) ?_
            exact ih4 (k4 + 1) (v2_4 + 1) _ _ _ (by omega) (it_step (f := (fun (k : Nat) (v : Int32) => S_X0_jarsIn_4 gR gJ room k v)) (v := v2_4) (show S_X0_jarsIn_4 gR gJ room k4 v2_4 = (v2_4 + 1) from by rw [S_X0_jarsIn_4, if_neg c16, if_pos c26]) hE4) hP hD hS (lv_sub hl [0, 1, 2, 3] rfl)
    exact lp4 12 0 0 _ _ _ (by omega) hfin4 hP hD hS (lv_sub hl [0, 1, 2, 3] rfl)
  intro H locs ls hP hD hS hl
  subst hfin4
  refine lv_iload_n hx hb dX0_jarsIn_38 rfl (lv_at hl 1 rfl) ?_
  subst hQ
  exact en_i (tv := (I_X0_jarsIn_4 gR gJ room)) hx hb hr hlocks (by rw [F_X0_jarsIn]) rfl hK hP hD hS (Nat.le_refl _) (Nat.le_refl _) dX0_jarsIn_39

def S_X0_dropJarsIn_2 (gR : Nat → Int32) (room : Int32) (k2 : Nat) (gJ_2 : Nat → Int32) : Nat → Int32 :=
  if (gR k2) = room then
    (upd gJ_2 k2 (vp_nar .boolean 0))
  else
    gJ_2
def I_X0_dropJarsIn_2 (gR : Nat → Int32) (gJ : Nat → Int32) (room : Int32) : Nat → Int32 :=
  it (fun (k : Nat) (v : Nat → Int32) => S_X0_dropJarsIn_2 gR room k v) 12 0 gJ
def F_X0_dropJarsIn (gR : Nat → Int32) (gJ : Nat → Int32) (room : Int32) : Nat → Int32 :=
  (I_X0_dropJarsIn_2 gR gJ room)
set_option maxHeartbeats 4000000 in
set_option maxRecDepth 100000 in
theorem k_X0_dropJarsIn (l : Launch) (D : va_G) (cy : Nat → ClassId) (sz : Nat) (qg qR qW qT qS qJ qY : Nat) (ng : Int32) (gR : Nat → Int32) (gW : Nat → Int32) (gT : Nat → Int32) (gS : Nat → Int32) (gJ : Nat → Int32) (gY : Nat → Int32) (room : Int32) : MTa l D cy yX0_dropJarsIn wsX0_dropJarsIn 0 0 0 0 [(qg, .inr (0, [.ref qR, .ref qW, .ref qT, .ref qS, .ref qJ, .ref qY, .int ng])), (qR, .inl (cy 0, 12, .inl gR)), (qW, .inl (cy 0, 12, .inl gW)), (qT, .inl (cy 0, 12, .inl gT)), (qS, .inl (cy 0, 12, .inl gS)), (qJ, .inl (cy 1, 12, .inl gJ)), (qY, .inl (cy 1, 12, .inl gY))] sz [.ref qg, .int room] (fun A => QvT D cy (fun (t : Nat → Int32) => [(qg, .inr (0, [.ref qR, .ref qW, .ref qT, .ref qS, .ref qJ, .ref qY, .int ng])), (qR, .inl (cy 0, 12, .inl gR)), (qW, .inl (cy 0, 12, .inl gW)), (qT, .inl (cy 0, 12, .inl gT)), (qS, .inl (cy 0, 12, .inl gS)), (qJ, .inl (cy 1, 12, .inl t)), (qY, .inl (cy 1, 12, .inl gY))]) (F_X0_dropJarsIn gR gJ room) A) := by
  refine ofWT (cc := cX0_dropJarsIn) (maxL := 3) (ret := none) (own := RX0) (by decide) rfl (Nat.le_of_ble_eq_true rfl) rfl ?_
  intro p e s m args below meth c A ls hx hb hr hml hts hown hlocks hin hN hK hP hD hA hl
  have hS : va_S A s.heap s.heap [] := va_S.rf
  have hl : lv_has ls 3 [(0, .ref qg), (1, .int room)] := hl
  have hin0 : ∀ w ∈ u_ws RX0 TX0 7, w ∈ wsX0_dropJarsIn := (fun w h => List.mem_cons_of_mem _ (List.mem_append_right _ h))
  generalize hQ : MQ below ((fun A => QvT D cy (fun (t : Nat → Int32) => [(qg, .inr (0, [.ref qR, .ref qW, .ref qT, .ref qS, .ref qJ, .ref qY, .int ng])), (qR, .inl (cy 0, 12, .inl gR)), (qW, .inl (cy 0, 12, .inl gW)), (qT, .inl (cy 0, 12, .inl gT)), (qS, .inl (cy 0, 12, .inl gS)), (qJ, .inl (cy 1, 12, .inl t)), (qY, .inl (cy 1, 12, .inl gY))]) (F_X0_dropJarsIn gR gJ room) A) A) args s 0 0 A = Q
  refine lv_iconst (v := 0) hx hb dX0_dropJarsIn_0 (by decide) ?_
  refine lv_istore_n (lv' := [(2, .int 0), (0, .ref qg), (1, .int room)]) hx hb dX0_dropJarsIn_1 rfl hl (by decide) rfl (fun ls hl => ?_)
  obtain ⟨fin2, hfin2⟩ : ∃ z, (I_X0_dropJarsIn_2 gR gJ room) = z := ⟨_, rfl⟩
  suffices kk2 : ∀ (H : Heap) (locs : List Loc) (ls : Array Slot), va_P D vwCl [(qg, .inr (0, [.ref qR, .ref qW, .ref qT, .ref qS, .ref qJ, .ref qY, .int ng])), (qR, .inl (cy 0, 12, .inl gR)), (qW, .inl (cy 0, 12, .inl gW)), (qT, .inl (cy 0, 12, .inl gT)), (qS, .inl (cy 0, 12, .inl gS)), (qJ, .inl (cy 1, 12, .inl fin2)), (qY, .inl (cy 1, 12, .inl gY))] H → va_D A [(qg, .inr (0, [.ref qR, .ref qW, .ref qT, .ref qS, .ref qJ, .ref qY, .int ng])), (qR, .inl (cy 0, 12, .inl gR)), (qW, .inl (cy 0, 12, .inl gW)), (qT, .inl (cy 0, 12, .inl gT)), (qS, .inl (cy 0, 12, .inl gS)), (qJ, .inl (cy 1, 12, .inl fin2)), (qY, .inl (cy 1, 12, .inl gY))] → va_S A s.heap H locs → lv_has ls 3 [(2, .int (nI 12)), (0, .ref qg), (1, .int room)] → W p l e (RM 0 0 0 0) s m args below meth c H locs 0 0 Q (F0 m 31 ls []) by
    have lp2 : ∀ (n2 k2 : Nat) (gJ_2 : Nat → Int32) (H : Heap) (locs : List Loc) (ls : Array Slot), k2 + n2 = 12 → it (fun (k : Nat) (v : Nat → Int32) => S_X0_dropJarsIn_2 gR room k v) n2 k2 gJ_2 = fin2 → va_P D vwCl [(qg, .inr (0, [.ref qR, .ref qW, .ref qT, .ref qS, .ref qJ, .ref qY, .int ng])), (qR, .inl (cy 0, 12, .inl gR)), (qW, .inl (cy 0, 12, .inl gW)), (qT, .inl (cy 0, 12, .inl gT)), (qS, .inl (cy 0, 12, .inl gS)), (qJ, .inl (cy 1, 12, .inl gJ_2)), (qY, .inl (cy 1, 12, .inl gY))] H → va_D A [(qg, .inr (0, [.ref qR, .ref qW, .ref qT, .ref qS, .ref qJ, .ref qY, .int ng])), (qR, .inl (cy 0, 12, .inl gR)), (qW, .inl (cy 0, 12, .inl gW)), (qT, .inl (cy 0, 12, .inl gT)), (qS, .inl (cy 0, 12, .inl gS)), (qJ, .inl (cy 1, 12, .inl gJ_2)), (qY, .inl (cy 1, 12, .inl gY))] → va_S A s.heap H locs → lv_has ls 3 [(2, .int (nI k2)), (0, .ref qg), (1, .int room)] → W p l e (RM 0 0 0 0) s m args below meth c H locs 0 0 Q (F0 m 2 ls []) := by
      intro n2
      induction n2 with
      | zero =>
        intro k2 gJ_2 H locs ls hkn2 hE2 hP hD hS hl
        have hk2 : 12 = k2 := by omega
        subst hk2
        have hE2 : gJ_2 = fin2 := hE2
        subst hE2
        refine lv_iload_n hx hb dX0_dropJarsIn_2 rfl (lv_at hl 0 rfl) ?_
        refine lv_bipush (v := 12) hx hb dX0_dropJarsIn_3 (by decide) ?_
        refine lv_icmp_ge (tgt := 31) hx hb dX0_dropJarsIn_5 (by decide) (fun c5 => ?_) (fun c5 => ?_)
        rotate_left
        · exact absurd (nI_le (a := 12) (b := 12) (Nat.le_refl _) (by decide)) c5
        exact kk2 _ _ _ hP hD hS (lv_sub hl [0, 1, 2] rfl)
      | succ n2 ih2 =>
        intro k2 gJ_2 H locs ls hkn2 hE2 hP hD hS hl
        have hlt2 : k2 < 12 := by omega
        refine lv_iload_n hx hb dX0_dropJarsIn_2 rfl (lv_at hl 0 rfl) ?_
        refine lv_bipush (v := 12) hx hb dX0_dropJarsIn_3 (by decide) ?_
        refine lv_icmp_ge (tgt := 31) hx hb dX0_dropJarsIn_5 (by decide) (fun c5 => ?_) (fun c5 => ?_)
        · exact absurd c5 (nI_ge (a := k2) (b := 12) hlt2 (by decide))
        refine lv_aload_n hx hb dX0_dropJarsIn_8 rfl (lv_at hl 1 rfl) ?_
        refine va_get (D := D) (ci := 0) (v := .ref qR) (C := RX0) (T := TX0) (N := 7) hx hb hts hin0 hown hK hP 0 rfl rfl 0 (by decide) (hts (.fieldLink RX0 9 "FireflyInn$Guests" "rooms" "[I") (List.mem_of_getElem? (i := 1) rfl)) (fun _ h9 => h9) rfl dX0_dropJarsIn_9 ?_
        refine lv_iload_n hx hb dX0_dropJarsIn_12 rfl (lv_at hl 0 rfl) ?_
        refine ial_n (k := k2) hx hb hK hP 1 rfl (by omega) (by decide) dX0_dropJarsIn_13 ?_
        refine lv_iload_n hx hb dX0_dropJarsIn_14 rfl (lv_at hl 2 rfl) ?_
        refine lv_icmp_ne (tgt := 25) hx hb dX0_dropJarsIn_15 (by decide) (fun c15 => ?_) (fun c15 => ?_)
        · refine lv_iinc (v := (nI (k2 + 1))) (lv' := [(2, .int (nI (k2 + 1))), (0, .ref qg), (1, .int room)]) hx hb dX0_dropJarsIn_25 hl (k := 0) rfl (nI_1 k2) (by decide) rfl (fun ls hl => ?_)
          refine lv_goto (tgt := 2) hx hb dX0_dropJarsIn_28 (by decide) ?_
          exact ih2 (k2 + 1) gJ_2 _ _ _ (by omega) (it_step (f := (fun (k : Nat) (v : Nat → Int32) => S_X0_dropJarsIn_2 gR room k v)) (v := gJ_2) (show S_X0_dropJarsIn_2 gR room k2 gJ_2 = gJ_2 from by rw [S_X0_dropJarsIn_2, if_neg c15]) hE2) hP hD hS (lv_sub hl [0, 1, 2] rfl)
        · refine lv_aload_n hx hb dX0_dropJarsIn_18 rfl (lv_at hl 1 rfl) ?_
          refine va_get (D := D) (ci := 0) (v := .ref qJ) (C := RX0) (T := TX0) (N := 7) hx hb hts hin0 hown hK hP 0 rfl rfl 4 (by decide) (hts (.fieldLink RX0 24 "FireflyInn$Guests" "jars" "[Z") (List.mem_of_getElem? (i := 2) rfl)) (fun _ h9 => h9) rfl dX0_dropJarsIn_19 ?_
          refine lv_iload_n hx hb dX0_dropJarsIn_22 rfl (lv_at hl 0 rfl) ?_
          refine lv_iconst (v := 0) hx hb dX0_dropJarsIn_23 (by decide) ?_
          refine zas_n (k := k2) hx hb hK hP hD hS 5 rfl (by omega) (by decide) dX0_dropJarsIn_24 (fun H locs hP hD hS => ?_)
          have hP : va_P D vwCl [(qg, .inr (0, [.ref qR, .ref qW, .ref qT, .ref qS, .ref qJ, .ref qY, .int ng])), (qR, .inl (cy 0, 12, .inl gR)), (qW, .inl (cy 0, 12, .inl gW)), (qT, .inl (cy 0, 12, .inl gT)), (qS, .inl (cy 0, 12, .inl gS)), (qJ, .inl (cy 1, 12, .inl (upd gJ_2 k2 (vp_nar .boolean 0)))), (qY, .inl (cy 1, 12, .inl gY))] H := hP
          have hD : va_D A [(qg, .inr (0, [.ref qR, .ref qW, .ref qT, .ref qS, .ref qJ, .ref qY, .int ng])), (qR, .inl (cy 0, 12, .inl gR)), (qW, .inl (cy 0, 12, .inl gW)), (qT, .inl (cy 0, 12, .inl gT)), (qS, .inl (cy 0, 12, .inl gS)), (qJ, .inl (cy 1, 12, .inl (upd gJ_2 k2 (vp_nar .boolean 0)))), (qY, .inl (cy 1, 12, .inl gY))] := hD
          refine lv_iinc (v := (nI (k2 + 1))) (lv' := [(2, .int (nI (k2 + 1))), (0, .ref qg), (1, .int room)]) hx hb dX0_dropJarsIn_25 hl (k := 0) rfl (nI_1 k2) (by decide) rfl (fun ls hl => ?_)
          refine lv_goto (tgt := 2) hx hb dX0_dropJarsIn_28 (by decide) ?_
          exact ih2 (k2 + 1) (upd gJ_2 k2 (vp_nar .boolean 0)) _ _ _ (by omega) (it_step (f := (fun (k : Nat) (v : Nat → Int32) => S_X0_dropJarsIn_2 gR room k v)) (v := gJ_2) (show S_X0_dropJarsIn_2 gR room k2 gJ_2 = (upd gJ_2 k2 (vp_nar .boolean 0)) from by rw [S_X0_dropJarsIn_2, if_pos c15]) hE2) hP hD hS (lv_sub hl [0, 1, 2] rfl)
    exact lp2 12 0 gJ _ _ _ (by omega) hfin2 hP hD hS (lv_sub hl [0, 1, 2] rfl)
  intro H locs ls hP hD hS hl
  subst hfin2
  subst hQ
  exact en_v (tv := (I_X0_dropJarsIn_2 gR gJ room)) hx hb hr hlocks (by rw [F_X0_dropJarsIn]) hK hP hD hS (Nat.le_refl _) (Nat.le_refl _) dX0_dropJarsIn_31

def S_X0_copyFrom_2 (gRz : Nat → Int32) (gWz : Nat → Int32) (gTz : Nat → Int32) (gSz : Nat → Int32) (gJz : Nat → Int32) (gYz : Nat → Int32) (k2 : Nat) (gR_2 : Nat → Int32) (gW_2 : Nat → Int32) (gT_2 : Nat → Int32) (gS_2 : Nat → Int32) (gJ_2 : Nat → Int32) (gY_2 : Nat → Int32) : (Nat → Int32) × (Nat → Int32) × (Nat → Int32) × (Nat → Int32) × (Nat → Int32) × (Nat → Int32) :=
  ((upd gR_2 k2 (gRz k2)), (upd gW_2 k2 (gWz k2)), (upd gT_2 k2 (gTz k2)), (upd gS_2 k2 (gSz k2)), (upd gJ_2 k2 (vp_nar .boolean (gJz k2))), (upd gY_2 k2 (vp_nar .boolean (gYz k2))))
def I_X0_copyFrom_2 (gR : Nat → Int32) (gW : Nat → Int32) (gT : Nat → Int32) (gS : Nat → Int32) (gJ : Nat → Int32) (gY : Nat → Int32) (gRz : Nat → Int32) (gWz : Nat → Int32) (gTz : Nat → Int32) (gSz : Nat → Int32) (gJz : Nat → Int32) (gYz : Nat → Int32) : (Nat → Int32) × (Nat → Int32) × (Nat → Int32) × (Nat → Int32) × (Nat → Int32) × (Nat → Int32) :=
  it (fun (k : Nat) (v : (Nat → Int32) × (Nat → Int32) × (Nat → Int32) × (Nat → Int32) × (Nat → Int32) × (Nat → Int32)) => S_X0_copyFrom_2 gRz gWz gTz gSz gJz gYz k v.1 v.2.1 v.2.2.1 v.2.2.2.1 v.2.2.2.2.1 v.2.2.2.2.2) 12 0 (gR, gW, gT, gS, gJ, gY)
def F_X0_copyFrom (gR : Nat → Int32) (gW : Nat → Int32) (gT : Nat → Int32) (gS : Nat → Int32) (gJ : Nat → Int32) (gY : Nat → Int32) (ngz : Int32) (gRz : Nat → Int32) (gWz : Nat → Int32) (gTz : Nat → Int32) (gSz : Nat → Int32) (gJz : Nat → Int32) (gYz : Nat → Int32) : Int32 × (Nat → Int32) × (Nat → Int32) × (Nat → Int32) × (Nat → Int32) × (Nat → Int32) × (Nat → Int32) :=
  (ngz, (I_X0_copyFrom_2 gR gW gT gS gJ gY gRz gWz gTz gSz gJz gYz).1, (I_X0_copyFrom_2 gR gW gT gS gJ gY gRz gWz gTz gSz gJz gYz).2.1, (I_X0_copyFrom_2 gR gW gT gS gJ gY gRz gWz gTz gSz gJz gYz).2.2.1, (I_X0_copyFrom_2 gR gW gT gS gJ gY gRz gWz gTz gSz gJz gYz).2.2.2.1, (I_X0_copyFrom_2 gR gW gT gS gJ gY gRz gWz gTz gSz gJz gYz).2.2.2.2.1, (I_X0_copyFrom_2 gR gW gT gS gJ gY gRz gWz gTz gSz gJz gYz).2.2.2.2.2)
set_option maxHeartbeats 4000000 in
set_option maxRecDepth 100000 in
theorem k_X0_copyFrom (l : Launch) (D : va_G) (cy : Nat → ClassId) (sz : Nat) (qg qR qW qT qS qJ qY qgz qRz qWz qTz qSz qJz qYz : Nat) (ng : Int32) (gR : Nat → Int32) (gW : Nat → Int32) (gT : Nat → Int32) (gS : Nat → Int32) (gJ : Nat → Int32) (gY : Nat → Int32) (ngz : Int32) (gRz : Nat → Int32) (gWz : Nat → Int32) (gTz : Nat → Int32) (gSz : Nat → Int32) (gJz : Nat → Int32) (gYz : Nat → Int32) : MTa l D cy yX0_copyFrom wsX0_copyFrom 0 0 0 0 [(qg, .inr (0, [.ref qR, .ref qW, .ref qT, .ref qS, .ref qJ, .ref qY, .int ng])), (qR, .inl (cy 0, 12, .inl gR)), (qW, .inl (cy 0, 12, .inl gW)), (qT, .inl (cy 0, 12, .inl gT)), (qS, .inl (cy 0, 12, .inl gS)), (qJ, .inl (cy 1, 12, .inl gJ)), (qY, .inl (cy 1, 12, .inl gY)), (qgz, .inr (0, [.ref qRz, .ref qWz, .ref qTz, .ref qSz, .ref qJz, .ref qYz, .int ngz])), (qRz, .inl (cy 0, 12, .inl gRz)), (qWz, .inl (cy 0, 12, .inl gWz)), (qTz, .inl (cy 0, 12, .inl gTz)), (qSz, .inl (cy 0, 12, .inl gSz)), (qJz, .inl (cy 1, 12, .inl gJz)), (qYz, .inl (cy 1, 12, .inl gYz))] sz [.ref qg, .ref qgz] (fun A => QvT D cy (fun (t : Int32 × (Nat → Int32) × (Nat → Int32) × (Nat → Int32) × (Nat → Int32) × (Nat → Int32) × (Nat → Int32)) => [(qg, .inr (0, [.ref qR, .ref qW, .ref qT, .ref qS, .ref qJ, .ref qY, .int t.1])), (qR, .inl (cy 0, 12, .inl t.2.1)), (qW, .inl (cy 0, 12, .inl t.2.2.1)), (qT, .inl (cy 0, 12, .inl t.2.2.2.1)), (qS, .inl (cy 0, 12, .inl t.2.2.2.2.1)), (qJ, .inl (cy 1, 12, .inl t.2.2.2.2.2.1)), (qY, .inl (cy 1, 12, .inl t.2.2.2.2.2.2)), (qgz, .inr (0, [.ref qRz, .ref qWz, .ref qTz, .ref qSz, .ref qJz, .ref qYz, .int ngz])), (qRz, .inl (cy 0, 12, .inl gRz)), (qWz, .inl (cy 0, 12, .inl gWz)), (qTz, .inl (cy 0, 12, .inl gTz)), (qSz, .inl (cy 0, 12, .inl gSz)), (qJz, .inl (cy 1, 12, .inl gJz)), (qYz, .inl (cy 1, 12, .inl gYz))]) (F_X0_copyFrom gR gW gT gS gJ gY ngz gRz gWz gTz gSz gJz gYz) A) := by
  refine ofWT (cc := cX0_copyFrom) (maxL := 3) (ret := none) (own := RX0) (by decide) rfl (Nat.le_of_ble_eq_true rfl) rfl ?_
  intro p e s m args below meth c A ls hx hb hr hml hts hown hlocks hin hN hK hP hD hA hl
  have hS : va_S A s.heap s.heap [] := va_S.rf
  have hl : lv_has ls 3 [(0, .ref qg), (1, .ref qgz)] := hl
  have hin0 : ∀ w ∈ u_ws RX0 TX0 7, w ∈ wsX0_copyFrom := (fun w h => List.mem_cons_of_mem _ (List.mem_append_right _ h))
  generalize hQ : MQ below ((fun A => QvT D cy (fun (t : Int32 × (Nat → Int32) × (Nat → Int32) × (Nat → Int32) × (Nat → Int32) × (Nat → Int32) × (Nat → Int32)) => [(qg, .inr (0, [.ref qR, .ref qW, .ref qT, .ref qS, .ref qJ, .ref qY, .int t.1])), (qR, .inl (cy 0, 12, .inl t.2.1)), (qW, .inl (cy 0, 12, .inl t.2.2.1)), (qT, .inl (cy 0, 12, .inl t.2.2.2.1)), (qS, .inl (cy 0, 12, .inl t.2.2.2.2.1)), (qJ, .inl (cy 1, 12, .inl t.2.2.2.2.2.1)), (qY, .inl (cy 1, 12, .inl t.2.2.2.2.2.2)), (qgz, .inr (0, [.ref qRz, .ref qWz, .ref qTz, .ref qSz, .ref qJz, .ref qYz, .int ngz])), (qRz, .inl (cy 0, 12, .inl gRz)), (qWz, .inl (cy 0, 12, .inl gWz)), (qTz, .inl (cy 0, 12, .inl gTz)), (qSz, .inl (cy 0, 12, .inl gSz)), (qJz, .inl (cy 1, 12, .inl gJz)), (qYz, .inl (cy 1, 12, .inl gYz))]) (F_X0_copyFrom gR gW gT gS gJ gY ngz gRz gWz gTz gSz gJz gYz) A) A) args s 0 0 A = Q
  refine lv_iconst (v := 0) hx hb dX0_copyFrom_0 (by decide) ?_
  refine lv_istore_n (lv' := [(2, .int 0), (0, .ref qg), (1, .ref qgz)]) hx hb dX0_copyFrom_1 rfl hl (by decide) rfl (fun ls hl => ?_)
  obtain ⟨fin2, hfin2⟩ : ∃ z, (I_X0_copyFrom_2 gR gW gT gS gJ gY gRz gWz gTz gSz gJz gYz) = z := ⟨_, rfl⟩
  suffices kk2 : ∀ (H : Heap) (locs : List Loc) (ls : Array Slot), va_P D vwCl [(qg, .inr (0, [.ref qR, .ref qW, .ref qT, .ref qS, .ref qJ, .ref qY, .int ng])), (qR, .inl (cy 0, 12, .inl fin2.1)), (qW, .inl (cy 0, 12, .inl fin2.2.1)), (qT, .inl (cy 0, 12, .inl fin2.2.2.1)), (qS, .inl (cy 0, 12, .inl fin2.2.2.2.1)), (qJ, .inl (cy 1, 12, .inl fin2.2.2.2.2.1)), (qY, .inl (cy 1, 12, .inl fin2.2.2.2.2.2)), (qgz, .inr (0, [.ref qRz, .ref qWz, .ref qTz, .ref qSz, .ref qJz, .ref qYz, .int ngz])), (qRz, .inl (cy 0, 12, .inl gRz)), (qWz, .inl (cy 0, 12, .inl gWz)), (qTz, .inl (cy 0, 12, .inl gTz)), (qSz, .inl (cy 0, 12, .inl gSz)), (qJz, .inl (cy 1, 12, .inl gJz)), (qYz, .inl (cy 1, 12, .inl gYz))] H → va_D A [(qg, .inr (0, [.ref qR, .ref qW, .ref qT, .ref qS, .ref qJ, .ref qY, .int ng])), (qR, .inl (cy 0, 12, .inl fin2.1)), (qW, .inl (cy 0, 12, .inl fin2.2.1)), (qT, .inl (cy 0, 12, .inl fin2.2.2.1)), (qS, .inl (cy 0, 12, .inl fin2.2.2.2.1)), (qJ, .inl (cy 1, 12, .inl fin2.2.2.2.2.1)), (qY, .inl (cy 1, 12, .inl fin2.2.2.2.2.2)), (qgz, .inr (0, [.ref qRz, .ref qWz, .ref qTz, .ref qSz, .ref qJz, .ref qYz, .int ngz])), (qRz, .inl (cy 0, 12, .inl gRz)), (qWz, .inl (cy 0, 12, .inl gWz)), (qTz, .inl (cy 0, 12, .inl gTz)), (qSz, .inl (cy 0, 12, .inl gSz)), (qJz, .inl (cy 1, 12, .inl gJz)), (qYz, .inl (cy 1, 12, .inl gYz))] → va_S A s.heap H locs → lv_has ls 3 [(2, .int (nI 12)), (0, .ref qg), (1, .ref qgz)] → W p l e (RM 0 0 0 0) s m args below meth c H locs 0 0 Q (F0 m 86 ls []) by
    have lp2 : ∀ (n2 k2 : Nat) (gR_2 : Nat → Int32) (gW_2 : Nat → Int32) (gT_2 : Nat → Int32) (gS_2 : Nat → Int32) (gJ_2 : Nat → Int32) (gY_2 : Nat → Int32) (H : Heap) (locs : List Loc) (ls : Array Slot), k2 + n2 = 12 → it (fun (k : Nat) (v : (Nat → Int32) × (Nat → Int32) × (Nat → Int32) × (Nat → Int32) × (Nat → Int32) × (Nat → Int32)) => S_X0_copyFrom_2 gRz gWz gTz gSz gJz gYz k v.1 v.2.1 v.2.2.1 v.2.2.2.1 v.2.2.2.2.1 v.2.2.2.2.2) n2 k2 (gR_2, gW_2, gT_2, gS_2, gJ_2, gY_2) = fin2 → va_P D vwCl [(qg, .inr (0, [.ref qR, .ref qW, .ref qT, .ref qS, .ref qJ, .ref qY, .int ng])), (qR, .inl (cy 0, 12, .inl gR_2)), (qW, .inl (cy 0, 12, .inl gW_2)), (qT, .inl (cy 0, 12, .inl gT_2)), (qS, .inl (cy 0, 12, .inl gS_2)), (qJ, .inl (cy 1, 12, .inl gJ_2)), (qY, .inl (cy 1, 12, .inl gY_2)), (qgz, .inr (0, [.ref qRz, .ref qWz, .ref qTz, .ref qSz, .ref qJz, .ref qYz, .int ngz])), (qRz, .inl (cy 0, 12, .inl gRz)), (qWz, .inl (cy 0, 12, .inl gWz)), (qTz, .inl (cy 0, 12, .inl gTz)), (qSz, .inl (cy 0, 12, .inl gSz)), (qJz, .inl (cy 1, 12, .inl gJz)), (qYz, .inl (cy 1, 12, .inl gYz))] H → va_D A [(qg, .inr (0, [.ref qR, .ref qW, .ref qT, .ref qS, .ref qJ, .ref qY, .int ng])), (qR, .inl (cy 0, 12, .inl gR_2)), (qW, .inl (cy 0, 12, .inl gW_2)), (qT, .inl (cy 0, 12, .inl gT_2)), (qS, .inl (cy 0, 12, .inl gS_2)), (qJ, .inl (cy 1, 12, .inl gJ_2)), (qY, .inl (cy 1, 12, .inl gY_2)), (qgz, .inr (0, [.ref qRz, .ref qWz, .ref qTz, .ref qSz, .ref qJz, .ref qYz, .int ngz])), (qRz, .inl (cy 0, 12, .inl gRz)), (qWz, .inl (cy 0, 12, .inl gWz)), (qTz, .inl (cy 0, 12, .inl gTz)), (qSz, .inl (cy 0, 12, .inl gSz)), (qJz, .inl (cy 1, 12, .inl gJz)), (qYz, .inl (cy 1, 12, .inl gYz))] → va_S A s.heap H locs → lv_has ls 3 [(2, .int (nI k2)), (0, .ref qg), (1, .ref qgz)] → W p l e (RM 0 0 0 0) s m args below meth c H locs 0 0 Q (F0 m 2 ls []) := by
      intro n2
      induction n2 with
      | zero =>
        intro k2 gR_2 gW_2 gT_2 gS_2 gJ_2 gY_2 H locs ls hkn2 hE2 hP hD hS hl
        have hk2 : 12 = k2 := by omega
        subst hk2
        have hE2 : (gR_2, gW_2, gT_2, gS_2, gJ_2, gY_2) = fin2 := hE2
        subst hE2
        refine lv_iload_n hx hb dX0_copyFrom_2 rfl (lv_at hl 0 rfl) ?_
        refine lv_bipush (v := 12) hx hb dX0_copyFrom_3 (by decide) ?_
        refine lv_icmp_ge (tgt := 86) hx hb dX0_copyFrom_5 (by decide) (fun c5 => ?_) (fun c5 => ?_)
        rotate_left
        · exact absurd (nI_le (a := 12) (b := 12) (Nat.le_refl _) (by decide)) c5
        exact kk2 _ _ _ hP hD hS (lv_sub hl [0, 1, 2] rfl)
      | succ n2 ih2 =>
        intro k2 gR_2 gW_2 gT_2 gS_2 gJ_2 gY_2 H locs ls hkn2 hE2 hP hD hS hl
        have hlt2 : k2 < 12 := by omega
        refine lv_iload_n hx hb dX0_copyFrom_2 rfl (lv_at hl 0 rfl) ?_
        refine lv_bipush (v := 12) hx hb dX0_copyFrom_3 (by decide) ?_
        refine lv_icmp_ge (tgt := 86) hx hb dX0_copyFrom_5 (by decide) (fun c5 => ?_) (fun c5 => ?_)
        · exact absurd c5 (nI_ge (a := k2) (b := 12) hlt2 (by decide))
        refine lv_aload_n hx hb dX0_copyFrom_8 rfl (lv_at hl 1 rfl) ?_
        refine va_get (D := D) (ci := 0) (v := .ref qR) (C := RX0) (T := TX0) (N := 7) hx hb hts hin0 hown hK hP 0 rfl rfl 0 (by decide) (hts (.fieldLink RX0 9 "FireflyInn$Guests" "rooms" "[I") (List.mem_of_getElem? (i := 1) rfl)) (fun _ h9 => h9) rfl dX0_copyFrom_9 ?_
        refine lv_iload_n hx hb dX0_copyFrom_12 rfl (lv_at hl 0 rfl) ?_
        refine lv_aload_n hx hb dX0_copyFrom_13 rfl (lv_at hl 2 rfl) ?_
        refine va_get (D := D) (ci := 0) (v := .ref qRz) (C := RX0) (T := TX0) (N := 7) hx hb hts hin0 hown hK hP 7 rfl rfl 0 (by decide) (hts (.fieldLink RX0 9 "FireflyInn$Guests" "rooms" "[I") (List.mem_of_getElem? (i := 1) rfl)) (fun _ h9 => h9) rfl dX0_copyFrom_14 ?_
        refine lv_iload_n hx hb dX0_copyFrom_17 rfl (lv_at hl 0 rfl) ?_
        refine ial_n (k := k2) hx hb hK hP 8 rfl (by omega) (by decide) dX0_copyFrom_18 ?_
        refine ias_n (k := k2) hx hb hK hP hD hS 1 rfl (by omega) (by decide) dX0_copyFrom_19 (fun H locs hP hD hS => ?_)
        have hP : va_P D vwCl [(qg, .inr (0, [.ref qR, .ref qW, .ref qT, .ref qS, .ref qJ, .ref qY, .int ng])), (qR, .inl (cy 0, 12, .inl (upd gR_2 k2 (gRz k2)))), (qW, .inl (cy 0, 12, .inl gW_2)), (qT, .inl (cy 0, 12, .inl gT_2)), (qS, .inl (cy 0, 12, .inl gS_2)), (qJ, .inl (cy 1, 12, .inl gJ_2)), (qY, .inl (cy 1, 12, .inl gY_2)), (qgz, .inr (0, [.ref qRz, .ref qWz, .ref qTz, .ref qSz, .ref qJz, .ref qYz, .int ngz])), (qRz, .inl (cy 0, 12, .inl gRz)), (qWz, .inl (cy 0, 12, .inl gWz)), (qTz, .inl (cy 0, 12, .inl gTz)), (qSz, .inl (cy 0, 12, .inl gSz)), (qJz, .inl (cy 1, 12, .inl gJz)), (qYz, .inl (cy 1, 12, .inl gYz))] H := hP
        have hD : va_D A [(qg, .inr (0, [.ref qR, .ref qW, .ref qT, .ref qS, .ref qJ, .ref qY, .int ng])), (qR, .inl (cy 0, 12, .inl (upd gR_2 k2 (gRz k2)))), (qW, .inl (cy 0, 12, .inl gW_2)), (qT, .inl (cy 0, 12, .inl gT_2)), (qS, .inl (cy 0, 12, .inl gS_2)), (qJ, .inl (cy 1, 12, .inl gJ_2)), (qY, .inl (cy 1, 12, .inl gY_2)), (qgz, .inr (0, [.ref qRz, .ref qWz, .ref qTz, .ref qSz, .ref qJz, .ref qYz, .int ngz])), (qRz, .inl (cy 0, 12, .inl gRz)), (qWz, .inl (cy 0, 12, .inl gWz)), (qTz, .inl (cy 0, 12, .inl gTz)), (qSz, .inl (cy 0, 12, .inl gSz)), (qJz, .inl (cy 1, 12, .inl gJz)), (qYz, .inl (cy 1, 12, .inl gYz))] := hD
        refine lv_aload_n hx hb dX0_copyFrom_20 rfl (lv_at hl 1 rfl) ?_
        refine va_get (D := D) (ci := 0) (v := .ref qW) (C := RX0) (T := TX0) (N := 7) hx hb hts hin0 hown hK hP 0 rfl rfl 1 (by decide) (hts (.fieldLink RX0 15 "FireflyInn$Guests" "whispers" "[I") (List.mem_of_getElem? (i := 2) rfl)) (fun _ h9 => h9) rfl dX0_copyFrom_21 ?_
        refine lv_iload_n hx hb dX0_copyFrom_24 rfl (lv_at hl 0 rfl) ?_
        refine lv_aload_n hx hb dX0_copyFrom_25 rfl (lv_at hl 2 rfl) ?_
        refine va_get (D := D) (ci := 0) (v := .ref qWz) (C := RX0) (T := TX0) (N := 7) hx hb hts hin0 hown hK hP 7 rfl rfl 1 (by decide) (hts (.fieldLink RX0 15 "FireflyInn$Guests" "whispers" "[I") (List.mem_of_getElem? (i := 2) rfl)) (fun _ h9 => h9) rfl dX0_copyFrom_26 ?_
        refine lv_iload_n hx hb dX0_copyFrom_29 rfl (lv_at hl 0 rfl) ?_
        refine ial_n (k := k2) hx hb hK hP 9 rfl (by omega) (by decide) dX0_copyFrom_30 ?_
        refine ias_n (k := k2) hx hb hK hP hD hS 2 rfl (by omega) (by decide) dX0_copyFrom_31 (fun H locs hP hD hS => ?_)
        have hP : va_P D vwCl [(qg, .inr (0, [.ref qR, .ref qW, .ref qT, .ref qS, .ref qJ, .ref qY, .int ng])), (qR, .inl (cy 0, 12, .inl (upd gR_2 k2 (gRz k2)))), (qW, .inl (cy 0, 12, .inl (upd gW_2 k2 (gWz k2)))), (qT, .inl (cy 0, 12, .inl gT_2)), (qS, .inl (cy 0, 12, .inl gS_2)), (qJ, .inl (cy 1, 12, .inl gJ_2)), (qY, .inl (cy 1, 12, .inl gY_2)), (qgz, .inr (0, [.ref qRz, .ref qWz, .ref qTz, .ref qSz, .ref qJz, .ref qYz, .int ngz])), (qRz, .inl (cy 0, 12, .inl gRz)), (qWz, .inl (cy 0, 12, .inl gWz)), (qTz, .inl (cy 0, 12, .inl gTz)), (qSz, .inl (cy 0, 12, .inl gSz)), (qJz, .inl (cy 1, 12, .inl gJz)), (qYz, .inl (cy 1, 12, .inl gYz))] H := hP
        have hD : va_D A [(qg, .inr (0, [.ref qR, .ref qW, .ref qT, .ref qS, .ref qJ, .ref qY, .int ng])), (qR, .inl (cy 0, 12, .inl (upd gR_2 k2 (gRz k2)))), (qW, .inl (cy 0, 12, .inl (upd gW_2 k2 (gWz k2)))), (qT, .inl (cy 0, 12, .inl gT_2)), (qS, .inl (cy 0, 12, .inl gS_2)), (qJ, .inl (cy 1, 12, .inl gJ_2)), (qY, .inl (cy 1, 12, .inl gY_2)), (qgz, .inr (0, [.ref qRz, .ref qWz, .ref qTz, .ref qSz, .ref qJz, .ref qYz, .int ngz])), (qRz, .inl (cy 0, 12, .inl gRz)), (qWz, .inl (cy 0, 12, .inl gWz)), (qTz, .inl (cy 0, 12, .inl gTz)), (qSz, .inl (cy 0, 12, .inl gSz)), (qJz, .inl (cy 1, 12, .inl gJz)), (qYz, .inl (cy 1, 12, .inl gYz))] := hD
        refine lv_aload_n hx hb dX0_copyFrom_32 rfl (lv_at hl 1 rfl) ?_
        refine va_get (D := D) (ci := 0) (v := .ref qT) (C := RX0) (T := TX0) (N := 7) hx hb hts hin0 hown hK hP 0 rfl rfl 2 (by decide) (hts (.fieldLink RX0 18 "FireflyInn$Guests" "took" "[I") (List.mem_of_getElem? (i := 3) rfl)) (fun _ h9 => h9) rfl dX0_copyFrom_33 ?_
        refine lv_iload_n hx hb dX0_copyFrom_36 rfl (lv_at hl 0 rfl) ?_
        refine lv_aload_n hx hb dX0_copyFrom_37 rfl (lv_at hl 2 rfl) ?_
        refine va_get (D := D) (ci := 0) (v := .ref qTz) (C := RX0) (T := TX0) (N := 7) hx hb hts hin0 hown hK hP 7 rfl rfl 2 (by decide) (hts (.fieldLink RX0 18 "FireflyInn$Guests" "took" "[I") (List.mem_of_getElem? (i := 3) rfl)) (fun _ h9 => h9) rfl dX0_copyFrom_38 ?_
        refine lv_iload_n hx hb dX0_copyFrom_41 rfl (lv_at hl 0 rfl) ?_
        refine ial_n (k := k2) hx hb hK hP 10 rfl (by omega) (by decide) dX0_copyFrom_42 ?_
        refine ias_n (k := k2) hx hb hK hP hD hS 3 rfl (by omega) (by decide) dX0_copyFrom_43 (fun H locs hP hD hS => ?_)
        have hP : va_P D vwCl [(qg, .inr (0, [.ref qR, .ref qW, .ref qT, .ref qS, .ref qJ, .ref qY, .int ng])), (qR, .inl (cy 0, 12, .inl (upd gR_2 k2 (gRz k2)))), (qW, .inl (cy 0, 12, .inl (upd gW_2 k2 (gWz k2)))), (qT, .inl (cy 0, 12, .inl (upd gT_2 k2 (gTz k2)))), (qS, .inl (cy 0, 12, .inl gS_2)), (qJ, .inl (cy 1, 12, .inl gJ_2)), (qY, .inl (cy 1, 12, .inl gY_2)), (qgz, .inr (0, [.ref qRz, .ref qWz, .ref qTz, .ref qSz, .ref qJz, .ref qYz, .int ngz])), (qRz, .inl (cy 0, 12, .inl gRz)), (qWz, .inl (cy 0, 12, .inl gWz)), (qTz, .inl (cy 0, 12, .inl gTz)), (qSz, .inl (cy 0, 12, .inl gSz)), (qJz, .inl (cy 1, 12, .inl gJz)), (qYz, .inl (cy 1, 12, .inl gYz))] H := hP
        have hD : va_D A [(qg, .inr (0, [.ref qR, .ref qW, .ref qT, .ref qS, .ref qJ, .ref qY, .int ng])), (qR, .inl (cy 0, 12, .inl (upd gR_2 k2 (gRz k2)))), (qW, .inl (cy 0, 12, .inl (upd gW_2 k2 (gWz k2)))), (qT, .inl (cy 0, 12, .inl (upd gT_2 k2 (gTz k2)))), (qS, .inl (cy 0, 12, .inl gS_2)), (qJ, .inl (cy 1, 12, .inl gJ_2)), (qY, .inl (cy 1, 12, .inl gY_2)), (qgz, .inr (0, [.ref qRz, .ref qWz, .ref qTz, .ref qSz, .ref qJz, .ref qYz, .int ngz])), (qRz, .inl (cy 0, 12, .inl gRz)), (qWz, .inl (cy 0, 12, .inl gWz)), (qTz, .inl (cy 0, 12, .inl gTz)), (qSz, .inl (cy 0, 12, .inl gSz)), (qJz, .inl (cy 1, 12, .inl gJz)), (qYz, .inl (cy 1, 12, .inl gYz))] := hD
        refine lv_aload_n hx hb dX0_copyFrom_44 rfl (lv_at hl 1 rfl) ?_
        refine va_get (D := D) (ci := 0) (v := .ref qS) (C := RX0) (T := TX0) (N := 7) hx hb hts hin0 hown hK hP 0 rfl rfl 3 (by decide) (hts (.fieldLink RX0 21 "FireflyInn$Guests" "saw" "[I") (List.mem_of_getElem? (i := 4) rfl)) (fun _ h9 => h9) rfl dX0_copyFrom_45 ?_
        refine lv_iload_n hx hb dX0_copyFrom_48 rfl (lv_at hl 0 rfl) ?_
        refine lv_aload_n hx hb dX0_copyFrom_49 rfl (lv_at hl 2 rfl) ?_
        refine va_get (D := D) (ci := 0) (v := .ref qSz) (C := RX0) (T := TX0) (N := 7) hx hb hts hin0 hown hK hP 7 rfl rfl 3 (by decide) (hts (.fieldLink RX0 21 "FireflyInn$Guests" "saw" "[I") (List.mem_of_getElem? (i := 4) rfl)) (fun _ h9 => h9) rfl dX0_copyFrom_50 ?_
        refine lv_iload_n hx hb dX0_copyFrom_53 rfl (lv_at hl 0 rfl) ?_
        refine ial_n (k := k2) hx hb hK hP 11 rfl (by omega) (by decide) dX0_copyFrom_54 ?_
        refine ias_n (k := k2) hx hb hK hP hD hS 4 rfl (by omega) (by decide) dX0_copyFrom_55 (fun H locs hP hD hS => ?_)
        have hP : va_P D vwCl [(qg, .inr (0, [.ref qR, .ref qW, .ref qT, .ref qS, .ref qJ, .ref qY, .int ng])), (qR, .inl (cy 0, 12, .inl (upd gR_2 k2 (gRz k2)))), (qW, .inl (cy 0, 12, .inl (upd gW_2 k2 (gWz k2)))), (qT, .inl (cy 0, 12, .inl (upd gT_2 k2 (gTz k2)))), (qS, .inl (cy 0, 12, .inl (upd gS_2 k2 (gSz k2)))), (qJ, .inl (cy 1, 12, .inl gJ_2)), (qY, .inl (cy 1, 12, .inl gY_2)), (qgz, .inr (0, [.ref qRz, .ref qWz, .ref qTz, .ref qSz, .ref qJz, .ref qYz, .int ngz])), (qRz, .inl (cy 0, 12, .inl gRz)), (qWz, .inl (cy 0, 12, .inl gWz)), (qTz, .inl (cy 0, 12, .inl gTz)), (qSz, .inl (cy 0, 12, .inl gSz)), (qJz, .inl (cy 1, 12, .inl gJz)), (qYz, .inl (cy 1, 12, .inl gYz))] H := hP
        have hD : va_D A [(qg, .inr (0, [.ref qR, .ref qW, .ref qT, .ref qS, .ref qJ, .ref qY, .int ng])), (qR, .inl (cy 0, 12, .inl (upd gR_2 k2 (gRz k2)))), (qW, .inl (cy 0, 12, .inl (upd gW_2 k2 (gWz k2)))), (qT, .inl (cy 0, 12, .inl (upd gT_2 k2 (gTz k2)))), (qS, .inl (cy 0, 12, .inl (upd gS_2 k2 (gSz k2)))), (qJ, .inl (cy 1, 12, .inl gJ_2)), (qY, .inl (cy 1, 12, .inl gY_2)), (qgz, .inr (0, [.ref qRz, .ref qWz, .ref qTz, .ref qSz, .ref qJz, .ref qYz, .int ngz])), (qRz, .inl (cy 0, 12, .inl gRz)), (qWz, .inl (cy 0, 12, .inl gWz)), (qTz, .inl (cy 0, 12, .inl gTz)), (qSz, .inl (cy 0, 12, .inl gSz)), (qJz, .inl (cy 1, 12, .inl gJz)), (qYz, .inl (cy 1, 12, .inl gYz))] := hD
        refine lv_aload_n hx hb dX0_copyFrom_56 rfl (lv_at hl 1 rfl) ?_
        refine va_get (D := D) (ci := 0) (v := .ref qJ) (C := RX0) (T := TX0) (N := 7) hx hb hts hin0 hown hK hP 0 rfl rfl 4 (by decide) (hts (.fieldLink RX0 24 "FireflyInn$Guests" "jars" "[Z") (List.mem_of_getElem? (i := 5) rfl)) (fun _ h9 => h9) rfl dX0_copyFrom_57 ?_
        refine lv_iload_n hx hb dX0_copyFrom_60 rfl (lv_at hl 0 rfl) ?_
        refine lv_aload_n hx hb dX0_copyFrom_61 rfl (lv_at hl 2 rfl) ?_
        refine va_get (D := D) (ci := 0) (v := .ref qJz) (C := RX0) (T := TX0) (N := 7) hx hb hts hin0 hown hK hP 7 rfl rfl 4 (by decide) (hts (.fieldLink RX0 24 "FireflyInn$Guests" "jars" "[Z") (List.mem_of_getElem? (i := 5) rfl)) (fun _ h9 => h9) rfl dX0_copyFrom_62 ?_
        refine lv_iload_n hx hb dX0_copyFrom_65 rfl (lv_at hl 0 rfl) ?_
        refine zal_n (k := k2) hx hb hK hP 12 rfl (by omega) (by decide) dX0_copyFrom_66 ?_
        refine zas_n (k := k2) hx hb hK hP hD hS 5 rfl (by omega) (by decide) dX0_copyFrom_67 (fun H locs hP hD hS => ?_)
        have hP : va_P D vwCl [(qg, .inr (0, [.ref qR, .ref qW, .ref qT, .ref qS, .ref qJ, .ref qY, .int ng])), (qR, .inl (cy 0, 12, .inl (upd gR_2 k2 (gRz k2)))), (qW, .inl (cy 0, 12, .inl (upd gW_2 k2 (gWz k2)))), (qT, .inl (cy 0, 12, .inl (upd gT_2 k2 (gTz k2)))), (qS, .inl (cy 0, 12, .inl (upd gS_2 k2 (gSz k2)))), (qJ, .inl (cy 1, 12, .inl (upd gJ_2 k2 (vp_nar .boolean (gJz k2))))), (qY, .inl (cy 1, 12, .inl gY_2)), (qgz, .inr (0, [.ref qRz, .ref qWz, .ref qTz, .ref qSz, .ref qJz, .ref qYz, .int ngz])), (qRz, .inl (cy 0, 12, .inl gRz)), (qWz, .inl (cy 0, 12, .inl gWz)), (qTz, .inl (cy 0, 12, .inl gTz)), (qSz, .inl (cy 0, 12, .inl gSz)), (qJz, .inl (cy 1, 12, .inl gJz)), (qYz, .inl (cy 1, 12, .inl gYz))] H := hP
        have hD : va_D A [(qg, .inr (0, [.ref qR, .ref qW, .ref qT, .ref qS, .ref qJ, .ref qY, .int ng])), (qR, .inl (cy 0, 12, .inl (upd gR_2 k2 (gRz k2)))), (qW, .inl (cy 0, 12, .inl (upd gW_2 k2 (gWz k2)))), (qT, .inl (cy 0, 12, .inl (upd gT_2 k2 (gTz k2)))), (qS, .inl (cy 0, 12, .inl (upd gS_2 k2 (gSz k2)))), (qJ, .inl (cy 1, 12, .inl (upd gJ_2 k2 (vp_nar .boolean (gJz k2))))), (qY, .inl (cy 1, 12, .inl gY_2)), (qgz, .inr (0, [.ref qRz, .ref qWz, .ref qTz, .ref qSz, .ref qJz, .ref qYz, .int ngz])), (qRz, .inl (cy 0, 12, .inl gRz)), (qWz, .inl (cy 0, 12, .inl gWz)), (qTz, .inl (cy 0, 12, .inl gTz)), (qSz, .inl (cy 0, 12, .inl gSz)), (qJz, .inl (cy 1, 12, .inl gJz)), (qYz, .inl (cy 1, 12, .inl gYz))] := hD
        refine lv_aload_n hx hb dX0_copyFrom_68 rfl (lv_at hl 1 rfl) ?_
        refine va_get (D := D) (ci := 0) (v := .ref qY) (C := RX0) (T := TX0) (N := 7) hx hb hts hin0 hown hK hP 0 rfl rfl 5 (by decide) (hts (.fieldLink RX0 28 "FireflyInn$Guests" "staying" "[Z") (List.mem_of_getElem? (i := 6) rfl)) (fun _ h9 => h9) rfl dX0_copyFrom_69 ?_
        refine lv_iload_n hx hb dX0_copyFrom_72 rfl (lv_at hl 0 rfl) ?_
        refine lv_aload_n hx hb dX0_copyFrom_73 rfl (lv_at hl 2 rfl) ?_
        refine va_get (D := D) (ci := 0) (v := .ref qYz) (C := RX0) (T := TX0) (N := 7) hx hb hts hin0 hown hK hP 7 rfl rfl 5 (by decide) (hts (.fieldLink RX0 28 "FireflyInn$Guests" "staying" "[Z") (List.mem_of_getElem? (i := 6) rfl)) (fun _ h9 => h9) rfl dX0_copyFrom_74 ?_
        refine lv_iload_n hx hb dX0_copyFrom_77 rfl (lv_at hl 0 rfl) ?_
        refine zal_n (k := k2) hx hb hK hP 13 rfl (by omega) (by decide) dX0_copyFrom_78 ?_
        refine zas_n (k := k2) hx hb hK hP hD hS 6 rfl (by omega) (by decide) dX0_copyFrom_79 (fun H locs hP hD hS => ?_)
        have hP : va_P D vwCl [(qg, .inr (0, [.ref qR, .ref qW, .ref qT, .ref qS, .ref qJ, .ref qY, .int ng])), (qR, .inl (cy 0, 12, .inl (upd gR_2 k2 (gRz k2)))), (qW, .inl (cy 0, 12, .inl (upd gW_2 k2 (gWz k2)))), (qT, .inl (cy 0, 12, .inl (upd gT_2 k2 (gTz k2)))), (qS, .inl (cy 0, 12, .inl (upd gS_2 k2 (gSz k2)))), (qJ, .inl (cy 1, 12, .inl (upd gJ_2 k2 (vp_nar .boolean (gJz k2))))), (qY, .inl (cy 1, 12, .inl (upd gY_2 k2 (vp_nar .boolean (gYz k2))))), (qgz, .inr (0, [.ref qRz, .ref qWz, .ref qTz, .ref qSz, .ref qJz, .ref qYz, .int ngz])), (qRz, .inl (cy 0, 12, .inl gRz)), (qWz, .inl (cy 0, 12, .inl gWz)), (qTz, .inl (cy 0, 12, .inl gTz)), (qSz, .inl (cy 0, 12, .inl gSz)), (qJz, .inl (cy 1, 12, .inl gJz)), (qYz, .inl (cy 1, 12, .inl gYz))] H := hP
        have hD : va_D A [(qg, .inr (0, [.ref qR, .ref qW, .ref qT, .ref qS, .ref qJ, .ref qY, .int ng])), (qR, .inl (cy 0, 12, .inl (upd gR_2 k2 (gRz k2)))), (qW, .inl (cy 0, 12, .inl (upd gW_2 k2 (gWz k2)))), (qT, .inl (cy 0, 12, .inl (upd gT_2 k2 (gTz k2)))), (qS, .inl (cy 0, 12, .inl (upd gS_2 k2 (gSz k2)))), (qJ, .inl (cy 1, 12, .inl (upd gJ_2 k2 (vp_nar .boolean (gJz k2))))), (qY, .inl (cy 1, 12, .inl (upd gY_2 k2 (vp_nar .boolean (gYz k2))))), (qgz, .inr (0, [.ref qRz, .ref qWz, .ref qTz, .ref qSz, .ref qJz, .ref qYz, .int ngz])), (qRz, .inl (cy 0, 12, .inl gRz)), (qWz, .inl (cy 0, 12, .inl gWz)), (qTz, .inl (cy 0, 12, .inl gTz)), (qSz, .inl (cy 0, 12, .inl gSz)), (qJz, .inl (cy 1, 12, .inl gJz)), (qYz, .inl (cy 1, 12, .inl gYz))] := hD
        refine lv_iinc (v := (nI (k2 + 1))) (lv' := [(2, .int (nI (k2 + 1))), (0, .ref qg), (1, .ref qgz)]) hx hb dX0_copyFrom_80 hl (k := 0) rfl (nI_1 k2) (by decide) rfl (fun ls hl => ?_)
        refine lv_goto (tgt := 2) hx hb dX0_copyFrom_83 (by decide) ?_
        exact ih2 (k2 + 1) (upd gR_2 k2 (gRz k2)) (upd gW_2 k2 (gWz k2)) (upd gT_2 k2 (gTz k2)) (upd gS_2 k2 (gSz k2)) (upd gJ_2 k2 (vp_nar .boolean (gJz k2))) (upd gY_2 k2 (vp_nar .boolean (gYz k2))) _ _ _ (by omega) (it_step (f := (fun (k : Nat) (v : (Nat → Int32) × (Nat → Int32) × (Nat → Int32) × (Nat → Int32) × (Nat → Int32) × (Nat → Int32)) => S_X0_copyFrom_2 gRz gWz gTz gSz gJz gYz k v.1 v.2.1 v.2.2.1 v.2.2.2.1 v.2.2.2.2.1 v.2.2.2.2.2)) (v := (gR_2, gW_2, gT_2, gS_2, gJ_2, gY_2)) (show S_X0_copyFrom_2 gRz gWz gTz gSz gJz gYz k2 gR_2 gW_2 gT_2 gS_2 gJ_2 gY_2 = ((upd gR_2 k2 (gRz k2)), (upd gW_2 k2 (gWz k2)), (upd gT_2 k2 (gTz k2)), (upd gS_2 k2 (gSz k2)), (upd gJ_2 k2 (vp_nar .boolean (gJz k2))), (upd gY_2 k2 (vp_nar .boolean (gYz k2)))) from by rw [S_X0_copyFrom_2]) hE2) hP hD hS (lv_sub hl [0, 1, 2] rfl)
    exact lp2 12 0 gR gW gT gS gJ gY _ _ _ (by omega) hfin2 hP hD hS (lv_sub hl [0, 1, 2] rfl)
  intro H locs ls hP hD hS hl
  subst hfin2
  refine lv_aload_n hx hb dX0_copyFrom_86 rfl (lv_at hl 1 rfl) ?_
  refine lv_aload_n hx hb dX0_copyFrom_87 rfl (lv_at hl 2 rfl) ?_
  refine va_get (D := D) (ci := 0) (v := .int ngz) (C := RX0) (T := TX0) (N := 7) hx hb hts hin0 hown hK hP 7 rfl rfl 6 (by decide) (hts (.fieldLink RX0 31 "FireflyInn$Guests" "many" "I") (List.mem_of_getElem? (i := 7) rfl)) (fun _ h9 => h9) rfl dX0_copyFrom_88 ?_
  refine va_put (D := D) (ci := 0) (v := .int ngz) (ty := .int) (C := RX0) (T := TX0) (N := 7) hx hb hts hin0 tyX0 tyX0_ok nmX0 hown hK hP hD hS 0 rfl rfl 6 (by decide) (hts (.fieldLink RX0 31 "FireflyInn$Guests" "many" "I") (List.mem_of_getElem? (i := 7) rfl)) (fun _ h9 => h9) rfl (by decide +kernel) rfl rfl (Nat.le_of_ble_eq_true rfl) dX0_copyFrom_91 (fun H locs hP hD hS => ?_)
  have hP : va_P D vwCl [(qg, .inr (0, [.ref qR, .ref qW, .ref qT, .ref qS, .ref qJ, .ref qY, .int ngz])), (qR, .inl (cy 0, 12, .inl ((I_X0_copyFrom_2 gR gW gT gS gJ gY gRz gWz gTz gSz gJz gYz).1))), (qW, .inl (cy 0, 12, .inl ((I_X0_copyFrom_2 gR gW gT gS gJ gY gRz gWz gTz gSz gJz gYz).2.1))), (qT, .inl (cy 0, 12, .inl ((I_X0_copyFrom_2 gR gW gT gS gJ gY gRz gWz gTz gSz gJz gYz).2.2.1))), (qS, .inl (cy 0, 12, .inl ((I_X0_copyFrom_2 gR gW gT gS gJ gY gRz gWz gTz gSz gJz gYz).2.2.2.1))), (qJ, .inl (cy 1, 12, .inl ((I_X0_copyFrom_2 gR gW gT gS gJ gY gRz gWz gTz gSz gJz gYz).2.2.2.2.1))), (qY, .inl (cy 1, 12, .inl ((I_X0_copyFrom_2 gR gW gT gS gJ gY gRz gWz gTz gSz gJz gYz).2.2.2.2.2))), (qgz, .inr (0, [.ref qRz, .ref qWz, .ref qTz, .ref qSz, .ref qJz, .ref qYz, .int ngz])), (qRz, .inl (cy 0, 12, .inl gRz)), (qWz, .inl (cy 0, 12, .inl gWz)), (qTz, .inl (cy 0, 12, .inl gTz)), (qSz, .inl (cy 0, 12, .inl gSz)), (qJz, .inl (cy 1, 12, .inl gJz)), (qYz, .inl (cy 1, 12, .inl gYz))] H := hP
  have hD : va_D A [(qg, .inr (0, [.ref qR, .ref qW, .ref qT, .ref qS, .ref qJ, .ref qY, .int ngz])), (qR, .inl (cy 0, 12, .inl ((I_X0_copyFrom_2 gR gW gT gS gJ gY gRz gWz gTz gSz gJz gYz).1))), (qW, .inl (cy 0, 12, .inl ((I_X0_copyFrom_2 gR gW gT gS gJ gY gRz gWz gTz gSz gJz gYz).2.1))), (qT, .inl (cy 0, 12, .inl ((I_X0_copyFrom_2 gR gW gT gS gJ gY gRz gWz gTz gSz gJz gYz).2.2.1))), (qS, .inl (cy 0, 12, .inl ((I_X0_copyFrom_2 gR gW gT gS gJ gY gRz gWz gTz gSz gJz gYz).2.2.2.1))), (qJ, .inl (cy 1, 12, .inl ((I_X0_copyFrom_2 gR gW gT gS gJ gY gRz gWz gTz gSz gJz gYz).2.2.2.2.1))), (qY, .inl (cy 1, 12, .inl ((I_X0_copyFrom_2 gR gW gT gS gJ gY gRz gWz gTz gSz gJz gYz).2.2.2.2.2))), (qgz, .inr (0, [.ref qRz, .ref qWz, .ref qTz, .ref qSz, .ref qJz, .ref qYz, .int ngz])), (qRz, .inl (cy 0, 12, .inl gRz)), (qWz, .inl (cy 0, 12, .inl gWz)), (qTz, .inl (cy 0, 12, .inl gTz)), (qSz, .inl (cy 0, 12, .inl gSz)), (qJz, .inl (cy 1, 12, .inl gJz)), (qYz, .inl (cy 1, 12, .inl gYz))] := hD
  subst hQ
  exact en_v (tv := (ngz, (I_X0_copyFrom_2 gR gW gT gS gJ gY gRz gWz gTz gSz gJz gYz).1, (I_X0_copyFrom_2 gR gW gT gS gJ gY gRz gWz gTz gSz gJz gYz).2.1, (I_X0_copyFrom_2 gR gW gT gS gJ gY gRz gWz gTz gSz gJz gYz).2.2.1, (I_X0_copyFrom_2 gR gW gT gS gJ gY gRz gWz gTz gSz gJz gYz).2.2.2.1, (I_X0_copyFrom_2 gR gW gT gS gJ gY gRz gWz gTz gSz gJz gYz).2.2.2.2.1, (I_X0_copyFrom_2 gR gW gT gS gJ gY gRz gWz gTz gSz gJz gYz).2.2.2.2.2)) hx hb hr hlocks (by rw [F_X0_copyFrom]) hK hP hD hS (Nat.le_refl _) (Nat.le_refl _) dX0_copyFrom_94
