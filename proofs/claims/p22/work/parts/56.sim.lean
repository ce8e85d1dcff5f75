def F_X5_moon (n : Nat) : Int32 :=
  ((upd (upd (upd (upd (upd (upd (upd (upd (fun _ => 0) 0 0) 1 1) 2 2) 3 3) 4 4) 5 3) 6 2) 7 1) (n % 8))
set_option maxHeartbeats 4000000 in
set_option maxRecDepth 100000 in
theorem k_X5_moon (l : Launch) (D : va_G) (cy : Nat → ClassId) (sz : Nat) (n : Nat) (hn31 : n < 2 ^ 31) : MTa l D cy yX5_moon wsX5_moon 0 1 8 0 [] sz [.int (nI n)] (fun A => QiT D cy (fun (t : Int32) => t) (fun (_ : Int32) => []) (F_X5_moon n) A) := by
  refine ofWT (cc := cX5_moon) (maxL := 2) (ret := (some .int)) (own := RX5) (by decide) rfl (Nat.le_of_ble_eq_true rfl) rfl ?_
  intro p e s m args below meth c A ls hx hb hr hml hts hown hlocks hin hN hK hP hD hA hl
  have hS : va_S A s.heap s.heap [] := va_S.rf
  have hl : lv_has ls 2 [(0, .int (nI n))] := hl
  generalize hQ : MQ below ((fun A => QiT D cy (fun (t : Int32) => t) (fun (_ : Int32) => []) (F_X5_moon n) A) A) args s 1 8 A = Q
  refine lv_bipush (v := 8) hx hb dX5_moon_0 (by decide) ?_
  refine newi (n := 8) hx hb (hts (.arrayClass .int) (List.mem_of_getElem? (i := 1) rfl)) hK hP hD hS hA (by decide) (show 0 + 1 ≤ 1 by omega) (show 0 + 8 ≤ 8 by omega) dX5_moon_2 (fun q2 H hP hD hS => ?_)
  have hP : va_P D vwCl [(q2, .inl (cy 0, 8, .inl (fun _ => 0)))] H := hP
  have hD : va_D A [(q2, .inl (cy 0, 8, .inl (fun _ => 0)))] := hD
  refine lv_dup hx hb dX5_moon_4 rfl ?_
  refine lv_iconst (v := 0) hx hb dX5_moon_5 (by decide) ?_
  refine lv_iconst (v := 0) hx hb dX5_moon_6 (by decide) ?_
  refine ias_n (k := 0) hx hb hK hP hD hS 0 rfl (by omega) (by decide) dX5_moon_7 (fun H locs hP hD hS => ?_)
  have hP : va_P D vwCl [(q2, .inl (cy 0, 8, .inl (upd (fun _ => 0) 0 0)))] H := hP
  have hD : va_D A [(q2, .inl (cy 0, 8, .inl (upd (fun _ => 0) 0 0)))] := hD
  refine lv_dup hx hb dX5_moon_8 rfl ?_
  refine lv_iconst (v := 1) hx hb dX5_moon_9 (by decide) ?_
  refine lv_iconst (v := 1) hx hb dX5_moon_10 (by decide) ?_
  refine ias_n (k := 1) hx hb hK hP hD hS 0 rfl (by omega) (by decide) dX5_moon_11 (fun H locs hP hD hS => ?_)
  have hP : va_P D vwCl [(q2, .inl (cy 0, 8, .inl (upd (upd (fun _ => 0) 0 0) 1 1)))] H := hP
  have hD : va_D A [(q2, .inl (cy 0, 8, .inl (upd (upd (fun _ => 0) 0 0) 1 1)))] := hD
  refine lv_dup hx hb dX5_moon_12 rfl ?_
  refine lv_iconst (v := 2) hx hb dX5_moon_13 (by decide) ?_
  refine lv_iconst (v := 2) hx hb dX5_moon_14 (by decide) ?_
  refine ias_n (k := 2) hx hb hK hP hD hS 0 rfl (by omega) (by decide) dX5_moon_15 (fun H locs hP hD hS => ?_)
  have hP : va_P D vwCl [(q2, .inl (cy 0, 8, .inl (upd (upd (upd (fun _ => 0) 0 0) 1 1) 2 2)))] H := hP
  have hD : va_D A [(q2, .inl (cy 0, 8, .inl (upd (upd (upd (fun _ => 0) 0 0) 1 1) 2 2)))] := hD
  refine lv_dup hx hb dX5_moon_16 rfl ?_
  refine lv_iconst (v := 3) hx hb dX5_moon_17 (by decide) ?_
  refine lv_iconst (v := 3) hx hb dX5_moon_18 (by decide) ?_
  refine ias_n (k := 3) hx hb hK hP hD hS 0 rfl (by omega) (by decide) dX5_moon_19 (fun H locs hP hD hS => ?_)
  have hP : va_P D vwCl [(q2, .inl (cy 0, 8, .inl (upd (upd (upd (upd (fun _ => 0) 0 0) 1 1) 2 2) 3 3)))] H := hP
  have hD : va_D A [(q2, .inl (cy 0, 8, .inl (upd (upd (upd (upd (fun _ => 0) 0 0) 1 1) 2 2) 3 3)))] := hD
  refine lv_dup hx hb dX5_moon_20 rfl ?_
  refine lv_iconst (v := 4) hx hb dX5_moon_21 (by decide) ?_
  refine lv_iconst (v := 4) hx hb dX5_moon_22 (by decide) ?_
  refine ias_n (k := 4) hx hb hK hP hD hS 0 rfl (by omega) (by decide) dX5_moon_23 (fun H locs hP hD hS => ?_)
  have hP : va_P D vwCl [(q2, .inl (cy 0, 8, .inl (upd (upd (upd (upd (upd (fun _ => 0) 0 0) 1 1) 2 2) 3 3) 4 4)))] H := hP
  have hD : va_D A [(q2, .inl (cy 0, 8, .inl (upd (upd (upd (upd (upd (fun _ => 0) 0 0) 1 1) 2 2) 3 3) 4 4)))] := hD
  refine lv_dup hx hb dX5_moon_24 rfl ?_
  refine lv_iconst (v := 5) hx hb dX5_moon_25 (by decide) ?_
  refine lv_iconst (v := 3) hx hb dX5_moon_26 (by decide) ?_
  refine ias_n (k := 5) hx hb hK hP hD hS 0 rfl (by omega) (by decide) dX5_moon_27 (fun H locs hP hD hS => ?_)
  have hP : va_P D vwCl [(q2, .inl (cy 0, 8, .inl (upd (upd (upd (upd (upd (upd (fun _ => 0) 0 0) 1 1) 2 2) 3 3) 4 4) 5 3)))] H := hP
  have hD : va_D A [(q2, .inl (cy 0, 8, .inl (upd (upd (upd (upd (upd (upd (fun _ => 0) 0 0) 1 1) 2 2) 3 3) 4 4) 5 3)))] := hD
  refine lv_dup hx hb dX5_moon_28 rfl ?_
  refine lv_bipush (v := 6) hx hb dX5_moon_29 (by decide) ?_
  refine lv_iconst (v := 2) hx hb dX5_moon_31 (by decide) ?_
  refine ias_n (k := 6) hx hb hK hP hD hS 0 rfl (by omega) (by decide) dX5_moon_32 (fun H locs hP hD hS => ?_)
  have hP : va_P D vwCl [(q2, .inl (cy 0, 8, .inl (upd (upd (upd (upd (upd (upd (upd (fun _ => 0) 0 0) 1 1) 2 2) 3 3) 4 4) 5 3) 6 2)))] H := hP
  have hD : va_D A [(q2, .inl (cy 0, 8, .inl (upd (upd (upd (upd (upd (upd (upd (fun _ => 0) 0 0) 1 1) 2 2) 3 3) 4 4) 5 3) 6 2)))] := hD
  refine lv_dup hx hb dX5_moon_33 rfl ?_
  refine lv_bipush (v := 7) hx hb dX5_moon_34 (by decide) ?_
  refine lv_iconst (v := 1) hx hb dX5_moon_36 (by decide) ?_
  refine ias_n (k := 7) hx hb hK hP hD hS 0 rfl (by omega) (by decide) dX5_moon_37 (fun H locs hP hD hS => ?_)
  have hP : va_P D vwCl [(q2, .inl (cy 0, 8, .inl (upd (upd (upd (upd (upd (upd (upd (upd (fun _ => 0) 0 0) 1 1) 2 2) 3 3) 4 4) 5 3) 6 2) 7 1)))] H := hP
  have hD : va_D A [(q2, .inl (cy 0, 8, .inl (upd (upd (upd (upd (upd (upd (upd (upd (fun _ => 0) 0 0) 1 1) 2 2) 3 3) 4 4) 5 3) 6 2) 7 1)))] := hD
  refine lv_astore_n (lv' := [(1, .ref q2), (0, .int (nI n))]) hx hb dX5_moon_38 rfl hl (by decide) rfl (fun ls hl => ?_)
  refine lv_aload_n hx hb dX5_moon_39 rfl (lv_at hl 0 rfl) ?_
  refine lv_iload_n hx hb dX5_moon_40 rfl (lv_at hl 1 rfl) ?_
  refine lv_bipush (v := 8) hx hb dX5_moon_41 (by decide) ?_
  refine lv_irem hx hb dX5_moon_43 (by decide) ?_
  refine lv_iv (y := rmd (nI n) 8) rfl ?_
  refine lv_iv (y := (nI (n % 8))) (pk_rem (d := 8) (by omega) (by omega) (by omega)) ?_
  refine ial_n (k := n % 8) hx hb hK hP 0 rfl (by omega) (by decide) dX5_moon_44 ?_
  subst hQ
  exact en_i (tv := ((upd (upd (upd (upd (upd (upd (upd (upd (fun _ => 0) 0 0) 1 1) 2 2) 3 3) 4 4) 5 3) 6 2) 7 1) (n % 8))) hx hb hr hlocks (by rw [F_X5_moon]) rfl hK (by first | with_reducible exact (hP.sub (ws' := []) [] rfl) | exact (hP.sub (ws' := []) [] rfl)) (by first | with_reducible exact (hD.sub (ws' := []) [] (by decide) rfl) | exact (hD.sub (ws' := []) [] (by decide) rfl)) hS (by omega) (by omega) dX5_moon_45

def L_X5_lit_11 (sr : Nat → Nat → Int32) (x : Int32) : Nat → Nat → Int32
  | 0, _ =>
    0
  | n11 + 1, k11 =>
    if (sr k11 1) = 1 then
      if (sr k11 0) < (x - 1) then
        L_X5_lit_11 sr x n11 (k11 + 1)
      else
        if (x + 1) < (sr k11 0) then
          L_X5_lit_11 sr x n11 (k11 + 1)
        else
          1
    else
      L_X5_lit_11 sr x n11 (k11 + 1)
def F_X5_lit (sr : Nat → Nat → Int32) (R : Nat) (x : Int32) : Int32 :=
  L_X5_lit_11 sr x R 0
set_option maxHeartbeats 4000000 in
set_option maxRecDepth 100000 in
theorem k_X5_lit (l : Launch) (D : va_G) (cy : Nat → ClassId) (sz : Nat) (qm ho ro go : Nat) (ah ar ag : Nat → Nat) (Y : va_W) (sn : Int32) (sf : Int32) (sh : Nat → Nat → Int32) (sr : Nat → Nat → Int32) (sg : Nat → Nat → Int32) (R : Nat) (G : Nat) (x : Int32) (hR : R ≤ 6) (hG : G ≤ 12) : MTa l D cy yX5_lit wsX5_lit 0 0 0 0 ([(qm, .inr (5, [.ref ho, .ref ro, .ref go, .int sn, .int sf])), (ho, .inl (cy 3, 10, .inr (.inr (.inr (.inr (pf 10 ah)))))), (ro, .inl (cy 3, R, .inr (.inr (.inr (.inr (pf R ar)))))), (go, .inl (cy 3, G, .inr (.inr (.inr (.inr (pf G ag))))))] ++ (rws cy 10 5 ah sh ++ (rws cy R 2 ar sr ++ (rws cy G 6 ag sg ++ Y)))) sz [.ref qm, .int x] (fun A => QiT D cy (fun (t : Int32) => t) (fun (_ : Int32) => ([(qm, .inr (5, [.ref ho, .ref ro, .ref go, .int sn, .int sf])), (ho, .inl (cy 3, 10, .inr (.inr (.inr (.inr (pf 10 ah)))))), (ro, .inl (cy 3, R, .inr (.inr (.inr (.inr (pf R ar)))))), (go, .inl (cy 3, G, .inr (.inr (.inr (.inr (pf G ag))))))] ++ (rws cy 10 5 ah sh ++ (rws cy R 2 ar sr ++ (rws cy G 6 ag sg ++ Y))))) (F_X5_lit sr R x) A) := by
  refine ofWT (cc := cX5_lit) (maxL := 6) (ret := (some .boolean)) (own := RX5) (by decide) rfl (Nat.le_of_ble_eq_true rfl) rfl ?_
  intro p e s m args below meth c A ls hx hb hr hml hts hown hlocks hin hN hK hP hD hA hl
  have hS : va_S A s.heap s.heap [] := va_S.rf
  have hl : lv_has ls 6 [(0, .ref qm), (1, .int x)] := hl
  have hin5 : ∀ w ∈ u_ws RX5 TX5 5, w ∈ wsX5_lit := (fun w h => List.mem_cons_of_mem _ (List.mem_append_right _ h))
  generalize hQ : MQ below ((fun A => QiT D cy (fun (t : Int32) => t) (fun (_ : Int32) => ([(qm, .inr (5, [.ref ho, .ref ro, .ref go, .int sn, .int sf])), (ho, .inl (cy 3, 10, .inr (.inr (.inr (.inr (pf 10 ah)))))), (ro, .inl (cy 3, R, .inr (.inr (.inr (.inr (pf R ar)))))), (go, .inl (cy 3, G, .inr (.inr (.inr (.inr (pf G ag))))))] ++ (rws cy 10 5 ah sh ++ (rws cy R 2 ar sr ++ (rws cy G 6 ag sg ++ Y))))) (F_X5_lit sr R x) A) A) args s 0 0 A = Q
  refine lv_aload_n hx hb dX5_lit_0 rfl (lv_at hl 0 rfl) ?_
  refine va_get (D := D) (ci := 5) (v := .ref ro) (C := RX5) (T := TX5) (N := 5) hx hb hts hin5 hown hK hP 0 rfl rfl 1 (by decide) (hts (.fieldLink RX5 16 "FireflyInnLaw$Sim" "rooms" "[[I") (List.mem_of_getElem? (i := 1) rfl)) (fun _ h9 => h9) rfl dX5_lit_1 ?_
  refine lv_astore_n (lv' := [(2, .ref ro), (0, .ref qm), (1, .int x)]) hx hb dX5_lit_4 rfl hl (by decide) rfl (fun ls hl => ?_)
  refine lv_aload_n hx hb dX5_lit_5 rfl (lv_at hl 0 rfl) ?_
  refine va_alen (v := nI R) hx hb hK hP 2 3 rfl rfl rfl dX5_lit_6 ?_
  refine lv_istore_n (lv' := [(3, .int (nI R)), (2, .ref ro), (0, .ref qm), (1, .int x)]) hx hb dX5_lit_7 rfl hl (by decide) rfl (fun ls hl => ?_)
  refine lv_iconst (v := 0) hx hb dX5_lit_8 (by decide) ?_
  refine lv_istore (lv' := [(4, .int 0), (3, .int (nI R)), (2, .ref ro), (0, .ref qm), (1, .int x)]) hx hb dX5_lit_9 hl (by decide) rfl (fun ls hl => ?_)
  have lp11 : ∀ (n11 k11 : Nat) (H : Heap) (locs : List Loc) (ls : Array Slot), k11 + n11 = R → (F_X5_lit sr R x) = L_X5_lit_11 sr x n11 k11 → va_P D vwCl ([(qm, .inr (5, [.ref ho, .ref ro, .ref go, .int sn, .int sf])), (ho, .inl (cy 3, 10, .inr (.inr (.inr (.inr (pf 10 ah)))))), (ro, .inl (cy 3, R, .inr (.inr (.inr (.inr (pf R ar)))))), (go, .inl (cy 3, G, .inr (.inr (.inr (.inr (pf G ag))))))] ++ (rws cy 10 5 ah sh ++ (rws cy R 2 ar sr ++ (rws cy G 6 ag sg ++ Y)))) H → va_D A ([(qm, .inr (5, [.ref ho, .ref ro, .ref go, .int sn, .int sf])), (ho, .inl (cy 3, 10, .inr (.inr (.inr (.inr (pf 10 ah)))))), (ro, .inl (cy 3, R, .inr (.inr (.inr (.inr (pf R ar)))))), (go, .inl (cy 3, G, .inr (.inr (.inr (.inr (pf G ag))))))] ++ (rws cy 10 5 ah sh ++ (rws cy R 2 ar sr ++ (rws cy G 6 ag sg ++ Y)))) → va_S A s.heap H locs → lv_has ls 6 [(4, .int (nI k11)), (3, .int (nI R)), (2, .ref ro), (0, .ref qm), (1, .int x)] → W p l e (RM 0 0 0 0) s m args below meth c H locs 0 0 Q (F0 m 11 ls []) := by
    intro n11
    induction n11 with
    | zero =>
      intro k11 H locs ls hkn11 hE11 hP hD hS hl
      have hk11 : R = k11 := by omega
      subst hk11
      refine lv_iload hx hb dX5_lit_11 (lv_at hl 0 rfl) ?_
      refine lv_iload_n hx hb dX5_lit_13 rfl (lv_at hl 1 rfl) ?_
      refine lv_icmp_ge (tgt := 59) hx hb dX5_lit_14 (by decide) (fun c14 => ?_) (fun c14 => ?_)
      rotate_left
      · exact absurd (nI_le (a := R) (b := R) (Nat.le_refl _) (by omega)) c14
      refine lv_iconst (v := 0) hx hb dX5_lit_59 (by decide) ?_
      subst hQ
      exact en_z (tv := 0) hx hb hr hlocks (hE11.trans (by rw [L_X5_lit_11])) rfl hK (by first | with_reducible exact hP | exact hP) (by first | with_reducible exact hD | exact hD) hS (Nat.le_refl _) (Nat.le_refl _) (by decide) dX5_lit_60
    | succ n11 ih11 =>
      intro k11 H locs ls hkn11 hE11 hP hD hS hl
      have hlt11 : k11 < R := by omega
      refine lv_iload hx hb dX5_lit_11 (lv_at hl 0 rfl) ?_
      refine lv_iload_n hx hb dX5_lit_13 rfl (lv_at hl 1 rfl) ?_
      refine lv_icmp_ge (tgt := 59) hx hb dX5_lit_14 (by decide) (fun c14 => ?_) (fun c14 => ?_)
      · exact absurd c14 (nI_ge (a := k11) (b := R) hlt11 (by omega))
      refine lv_aload_n hx hb dX5_lit_17 rfl (lv_at hl 2 rfl) ?_
      refine lv_iload hx hb dX5_lit_18 (lv_at hl 0 rfl) ?_
      refine ald_p (n := R) (k := k11) hx hb hK hP 2 rfl (by omega) (by omega) dX5_lit_20 ?_
      refine lv_astore (lv' := [(5, .ref (ar k11)), (4, .int (nI k11)), (3, .int (nI R)), (2, .ref ro), (0, .ref qm), (1, .int x)]) hx hb dX5_lit_21 hl (by decide) rfl (fun ls hl => ?_)
      refine lv_aload hx hb dX5_lit_23 (lv_at hl 0 rfl) ?_
      refine lv_iconst (v := 1) hx hb dX5_lit_25 (by decide) ?_
      refine ial_w (k := 1) hx hb hK hP (RSl.app _ (RSl.app _ (RSl.left _ (RSl.row (by omega))))) (by omega) (by decide) dX5_lit_26 ?_
      refine lv_iv (y := (sr k11 1)) rfl ?_
      refine lv_iconst (v := 1) hx hb dX5_lit_27 (by decide) ?_
      refine lv_icmp_ne (tgt := 53) hx hb dX5_lit_28 (by decide) (fun c28 => ?_) (fun c28 => ?_)
      · refine lv_iinc (v := (nI (k11 + 1))) (lv' := [(4, .int (nI (k11 + 1))), (5, .ref (ar k11)), (3, .int (nI R)), (2, .ref ro), (0, .ref qm), (1, .int x)]) hx hb dX5_lit_53 hl (k := 1) rfl (nI_1 k11) (by decide) rfl (fun ls hl => ?_)
        refine lv_goto (tgt := 11) hx hb dX5_lit_56 (by decide) ?_
        exact ih11 (k11 + 1)  _ _ _ (by omega) (hE11.trans (by rw [L_X5_lit_11, if_neg c28])) hP hD hS (lv_sub hl [0, 2, 3, 4, 5] rfl)
      · refine lv_aload hx hb dX5_lit_31 (lv_at hl 0 rfl) ?_
        refine lv_iconst (v := 0) hx hb dX5_lit_33 (by decide) ?_
        refine ial_w (k := 0) hx hb hK hP (RSl.app _ (RSl.app _ (RSl.left _ (RSl.row (by omega))))) (by omega) (by decide) dX5_lit_34 ?_
        refine lv_iv (y := (sr k11 0)) rfl ?_
        refine lv_iload_n hx hb dX5_lit_35 rfl (lv_at hl 5 rfl) ?_
        refine lv_iconst (v := 1) hx hb dX5_lit_36 (by decide) ?_
        refine lv_isub hx hb dX5_lit_37 ?_
        refine lv_icmp_lt (tgt := 53) hx hb dX5_lit_38 (by decide) (fun c38 => ?_) (fun c38 => ?_)
        · refine lv_iinc (v := (nI (k11 + 1))) (lv' := [(4, .int (nI (k11 + 1))), (5, .ref (ar k11)), (3, .int (nI R)), (2, .ref ro), (0, .ref qm), (1, .int x)]) hx hb dX5_lit_53 hl (k := 1) rfl (nI_1 k11) (by decide) rfl (fun ls hl => ?_)
          refine lv_goto (tgt := 11) hx hb dX5_lit_56 (by decide) ?_
          exact ih11 (k11 + 1)  _ _ _ (by omega) (hE11.trans (by rw [L_X5_lit_11, if_pos c28, if_pos c38])) hP hD hS (lv_sub hl [0, 2, 3, 4, 5] rfl)
        · refine lv_aload hx hb dX5_lit_41 (lv_at hl 0 rfl) ?_
          refine lv_iconst (v := 0) hx hb dX5_lit_43 (by decide) ?_
          refine ial_w (k := 0) hx hb hK hP (RSl.app _ (RSl.app _ (RSl.left _ (RSl.row (by omega))))) (by omega) (by decide) dX5_lit_44 ?_
          refine lv_iv (y := (sr k11 0)) rfl ?_
          refine lv_iload_n hx hb dX5_lit_45 rfl (lv_at hl 5 rfl) ?_
          refine lv_iconst (v := 1) hx hb dX5_lit_46 (by decide) ?_
          refine lv_iadd hx hb dX5_lit_47 ?_
          refine lv_icmp_gt (tgt := 53) hx hb dX5_lit_48 (by decide) (fun c48 => ?_) (fun c48 => ?_)
          · refine lv_iinc (v := (nI (k11 + 1))) (lv' := [(4, .int (nI (k11 + 1))), (5, .ref (ar k11)), (3, .int (nI R)), (2, .ref ro), (0, .ref qm), (1, .int x)]) hx hb dX5_lit_53 hl (k := 1) rfl (nI_1 k11) (by decide) rfl (fun ls hl => ?_)
            refine lv_goto (tgt := 11) hx hb dX5_lit_56 (by decide) ?_
            exact ih11 (k11 + 1)  _ _ _ (by omega) (hE11.trans (by rw [L_X5_lit_11, if_pos c28, if_neg c38, if_pos c48])) hP hD hS (lv_sub hl [0, 2, 3, 4, 5] rfl)
          · refine lv_iconst (v := 1) hx hb dX5_lit_51 (by decide) ?_
            subst hQ
            exact en_z (tv := 1) hx hb hr hlocks (hE11.trans (by rw [L_X5_lit_11, if_pos c28, if_neg c38, if_neg c48])) rfl hK (by first | with_reducible exact hP | exact hP) (by first | with_reducible exact hD | exact hD) hS (Nat.le_refl _) (Nat.le_refl _) (by decide) dX5_lit_52
  exact lp11 R 0  _ _ _ (by omega) (by rw [F_X5_lit]) hP hD hS (lv_sub hl [0, 1, 2, 3, 4] rfl)

def F_X5_isIn (sg : Nat → Nat → Int32) (g : Nat) (room : Int32) : Int32 :=
  if (sg g 5) = 0 then
    if (sg g 0) = room then
      1
    else
      0
  else
    0
set_option maxHeartbeats 4000000 in
set_option maxRecDepth 100000 in
theorem k_X5_isIn (l : Launch) (D : va_G) (cy : Nat → ClassId) (sz : Nat) (qm ho ro go : Nat) (ah ar ag : Nat → Nat) (Y : va_W) (sn : Int32) (sf : Int32) (sh : Nat → Nat → Int32) (sr : Nat → Nat → Int32) (sg : Nat → Nat → Int32) (R : Nat) (G : Nat) (g : Nat) (room : Int32) (hR : R ≤ 6) (hG : G ≤ 12) (hg : g < G) : MTa l D cy yX5_isIn wsX5_isIn 0 0 0 0 ([(qm, .inr (5, [.ref ho, .ref ro, .ref go, .int sn, .int sf])), (ho, .inl (cy 3, 10, .inr (.inr (.inr (.inr (pf 10 ah)))))), (ro, .inl (cy 3, R, .inr (.inr (.inr (.inr (pf R ar)))))), (go, .inl (cy 3, G, .inr (.inr (.inr (.inr (pf G ag))))))] ++ (rws cy 10 5 ah sh ++ (rws cy R 2 ar sr ++ (rws cy G 6 ag sg ++ Y)))) sz [.ref qm, .ref (ag g), .int room] (fun A => QiT D cy (fun (t : Int32) => t) (fun (_ : Int32) => ([(qm, .inr (5, [.ref ho, .ref ro, .ref go, .int sn, .int sf])), (ho, .inl (cy 3, 10, .inr (.inr (.inr (.inr (pf 10 ah)))))), (ro, .inl (cy 3, R, .inr (.inr (.inr (.inr (pf R ar)))))), (go, .inl (cy 3, G, .inr (.inr (.inr (.inr (pf G ag))))))] ++ (rws cy 10 5 ah sh ++ (rws cy R 2 ar sr ++ (rws cy G 6 ag sg ++ Y))))) (F_X5_isIn sg g room) A) := by
  refine ofWT (cc := cX5_isIn) (maxL := 3) (ret := (some .boolean)) (own := RX5) (by decide) rfl (Nat.le_of_ble_eq_true rfl) rfl ?_
  intro p e s m args below meth c A ls hx hb hr hml hts hown hlocks hin hN hK hP hD hA hl
  have hS : va_S A s.heap s.heap [] := va_S.rf
  have hl : lv_has ls 3 [(0, .ref qm), (1, .ref (ag g)), (2, .int room)] := hl
  generalize hQ : MQ below ((fun A => QiT D cy (fun (t : Int32) => t) (fun (_ : Int32) => ([(qm, .inr (5, [.ref ho, .ref ro, .ref go, .int sn, .int sf])), (ho, .inl (cy 3, 10, .inr (.inr (.inr (.inr (pf 10 ah)))))), (ro, .inl (cy 3, R, .inr (.inr (.inr (.inr (pf R ar)))))), (go, .inl (cy 3, G, .inr (.inr (.inr (.inr (pf G ag))))))] ++ (rws cy 10 5 ah sh ++ (rws cy R 2 ar sr ++ (rws cy G 6 ag sg ++ Y))))) (F_X5_isIn sg g room) A) A) args s 0 0 A = Q
  refine lv_aload_n hx hb dX5_isIn_0 rfl (lv_at hl 1 rfl) ?_
  refine lv_iconst (v := 5) hx hb dX5_isIn_1 (by decide) ?_
  refine ial_w (k := 5) hx hb hK hP (RSl.app _ (RSl.app _ (RSl.app _ (RSl.left _ (RSl.row (by omega)))))) (by omega) (by decide) dX5_isIn_2 ?_
  refine lv_iv (y := (sg g 5)) rfl ?_
  refine lv_if_ne (tgt := 17) hx hb dX5_isIn_3 (by decide) (fun c3 => ?_) (fun c3 => ?_)
  · refine lv_iconst (v := 0) hx hb dX5_isIn_17 (by decide) ?_
    subst hQ
    exact en_z (tv := 0) hx hb hr hlocks (by rw [F_X5_isIn, if_neg c3]) rfl hK (by first | with_reducible exact hP | exact hP) (by first | with_reducible exact hD | exact hD) hS (Nat.le_refl _) (Nat.le_refl _) (by decide) dX5_isIn_18
  · refine lv_aload_n hx hb dX5_isIn_6 rfl (lv_at hl 1 rfl) ?_
    refine lv_iconst (v := 0) hx hb dX5_isIn_7 (by decide) ?_
    refine ial_w (k := 0) hx hb hK hP (RSl.app _ (RSl.app _ (RSl.app _ (RSl.left _ (RSl.row (by omega)))))) (by omega) (by decide) dX5_isIn_8 ?_
    refine lv_iv (y := (sg g 0)) rfl ?_
    refine lv_iload_n hx hb dX5_isIn_9 rfl (lv_at hl 2 rfl) ?_
    refine lv_icmp_ne (tgt := 17) hx hb dX5_isIn_10 (by decide) (fun c10 => ?_) (fun c10 => ?_)
    · refine lv_iconst (v := 0) hx hb dX5_isIn_17 (by decide) ?_
      subst hQ
      exact en_z (tv := 0) hx hb hr hlocks (by rw [F_X5_isIn, if_pos c3, if_neg c10]) rfl hK (by first | with_reducible exact hP | exact hP) (by first | with_reducible exact hD | exact hD) hS (Nat.le_refl _) (Nat.le_refl _) (by decide) dX5_isIn_18
    · refine lv_iconst (v := 1) hx hb dX5_isIn_13 (by decide) ?_
      refine lv_goto (tgt := 18) hx hb dX5_isIn_14 (by decide) ?_
      subst hQ
      exact en_z (tv := 1) hx hb hr hlocks (by rw [F_X5_isIn, if_pos c3, if_pos c10]) rfl hK (by first | with_reducible exact hP | exact hP) (by first | with_reducible exact hD | exact hD) hS (Nat.le_refl _) (Nat.le_refl _) (by decide) dX5_isIn_18

def S_X5_whispers_14 (sg : Nat → Nat → Int32) (room : Int32) (k14 : Nat) (v2_14 : Int32) : Int32 :=
  if (F_X5_isIn sg k14 room) = 0 then
    v2_14
  else
    (v2_14 + (sg k14 1))
def I_X5_whispers_14 (sg : Nat → Nat → Int32) (G : Nat) (room : Int32) : Int32 :=
  it (fun (k : Nat) (v : Int32) => S_X5_whispers_14 sg room k v) G 0 0
def F_X5_whispers (sg : Nat → Nat → Int32) (G : Nat) (room : Int32) : Int32 :=
  (I_X5_whispers_14 sg G room)
set_option maxHeartbeats 4000000 in
set_option maxRecDepth 100000 in
theorem k_X5_whispers (l : Launch) (D : va_G) (cy : Nat → ClassId) (sz : Nat) (qm ho ro go : Nat) (ah ar ag : Nat → Nat) (Y : va_W) (sn : Int32) (sf : Int32) (sh : Nat → Nat → Int32) (sr : Nat → Nat → Int32) (sg : Nat → Nat → Int32) (R : Nat) (G : Nat) (room : Int32) (hR : R ≤ 6) (hG : G ≤ 12) : MTa l D cy yX5_whispers wsX5_whispers 1 0 0 22 ([(qm, .inr (5, [.ref ho, .ref ro, .ref go, .int sn, .int sf])), (ho, .inl (cy 3, 10, .inr (.inr (.inr (.inr (pf 10 ah)))))), (ro, .inl (cy 3, R, .inr (.inr (.inr (.inr (pf R ar)))))), (go, .inl (cy 3, G, .inr (.inr (.inr (.inr (pf G ag))))))] ++ (rws cy 10 5 ah sh ++ (rws cy R 2 ar sr ++ (rws cy G 6 ag sg ++ Y)))) sz [.ref qm, .int room] (fun A => QiT D cy (fun (t : Int32) => t) (fun (_ : Int32) => ([(qm, .inr (5, [.ref ho, .ref ro, .ref go, .int sn, .int sf])), (ho, .inl (cy 3, 10, .inr (.inr (.inr (.inr (pf 10 ah)))))), (ro, .inl (cy 3, R, .inr (.inr (.inr (.inr (pf R ar)))))), (go, .inl (cy 3, G, .inr (.inr (.inr (.inr (pf G ag))))))] ++ (rws cy 10 5 ah sh ++ (rws cy R 2 ar sr ++ (rws cy G 6 ag sg ++ Y))))) (F_X5_whispers sg G room) A) := by
  refine ofWT (cc := cX5_whispers) (maxL := 7) (ret := (some .int)) (own := RX5) (by decide) rfl (Nat.le_of_ble_eq_true rfl) rfl ?_
  intro p e s m args below meth c A ls hx hb hr hml hts hown hlocks hin hN hK hP hD hA hl
  have hS : va_S A s.heap s.heap [] := va_S.rf
  have hl : lv_has ls 7 [(0, .ref qm), (1, .int room)] := hl
  have hin5 : ∀ w ∈ u_ws RX5 TX5 5, w ∈ wsX5_whispers := (fun w h => List.mem_cons_of_mem _ (List.mem_append_right _ h))
  generalize hQ : MQ below ((fun A => QiT D cy (fun (t : Int32) => t) (fun (_ : Int32) => ([(qm, .inr (5, [.ref ho, .ref ro, .ref go, .int sn, .int sf])), (ho, .inl (cy 3, 10, .inr (.inr (.inr (.inr (pf 10 ah)))))), (ro, .inl (cy 3, R, .inr (.inr (.inr (.inr (pf R ar)))))), (go, .inl (cy 3, G, .inr (.inr (.inr (.inr (pf G ag))))))] ++ (rws cy 10 5 ah sh ++ (rws cy R 2 ar sr ++ (rws cy G 6 ag sg ++ Y))))) (F_X5_whispers sg G room) A) A) args s 0 0 A = Q
  refine lv_iconst (v := 0) hx hb dX5_whispers_0 (by decide) ?_
  refine lv_istore_n (lv' := [(2, .int 0), (0, .ref qm), (1, .int room)]) hx hb dX5_whispers_1 rfl hl (by decide) rfl (fun ls hl => ?_)
  refine lv_aload_n hx hb dX5_whispers_2 rfl (lv_at hl 1 rfl) ?_
  refine va_get (D := D) (ci := 5) (v := .ref go) (C := RX5) (T := TX5) (N := 5) hx hb hts hin5 hown hK hP 0 rfl rfl 2 (by decide) (hts (.fieldLink RX5 19 "FireflyInnLaw$Sim" "guests" "[[I") (List.mem_of_getElem? (i := 1) rfl)) (fun _ h9 => h9) rfl dX5_whispers_3 ?_
  refine lv_astore_n (lv' := [(3, .ref go), (2, .int 0), (0, .ref qm), (1, .int room)]) hx hb dX5_whispers_6 rfl hl (by decide) rfl (fun ls hl => ?_)
  refine lv_aload_n hx hb dX5_whispers_7 rfl (lv_at hl 0 rfl) ?_
  refine va_alen (v := nI G) hx hb hK hP 3 3 rfl rfl rfl dX5_whispers_8 ?_
  refine lv_istore (lv' := [(4, .int (nI G)), (3, .ref go), (2, .int 0), (0, .ref qm), (1, .int room)]) hx hb dX5_whispers_9 hl (by decide) rfl (fun ls hl => ?_)
  refine lv_iconst (v := 0) hx hb dX5_whispers_11 (by decide) ?_
  refine lv_istore (lv' := [(5, .int 0), (4, .int (nI G)), (3, .ref go), (2, .int 0), (0, .ref qm), (1, .int room)]) hx hb dX5_whispers_12 hl (by decide) rfl (fun ls hl => ?_)
  obtain ⟨fin14, hfin14⟩ : ∃ z, (I_X5_whispers_14 sg G room) = z := ⟨_, rfl⟩
  suffices kk14 : ∀ (H : Heap) (locs : List Loc) (ls : Array Slot), va_P D vwCl ([(qm, .inr (5, [.ref ho, .ref ro, .ref go, .int sn, .int sf])), (ho, .inl (cy 3, 10, .inr (.inr (.inr (.inr (pf 10 ah)))))), (ro, .inl (cy 3, R, .inr (.inr (.inr (.inr (pf R ar)))))), (go, .inl (cy 3, G, .inr (.inr (.inr (.inr (pf G ag))))))] ++ (rws cy 10 5 ah sh ++ (rws cy R 2 ar sr ++ (rws cy G 6 ag sg ++ Y)))) H → va_D A ([(qm, .inr (5, [.ref ho, .ref ro, .ref go, .int sn, .int sf])), (ho, .inl (cy 3, 10, .inr (.inr (.inr (.inr (pf 10 ah)))))), (ro, .inl (cy 3, R, .inr (.inr (.inr (.inr (pf R ar)))))), (go, .inl (cy 3, G, .inr (.inr (.inr (.inr (pf G ag))))))] ++ (rws cy 10 5 ah sh ++ (rws cy R 2 ar sr ++ (rws cy G 6 ag sg ++ Y)))) → va_S A s.heap H locs → lv_has ls 7 [(5, .int (nI G)), (4, .int (nI G)), (3, .ref go), (2, .int fin14), (0, .ref qm), (1, .int room)] → W p l e (RM 1 0 0 22) s m args below meth c H locs 0 0 Q (F0 m 50 ls []) by
    have lp14 : ∀ (n14 k14 : Nat) (v2_14 : Int32) (H : Heap) (locs : List Loc) (ls : Array Slot), k14 + n14 = G → it (fun (k : Nat) (v : Int32) => S_X5_whispers_14 sg room k v) n14 k14 v2_14 = fin14 → va_P D vwCl ([(qm, .inr (5, [.ref ho, .ref ro, .ref go, .int sn, .int sf])), (ho, .inl (cy 3, 10, .inr (.inr (.inr (.inr (pf 10 ah)))))), (ro, .inl (cy 3, R, .inr (.inr (.inr (.inr (pf R ar)))))), (go, .inl (cy 3, G, .inr (.inr (.inr (.inr (pf G ag))))))] ++ (rws cy 10 5 ah sh ++ (rws cy R 2 ar sr ++ (rws cy G 6 ag sg ++ Y)))) H → va_D A ([(qm, .inr (5, [.ref ho, .ref ro, .ref go, .int sn, .int sf])), (ho, .inl (cy 3, 10, .inr (.inr (.inr (.inr (pf 10 ah)))))), (ro, .inl (cy 3, R, .inr (.inr (.inr (.inr (pf R ar)))))), (go, .inl (cy 3, G, .inr (.inr (.inr (.inr (pf G ag))))))] ++ (rws cy 10 5 ah sh ++ (rws cy R 2 ar sr ++ (rws cy G 6 ag sg ++ Y)))) → va_S A s.heap H locs → lv_has ls 7 [(5, .int (nI k14)), (4, .int (nI G)), (3, .ref go), (2, .int v2_14), (0, .ref qm), (1, .int room)] → W p l e (RM 1 0 0 22) s m args below meth c H locs 0 0 Q (F0 m 14 ls []) := by
      intro n14
      induction n14 with
      | zero =>
        intro k14 v2_14 H locs ls hkn14 hE14 hP hD hS hl
        have hk14 : G = k14 := by omega
        subst hk14
        have hE14 : v2_14 = fin14 := hE14
        subst hE14
        refine lv_iload hx hb dX5_whispers_14 (lv_at hl 0 rfl) ?_
        refine lv_iload hx hb dX5_whispers_16 (lv_at hl 1 rfl) ?_
        refine lv_icmp_ge (tgt := 50) hx hb dX5_whispers_18 (by decide) (fun c18 => ?_) (fun c18 => ?_)
        rotate_left
        · exact absurd (nI_le (a := G) (b := G) (Nat.le_refl _) (by omega)) c18
        exact kk14 _ _ _ hP hD hS (lv_sub hl [0, 1, 2, 3, 4, 5] rfl)
      | succ n14 ih14 =>
        intro k14 v2_14 H locs ls hkn14 hE14 hP hD hS hl
        have hlt14 : k14 < G := by omega
        refine lv_iload hx hb dX5_whispers_14 (lv_at hl 0 rfl) ?_
        refine lv_iload hx hb dX5_whispers_16 (lv_at hl 1 rfl) ?_
        refine lv_icmp_ge (tgt := 50) hx hb dX5_whispers_18 (by decide) (fun c18 => ?_) (fun c18 => ?_)
        · exact absurd c18 (nI_ge (a := k14) (b := G) hlt14 (by omega))
        refine lv_aload_n hx hb dX5_whispers_21 rfl (lv_at hl 2 rfl) ?_
        refine lv_iload hx hb dX5_whispers_22 (lv_at hl 0 rfl) ?_
        refine ald_p (n := G) (k := k14) hx hb hK hP 3 rfl (by omega) (by omega) dX5_whispers_24 ?_
        refine lv_astore (lv' := [(6, .ref (ag k14)), (5, .int (nI k14)), (4, .int (nI G)), (3, .ref go), (2, .int v2_14), (0, .ref qm), (1, .int room)]) hx hb dX5_whispers_25 hl (by decide) rfl (fun ls hl => ?_)
        refine lv_aload_n hx hb dX5_whispers_27 rfl (lv_at hl 5 rfl) ?_
        refine lv_aload hx hb dX5_whispers_28 (lv_at hl 0 rfl) ?_
        refine lv_iload_n hx hb dX5_whispers_30 rfl (lv_at hl 6 rfl) ?_
        refine cl_iP (S := Unit) (X := [(qm, .inr (5, [.ref ho, .ref ro, .ref go, .int sn, .int sf])), (ho, .inl (cy 3, 10, .inr (.inr (.inr (.inr (pf 10 ah)))))), (ro, .inl (cy 3, R, .inr (.inr (.inr (.inr (pf R ar)))))), (go, .inl (cy 3, G, .inr (.inr (.inr (.inr (pf G ag))))))]) (wr := []) (rx := fun _ => [(qm, .inr (5, [.ref ho, .ref ro, .ref go, .int sn, .int sf])), (ho, .inl (cy 3, 10, .inr (.inr (.inr (.inr (pf 10 ah)))))), (ro, .inl (cy 3, R, .inr (.inr (.inr (.inr (pf R ar)))))), (go, .inl (cy 3, G, .inr (.inr (.inr (.inr (pf G ag))))))]) (p1 := fun _ => (rws cy 10 5 ah sh ++ (rws cy R 2 ar sr ++ (rws cy G 6 ag sg ++ Y)))) (rn_VP (As := [.ref (ag k14), .int room]) (rest := []) (ci := 5) (q0 := 0) ⟨hx, hb, hml, hown, hts⟩ (k_X5_isIn l D cy _ qm ho ro go ah ar ag Y sn sf sh sr sg R G k14 room (by omega) (by omega) (by omega)) (cwV 2 hts gX5_whispers_X5_isIn rfl rfl rfl (by decide +kernel) ⟨Nat.le_of_ble_eq_true rfl, Nat.le_of_ble_eq_true rfl⟩) hN hK hP hD [0, 1, 2, 3] rfl (by decide) rfl rfl rfl rfl hl.1 rfl (Nat.le_of_ble_eq_true rfl) dX5_whispers_31 ⟨Nat.le_of_ble_eq_true rfl, Nat.le_of_ble_eq_true rfl⟩) hP hD hS hA [0, 1, 2, 3] [] rfl rfl (by decide) (by decide) (fun _ => rfl) (fun r9 u9 H locs h9 hP hD hS => ?_)
        have h9 : r9 = (F_X5_isIn sg k14 room) := h9
        subst h9
        have hP : va_P D vwCl ([(qm, .inr (5, [.ref ho, .ref ro, .ref go, .int sn, .int sf])), (ho, .inl (cy 3, 10, .inr (.inr (.inr (.inr (pf 10 ah)))))), (ro, .inl (cy 3, R, .inr (.inr (.inr (.inr (pf R ar)))))), (go, .inl (cy 3, G, .inr (.inr (.inr (.inr (pf G ag))))))] ++ (rws cy 10 5 ah sh ++ (rws cy R 2 ar sr ++ (rws cy G 6 ag sg ++ Y)))) H := va_P.part hP [0, 1, 2, 3] rfl
        have hD : va_D A ([(qm, .inr (5, [.ref ho, .ref ro, .ref go, .int sn, .int sf])), (ho, .inl (cy 3, 10, .inr (.inr (.inr (.inr (pf 10 ah)))))), (ro, .inl (cy 3, R, .inr (.inr (.inr (.inr (pf R ar)))))), (go, .inl (cy 3, G, .inr (.inr (.inr (.inr (pf G ag))))))] ++ (rws cy 10 5 ah sh ++ (rws cy R 2 ar sr ++ (rws cy G 6 ag sg ++ Y)))) := va_D.part hD [0, 1, 2, 3] (by decide) rfl
        refine lv_if_eq (tgt := 44) hx hb dX5_whispers_34 (by decide) (fun c34 => ?_) (fun c34 => ?_)
        · refine lv_iinc (v := (nI (k14 + 1))) (lv' := [(5, .int (nI (k14 + 1))), (6, .ref (ag k14)), (4, .int (nI G)), (3, .ref go), (2, .int v2_14), (0, .ref qm), (1, .int room)]) hx hb dX5_whispers_44 hl (k := 1) rfl (nI_1 k14) (by decide) rfl (fun ls hl => ?_)
          refine lv_goto (tgt := 14) hx hb dX5_whispers_47 (by decide) ?_
          exact ih14 (k14 + 1) v2_14 _ _ _ (by omega) (it_step (f := (fun (k : Nat) (v : Int32) => S_X5_whispers_14 sg room k v)) (v := v2_14) (show S_X5_whispers_14 sg room k14 v2_14 = v2_14 from by rw [S_X5_whispers_14, if_pos c34]) hE14) hP hD hS (lv_sub hl [0, 2, 3, 4, 5, 6] rfl)
        · refine lv_iload_n hx hb dX5_whispers_37 rfl (lv_at hl 4 rfl) ?_
          refine lv_aload hx hb dX5_whispers_38 (lv_at hl 0 rfl) ?_
          refine lv_iconst (v := 1) hx hb dX5_whispers_40 (by decide) ?_
          refine ial_w (k := 1) hx hb hK hP (RSl.app _ (RSl.app _ (RSl.app _ (RSl.left _ (RSl.row (by omega)))))) (by omega) (by decide) dX5_whispers_41 ?_
          refine lv_iv (y := (sg k14 1)) rfl ?_
          refine lv_iadd hx hb dX5_whispers_42 ?_
          refine lv_istore_n (lv' := [(2, .int (v2_14 + (sg k14 1))), (6, .ref (ag k14)), (5, .int (nI k14)), (4, .int (nI G)), (3, .ref go), (0, .ref qm), (1, .int room)]) hx hb dX5_whispers_43 rfl hl (by decide) rfl (fun ls hl => ?_)
          refine lv_iinc (v := (nI (k14 + 1))) (lv' := [(5, .int (nI (k14 + 1))), (2, .int (v2_14 + (sg k14 1))), (6, .ref (ag k14)), (4, .int (nI G)), (3, .ref go), (0, .ref qm), (1, .int room)]) hx hb dX5_whispers_44 hl (k := 2) rfl (nI_1 k14) (by decide) rfl (fun ls hl => ?_)
          refine lv_goto (tgt := 14) hx hb dX5_whispers_47 (by decide) ?_
          exact ih14 (k14 + 1) (v2_14 + (sg k14 1)) _ _ _ (by omega) (it_step (f := (fun (k : Nat) (v : Int32) => S_X5_whispers_14 sg room k v)) (v := v2_14) (show S_X5_whispers_14 sg room k14 v2_14 = (v2_14 + (sg k14 1)) from by rw [S_X5_whispers_14, if_neg c34]) hE14) hP hD hS (lv_sub hl [0, 3, 4, 1, 5, 6] rfl)
    exact lp14 G 0 0 _ _ _ (by omega) hfin14 hP hD hS (lv_sub hl [0, 1, 2, 3, 4, 5] rfl)
  intro H locs ls hP hD hS hl
  subst hfin14
  refine lv_iload_n hx hb dX5_whispers_50 rfl (lv_at hl 3 rfl) ?_
  subst hQ
  exact en_i (tv := (I_X5_whispers_14 sg G room)) hx hb hr hlocks (by rw [F_X5_whispers]) rfl hK (by first | with_reducible exact hP | exact hP) (by first | with_reducible exact hD | exact hD) hS (Nat.le_refl _) (Nat.le_refl _) dX5_whispers_51

def S_X5_flies_37 (sh : Nat → Nat → Int32) (k13 : Nat) (k37 : Nat) (v1_37 : Int32) : Int32 :=
  (v1_37 + (sh k13 k37))
def I_X5_flies_37 (sh : Nat → Nat → Int32) (k13 : Nat) (v1_13 : Int32) : Int32 :=
  it (fun (k : Nat) (v : Int32) => S_X5_flies_37 sh k13 k v) 5 0 v1_13
def S_X5_flies_13 (sh : Nat → Nat → Int32) (k13 : Nat) (v1_13 : Int32) : Int32 :=
  (I_X5_flies_37 sh k13 v1_13)
def I_X5_flies_13 (sh : Nat → Nat → Int32) : Int32 :=
  it (fun (k : Nat) (v : Int32) => S_X5_flies_13 sh k v) 10 0 0
def F_X5_flies (sh : Nat → Nat → Int32) : Int32 :=
  (I_X5_flies_13 sh)
set_option maxHeartbeats 4000000 in
set_option maxRecDepth 100000 in
theorem k_X5_flies (l : Launch) (D : va_G) (cy : Nat → ClassId) (sz : Nat) (qm ho ro go : Nat) (ah ar ag : Nat → Nat) (Y : va_W) (sn : Int32) (sf : Int32) (sh : Nat → Nat → Int32) (sr : Nat → Nat → Int32) (sg : Nat → Nat → Int32) (R : Nat) (G : Nat) (hR : R ≤ 6) (hG : G ≤ 12) : MTa l D cy yX5_flies wsX5_flies 0 0 0 0 ([(qm, .inr (5, [.ref ho, .ref ro, .ref go, .int sn, .int sf])), (ho, .inl (cy 3, 10, .inr (.inr (.inr (.inr (pf 10 ah)))))), (ro, .inl (cy 3, R, .inr (.inr (.inr (.inr (pf R ar)))))), (go, .inl (cy 3, G, .inr (.inr (.inr (.inr (pf G ag))))))] ++ (rws cy 10 5 ah sh ++ (rws cy R 2 ar sr ++ (rws cy G 6 ag sg ++ Y)))) sz [.ref qm] (fun A => QiT D cy (fun (t : Int32) => t) (fun (_ : Int32) => ([(qm, .inr (5, [.ref ho, .ref ro, .ref go, .int sn, .int sf])), (ho, .inl (cy 3, 10, .inr (.inr (.inr (.inr (pf 10 ah)))))), (ro, .inl (cy 3, R, .inr (.inr (.inr (.inr (pf R ar)))))), (go, .inl (cy 3, G, .inr (.inr (.inr (.inr (pf G ag))))))] ++ (rws cy 10 5 ah sh ++ (rws cy R 2 ar sr ++ (rws cy G 6 ag sg ++ Y))))) (F_X5_flies sh) A) := by
  refine ofWT (cc := cX5_flies) (maxL := 10) (ret := (some .int)) (own := RX5) (by decide) rfl (Nat.le_of_ble_eq_true rfl) rfl ?_
  intro p e s m args below meth c A ls hx hb hr hml hts hown hlocks hin hN hK hP hD hA hl
  have hS : va_S A s.heap s.heap [] := va_S.rf
  have hl : lv_has ls 10 [(0, .ref qm)] := hl
  have hin5 : ∀ w ∈ u_ws RX5 TX5 5, w ∈ wsX5_flies := (fun w h => List.mem_cons_of_mem _ (List.mem_append_right _ h))
  generalize hQ : MQ below ((fun A => QiT D cy (fun (t : Int32) => t) (fun (_ : Int32) => ([(qm, .inr (5, [.ref ho, .ref ro, .ref go, .int sn, .int sf])), (ho, .inl (cy 3, 10, .inr (.inr (.inr (.inr (pf 10 ah)))))), (ro, .inl (cy 3, R, .inr (.inr (.inr (.inr (pf R ar)))))), (go, .inl (cy 3, G, .inr (.inr (.inr (.inr (pf G ag))))))] ++ (rws cy 10 5 ah sh ++ (rws cy R 2 ar sr ++ (rws cy G 6 ag sg ++ Y))))) (F_X5_flies sh) A) A) args s 0 0 A = Q
  refine lv_iconst (v := 0) hx hb dX5_flies_0 (by decide) ?_
  refine lv_istore_n (lv' := [(1, .int 0), (0, .ref qm)]) hx hb dX5_flies_1 rfl hl (by decide) rfl (fun ls hl => ?_)
  refine lv_aload_n hx hb dX5_flies_2 rfl (lv_at hl 1 rfl) ?_
  refine va_get (D := D) (ci := 5) (v := .ref ho) (C := RX5) (T := TX5) (N := 5) hx hb hts hin5 hown hK hP 0 rfl rfl 0 (by decide) (hts (.fieldLink RX5 9 "FireflyInnLaw$Sim" "hedge" "[[I") (List.mem_of_getElem? (i := 1) rfl)) (fun _ h9 => h9) rfl dX5_flies_3 ?_
  refine lv_astore_n (lv' := [(2, .ref ho), (1, .int 0), (0, .ref qm)]) hx hb dX5_flies_6 rfl hl (by decide) rfl (fun ls hl => ?_)
  refine lv_aload_n hx hb dX5_flies_7 rfl (lv_at hl 0 rfl) ?_
  refine va_alen (v := 10) hx hb hK hP 1 3 rfl rfl rfl dX5_flies_8 ?_
  refine lv_istore_n (lv' := [(3, .int 10), (2, .ref ho), (1, .int 0), (0, .ref qm)]) hx hb dX5_flies_9 rfl hl (by decide) rfl (fun ls hl => ?_)
  refine lv_iconst (v := 0) hx hb dX5_flies_10 (by decide) ?_
  refine lv_istore (lv' := [(4, .int 0), (3, .int 10), (2, .ref ho), (1, .int 0), (0, .ref qm)]) hx hb dX5_flies_11 hl (by decide) rfl (fun ls hl => ?_)
  obtain ⟨fin13, hfin13⟩ : ∃ z, (I_X5_flies_13 sh) = z := ⟨_, rfl⟩
  suffices kk13 : ∀ (H : Heap) (locs : List Loc) (ls : Array Slot), va_P D vwCl ([(qm, .inr (5, [.ref ho, .ref ro, .ref go, .int sn, .int sf])), (ho, .inl (cy 3, 10, .inr (.inr (.inr (.inr (pf 10 ah)))))), (ro, .inl (cy 3, R, .inr (.inr (.inr (.inr (pf R ar)))))), (go, .inl (cy 3, G, .inr (.inr (.inr (.inr (pf G ag))))))] ++ (rws cy 10 5 ah sh ++ (rws cy R 2 ar sr ++ (rws cy G 6 ag sg ++ Y)))) H → va_D A ([(qm, .inr (5, [.ref ho, .ref ro, .ref go, .int sn, .int sf])), (ho, .inl (cy 3, 10, .inr (.inr (.inr (.inr (pf 10 ah)))))), (ro, .inl (cy 3, R, .inr (.inr (.inr (.inr (pf R ar)))))), (go, .inl (cy 3, G, .inr (.inr (.inr (.inr (pf G ag))))))] ++ (rws cy 10 5 ah sh ++ (rws cy R 2 ar sr ++ (rws cy G 6 ag sg ++ Y)))) → va_S A s.heap H locs → lv_has ls 10 [(4, .int (nI 10)), (3, .int 10), (2, .ref ho), (1, .int fin13), (0, .ref qm)] → W p l e (RM 0 0 0 0) s m args below meth c H locs 0 0 Q (F0 m 68 ls []) by
    have lp13 : ∀ (n13 k13 : Nat) (v1_13 : Int32) (H : Heap) (locs : List Loc) (ls : Array Slot), k13 + n13 = 10 → it (fun (k : Nat) (v : Int32) => S_X5_flies_13 sh k v) n13 k13 v1_13 = fin13 → va_P D vwCl ([(qm, .inr (5, [.ref ho, .ref ro, .ref go, .int sn, .int sf])), (ho, .inl (cy 3, 10, .inr (.inr (.inr (.inr (pf 10 ah)))))), (ro, .inl (cy 3, R, .inr (.inr (.inr (.inr (pf R ar)))))), (go, .inl (cy 3, G, .inr (.inr (.inr (.inr (pf G ag))))))] ++ (rws cy 10 5 ah sh ++ (rws cy R 2 ar sr ++ (rws cy G 6 ag sg ++ Y)))) H → va_D A ([(qm, .inr (5, [.ref ho, .ref ro, .ref go, .int sn, .int sf])), (ho, .inl (cy 3, 10, .inr (.inr (.inr (.inr (pf 10 ah)))))), (ro, .inl (cy 3, R, .inr (.inr (.inr (.inr (pf R ar)))))), (go, .inl (cy 3, G, .inr (.inr (.inr (.inr (pf G ag))))))] ++ (rws cy 10 5 ah sh ++ (rws cy R 2 ar sr ++ (rws cy G 6 ag sg ++ Y)))) → va_S A s.heap H locs → lv_has ls 10 [(4, .int (nI k13)), (3, .int 10), (2, .ref ho), (1, .int v1_13), (0, .ref qm)] → W p l e (RM 0 0 0 0) s m args below meth c H locs 0 0 Q (F0 m 13 ls []) := by
      intro n13
      induction n13 with
      | zero =>
        intro k13 v1_13 H locs ls hkn13 hE13 hP hD hS hl
        have hk13 : 10 = k13 := by omega
        subst hk13
        have hE13 : v1_13 = fin13 := hE13
        subst hE13
        refine lv_iload hx hb dX5_flies_13 (lv_at hl 0 rfl) ?_
        refine lv_iload_n hx hb dX5_flies_15 rfl (lv_at hl 1 rfl) ?_
        refine lv_icmp_ge (tgt := 68) hx hb dX5_flies_16 (by decide) (fun c16 => ?_) (fun c16 => ?_)
        rotate_left
        · exact absurd (nI_le (a := 10) (b := 10) (Nat.le_refl _) (by decide)) c16
        exact kk13 _ _ _ hP hD hS (lv_sub hl [0, 1, 2, 3, 4] rfl)
      | succ n13 ih13 =>
        intro k13 v1_13 H locs ls hkn13 hE13 hP hD hS hl
        have hlt13 : k13 < 10 := by omega
        refine lv_iload hx hb dX5_flies_13 (lv_at hl 0 rfl) ?_
        refine lv_iload_n hx hb dX5_flies_15 rfl (lv_at hl 1 rfl) ?_
        refine lv_icmp_ge (tgt := 68) hx hb dX5_flies_16 (by decide) (fun c16 => ?_) (fun c16 => ?_)
        · exact absurd c16 (nI_ge (a := k13) (b := 10) hlt13 (by decide))
        refine lv_aload_n hx hb dX5_flies_19 rfl (lv_at hl 2 rfl) ?_
        refine lv_iload hx hb dX5_flies_20 (lv_at hl 0 rfl) ?_
        refine ald_p (n := 10) (k := k13) hx hb hK hP 1 rfl (by omega) (by decide) dX5_flies_22 ?_
        refine lv_astore (lv' := [(5, .ref (ah k13)), (4, .int (nI k13)), (3, .int 10), (2, .ref ho), (1, .int v1_13), (0, .ref qm)]) hx hb dX5_flies_23 hl (by decide) rfl (fun ls hl => ?_)
        refine lv_aload hx hb dX5_flies_25 (lv_at hl 0 rfl) ?_
        refine lv_astore (lv' := [(6, .ref (ah k13)), (5, .ref (ah k13)), (4, .int (nI k13)), (3, .int 10), (2, .ref ho), (1, .int v1_13), (0, .ref qm)]) hx hb dX5_flies_27 hl (by decide) rfl (fun ls hl => ?_)
        refine lv_aload hx hb dX5_flies_29 (lv_at hl 0 rfl) ?_
        refine alen_w hx hb hK hP (RSl.app _ (RSl.left _ (RSl.row (by omega)))) dX5_flies_31 ?_
        refine lv_iv (y := 5) rfl ?_
        refine lv_istore (lv' := [(7, .int 5), (6, .ref (ah k13)), (5, .ref (ah k13)), (4, .int (nI k13)), (3, .int 10), (2, .ref ho), (1, .int v1_13), (0, .ref qm)]) hx hb dX5_flies_32 hl (by decide) rfl (fun ls hl => ?_)
        refine lv_iconst (v := 0) hx hb dX5_flies_34 (by decide) ?_
        refine lv_istore (lv' := [(8, .int 0), (7, .int 5), (6, .ref (ah k13)), (5, .ref (ah k13)), (4, .int (nI k13)), (3, .int 10), (2, .ref ho), (1, .int v1_13), (0, .ref qm)]) hx hb dX5_flies_35 hl (by decide) rfl (fun ls hl => ?_)
        obtain ⟨fin37, hfin37⟩ : ∃ z, (I_X5_flies_37 sh k13 v1_13) = z := ⟨_, rfl⟩
        suffices kk37 : ∀ (H : Heap) (locs : List Loc) (ls : Array Slot), va_P D vwCl ([(qm, .inr (5, [.ref ho, .ref ro, .ref go, .int sn, .int sf])), (ho, .inl (cy 3, 10, .inr (.inr (.inr (.inr (pf 10 ah)))))), (ro, .inl (cy 3, R, .inr (.inr (.inr (.inr (pf R ar)))))), (go, .inl (cy 3, G, .inr (.inr (.inr (.inr (pf G ag))))))] ++ (rws cy 10 5 ah sh ++ (rws cy R 2 ar sr ++ (rws cy G 6 ag sg ++ Y)))) H → va_D A ([(qm, .inr (5, [.ref ho, .ref ro, .ref go, .int sn, .int sf])), (ho, .inl (cy 3, 10, .inr (.inr (.inr (.inr (pf 10 ah)))))), (ro, .inl (cy 3, R, .inr (.inr (.inr (.inr (pf R ar)))))), (go, .inl (cy 3, G, .inr (.inr (.inr (.inr (pf G ag))))))] ++ (rws cy 10 5 ah sh ++ (rws cy R 2 ar sr ++ (rws cy G 6 ag sg ++ Y)))) → va_S A s.heap H locs → lv_has ls 10 [(8, .int (nI 5)), (7, .int 5), (6, .ref (ah k13)), (5, .ref (ah k13)), (4, .int (nI k13)), (3, .int 10), (2, .ref ho), (1, .int fin37), (0, .ref qm)] → W p l e (RM 0 0 0 0) s m args below meth c H locs 0 0 Q (F0 m 62 ls []) by
          have lp37 : ∀ (n37 k37 : Nat) (v1_37 : Int32) (H : Heap) (locs : List Loc) (ls : Array Slot), k37 + n37 = 5 → it (fun (k : Nat) (v : Int32) => S_X5_flies_37 sh k13 k v) n37 k37 v1_37 = fin37 → va_P D vwCl ([(qm, .inr (5, [.ref ho, .ref ro, .ref go, .int sn, .int sf])), (ho, .inl (cy 3, 10, .inr (.inr (.inr (.inr (pf 10 ah)))))), (ro, .inl (cy 3, R, .inr (.inr (.inr (.inr (pf R ar)))))), (go, .inl (cy 3, G, .inr (.inr (.inr (.inr (pf G ag))))))] ++ (rws cy 10 5 ah sh ++ (rws cy R 2 ar sr ++ (rws cy G 6 ag sg ++ Y)))) H → va_D A ([(qm, .inr (5, [.ref ho, .ref ro, .ref go, .int sn, .int sf])), (ho, .inl (cy 3, 10, .inr (.inr (.inr (.inr (pf 10 ah)))))), (ro, .inl (cy 3, R, .inr (.inr (.inr (.inr (pf R ar)))))), (go, .inl (cy 3, G, .inr (.inr (.inr (.inr (pf G ag))))))] ++ (rws cy 10 5 ah sh ++ (rws cy R 2 ar sr ++ (rws cy G 6 ag sg ++ Y)))) → va_S A s.heap H locs → lv_has ls 10 [(8, .int (nI k37)), (7, .int 5), (6, .ref (ah k13)), (5, .ref (ah k13)), (4, .int (nI k13)), (3, .int 10), (2, .ref ho), (1, .int v1_37), (0, .ref qm)] → W p l e (RM 0 0 0 0) s m args below meth c H locs 0 0 Q (F0 m 37 ls []) := by
            intro n37
            induction n37 with
            | zero =>
              intro k37 v1_37 H locs ls hkn37 hE37 hP hD hS hl
              have hk37 : 5 = k37 := by omega
              subst hk37
              have hE37 : v1_37 = fin37 := hE37
              subst hE37
              refine lv_iload hx hb dX5_flies_37 (lv_at hl 0 rfl) ?_
              refine lv_iload hx hb dX5_flies_39 (lv_at hl 1 rfl) ?_
              refine lv_icmp_ge (tgt := 62) hx hb dX5_flies_41 (by decide) (fun c41 => ?_) (fun c41 => ?_)
              rotate_left
              · exact absurd (nI_le (a := 5) (b := 5) (Nat.le_refl _) (by decide)) c41
              exact kk37 _ _ _ hP hD hS (lv_sub hl [0, 1, 2, 3, 4, 5, 6, 7, 8] rfl)
            | succ n37 ih37 =>
              intro k37 v1_37 H locs ls hkn37 hE37 hP hD hS hl
              have hlt37 : k37 < 5 := by omega
              refine lv_iload hx hb dX5_flies_37 (lv_at hl 0 rfl) ?_
              refine lv_iload hx hb dX5_flies_39 (lv_at hl 1 rfl) ?_
              refine lv_icmp_ge (tgt := 62) hx hb dX5_flies_41 (by decide) (fun c41 => ?_) (fun c41 => ?_)
              · exact absurd c41 (nI_ge (a := k37) (b := 5) hlt37 (by decide))
              refine lv_aload hx hb dX5_flies_44 (lv_at hl 2 rfl) ?_
              refine lv_iload hx hb dX5_flies_46 (lv_at hl 0 rfl) ?_
              refine ial_w (k := k37) hx hb hK hP (RSl.app _ (RSl.left _ (RSl.row (by omega)))) (by omega) (by decide) dX5_flies_48 ?_
              refine lv_iv (y := (sh k13 k37)) rfl ?_
              refine lv_istore (lv' := [(9, .int (sh k13 k37)), (8, .int (nI k37)), (7, .int 5), (6, .ref (ah k13)), (5, .ref (ah k13)), (4, .int (nI k13)), (3, .int 10), (2, .ref ho), (1, .int v1_37), (0, .ref qm)]) hx hb dX5_flies_49 hl (by decide) rfl (fun ls hl => ?_)
              refine lv_iload_n hx hb dX5_flies_51 rfl (lv_at hl 8 rfl) ?_
              refine lv_iload hx hb dX5_flies_52 (lv_at hl 0 rfl) ?_
              refine lv_iadd hx hb dX5_flies_54 ?_
              refine lv_istore_n (lv' := [(1, .int (v1_37 + (sh k13 k37))), (9, .int (sh k13 k37)), (8, .int (nI k37)), (7, .int 5), (6, .ref (ah k13)), (5, .ref (ah k13)), (4, .int (nI k13)), (3, .int 10), (2, .ref ho), (0, .ref qm)]) hx hb dX5_flies_55 rfl hl (by decide) rfl (fun ls hl => ?_)
              refine lv_iinc (v := (nI (k37 + 1))) (lv' := [(8, .int (nI (k37 + 1))), (1, .int (v1_37 + (sh k13 k37))), (9, .int (sh k13 k37)), (7, .int 5), (6, .ref (ah k13)), (5, .ref (ah k13)), (4, .int (nI k13)), (3, .int 10), (2, .ref ho), (0, .ref qm)]) hx hb dX5_flies_56 hl (k := 2) rfl (nI_1 k37) (by decide) rfl (fun ls hl => ?_)
              refine lv_goto (tgt := 37) hx hb dX5_flies_59 (by decide) ?_
              exact ih37 (k37 + 1) (v1_37 + (sh k13 k37)) _ _ _ (by omega) (it_step (f := (fun (k : Nat) (v : Int32) => S_X5_flies_37 sh k13 k v)) (v := v1_37) (show S_X5_flies_37 sh k13 k37 v1_37 = (v1_37 + (sh k13 k37)) from by rw [S_X5_flies_37]) hE37) hP hD hS (lv_sub hl [0, 3, 4, 5, 6, 7, 8, 1, 9] rfl)
          exact lp37 5 0 v1_13 _ _ _ (by omega) hfin37 hP hD hS (lv_sub hl [0, 1, 2, 3, 4, 5, 6, 7, 8] rfl)
        intro H locs ls hP hD hS hl
        subst hfin37
        refine lv_iinc (v := (nI (k13 + 1))) (lv' := [(4, .int (nI (k13 + 1))), (8, .int (nI 5)), (7, .int 5), (6, .ref (ah k13)), (5, .ref (ah k13)), (3, .int 10), (2, .ref ho), (1, .int (I_X5_flies_37 sh k13 v1_13)), (0, .ref qm)]) hx hb dX5_flies_62 hl (k := 4) rfl (nI_1 k13) (by decide) rfl (fun ls hl => ?_)
        refine lv_goto (tgt := 13) hx hb dX5_flies_65 (by decide) ?_
        exact ih13 (k13 + 1) (I_X5_flies_37 sh k13 v1_13) _ _ _ (by omega) (it_step (f := (fun (k : Nat) (v : Int32) => S_X5_flies_13 sh k v)) (v := v1_13) (show S_X5_flies_13 sh k13 v1_13 = (I_X5_flies_37 sh k13 v1_13) from by rw [S_X5_flies_13]) hE13) hP hD hS (lv_sub hl [0, 5, 6, 7, 8] rfl)
    exact lp13 10 0 0 _ _ _ (by omega) hfin13 hP hD hS (lv_sub hl [0, 1, 2, 3, 4] rfl)
  intro H locs ls hP hD hS hl
  subst hfin13
  refine lv_iload_n hx hb dX5_flies_68 rfl (lv_at hl 3 rfl) ?_
  subst hQ
  exact en_i (tv := (I_X5_flies_13 sh)) hx hb hr hlocks (by rw [F_X5_flies]) rfl hK (by first | with_reducible exact hP | exact hP) (by first | with_reducible exact hD | exact hD) hS (Nat.le_refl _) (Nat.le_refl _) dX5_flies_69

def S_X5_sum_14 (sg : Nat → Nat → Int32) (w : Nat) (k14 : Nat) (v2_14 : Int32) : Int32 :=
  (v2_14 + (sg k14 w))
def I_X5_sum_14 (sg : Nat → Nat → Int32) (G : Nat) (w : Nat) : Int32 :=
  it (fun (k : Nat) (v : Int32) => S_X5_sum_14 sg w k v) G 0 0
def F_X5_sum (sg : Nat → Nat → Int32) (G : Nat) (w : Nat) : Int32 :=
  (I_X5_sum_14 sg G w)
set_option maxHeartbeats 4000000 in
set_option maxRecDepth 100000 in
theorem k_X5_sum (l : Launch) (D : va_G) (cy : Nat → ClassId) (sz : Nat) (qm ho ro go : Nat) (ah ar ag : Nat → Nat) (Y : va_W) (sn : Int32) (sf : Int32) (sh : Nat → Nat → Int32) (sr : Nat → Nat → Int32) (sg : Nat → Nat → Int32) (R : Nat) (G : Nat) (w : Nat) (hR : R ≤ 6) (hG : G ≤ 12) (hw : w < 6) : MTa l D cy yX5_sum wsX5_sum 0 0 0 0 ([(qm, .inr (5, [.ref ho, .ref ro, .ref go, .int sn, .int sf])), (ho, .inl (cy 3, 10, .inr (.inr (.inr (.inr (pf 10 ah)))))), (ro, .inl (cy 3, R, .inr (.inr (.inr (.inr (pf R ar)))))), (go, .inl (cy 3, G, .inr (.inr (.inr (.inr (pf G ag))))))] ++ (rws cy 10 5 ah sh ++ (rws cy R 2 ar sr ++ (rws cy G 6 ag sg ++ Y)))) sz [.ref qm, .int (nI w)] (fun A => QiT D cy (fun (t : Int32) => t) (fun (_ : Int32) => ([(qm, .inr (5, [.ref ho, .ref ro, .ref go, .int sn, .int sf])), (ho, .inl (cy 3, 10, .inr (.inr (.inr (.inr (pf 10 ah)))))), (ro, .inl (cy 3, R, .inr (.inr (.inr (.inr (pf R ar)))))), (go, .inl (cy 3, G, .inr (.inr (.inr (.inr (pf G ag))))))] ++ (rws cy 10 5 ah sh ++ (rws cy R 2 ar sr ++ (rws cy G 6 ag sg ++ Y))))) (F_X5_sum sg G w) A) := by
  refine ofWT (cc := cX5_sum) (maxL := 7) (ret := (some .int)) (own := RX5) (by decide) rfl (Nat.le_of_ble_eq_true rfl) rfl ?_
  intro p e s m args below meth c A ls hx hb hr hml hts hown hlocks hin hN hK hP hD hA hl
  have hS : va_S A s.heap s.heap [] := va_S.rf
  have hl : lv_has ls 7 [(0, .ref qm), (1, .int (nI w))] := hl
  have hin5 : ∀ w ∈ u_ws RX5 TX5 5, w ∈ wsX5_sum := (fun w h => List.mem_cons_of_mem _ (List.mem_append_right _ h))
  generalize hQ : MQ below ((fun A => QiT D cy (fun (t : Int32) => t) (fun (_ : Int32) => ([(qm, .inr (5, [.ref ho, .ref ro, .ref go, .int sn, .int sf])), (ho, .inl (cy 3, 10, .inr (.inr (.inr (.inr (pf 10 ah)))))), (ro, .inl (cy 3, R, .inr (.inr (.inr (.inr (pf R ar)))))), (go, .inl (cy 3, G, .inr (.inr (.inr (.inr (pf G ag))))))] ++ (rws cy 10 5 ah sh ++ (rws cy R 2 ar sr ++ (rws cy G 6 ag sg ++ Y))))) (F_X5_sum sg G w) A) A) args s 0 0 A = Q
  refine lv_iconst (v := 0) hx hb dX5_sum_0 (by decide) ?_
  refine lv_istore_n (lv' := [(2, .int 0), (0, .ref qm), (1, .int (nI w))]) hx hb dX5_sum_1 rfl hl (by decide) rfl (fun ls hl => ?_)
  refine lv_aload_n hx hb dX5_sum_2 rfl (lv_at hl 1 rfl) ?_
  refine va_get (D := D) (ci := 5) (v := .ref go) (C := RX5) (T := TX5) (N := 5) hx hb hts hin5 hown hK hP 0 rfl rfl 2 (by decide) (hts (.fieldLink RX5 19 "FireflyInnLaw$Sim" "guests" "[[I") (List.mem_of_getElem? (i := 1) rfl)) (fun _ h9 => h9) rfl dX5_sum_3 ?_
  refine lv_astore_n (lv' := [(3, .ref go), (2, .int 0), (0, .ref qm), (1, .int (nI w))]) hx hb dX5_sum_6 rfl hl (by decide) rfl (fun ls hl => ?_)
  refine lv_aload_n hx hb dX5_sum_7 rfl (lv_at hl 0 rfl) ?_
  refine va_alen (v := nI G) hx hb hK hP 3 3 rfl rfl rfl dX5_sum_8 ?_
  refine lv_istore (lv' := [(4, .int (nI G)), (3, .ref go), (2, .int 0), (0, .ref qm), (1, .int (nI w))]) hx hb dX5_sum_9 hl (by decide) rfl (fun ls hl => ?_)
  refine lv_iconst (v := 0) hx hb dX5_sum_11 (by decide) ?_
  refine lv_istore (lv' := [(5, .int 0), (4, .int (nI G)), (3, .ref go), (2, .int 0), (0, .ref qm), (1, .int (nI w))]) hx hb dX5_sum_12 hl (by decide) rfl (fun ls hl => ?_)
  obtain ⟨fin14, hfin14⟩ : ∃ z, (I_X5_sum_14 sg G w) = z := ⟨_, rfl⟩
  suffices kk14 : ∀ (H : Heap) (locs : List Loc) (ls : Array Slot), va_P D vwCl ([(qm, .inr (5, [.ref ho, .ref ro, .ref go, .int sn, .int sf])), (ho, .inl (cy 3, 10, .inr (.inr (.inr (.inr (pf 10 ah)))))), (ro, .inl (cy 3, R, .inr (.inr (.inr (.inr (pf R ar)))))), (go, .inl (cy 3, G, .inr (.inr (.inr (.inr (pf G ag))))))] ++ (rws cy 10 5 ah sh ++ (rws cy R 2 ar sr ++ (rws cy G 6 ag sg ++ Y)))) H → va_D A ([(qm, .inr (5, [.ref ho, .ref ro, .ref go, .int sn, .int sf])), (ho, .inl (cy 3, 10, .inr (.inr (.inr (.inr (pf 10 ah)))))), (ro, .inl (cy 3, R, .inr (.inr (.inr (.inr (pf R ar)))))), (go, .inl (cy 3, G, .inr (.inr (.inr (.inr (pf G ag))))))] ++ (rws cy 10 5 ah sh ++ (rws cy R 2 ar sr ++ (rws cy G 6 ag sg ++ Y)))) → va_S A s.heap H locs → lv_has ls 7 [(5, .int (nI G)), (4, .int (nI G)), (3, .ref go), (2, .int fin14), (0, .ref qm), (1, .int (nI w))] → W p l e (RM 0 0 0 0) s m args below meth c H locs 0 0 Q (F0 m 40 ls []) by
    have lp14 : ∀ (n14 k14 : Nat) (v2_14 : Int32) (H : Heap) (locs : List Loc) (ls : Array Slot), k14 + n14 = G → it (fun (k : Nat) (v : Int32) => S_X5_sum_14 sg w k v) n14 k14 v2_14 = fin14 → va_P D vwCl ([(qm, .inr (5, [.ref ho, .ref ro, .ref go, .int sn, .int sf])), (ho, .inl (cy 3, 10, .inr (.inr (.inr (.inr (pf 10 ah)))))), (ro, .inl (cy 3, R, .inr (.inr (.inr (.inr (pf R ar)))))), (go, .inl (cy 3, G, .inr (.inr (.inr (.inr (pf G ag))))))] ++ (rws cy 10 5 ah sh ++ (rws cy R 2 ar sr ++ (rws cy G 6 ag sg ++ Y)))) H → va_D A ([(qm, .inr (5, [.ref ho, .ref ro, .ref go, .int sn, .int sf])), (ho, .inl (cy 3, 10, .inr (.inr (.inr (.inr (pf 10 ah)))))), (ro, .inl (cy 3, R, .inr (.inr (.inr (.inr (pf R ar)))))), (go, .inl (cy 3, G, .inr (.inr (.inr (.inr (pf G ag))))))] ++ (rws cy 10 5 ah sh ++ (rws cy R 2 ar sr ++ (rws cy G 6 ag sg ++ Y)))) → va_S A s.heap H locs → lv_has ls 7 [(5, .int (nI k14)), (4, .int (nI G)), (3, .ref go), (2, .int v2_14), (0, .ref qm), (1, .int (nI w))] → W p l e (RM 0 0 0 0) s m args below meth c H locs 0 0 Q (F0 m 14 ls []) := by
      intro n14
      induction n14 with
      | zero =>
        intro k14 v2_14 H locs ls hkn14 hE14 hP hD hS hl
        have hk14 : G = k14 := by omega
        subst hk14
        have hE14 : v2_14 = fin14 := hE14
        subst hE14
        refine lv_iload hx hb dX5_sum_14 (lv_at hl 0 rfl) ?_
        refine lv_iload hx hb dX5_sum_16 (lv_at hl 1 rfl) ?_
        refine lv_icmp_ge (tgt := 40) hx hb dX5_sum_18 (by decide) (fun c18 => ?_) (fun c18 => ?_)
        rotate_left
        · exact absurd (nI_le (a := G) (b := G) (Nat.le_refl _) (by omega)) c18
        exact kk14 _ _ _ hP hD hS (lv_sub hl [0, 1, 2, 3, 4, 5] rfl)
      | succ n14 ih14 =>
        intro k14 v2_14 H locs ls hkn14 hE14 hP hD hS hl
        have hlt14 : k14 < G := by omega
        refine lv_iload hx hb dX5_sum_14 (lv_at hl 0 rfl) ?_
        refine lv_iload hx hb dX5_sum_16 (lv_at hl 1 rfl) ?_
        refine lv_icmp_ge (tgt := 40) hx hb dX5_sum_18 (by decide) (fun c18 => ?_) (fun c18 => ?_)
        · exact absurd c18 (nI_ge (a := k14) (b := G) hlt14 (by omega))
        refine lv_aload_n hx hb dX5_sum_21 rfl (lv_at hl 2 rfl) ?_
        refine lv_iload hx hb dX5_sum_22 (lv_at hl 0 rfl) ?_
        refine ald_p (n := G) (k := k14) hx hb hK hP 3 rfl (by omega) (by omega) dX5_sum_24 ?_
        refine lv_astore (lv' := [(6, .ref (ag k14)), (5, .int (nI k14)), (4, .int (nI G)), (3, .ref go), (2, .int v2_14), (0, .ref qm), (1, .int (nI w))]) hx hb dX5_sum_25 hl (by decide) rfl (fun ls hl => ?_)
        refine lv_iload_n hx hb dX5_sum_27 rfl (lv_at hl 4 rfl) ?_
        refine lv_aload hx hb dX5_sum_28 (lv_at hl 0 rfl) ?_
        refine lv_iload_n hx hb dX5_sum_30 rfl (lv_at hl 6 rfl) ?_
        refine ial_w (k := w) hx hb hK hP (RSl.app _ (RSl.app _ (RSl.app _ (RSl.left _ (RSl.row (by omega)))))) (by omega) (by decide) dX5_sum_31 ?_
        refine lv_iv (y := (sg k14 w)) rfl ?_
        refine lv_iadd hx hb dX5_sum_32 ?_
        refine lv_istore_n (lv' := [(2, .int (v2_14 + (sg k14 w))), (6, .ref (ag k14)), (5, .int (nI k14)), (4, .int (nI G)), (3, .ref go), (0, .ref qm), (1, .int (nI w))]) hx hb dX5_sum_33 rfl hl (by decide) rfl (fun ls hl => ?_)
        refine lv_iinc (v := (nI (k14 + 1))) (lv' := [(5, .int (nI (k14 + 1))), (2, .int (v2_14 + (sg k14 w))), (6, .ref (ag k14)), (4, .int (nI G)), (3, .ref go), (0, .ref qm), (1, .int (nI w))]) hx hb dX5_sum_34 hl (k := 2) rfl (nI_1 k14) (by decide) rfl (fun ls hl => ?_)
        refine lv_goto (tgt := 14) hx hb dX5_sum_37 (by decide) ?_
        exact ih14 (k14 + 1) (v2_14 + (sg k14 w)) _ _ _ (by omega) (it_step (f := (fun (k : Nat) (v : Int32) => S_X5_sum_14 sg w k v)) (v := v2_14) (show S_X5_sum_14 sg w k14 v2_14 = (v2_14 + (sg k14 w)) from by rw [S_X5_sum_14]) hE14) hP hD hS (lv_sub hl [0, 3, 4, 1, 5, 6] rfl)
    exact lp14 G 0 0 _ _ _ (by omega) hfin14 hP hD hS (lv_sub hl [0, 1, 2, 3, 4, 5] rfl)
  intro H locs ls hP hD hS hl
  subst hfin14
  refine lv_iload_n hx hb dX5_sum_40 rfl (lv_at hl 3 rfl) ?_
  subst hQ
  exact en_i (tv := (I_X5_sum_14 sg G w)) hx hb hr hlocks (by rw [F_X5_sum]) rfl hK (by first | with_reducible exact hP | exact hP) (by first | with_reducible exact hD | exact hD) hS (Nat.le_refl _) (Nat.le_refl _) dX5_sum_41
