theorem MI_put {R G : Nat} {ew ep : Nat → Int32} (h : MI R G ew ep) {g w : Nat} {v : Int32} (h1 : 1 ≤ w) (h6 : w < 6) : MI R G ew (F_X5_put ep g w v) := by
  refine ⟨h.1, h.2.1, h.2.2.1, fun j hj => ?_⟩
  have e : F_X5_put ep g w v (6 * j) = ep (6 * j) := by
    show (if 6 * j = 6 * g + w then v else ep (6 * j)) = ep (6 * j)
    rw [if_neg (by omega)]
  rw [e]
  exact h.2.2.2 j hj
def tri (n : Nat) : Nat := if n % 8 ≤ 4 then n % 8 else 8 - n % 8
theorem mmoon {n : Nat} (hn : n < 2 ^ 31) : F_X5_moon (nI n) = nI (tri n) := by
  unfold F_X5_moon tri rmd
  rw [show (8 : Int32) = nI 8 from rfl, pk_rem hn (by omega) (by omega)]
  have h8 : n % 8 < 8 := Nat.mod_lt _ (by omega)
  generalize n % 8 = r at h8 ⊢
  rcases (show r = 0 ∨ r = 1 ∨ r = 2 ∨ r = 3 ∨ r = 4 ∨ r = 5 ∨ r = 6 ∨ r = 7 by omega) with rfl | rfl | rfl | rfl | rfl | rfl | rfl | rfl <;> decide
theorem tri_le (n : Nat) : tri n ≤ 4 := by unfold tri; split <;> omega
theorem mmoon_ne {x : Int32} {nt : Nat} (h : x = nI nt ∧ nt < 200000) : ¬ F_X5_moon x + 1 = 0 := by
  rw [h.1, mmoon (by omega)]
  have := tri_le nt
  generalize tri nt = r at this ⊢
  rcases (show r = 0 ∨ r = 1 ∨ r = 2 ∨ r = 3 ∨ r = 4 by omega) with rfl | rfl | rfl | rfl | rfl <;> decide

theorem MI_catchL {R G : Nat} {ew eh ep : Nat → Int32} {g : Nat} (h : MI R G ew ep) : ∀ n k, MI R G ew (L_X5_catchSome_12 eh ep g n k).2 := by
  intro n
  induction n with
  | zero => intro k; exact h
  | succ n ih =>
    intro k
    unfold L_X5_catchSome_12
    split
    · exact h
    split
    · exact ih _
    · exact MI_put h (by omega) (by omega)
theorem MI_catch {R G : Nat} {ew eh ep : Nat → Int32} {g : Nat} (h : MI R G ew ep) : MI R G ew (F_X5_catchSome eh ew ep g).2 := MI_catchL h 5 _

def S_X5_nightOn_6 (ew : Nat → Int32) (el : Nat → Int32) (ep : Nat → Int32) (G : Nat) (k6 : Nat) (eh_6 : Nat → Int32) : Nat → Int32 :=
  if (F_X5_roomTold ew el ep G k6 3) ≤ 9 then
    eh_6
  else
    (F_X5_fall eh_6 (ew k6))
def I_X5_nightOn_6 (eh : Nat → Int32) (ew : Nat → Int32) (el : Nat → Int32) (ep : Nat → Int32) (eb : Nat → Int32) (R : Nat) (G : Nat) : Nat → Int32 :=
  it (fun (k : Nat) (v : Nat → Int32) => S_X5_nightOn_6 ew el ep G k v) R 0 (F_X5_drive eh ew el eb R).1
def C_X5_nightOn_118 (eh : Nat → Int32) (ew : Nat → Int32) (el : Nat → Int32) (ep : Nat → Int32) (en : Nat → Int32) (eb : Nat → Int32) (R : Nat) (G : Nat) (k53 : Nat) (ep_53 : Nat → Int32) : Nat → Int32 :=
  F_X5_put ep_53 k53 4 ((F_X5_pe ep_53 k53 4) + ((F_X5_near (I_X5_nightOn_6 eh ew el ep eb R G) (ew ((F_X5_pe ep_53 k53 0).toNatClampNeg))) / ((F_X5_moon (en 0)) + 1)))
def S_X5_nightOn_53 (eh : Nat → Int32) (ew : Nat → Int32) (el : Nat → Int32) (ep : Nat → Int32) (en : Nat → Int32) (eb : Nat → Int32) (R : Nat) (G : Nat) (k53 : Nat) (ep_53 : Nat → Int32) : Nat → Int32 :=
  if (F_X5_pe ep_53 k53 5) = 0 then
    if (el ((F_X5_pe ep_53 k53 0).toNatClampNeg)) = 0 then
      if 4 ≤ (F_X5_moon (en 0)) then
        ep_53
      else
        (C_X5_nightOn_118 eh ew el ep en eb R G k53 ep_53)
    else
      ep_53
  else
    ep_53
def I_X5_nightOn_53 (eh : Nat → Int32) (ew : Nat → Int32) (el : Nat → Int32) (ep : Nat → Int32) (en : Nat → Int32) (eb : Nat → Int32) (R : Nat) (G : Nat) : Nat → Int32 :=
  it (fun (k : Nat) (v : Nat → Int32) => S_X5_nightOn_53 eh ew el ep en eb R G k v) G 0 ep
def S_X5_nightOn_129 (ew : Nat → Int32) (k129 : Nat) (eh_129 : Nat → Int32) (ep_129 : Nat → Int32) : (Nat → Int32) × (Nat → Int32) :=
  if (F_X5_pe ep_129 k129 2) = 1 then
    ((F_X5_catchSome eh_129 ew ep_129 k129).1, (F_X5_catchSome eh_129 ew ep_129 k129).2)
  else
    (eh_129, ep_129)
def I_X5_nightOn_129 (eh : Nat → Int32) (ew : Nat → Int32) (el : Nat → Int32) (ep : Nat → Int32) (en : Nat → Int32) (eb : Nat → Int32) (R : Nat) (G : Nat) : (Nat → Int32) × (Nat → Int32) :=
  it (fun (k : Nat) (v : (Nat → Int32) × (Nat → Int32)) => S_X5_nightOn_129 ew k v.1 v.2) G 0 ((I_X5_nightOn_6 eh ew el ep eb R G), (I_X5_nightOn_53 eh ew el ep en eb R G))
def S_X5_nightOn_160 (R : Nat) (k160 : Nat) (ep_160 : Nat → Int32) (en_160 : Nat → Int32) : (Nat → Int32) × (Nat → Int32) :=
  if (nI R) ≤ 0 then
    (ep_160, en_160)
  else
    if (F_X5_isThere ep_160 k160 (rmd (en_160 0) (nI R))) = 0 then
      (ep_160, en_160)
    else
      ((F_X5_put ep_160 k160 2 0), (upd en_160 1 ((en_160 1) + (F_X5_pe ep_160 k160 2))))
def I_X5_nightOn_160 (eh : Nat → Int32) (ew : Nat → Int32) (el : Nat → Int32) (ep : Nat → Int32) (en : Nat → Int32) (eb : Nat → Int32) (R : Nat) (G : Nat) : (Nat → Int32) × (Nat → Int32) :=
  it (fun (k : Nat) (v : (Nat → Int32) × (Nat → Int32)) => S_X5_nightOn_160 R k v.1 v.2) G 0 ((I_X5_nightOn_129 eh ew el ep en eb R G).2, en)
def S_X5_nightOn_227 (ew : Nat → Int32) (el : Nat → Int32) (R : Nat) (k227 : Nat) (eh_227 : Nat → Int32) : Nat → Int32 :=
  if (eh_227 k227) < 10 then
    eh_227
  else
    if (F_X5_lit ew el R (rmd (nI k227) 10)) = 0 then
      (upd eh_227 k227 (mn 40 ((eh_227 k227) + ((eh_227 k227) / 10))))
    else
      eh_227
def I_X5_nightOn_227 (eh : Nat → Int32) (ew : Nat → Int32) (el : Nat → Int32) (ep : Nat → Int32) (en : Nat → Int32) (eb : Nat → Int32) (R : Nat) (G : Nat) : Nat → Int32 :=
  it (fun (k : Nat) (v : Nat → Int32) => S_X5_nightOn_227 ew el R k v) 50 0 (I_X5_nightOn_129 eh ew el ep en eb R G).1
def F_X5_nightOn (eh : Nat → Int32) (ew : Nat → Int32) (el : Nat → Int32) (ep : Nat → Int32) (en : Nat → Int32) (eb : Nat → Int32) (R : Nat) (G : Nat) : (Nat → Int32) × (Nat → Int32) × (Nat → Int32) × (Nat → Int32) :=
  ((I_X5_nightOn_227 eh ew el ep en eb R G), (I_X5_nightOn_160 eh ew el ep en eb R G).1, (upd ((I_X5_nightOn_160 eh ew el ep en eb R G).2) 0 ((((I_X5_nightOn_160 eh ew el ep en eb R G).2) 0) + 1)), (F_X5_drive eh ew el eb R).2)
set_option maxHeartbeats 4000000 in
set_option maxRecDepth 100000 in
theorem k_X5_nightOn (l : Launch) (D : va_G) (cy : Nat → ClassId) (sz : Nat) (mx mh mw ml mp mq mb : Nat) (th : Int32) (eh : Nat → Int32) (ew : Nat → Int32) (el : Nat → Int32) (ep : Nat → Int32) (en : Nat → Int32) (eb : Nat → Int32) (R : Nat) (G : Nat) (nt : Nat) (hR : R ≤ 6) (hG : G ≤ 12) (hMI : MI R G ew ep) (hnt : en 0 = nI nt ∧ nt < 200000) : MTa l D cy yX5_nightOn wsX5_nightOn 4 0 0 91 [(mx, .inr (5, [.int th, .ref mh, .int (nI R), .ref mw, .ref ml, .int (nI G), .ref mp, .ref mq, .ref mb])), (mh, .inl (cy 0, 50, .inl eh)), (mw, .inl (cy 0, 6, .inl ew)), (ml, .inl (cy 0, 6, .inl el)), (mp, .inl (cy 0, 72, .inl ep)), (mq, .inl (cy 0, 2, .inl en)), (mb, .inl (cy 0, 50, .inl eb))] sz [.ref mx] (fun A => QvT D cy (fun (t : (Nat → Int32) × (Nat → Int32) × (Nat → Int32) × (Nat → Int32)) => [(mx, .inr (5, [.int th, .ref mh, .int (nI R), .ref mw, .ref ml, .int (nI G), .ref mp, .ref mq, .ref mb])), (mh, .inl (cy 0, 50, .inl t.1)), (mw, .inl (cy 0, 6, .inl ew)), (ml, .inl (cy 0, 6, .inl el)), (mp, .inl (cy 0, 72, .inl t.2.1)), (mq, .inl (cy 0, 2, .inl t.2.2.1)), (mb, .inl (cy 0, 50, .inl t.2.2.2))]) (F_X5_nightOn eh ew el ep en eb R G) A) := by
  refine ofWT (cc := cX5_nightOn) (maxL := 3) (ret := none) (own := RX5) (by decide) rfl (Nat.le_of_ble_eq_true rfl) rfl ?_
  intro p e s m args below meth c A ls hx hb hr hml hts hown hlocks hin hN hK hP hD hA hl
  have hS : va_S A s.heap s.heap [] := va_S.rf
  have hl : lv_has ls 3 [(0, .ref mx)] := hl
  have hin5 : ∀ w ∈ u_ws RX5 TX5 9, w ∈ wsX5_nightOn := (fun w h => List.mem_cons_of_mem _ (List.mem_append_right _ h))
  generalize hQ : MQ below ((fun A => QvT D cy (fun (t : (Nat → Int32) × (Nat → Int32) × (Nat → Int32) × (Nat → Int32)) => [(mx, .inr (5, [.int th, .ref mh, .int (nI R), .ref mw, .ref ml, .int (nI G), .ref mp, .ref mq, .ref mb])), (mh, .inl (cy 0, 50, .inl t.1)), (mw, .inl (cy 0, 6, .inl ew)), (ml, .inl (cy 0, 6, .inl el)), (mp, .inl (cy 0, 72, .inl t.2.1)), (mq, .inl (cy 0, 2, .inl t.2.2.1)), (mb, .inl (cy 0, 50, .inl t.2.2.2))]) (F_X5_nightOn eh ew el ep en eb R G) A) A) args s 0 0 A = Q
  refine lv_aload_n hx hb dX5_nightOn_0 rfl (lv_at hl 0 rfl) ?_
  refine cl_v (wr := []) (w2 := [(mx, .inr (5, [.int th, .ref mh, .int (nI R), .ref mw, .ref ml, .int (nI G), .ref mp, .ref mq, .ref mb])), (mh, .inl (cy 0, 50, .inl ((F_X5_drive eh ew el eb R).1))), (mw, .inl (cy 0, 6, .inl ew)), (ml, .inl (cy 0, 6, .inl el)), (mp, .inl (cy 0, 72, .inl ep)), (mq, .inl (cy 0, 2, .inl en)), (mb, .inl (cy 0, 50, .inl ((F_X5_drive eh ew el eb R).2)))]) (rn_V (As := []) (rest := []) (ci := 5) (q0 := 0) ⟨hx, hb, hml, hown, hts⟩ (k_X5_drive l D cy _ mx mh mw ml mp mq mb th eh ew el ep en eb R G hR hG) (cwV 0 hts gX5_nightOn_X5_drive rfl rfl rfl (by decide +kernel) ⟨Nat.le_of_ble_eq_true rfl, Nat.le_of_ble_eq_true rfl⟩) hN hK hP hD [0, 1, 2, 3, 4, 5, 6] rfl (by decide) rfl rfl rfl rfl hl.1 rfl (Nat.le_of_ble_eq_true rfl) dX5_nightOn_1 ⟨Nat.le_of_ble_eq_true rfl, Nat.le_of_ble_eq_true rfl⟩) hP hD hS hA [0, 1, 2, 3, 4, 5, 6] [] [0, 1, 2, 3, 4, 5, 6] rfl rfl (by decide) (by decide) rfl (by decide) (fun H locs hP hD hS => ?_)
  refine lv_iconst (v := 0) hx hb dX5_nightOn_4 (by decide) ?_
  refine lv_istore_n (lv' := [(1, .int 0), (0, .ref mx)]) hx hb dX5_nightOn_5 rfl hl (by decide) rfl (fun ls hl => ?_)
  obtain ⟨fin6, hfin6⟩ : ∃ z, (I_X5_nightOn_6 eh ew el ep eb R G) = z := ⟨_, rfl⟩
  suffices kk6 : ∀ (H : Heap) (locs : List Loc) (ls : Array Slot), va_P D vwCl [(mx, .inr (5, [.int th, .ref mh, .int (nI R), .ref mw, .ref ml, .int (nI G), .ref mp, .ref mq, .ref mb])), (mh, .inl (cy 0, 50, .inl fin6)), (mw, .inl (cy 0, 6, .inl ew)), (ml, .inl (cy 0, 6, .inl el)), (mp, .inl (cy 0, 72, .inl ep)), (mq, .inl (cy 0, 2, .inl en)), (mb, .inl (cy 0, 50, .inl ((F_X5_drive eh ew el eb R).2)))] H → va_D A [(mx, .inr (5, [.int th, .ref mh, .int (nI R), .ref mw, .ref ml, .int (nI G), .ref mp, .ref mq, .ref mb])), (mh, .inl (cy 0, 50, .inl fin6)), (mw, .inl (cy 0, 6, .inl ew)), (ml, .inl (cy 0, 6, .inl el)), (mp, .inl (cy 0, 72, .inl ep)), (mq, .inl (cy 0, 2, .inl en)), (mb, .inl (cy 0, 50, .inl ((F_X5_drive eh ew el eb R).2)))] → va_S A s.heap H locs → lv_has ls 3 [(1, .int (nI R)), (0, .ref mx)] → W p l e (RM 4 0 0 91) s m args below meth c H locs 0 0 Q (F0 m 41 ls []) by
    have lp6 : ∀ (n6 k6 : Nat) (eh_6 : Nat → Int32) (H : Heap) (locs : List Loc) (ls : Array Slot), k6 + n6 = R → it (fun (k : Nat) (v : Nat → Int32) => S_X5_nightOn_6 ew el ep G k v) n6 k6 eh_6 = fin6 → va_P D vwCl [(mx, .inr (5, [.int th, .ref mh, .int (nI R), .ref mw, .ref ml, .int (nI G), .ref mp, .ref mq, .ref mb])), (mh, .inl (cy 0, 50, .inl eh_6)), (mw, .inl (cy 0, 6, .inl ew)), (ml, .inl (cy 0, 6, .inl el)), (mp, .inl (cy 0, 72, .inl ep)), (mq, .inl (cy 0, 2, .inl en)), (mb, .inl (cy 0, 50, .inl ((F_X5_drive eh ew el eb R).2)))] H → va_D A [(mx, .inr (5, [.int th, .ref mh, .int (nI R), .ref mw, .ref ml, .int (nI G), .ref mp, .ref mq, .ref mb])), (mh, .inl (cy 0, 50, .inl eh_6)), (mw, .inl (cy 0, 6, .inl ew)), (ml, .inl (cy 0, 6, .inl el)), (mp, .inl (cy 0, 72, .inl ep)), (mq, .inl (cy 0, 2, .inl en)), (mb, .inl (cy 0, 50, .inl ((F_X5_drive eh ew el eb R).2)))] → va_S A s.heap H locs → lv_has ls 3 [(1, .int (nI k6)), (0, .ref mx)] → W p l e (RM 4 0 0 91) s m args below meth c H locs 0 0 Q (F0 m 6 ls []) := by
      intro n6
      induction n6 with
      | zero =>
        intro k6 eh_6 H locs ls hkn6 hE6 hP hD hS hl
        have hk6 : R = k6 := by omega
        subst hk6
        have hE6 : eh_6 = fin6 := hE6
        subst hE6
        refine lv_iload_n hx hb dX5_nightOn_6 rfl (lv_at hl 0 rfl) ?_
        refine lv_aload_n hx hb dX5_nightOn_7 rfl (lv_at hl 1 rfl) ?_
        refine va_get (D := D) (ci := 5) (v := .int (nI R)) (C := RX5) (T := TX5) (N := 9) hx hb hts hin5 hown hK hP 0 rfl rfl 2 (by decide) (hts (.fieldLink RX5 36 "FireflyInnModel" "rooms" "I") (List.mem_of_getElem? (i := 1) rfl)) (fun _ h9 => h9) rfl dX5_nightOn_8 ?_
        refine lv_icmp_ge (tgt := 41) hx hb dX5_nightOn_11 (by decide) (fun c11 => ?_) (fun c11 => ?_)
        rotate_left
        · exact absurd (nI_le (a := R) (b := R) (Nat.le_refl _) (by omega)) c11
        exact kk6 _ _ _ hP hD hS (lv_sub hl [0, 1] rfl)
      | succ n6 ih6 =>
        intro k6 eh_6 H locs ls hkn6 hE6 hP hD hS hl
        have hlt6 : k6 < R := by omega
        refine lv_iload_n hx hb dX5_nightOn_6 rfl (lv_at hl 0 rfl) ?_
        refine lv_aload_n hx hb dX5_nightOn_7 rfl (lv_at hl 1 rfl) ?_
        refine va_get (D := D) (ci := 5) (v := .int (nI R)) (C := RX5) (T := TX5) (N := 9) hx hb hts hin5 hown hK hP 0 rfl rfl 2 (by decide) (hts (.fieldLink RX5 36 "FireflyInnModel" "rooms" "I") (List.mem_of_getElem? (i := 1) rfl)) (fun _ h9 => h9) rfl dX5_nightOn_8 ?_
        refine lv_icmp_ge (tgt := 41) hx hb dX5_nightOn_11 (by decide) (fun c11 => ?_) (fun c11 => ?_)
        · exact absurd c11 (nI_ge (a := k6) (b := R) hlt6 (by omega))
        refine lv_aload_n hx hb dX5_nightOn_14 rfl (lv_at hl 1 rfl) ?_
        refine lv_iload_n hx hb dX5_nightOn_15 rfl (lv_at hl 0 rfl) ?_
        refine lv_iconst (v := 3) hx hb dX5_nightOn_16 (by decide) ?_
        refine cl_i (wr := []) (w2 := [(mx, .inr (5, [.int th, .ref mh, .int (nI R), .ref mw, .ref ml, .int (nI G), .ref mp, .ref mq, .ref mb])), (mh, .inl (cy 0, 50, .inl eh_6)), (mw, .inl (cy 0, 6, .inl ew)), (ml, .inl (cy 0, 6, .inl el)), (mp, .inl (cy 0, 72, .inl ep)), (mq, .inl (cy 0, 2, .inl en)), (mb, .inl (cy 0, 50, .inl ((F_X5_drive eh ew el eb R).2)))]) (rn_V (As := [.int (nI k6), .int 3]) (rest := []) (ci := 5) (q0 := 0) ⟨hx, hb, hml, hown, hts⟩ (k_X5_roomTold l D cy _ mx mh mw ml mp mq mb th eh_6 ew el ep en ((F_X5_drive eh ew el eb R).2) R G k6 3 hR hG (by omega)) (cwV 2 hts gX5_nightOn_X5_roomTold rfl rfl rfl (by decide +kernel) ⟨Nat.le_of_ble_eq_true rfl, Nat.le_of_ble_eq_true rfl⟩) hN hK hP hD [0, 1, 2, 3, 4, 5, 6] rfl (by decide) rfl rfl rfl rfl hl.1 rfl (Nat.le_of_ble_eq_true rfl) dX5_nightOn_17 ⟨Nat.le_of_ble_eq_true rfl, Nat.le_of_ble_eq_true rfl⟩) hP hD hS hA [0, 1, 2, 3, 4, 5, 6] [] [0, 1, 2, 3, 4, 5, 6] rfl rfl (by decide) (by decide) rfl (by decide) (fun H locs hP hD hS => ?_)
        refine lv_bipush (v := 9) hx hb dX5_nightOn_20 (by decide) ?_
        refine lv_icmp_le (tgt := 35) hx hb dX5_nightOn_22 (by decide) (fun c22 => ?_) (fun c22 => ?_)
        · refine lv_iinc (v := (nI (k6 + 1))) (lv' := [(1, .int (nI (k6 + 1))), (0, .ref mx)]) hx hb dX5_nightOn_35 hl (k := 0) rfl (nI_1 k6) (by decide) rfl (fun ls hl => ?_)
          refine lv_goto (tgt := 6) hx hb dX5_nightOn_38 (by decide) ?_
          exact ih6 (k6 + 1) eh_6 _ _ _ (by omega) (it_step (f := (fun (k : Nat) (v : Nat → Int32) => S_X5_nightOn_6 ew el ep G k v)) (v := eh_6) (show S_X5_nightOn_6 ew el ep G k6 eh_6 = eh_6 from by rw [S_X5_nightOn_6, if_pos c22]) hE6) hP hD hS (lv_sub hl [0, 1] rfl)
        · refine lv_aload_n hx hb dX5_nightOn_25 rfl (lv_at hl 1 rfl) ?_
          refine lv_aload_n hx hb dX5_nightOn_26 rfl (lv_at hl 1 rfl) ?_
          refine va_get (D := D) (ci := 5) (v := .ref mw) (C := RX5) (T := TX5) (N := 9) hx hb hts hin5 hown hK hP 0 rfl rfl 3 (by decide) (hts (.fieldLink RX5 13 "FireflyInnModel" "windows" "[I") (List.mem_of_getElem? (i := 2) rfl)) (fun _ h9 => h9) rfl dX5_nightOn_27 ?_
          refine lv_iload_n hx hb dX5_nightOn_30 rfl (lv_at hl 0 rfl) ?_
          refine ial_n (k := k6) hx hb hK hP 2 rfl (by omega) (by decide) dX5_nightOn_31 ?_
          refine cl_v (wr := []) (w2 := [(mx, .inr (5, [.int th, .ref mh, .int (nI R), .ref mw, .ref ml, .int (nI G), .ref mp, .ref mq, .ref mb])), (mh, .inl (cy 0, 50, .inl (F_X5_fall eh_6 (ew k6)))), (mw, .inl (cy 0, 6, .inl ew)), (ml, .inl (cy 0, 6, .inl el)), (mp, .inl (cy 0, 72, .inl ep)), (mq, .inl (cy 0, 2, .inl en)), (mb, .inl (cy 0, 50, .inl ((F_X5_drive eh ew el eb R).2)))]) (rn_V (As := [.int (ew k6)]) (rest := []) (ci := 5) (q0 := 0) ⟨hx, hb, hml, hown, hts⟩ (k_X5_fall l D cy _ mx mh mw ml mp mq mb th eh_6 ew el ep en ((F_X5_drive eh ew el eb R).2) R G (ew k6) hR hG (hMI.2.2.1 _ hlt6)) (cwV 1 hts gX5_nightOn_X5_fall rfl rfl rfl (by decide +kernel) ⟨Nat.le_of_ble_eq_true rfl, Nat.le_of_ble_eq_true rfl⟩) hN hK hP hD [0, 1, 2, 3, 4, 5, 6] rfl (by decide) rfl rfl rfl rfl hl.1 rfl (Nat.le_of_ble_eq_true rfl) dX5_nightOn_32 ⟨Nat.le_of_ble_eq_true rfl, Nat.le_of_ble_eq_true rfl⟩) hP hD hS hA [0, 1, 2, 3, 4, 5, 6] [] [0, 1, 2, 3, 4, 5, 6] rfl rfl (by decide) (by decide) rfl (by decide) (fun H locs hP hD hS => ?_)
          refine lv_iinc (v := (nI (k6 + 1))) (lv' := [(1, .int (nI (k6 + 1))), (0, .ref mx)]) hx hb dX5_nightOn_35 hl (k := 0) rfl (nI_1 k6) (by decide) rfl (fun ls hl => ?_)
          refine lv_goto (tgt := 6) hx hb dX5_nightOn_38 (by decide) ?_
          exact ih6 (k6 + 1) (F_X5_fall eh_6 (ew k6)) _ _ _ (by omega) (it_step (f := (fun (k : Nat) (v : Nat → Int32) => S_X5_nightOn_6 ew el ep G k v)) (v := eh_6) (show S_X5_nightOn_6 ew el ep G k6 eh_6 = (F_X5_fall eh_6 (ew k6)) from by rw [S_X5_nightOn_6, if_neg c22]) hE6) hP hD hS (lv_sub hl [0, 1] rfl)
    exact lp6 R 0 ((F_X5_drive eh ew el eb R).1) _ _ _ (by omega) hfin6 hP hD hS (lv_sub hl [0, 1] rfl)
  intro H locs ls hP hD hS hl
  subst hfin6
  refine lv_aload_n hx hb dX5_nightOn_41 rfl (lv_at hl 1 rfl) ?_
  refine va_get (D := D) (ci := 5) (v := .ref mq) (C := RX5) (T := TX5) (N := 9) hx hb hts hin5 hown hK hP 0 rfl rfl 7 (by decide) (hts (.fieldLink RX5 22 "FireflyInnModel" "numbers" "[I") (List.mem_of_getElem? (i := 3) rfl)) (fun _ h9 => h9) rfl dX5_nightOn_42 ?_
  refine lv_iconst (v := 0) hx hb dX5_nightOn_45 (by decide) ?_
  refine ial_n (k := 0) hx hb hK hP 5 rfl (by omega) (by decide) dX5_nightOn_46 ?_
  refine cl_i (wr := [(mx, .inr (5, [.int th, .ref mh, .int (nI R), .ref mw, .ref ml, .int (nI G), .ref mp, .ref mq, .ref mb])), (mh, .inl (cy 0, 50, .inl (I_X5_nightOn_6 eh ew el ep eb R G))), (mw, .inl (cy 0, 6, .inl ew)), (ml, .inl (cy 0, 6, .inl el)), (mp, .inl (cy 0, 72, .inl ep)), (mq, .inl (cy 0, 2, .inl en)), (mb, .inl (cy 0, 50, .inl ((F_X5_drive eh ew el eb R).2)))]) (w2 := [(mx, .inr (5, [.int th, .ref mh, .int (nI R), .ref mw, .ref ml, .int (nI G), .ref mp, .ref mq, .ref mb])), (mh, .inl (cy 0, 50, .inl (I_X5_nightOn_6 eh ew el ep eb R G))), (mw, .inl (cy 0, 6, .inl ew)), (ml, .inl (cy 0, 6, .inl el)), (mp, .inl (cy 0, 72, .inl ep)), (mq, .inl (cy 0, 2, .inl en)), (mb, .inl (cy 0, 50, .inl ((F_X5_drive eh ew el eb R).2)))]) (rn_S (As := [.int (en 0)]) (rest := []) ⟨hx, hb, hml, hown, hts⟩ (k_X5_moon l D cy _ (en 0)) (va_cwS 1 hts gX5_nightOn_X5_moon rfl rfl rfl (by decide +kernel) ⟨Nat.le_of_ble_eq_true rfl, Nat.le_of_ble_eq_true rfl⟩) hN hK hP hD [] rfl (by decide) rfl hl.1 rfl (Nat.le_of_ble_eq_true rfl) dX5_nightOn_47 ⟨Nat.le_of_ble_eq_true rfl, Nat.le_of_ble_eq_true rfl⟩) hP hD hS hA [] [0, 1, 2, 3, 4, 5, 6] [0, 1, 2, 3, 4, 5, 6] rfl rfl (by decide) (by decide) rfl (by decide) (fun H locs hP hD hS => ?_)
  refine lv_istore_n (lv' := [(1, .int (F_X5_moon (en 0))), (0, .ref mx)]) hx hb dX5_nightOn_50 rfl hl (by decide) rfl (fun ls hl => ?_)
  refine lv_iconst (v := 0) hx hb dX5_nightOn_51 (by decide) ?_
  refine lv_istore_n (lv' := [(2, .int 0), (1, .int (F_X5_moon (en 0))), (0, .ref mx)]) hx hb dX5_nightOn_52 rfl hl (by decide) rfl (fun ls hl => ?_)
  obtain ⟨fin53, hfin53⟩ : ∃ z, (I_X5_nightOn_53 eh ew el ep en eb R G) = z := ⟨_, rfl⟩
  suffices kk53 : ∀ (H : Heap) (locs : List Loc) (ls : Array Slot), va_P D vwCl [(mx, .inr (5, [.int th, .ref mh, .int (nI R), .ref mw, .ref ml, .int (nI G), .ref mp, .ref mq, .ref mb])), (mh, .inl (cy 0, 50, .inl (I_X5_nightOn_6 eh ew el ep eb R G))), (mw, .inl (cy 0, 6, .inl ew)), (ml, .inl (cy 0, 6, .inl el)), (mp, .inl (cy 0, 72, .inl fin53)), (mq, .inl (cy 0, 2, .inl en)), (mb, .inl (cy 0, 50, .inl ((F_X5_drive eh ew el eb R).2)))] H → va_D A [(mx, .inr (5, [.int th, .ref mh, .int (nI R), .ref mw, .ref ml, .int (nI G), .ref mp, .ref mq, .ref mb])), (mh, .inl (cy 0, 50, .inl (I_X5_nightOn_6 eh ew el ep eb R G))), (mw, .inl (cy 0, 6, .inl ew)), (ml, .inl (cy 0, 6, .inl el)), (mp, .inl (cy 0, 72, .inl fin53)), (mq, .inl (cy 0, 2, .inl en)), (mb, .inl (cy 0, 50, .inl ((F_X5_drive eh ew el eb R).2)))] → va_S A s.heap H locs → lv_has ls 3 [(2, .int (nI G)), (1, .int (F_X5_moon (en 0))), (0, .ref mx)] → MI R G ew fin53 → W p l e (RM 4 0 0 91) s m args below meth c H locs 0 0 Q (F0 m 127 ls []) by
    have lp53 : ∀ (n53 k53 : Nat) (ep_53 : Nat → Int32) (H : Heap) (locs : List Loc) (ls : Array Slot), k53 + n53 = G → it (fun (k : Nat) (v : Nat → Int32) => S_X5_nightOn_53 eh ew el ep en eb R G k v) n53 k53 ep_53 = fin53 → va_P D vwCl [(mx, .inr (5, [.int th, .ref mh, .int (nI R), .ref mw, .ref ml, .int (nI G), .ref mp, .ref mq, .ref mb])), (mh, .inl (cy 0, 50, .inl (I_X5_nightOn_6 eh ew el ep eb R G))), (mw, .inl (cy 0, 6, .inl ew)), (ml, .inl (cy 0, 6, .inl el)), (mp, .inl (cy 0, 72, .inl ep_53)), (mq, .inl (cy 0, 2, .inl en)), (mb, .inl (cy 0, 50, .inl ((F_X5_drive eh ew el eb R).2)))] H → va_D A [(mx, .inr (5, [.int th, .ref mh, .int (nI R), .ref mw, .ref ml, .int (nI G), .ref mp, .ref mq, .ref mb])), (mh, .inl (cy 0, 50, .inl (I_X5_nightOn_6 eh ew el ep eb R G))), (mw, .inl (cy 0, 6, .inl ew)), (ml, .inl (cy 0, 6, .inl el)), (mp, .inl (cy 0, 72, .inl ep_53)), (mq, .inl (cy 0, 2, .inl en)), (mb, .inl (cy 0, 50, .inl ((F_X5_drive eh ew el eb R).2)))] → va_S A s.heap H locs → lv_has ls 3 [(2, .int (nI k53)), (1, .int (F_X5_moon (en 0))), (0, .ref mx)] → MI R G ew ep_53 → W p l e (RM 4 0 0 91) s m args below meth c H locs 0 0 Q (F0 m 53 ls []) := by
      intro n53
      induction n53 with
      | zero =>
        intro k53 ep_53 H locs ls hkn53 hE53 hP hD hS hl hI53
        have hk53 : G = k53 := by omega
        subst hk53
        have hE53 : ep_53 = fin53 := hE53
        subst hE53
        refine lv_iload_n hx hb dX5_nightOn_53 rfl (lv_at hl 0 rfl) ?_
        refine lv_aload_n hx hb dX5_nightOn_54 rfl (lv_at hl 2 rfl) ?_
        refine va_get (D := D) (ci := 5) (v := .int (nI G)) (C := RX5) (T := TX5) (N := 9) hx hb hts hin5 hown hK hP 0 rfl rfl 5 (by decide) (hts (.fieldLink RX5 39 "FireflyInnModel" "guests" "I") (List.mem_of_getElem? (i := 4) rfl)) (fun _ h9 => h9) rfl dX5_nightOn_55 ?_
        refine lv_icmp_ge (tgt := 127) hx hb dX5_nightOn_58 (by decide) (fun c58 => ?_) (fun c58 => ?_)
        rotate_left
        · exact absurd (nI_le (a := G) (b := G) (Nat.le_refl _) (by omega)) c58
        exact kk53 _ _ _ hP hD hS (lv_sub hl [0, 1, 2] rfl) hI53
      | succ n53 ih53 =>
        intro k53 ep_53 H locs ls hkn53 hE53 hP hD hS hl hI53
        have hlt53 : k53 < G := by omega
        refine lv_iload_n hx hb dX5_nightOn_53 rfl (lv_at hl 0 rfl) ?_
        refine lv_aload_n hx hb dX5_nightOn_54 rfl (lv_at hl 2 rfl) ?_
        refine va_get (D := D) (ci := 5) (v := .int (nI G)) (C := RX5) (T := TX5) (N := 9) hx hb hts hin5 hown hK hP 0 rfl rfl 5 (by decide) (hts (.fieldLink RX5 39 "FireflyInnModel" "guests" "I") (List.mem_of_getElem? (i := 4) rfl)) (fun _ h9 => h9) rfl dX5_nightOn_55 ?_
        refine lv_icmp_ge (tgt := 127) hx hb dX5_nightOn_58 (by decide) (fun c58 => ?_) (fun c58 => ?_)
        · exact absurd c58 (nI_ge (a := k53) (b := G) hlt53 (by omega))
        refine lv_aload_n hx hb dX5_nightOn_61 rfl (lv_at hl 2 rfl) ?_
        refine lv_iload_n hx hb dX5_nightOn_62 rfl (lv_at hl 0 rfl) ?_
        refine lv_iconst (v := 5) hx hb dX5_nightOn_63 (by decide) ?_
        refine cl_i (wr := []) (w2 := [(mx, .inr (5, [.int th, .ref mh, .int (nI R), .ref mw, .ref ml, .int (nI G), .ref mp, .ref mq, .ref mb])), (mh, .inl (cy 0, 50, .inl (I_X5_nightOn_6 eh ew el ep eb R G))), (mw, .inl (cy 0, 6, .inl ew)), (ml, .inl (cy 0, 6, .inl el)), (mp, .inl (cy 0, 72, .inl ep_53)), (mq, .inl (cy 0, 2, .inl en)), (mb, .inl (cy 0, 50, .inl ((F_X5_drive eh ew el eb R).2)))]) (rn_V (As := [.int (nI k53), .int 5]) (rest := []) (ci := 5) (q0 := 0) ⟨hx, hb, hml, hown, hts⟩ (k_X5_pe l D cy _ mx mh mw ml mp mq mb th (I_X5_nightOn_6 eh ew el ep eb R G) ew el ep_53 en ((F_X5_drive eh ew el eb R).2) R G k53 5 hR hG (by omega)) (cwV 2 hts gX5_nightOn_X5_pe rfl rfl rfl (by decide +kernel) ⟨Nat.le_of_ble_eq_true rfl, Nat.le_of_ble_eq_true rfl⟩) hN hK hP hD [0, 1, 2, 3, 4, 5, 6] rfl (by decide) rfl rfl rfl rfl hl.1 rfl (Nat.le_of_ble_eq_true rfl) dX5_nightOn_64 ⟨Nat.le_of_ble_eq_true rfl, Nat.le_of_ble_eq_true rfl⟩) hP hD hS hA [0, 1, 2, 3, 4, 5, 6] [] [0, 1, 2, 3, 4, 5, 6] rfl rfl (by decide) (by decide) rfl (by decide) (fun H locs hP hD hS => ?_)
        refine lv_if_ne (tgt := 121) hx hb dX5_nightOn_67 (by decide) (fun c67 => ?_) (fun c67 => ?_)
        · refine lv_iinc (v := (nI (k53 + 1))) (lv' := [(2, .int (nI (k53 + 1))), (1, .int (F_X5_moon (en 0))), (0, .ref mx)]) hx hb dX5_nightOn_121 hl (k := 0) rfl (nI_1 k53) (by decide) rfl (fun ls hl => ?_)
          refine lv_goto (tgt := 53) hx hb dX5_nightOn_124 (by decide) ?_
          exact ih53 (k53 + 1) ep_53 _ _ _ (by omega) (it_step (f := (fun (k : Nat) (v : Nat → Int32) => S_X5_nightOn_53 eh ew el ep en eb R G k v)) (v := ep_53) (show S_X5_nightOn_53 eh ew el ep en eb R G k53 ep_53 = ep_53 from by rw [S_X5_nightOn_53, if_neg c67]) hE53) hP hD hS (lv_sub hl [0, 1, 2] rfl) hI53
        · refine lv_aload_n hx hb dX5_nightOn_70 rfl (lv_at hl 2 rfl) ?_
          refine va_get (D := D) (ci := 5) (v := .ref ml) (C := RX5) (T := TX5) (N := 9) hx hb hts hin5 hown hK hP 0 rfl rfl 4 (by decide) (hts (.fieldLink RX5 16 "FireflyInnModel" "lamps" "[I") (List.mem_of_getElem? (i := 5) rfl)) (fun _ h9 => h9) rfl dX5_nightOn_71 ?_
          refine lv_aload_n hx hb dX5_nightOn_74 rfl (lv_at hl 2 rfl) ?_
          refine lv_iload_n hx hb dX5_nightOn_75 rfl (lv_at hl 0 rfl) ?_
          refine lv_iconst (v := 0) hx hb dX5_nightOn_76 (by decide) ?_
          refine cl_i (wr := []) (w2 := [(mx, .inr (5, [.int th, .ref mh, .int (nI R), .ref mw, .ref ml, .int (nI G), .ref mp, .ref mq, .ref mb])), (mh, .inl (cy 0, 50, .inl (I_X5_nightOn_6 eh ew el ep eb R G))), (mw, .inl (cy 0, 6, .inl ew)), (ml, .inl (cy 0, 6, .inl el)), (mp, .inl (cy 0, 72, .inl ep_53)), (mq, .inl (cy 0, 2, .inl en)), (mb, .inl (cy 0, 50, .inl ((F_X5_drive eh ew el eb R).2)))]) (rn_V (As := [.int (nI k53), .int 0]) (rest := [.ref ml]) (ci := 5) (q0 := 0) ⟨hx, hb, hml, hown, hts⟩ (k_X5_pe l D cy _ mx mh mw ml mp mq mb th (I_X5_nightOn_6 eh ew el ep eb R G) ew el ep_53 en ((F_X5_drive eh ew el eb R).2) R G k53 0 hR hG (by omega)) (cwV 2 hts gX5_nightOn_X5_pe rfl rfl rfl (by decide +kernel) ⟨Nat.le_of_ble_eq_true rfl, Nat.le_of_ble_eq_true rfl⟩) hN hK hP hD [0, 1, 2, 3, 4, 5, 6] rfl (by decide) rfl rfl rfl rfl hl.1 rfl (Nat.le_of_ble_eq_true rfl) dX5_nightOn_77 ⟨Nat.le_of_ble_eq_true rfl, Nat.le_of_ble_eq_true rfl⟩) hP hD hS hA [0, 1, 2, 3, 4, 5, 6] [] [0, 1, 2, 3, 4, 5, 6] rfl rfl (by decide) (by decide) rfl (by decide) (fun H locs hP hD hS => ?_)
          refine lv_iv (y := (nI ((F_X5_pe ep_53 k53 0).toNatClampNeg))) (hI53.2.2.2 k53 hlt53).2 ?_
          refine ial_n (k := (F_X5_pe ep_53 k53 0).toNatClampNeg) hx hb hK hP 3 rfl (by have h1 : (F_X5_pe ep_53 k53 0).toNatClampNeg < R := (hI53.2.2.2 k53 hlt53).1; omega) (by decide) dX5_nightOn_80 ?_
          refine lv_if_ne (tgt := 121) hx hb dX5_nightOn_81 (by decide) (fun c81 => ?_) (fun c81 => ?_)
          · refine lv_iinc (v := (nI (k53 + 1))) (lv' := [(2, .int (nI (k53 + 1))), (1, .int (F_X5_moon (en 0))), (0, .ref mx)]) hx hb dX5_nightOn_121 hl (k := 0) rfl (nI_1 k53) (by decide) rfl (fun ls hl => ?_)
            refine lv_goto (tgt := 53) hx hb dX5_nightOn_124 (by decide) ?_
            exact ih53 (k53 + 1) ep_53 _ _ _ (by omega) (it_step (f := (fun (k : Nat) (v : Nat → Int32) => S_X5_nightOn_53 eh ew el ep en eb R G k v)) (v := ep_53) (show S_X5_nightOn_53 eh ew el ep en eb R G k53 ep_53 = ep_53 from by rw [S_X5_nightOn_53, if_pos c67, if_neg c81]) hE53) hP hD hS (lv_sub hl [0, 1, 2] rfl) hI53
          · refine lv_iload_n hx hb dX5_nightOn_84 rfl (lv_at hl 1 rfl) ?_
            refine lv_iconst (v := 4) hx hb dX5_nightOn_85 (by decide) ?_
            refine lv_icmp_ge (tgt := 121) hx hb dX5_nightOn_86 (by decide) (fun c86 => ?_) (fun c86 => ?_)
            · refine lv_iinc (v := (nI (k53 + 1))) (lv' := [(2, .int (nI (k53 + 1))), (1, .int (F_X5_moon (en 0))), (0, .ref mx)]) hx hb dX5_nightOn_121 hl (k := 0) rfl (nI_1 k53) (by decide) rfl (fun ls hl => ?_)
              refine lv_goto (tgt := 53) hx hb dX5_nightOn_124 (by decide) ?_
              exact ih53 (k53 + 1) ep_53 _ _ _ (by omega) (it_step (f := (fun (k : Nat) (v : Nat → Int32) => S_X5_nightOn_53 eh ew el ep en eb R G k v)) (v := ep_53) (show S_X5_nightOn_53 eh ew el ep en eb R G k53 ep_53 = ep_53 from by rw [S_X5_nightOn_53, if_pos c67, if_pos c81, if_pos c86]) hE53) hP hD hS (lv_sub hl [0, 1, 2] rfl) hI53
            · refine lv_aload_n hx hb dX5_nightOn_89 rfl (lv_at hl 2 rfl) ?_
              refine lv_iload_n hx hb dX5_nightOn_90 rfl (lv_at hl 0 rfl) ?_
              refine lv_iconst (v := 4) hx hb dX5_nightOn_91 (by decide) ?_
              refine lv_aload_n hx hb dX5_nightOn_92 rfl (lv_at hl 2 rfl) ?_
              refine lv_iload_n hx hb dX5_nightOn_93 rfl (lv_at hl 0 rfl) ?_
              refine lv_iconst (v := 4) hx hb dX5_nightOn_94 (by decide) ?_
              refine cl_i (wr := []) (w2 := [(mx, .inr (5, [.int th, .ref mh, .int (nI R), .ref mw, .ref ml, .int (nI G), .ref mp, .ref mq, .ref mb])), (mh, .inl (cy 0, 50, .inl (I_X5_nightOn_6 eh ew el ep eb R G))), (mw, .inl (cy 0, 6, .inl ew)), (ml, .inl (cy 0, 6, .inl el)), (mp, .inl (cy 0, 72, .inl ep_53)), (mq, .inl (cy 0, 2, .inl en)), (mb, .inl (cy 0, 50, .inl ((F_X5_drive eh ew el eb R).2)))]) (rn_V (As := [.int (nI k53), .int 4]) (rest := [.int 4, .int (nI k53), .ref mx]) (ci := 5) (q0 := 0) ⟨hx, hb, hml, hown, hts⟩ (k_X5_pe l D cy _ mx mh mw ml mp mq mb th (I_X5_nightOn_6 eh ew el ep eb R G) ew el ep_53 en ((F_X5_drive eh ew el eb R).2) R G k53 4 hR hG (by omega)) (cwV 2 hts gX5_nightOn_X5_pe rfl rfl rfl (by decide +kernel) ⟨Nat.le_of_ble_eq_true rfl, Nat.le_of_ble_eq_true rfl⟩) hN hK hP hD [0, 1, 2, 3, 4, 5, 6] rfl (by decide) rfl rfl rfl rfl hl.1 rfl (Nat.le_of_ble_eq_true rfl) dX5_nightOn_95 ⟨Nat.le_of_ble_eq_true rfl, Nat.le_of_ble_eq_true rfl⟩) hP hD hS hA [0, 1, 2, 3, 4, 5, 6] [] [0, 1, 2, 3, 4, 5, 6] rfl rfl (by decide) (by decide) rfl (by decide) (fun H locs hP hD hS => ?_)
              refine lv_aload_n hx hb dX5_nightOn_98 rfl (lv_at hl 2 rfl) ?_
              refine lv_aload_n hx hb dX5_nightOn_99 rfl (lv_at hl 2 rfl) ?_
              refine va_get (D := D) (ci := 5) (v := .ref mw) (C := RX5) (T := TX5) (N := 9) hx hb hts hin5 hown hK hP 0 rfl rfl 3 (by decide) (hts (.fieldLink RX5 13 "FireflyInnModel" "windows" "[I") (List.mem_of_getElem? (i := 2) rfl)) (fun _ h9 => h9) rfl dX5_nightOn_100 ?_
              refine lv_aload_n hx hb dX5_nightOn_103 rfl (lv_at hl 2 rfl) ?_
              refine lv_iload_n hx hb dX5_nightOn_104 rfl (lv_at hl 0 rfl) ?_
              refine lv_iconst (v := 0) hx hb dX5_nightOn_105 (by decide) ?_
              refine cl_i (wr := []) (w2 := [(mx, .inr (5, [.int th, .ref mh, .int (nI R), .ref mw, .ref ml, .int (nI G), .ref mp, .ref mq, .ref mb])), (mh, .inl (cy 0, 50, .inl (I_X5_nightOn_6 eh ew el ep eb R G))), (mw, .inl (cy 0, 6, .inl ew)), (ml, .inl (cy 0, 6, .inl el)), (mp, .inl (cy 0, 72, .inl ep_53)), (mq, .inl (cy 0, 2, .inl en)), (mb, .inl (cy 0, 50, .inl ((F_X5_drive eh ew el eb R).2)))]) (rn_V (As := [.int (nI k53), .int 0]) (rest := [.ref mw, .ref mx, .int (F_X5_pe ep_53 k53 4), .int 4, .int (nI k53), .ref mx]) (ci := 5) (q0 := 0) ⟨hx, hb, hml, hown, hts⟩ (k_X5_pe l D cy _ mx mh mw ml mp mq mb th (I_X5_nightOn_6 eh ew el ep eb R G) ew el ep_53 en ((F_X5_drive eh ew el eb R).2) R G k53 0 hR hG (by omega)) (cwV 2 hts gX5_nightOn_X5_pe rfl rfl rfl (by decide +kernel) ⟨Nat.le_of_ble_eq_true rfl, Nat.le_of_ble_eq_true rfl⟩) hN hK hP hD [0, 1, 2, 3, 4, 5, 6] rfl (by decide) rfl rfl rfl rfl hl.1 rfl (Nat.le_of_ble_eq_true rfl) dX5_nightOn_106 ⟨Nat.le_of_ble_eq_true rfl, Nat.le_of_ble_eq_true rfl⟩) hP hD hS hA [0, 1, 2, 3, 4, 5, 6] [] [0, 1, 2, 3, 4, 5, 6] rfl rfl (by decide) (by decide) rfl (by decide) (fun H locs hP hD hS => ?_)
              refine lv_iv (y := (nI ((F_X5_pe ep_53 k53 0).toNatClampNeg))) (hI53.2.2.2 k53 hlt53).2 ?_
              refine ial_n (k := (F_X5_pe ep_53 k53 0).toNatClampNeg) hx hb hK hP 2 rfl (by have h1 : (F_X5_pe ep_53 k53 0).toNatClampNeg < R := (hI53.2.2.2 k53 hlt53).1; omega) (by decide) dX5_nightOn_109 ?_
              refine cl_i (wr := []) (w2 := [(mx, .inr (5, [.int th, .ref mh, .int (nI R), .ref mw, .ref ml, .int (nI G), .ref mp, .ref mq, .ref mb])), (mh, .inl (cy 0, 50, .inl (I_X5_nightOn_6 eh ew el ep eb R G))), (mw, .inl (cy 0, 6, .inl ew)), (ml, .inl (cy 0, 6, .inl el)), (mp, .inl (cy 0, 72, .inl ep_53)), (mq, .inl (cy 0, 2, .inl en)), (mb, .inl (cy 0, 50, .inl ((F_X5_drive eh ew el eb R).2)))]) (rn_V (As := [.int (ew ((F_X5_pe ep_53 k53 0).toNatClampNeg))]) (rest := [.int (F_X5_pe ep_53 k53 4), .int 4, .int (nI k53), .ref mx]) (ci := 5) (q0 := 0) ⟨hx, hb, hml, hown, hts⟩ (k_X5_near l D cy _ mx mh mw ml mp mq mb th (I_X5_nightOn_6 eh ew el ep eb R G) ew el ep_53 en ((F_X5_drive eh ew el eb R).2) R G (ew ((F_X5_pe ep_53 k53 0).toNatClampNeg)) hR hG) (cwV 1 hts gX5_nightOn_X5_near rfl rfl rfl (by decide +kernel) ⟨Nat.le_of_ble_eq_true rfl, Nat.le_of_ble_eq_true rfl⟩) hN hK hP hD [0, 1, 2, 3, 4, 5, 6] rfl (by decide) rfl rfl rfl rfl hl.1 rfl (Nat.le_of_ble_eq_true rfl) dX5_nightOn_110 ⟨Nat.le_of_ble_eq_true rfl, Nat.le_of_ble_eq_true rfl⟩) hP hD hS hA [0, 1, 2, 3, 4, 5, 6] [] [0, 1, 2, 3, 4, 5, 6] rfl rfl (by decide) (by decide) rfl (by decide) (fun H locs hP hD hS => ?_)
              refine lv_iload_n hx hb dX5_nightOn_113 rfl (lv_at hl 1 rfl) ?_
              refine lv_iconst (v := 1) hx hb dX5_nightOn_114 (by decide) ?_
              refine lv_iadd hx hb dX5_nightOn_115 ?_
              refine lv_idiv hx hb dX5_nightOn_116 (mmoon_ne hnt) ?_
              refine lv_iadd hx hb dX5_nightOn_117 ?_
              refine cl_v (wr := []) (w2 := [(mx, .inr (5, [.int th, .ref mh, .int (nI R), .ref mw, .ref ml, .int (nI G), .ref mp, .ref mq, .ref mb])), (mh, .inl (cy 0, 50, .inl (I_X5_nightOn_6 eh ew el ep eb R G))), (mw, .inl (cy 0, 6, .inl ew)), (ml, .inl (cy 0, 6, .inl el)), (mp, .inl (cy 0, 72, .inl (C_X5_nightOn_118 eh ew el ep en eb R G k53 ep_53))), (mq, .inl (cy 0, 2, .inl en)), (mb, .inl (cy 0, 50, .inl ((F_X5_drive eh ew el eb R).2)))]) (rn_V (As := [.int (nI k53), .int 4, .int ((F_X5_pe ep_53 k53 4) + ((F_X5_near (I_X5_nightOn_6 eh ew el ep eb R G) (ew ((F_X5_pe ep_53 k53 0).toNatClampNeg))) / ((F_X5_moon (en 0)) + 1)))]) (rest := []) (ci := 5) (q0 := 0) ⟨hx, hb, hml, hown, hts⟩ (k_X5_put l D cy _ mx mh mw ml mp mq mb th (I_X5_nightOn_6 eh ew el ep eb R G) ew el ep_53 en ((F_X5_drive eh ew el eb R).2) R G k53 4 ((F_X5_pe ep_53 k53 4) + ((F_X5_near (I_X5_nightOn_6 eh ew el ep eb R G) (ew ((F_X5_pe ep_53 k53 0).toNatClampNeg))) / ((F_X5_moon (en 0)) + 1))) hR hG (by omega)) (cwV 3 hts gX5_nightOn_X5_put rfl rfl rfl (by decide +kernel) ⟨Nat.le_of_ble_eq_true rfl, Nat.le_of_ble_eq_true rfl⟩) hN hK hP hD [0, 1, 2, 3, 4, 5, 6] rfl (by decide) rfl rfl rfl rfl hl.1 rfl (Nat.le_of_ble_eq_true rfl) dX5_nightOn_118 ⟨Nat.le_of_ble_eq_true rfl, Nat.le_of_ble_eq_true rfl⟩) hP hD hS hA [0, 1, 2, 3, 4, 5, 6] [] [0, 1, 2, 3, 4, 5, 6] rfl rfl (by decide) (by decide) rfl (by decide) (fun H locs hP hD hS => ?_)
              refine lv_iinc (v := (nI (k53 + 1))) (lv' := [(2, .int (nI (k53 + 1))), (1, .int (F_X5_moon (en 0))), (0, .ref mx)]) hx hb dX5_nightOn_121 hl (k := 0) rfl (nI_1 k53) (by decide) rfl (fun ls hl => ?_)
              refine lv_goto (tgt := 53) hx hb dX5_nightOn_124 (by decide) ?_
              exact ih53 (k53 + 1) (C_X5_nightOn_118 eh ew el ep en eb R G k53 ep_53) _ _ _ (by omega) (it_step (f := (fun (k : Nat) (v : Nat → Int32) => S_X5_nightOn_53 eh ew el ep en eb R G k v)) (v := ep_53) (show S_X5_nightOn_53 eh ew el ep en eb R G k53 ep_53 = (C_X5_nightOn_118 eh ew el ep en eb R G k53 ep_53) from by rw [S_X5_nightOn_53, if_pos c67, if_pos c81, if_neg c86]) hE53) hP hD hS (lv_sub hl [0, 1, 2] rfl) (MI_put hI53 (by omega) (by omega))
    exact lp53 G 0 ep _ _ _ (by omega) hfin53 hP hD hS (lv_sub hl [0, 1, 2] rfl) hMI
  intro H locs ls hP hD hS hl hI53
  subst hfin53
  refine lv_iconst (v := 0) hx hb dX5_nightOn_127 (by decide) ?_
  refine lv_istore_n (lv' := [(2, .int 0), (1, .int (F_X5_moon (en 0))), (0, .ref mx)]) hx hb dX5_nightOn_128 rfl hl (by decide) rfl (fun ls hl => ?_)
  obtain ⟨fin129, hfin129⟩ : ∃ z, (I_X5_nightOn_129 eh ew el ep en eb R G) = z := ⟨_, rfl⟩
  suffices kk129 : ∀ (H : Heap) (locs : List Loc) (ls : Array Slot), va_P D vwCl [(mx, .inr (5, [.int th, .ref mh, .int (nI R), .ref mw, .ref ml, .int (nI G), .ref mp, .ref mq, .ref mb])), (mh, .inl (cy 0, 50, .inl fin129.1)), (mw, .inl (cy 0, 6, .inl ew)), (ml, .inl (cy 0, 6, .inl el)), (mp, .inl (cy 0, 72, .inl fin129.2)), (mq, .inl (cy 0, 2, .inl en)), (mb, .inl (cy 0, 50, .inl ((F_X5_drive eh ew el eb R).2)))] H → va_D A [(mx, .inr (5, [.int th, .ref mh, .int (nI R), .ref mw, .ref ml, .int (nI G), .ref mp, .ref mq, .ref mb])), (mh, .inl (cy 0, 50, .inl fin129.1)), (mw, .inl (cy 0, 6, .inl ew)), (ml, .inl (cy 0, 6, .inl el)), (mp, .inl (cy 0, 72, .inl fin129.2)), (mq, .inl (cy 0, 2, .inl en)), (mb, .inl (cy 0, 50, .inl ((F_X5_drive eh ew el eb R).2)))] → va_S A s.heap H locs → lv_has ls 3 [(2, .int (nI G)), (1, .int (F_X5_moon (en 0))), (0, .ref mx)] → MI R G ew fin129.2 → W p l e (RM 4 0 0 91) s m args below meth c H locs 0 0 Q (F0 m 158 ls []) by
    have lp129 : ∀ (n129 k129 : Nat) (eh_129 : Nat → Int32) (ep_129 : Nat → Int32) (H : Heap) (locs : List Loc) (ls : Array Slot), k129 + n129 = G → it (fun (k : Nat) (v : (Nat → Int32) × (Nat → Int32)) => S_X5_nightOn_129 ew k v.1 v.2) n129 k129 (eh_129, ep_129) = fin129 → va_P D vwCl [(mx, .inr (5, [.int th, .ref mh, .int (nI R), .ref mw, .ref ml, .int (nI G), .ref mp, .ref mq, .ref mb])), (mh, .inl (cy 0, 50, .inl eh_129)), (mw, .inl (cy 0, 6, .inl ew)), (ml, .inl (cy 0, 6, .inl el)), (mp, .inl (cy 0, 72, .inl ep_129)), (mq, .inl (cy 0, 2, .inl en)), (mb, .inl (cy 0, 50, .inl ((F_X5_drive eh ew el eb R).2)))] H → va_D A [(mx, .inr (5, [.int th, .ref mh, .int (nI R), .ref mw, .ref ml, .int (nI G), .ref mp, .ref mq, .ref mb])), (mh, .inl (cy 0, 50, .inl eh_129)), (mw, .inl (cy 0, 6, .inl ew)), (ml, .inl (cy 0, 6, .inl el)), (mp, .inl (cy 0, 72, .inl ep_129)), (mq, .inl (cy 0, 2, .inl en)), (mb, .inl (cy 0, 50, .inl ((F_X5_drive eh ew el eb R).2)))] → va_S A s.heap H locs → lv_has ls 3 [(2, .int (nI k129)), (1, .int (F_X5_moon (en 0))), (0, .ref mx)] → MI R G ew ep_129 → W p l e (RM 4 0 0 91) s m args below meth c H locs 0 0 Q (F0 m 129 ls []) := by
      intro n129
      induction n129 with
      | zero =>
        intro k129 eh_129 ep_129 H locs ls hkn129 hE129 hP hD hS hl hI129
        have hk129 : G = k129 := by omega
        subst hk129
        have hE129 : (eh_129, ep_129) = fin129 := hE129
        subst hE129
        refine lv_iload_n hx hb dX5_nightOn_129 rfl (lv_at hl 0 rfl) ?_
        refine lv_aload_n hx hb dX5_nightOn_130 rfl (lv_at hl 2 rfl) ?_
        refine va_get (D := D) (ci := 5) (v := .int (nI G)) (C := RX5) (T := TX5) (N := 9) hx hb hts hin5 hown hK hP 0 rfl rfl 5 (by decide) (hts (.fieldLink RX5 39 "FireflyInnModel" "guests" "I") (List.mem_of_getElem? (i := 4) rfl)) (fun _ h9 => h9) rfl dX5_nightOn_131 ?_
        refine lv_icmp_ge (tgt := 158) hx hb dX5_nightOn_134 (by decide) (fun c134 => ?_) (fun c134 => ?_)
        rotate_left
        · exact absurd (nI_le (a := G) (b := G) (Nat.le_refl _) (by omega)) c134
        exact kk129 _ _ _ hP hD hS (lv_sub hl [0, 1, 2] rfl) hI129
      | succ n129 ih129 =>
        intro k129 eh_129 ep_129 H locs ls hkn129 hE129 hP hD hS hl hI129
        have hlt129 : k129 < G := by omega
        refine lv_iload_n hx hb dX5_nightOn_129 rfl (lv_at hl 0 rfl) ?_
        refine lv_aload_n hx hb dX5_nightOn_130 rfl (lv_at hl 2 rfl) ?_
        refine va_get (D := D) (ci := 5) (v := .int (nI G)) (C := RX5) (T := TX5) (N := 9) hx hb hts hin5 hown hK hP 0 rfl rfl 5 (by decide) (hts (.fieldLink RX5 39 "FireflyInnModel" "guests" "I") (List.mem_of_getElem? (i := 4) rfl)) (fun _ h9 => h9) rfl dX5_nightOn_131 ?_
        refine lv_icmp_ge (tgt := 158) hx hb dX5_nightOn_134 (by decide) (fun c134 => ?_) (fun c134 => ?_)
        · exact absurd c134 (nI_ge (a := k129) (b := G) hlt129 (by omega))
        refine lv_aload_n hx hb dX5_nightOn_137 rfl (lv_at hl 2 rfl) ?_
        refine lv_iload_n hx hb dX5_nightOn_138 rfl (lv_at hl 0 rfl) ?_
        refine lv_iconst (v := 2) hx hb dX5_nightOn_139 (by decide) ?_
        refine cl_i (wr := []) (w2 := [(mx, .inr (5, [.int th, .ref mh, .int (nI R), .ref mw, .ref ml, .int (nI G), .ref mp, .ref mq, .ref mb])), (mh, .inl (cy 0, 50, .inl eh_129)), (mw, .inl (cy 0, 6, .inl ew)), (ml, .inl (cy 0, 6, .inl el)), (mp, .inl (cy 0, 72, .inl ep_129)), (mq, .inl (cy 0, 2, .inl en)), (mb, .inl (cy 0, 50, .inl ((F_X5_drive eh ew el eb R).2)))]) (rn_V (As := [.int (nI k129), .int 2]) (rest := []) (ci := 5) (q0 := 0) ⟨hx, hb, hml, hown, hts⟩ (k_X5_pe l D cy _ mx mh mw ml mp mq mb th eh_129 ew el ep_129 en ((F_X5_drive eh ew el eb R).2) R G k129 2 hR hG (by omega)) (cwV 2 hts gX5_nightOn_X5_pe rfl rfl rfl (by decide +kernel) ⟨Nat.le_of_ble_eq_true rfl, Nat.le_of_ble_eq_true rfl⟩) hN hK hP hD [0, 1, 2, 3, 4, 5, 6] rfl (by decide) rfl rfl rfl rfl hl.1 rfl (Nat.le_of_ble_eq_true rfl) dX5_nightOn_140 ⟨Nat.le_of_ble_eq_true rfl, Nat.le_of_ble_eq_true rfl⟩) hP hD hS hA [0, 1, 2, 3, 4, 5, 6] [] [0, 1, 2, 3, 4, 5, 6] rfl rfl (by decide) (by decide) rfl (by decide) (fun H locs hP hD hS => ?_)
        refine lv_iconst (v := 1) hx hb dX5_nightOn_143 (by decide) ?_
        refine lv_icmp_ne (tgt := 152) hx hb dX5_nightOn_144 (by decide) (fun c144 => ?_) (fun c144 => ?_)
        · refine lv_iinc (v := (nI (k129 + 1))) (lv' := [(2, .int (nI (k129 + 1))), (1, .int (F_X5_moon (en 0))), (0, .ref mx)]) hx hb dX5_nightOn_152 hl (k := 0) rfl (nI_1 k129) (by decide) rfl (fun ls hl => ?_)
          refine lv_goto (tgt := 129) hx hb dX5_nightOn_155 (by decide) ?_
          exact ih129 (k129 + 1) eh_129 ep_129 _ _ _ (by omega) (it_step (f := (fun (k : Nat) (v : (Nat → Int32) × (Nat → Int32)) => S_X5_nightOn_129 ew k v.1 v.2)) (v := (eh_129, ep_129)) (show S_X5_nightOn_129 ew k129 eh_129 ep_129 = (eh_129, ep_129) from by rw [S_X5_nightOn_129, if_neg c144]) hE129) hP hD hS (lv_sub hl [0, 1, 2] rfl) hI129
        · refine lv_aload_n hx hb dX5_nightOn_147 rfl (lv_at hl 2 rfl) ?_
          refine lv_iload_n hx hb dX5_nightOn_148 rfl (lv_at hl 0 rfl) ?_
          refine cl_v (wr := []) (w2 := [(mx, .inr (5, [.int th, .ref mh, .int (nI R), .ref mw, .ref ml, .int (nI G), .ref mp, .ref mq, .ref mb])), (mh, .inl (cy 0, 50, .inl ((F_X5_catchSome eh_129 ew ep_129 k129).1))), (mw, .inl (cy 0, 6, .inl ew)), (ml, .inl (cy 0, 6, .inl el)), (mp, .inl (cy 0, 72, .inl ((F_X5_catchSome eh_129 ew ep_129 k129).2))), (mq, .inl (cy 0, 2, .inl en)), (mb, .inl (cy 0, 50, .inl ((F_X5_drive eh ew el eb R).2)))]) (rn_V (As := [.int (nI k129)]) (rest := []) (ci := 5) (q0 := 0) ⟨hx, hb, hml, hown, hts⟩ (k_X5_catchSome l D cy _ mx mh mw ml mp mq mb th eh_129 ew el ep_129 en ((F_X5_drive eh ew el eb R).2) R G k129 hR hG hI129 hlt129) (cwV 1 hts gX5_nightOn_X5_catchSome rfl rfl rfl (by decide +kernel) ⟨Nat.le_of_ble_eq_true rfl, Nat.le_of_ble_eq_true rfl⟩) hN hK hP hD [0, 1, 2, 3, 4, 5, 6] rfl (by decide) rfl rfl rfl rfl hl.1 rfl (Nat.le_of_ble_eq_true rfl) dX5_nightOn_149 ⟨Nat.le_of_ble_eq_true rfl, Nat.le_of_ble_eq_true rfl⟩) hP hD hS hA [0, 1, 2, 3, 4, 5, 6] [] [0, 1, 2, 3, 4, 5, 6] rfl rfl (by decide) (by decide) rfl (by decide) (fun H locs hP hD hS => ?_)
          refine lv_iinc (v := (nI (k129 + 1))) (lv' := [(2, .int (nI (k129 + 1))), (1, .int (F_X5_moon (en 0))), (0, .ref mx)]) hx hb dX5_nightOn_152 hl (k := 0) rfl (nI_1 k129) (by decide) rfl (fun ls hl => ?_)
          refine lv_goto (tgt := 129) hx hb dX5_nightOn_155 (by decide) ?_
          exact ih129 (k129 + 1) ((F_X5_catchSome eh_129 ew ep_129 k129).1) ((F_X5_catchSome eh_129 ew ep_129 k129).2) _ _ _ (by omega) (it_step (f := (fun (k : Nat) (v : (Nat → Int32) × (Nat → Int32)) => S_X5_nightOn_129 ew k v.1 v.2)) (v := (eh_129, ep_129)) (show S_X5_nightOn_129 ew k129 eh_129 ep_129 = ((F_X5_catchSome eh_129 ew ep_129 k129).1, (F_X5_catchSome eh_129 ew ep_129 k129).2) from by rw [S_X5_nightOn_129, if_pos c144]) hE129) hP hD hS (lv_sub hl [0, 1, 2] rfl) (MI_catch hI129)
    exact lp129 G 0 (I_X5_nightOn_6 eh ew el ep eb R G) (I_X5_nightOn_53 eh ew el ep en eb R G) _ _ _ (by omega) hfin129 hP hD hS (lv_sub hl [0, 1, 2] rfl) hI53
  intro H locs ls hP hD hS hl hI129
  subst hfin129
  refine lv_iconst (v := 0) hx hb dX5_nightOn_158 (by decide) ?_
  refine lv_istore_n (lv' := [(2, .int 0), (1, .int (F_X5_moon (en 0))), (0, .ref mx)]) hx hb dX5_nightOn_159 rfl hl (by decide) rfl (fun ls hl => ?_)
  obtain ⟨fin160, hfin160⟩ : ∃ z, (I_X5_nightOn_160 eh ew el ep en eb R G) = z := ⟨_, rfl⟩
  suffices kk160 : ∀ (H : Heap) (locs : List Loc) (ls : Array Slot), va_P D vwCl [(mx, .inr (5, [.int th, .ref mh, .int (nI R), .ref mw, .ref ml, .int (nI G), .ref mp, .ref mq, .ref mb])), (mh, .inl (cy 0, 50, .inl ((I_X5_nightOn_129 eh ew el ep en eb R G).1))), (mw, .inl (cy 0, 6, .inl ew)), (ml, .inl (cy 0, 6, .inl el)), (mp, .inl (cy 0, 72, .inl fin160.1)), (mq, .inl (cy 0, 2, .inl fin160.2)), (mb, .inl (cy 0, 50, .inl ((F_X5_drive eh ew el eb R).2)))] H → va_D A [(mx, .inr (5, [.int th, .ref mh, .int (nI R), .ref mw, .ref ml, .int (nI G), .ref mp, .ref mq, .ref mb])), (mh, .inl (cy 0, 50, .inl ((I_X5_nightOn_129 eh ew el ep en eb R G).1))), (mw, .inl (cy 0, 6, .inl ew)), (ml, .inl (cy 0, 6, .inl el)), (mp, .inl (cy 0, 72, .inl fin160.1)), (mq, .inl (cy 0, 2, .inl fin160.2)), (mb, .inl (cy 0, 50, .inl ((F_X5_drive eh ew el eb R).2)))] → va_S A s.heap H locs → lv_has ls 3 [(1, .int (F_X5_moon (en 0))), (0, .ref mx)] → MI R G ew fin160.1 → W p l e (RM 4 0 0 91) s m args below meth c H locs 0 0 Q (F0 m 225 ls []) by
    have lp160 : ∀ (n160 k160 : Nat) (ep_160 : Nat → Int32) (en_160 : Nat → Int32) (H : Heap) (locs : List Loc) (ls : Array Slot), k160 + n160 = G → it (fun (k : Nat) (v : (Nat → Int32) × (Nat → Int32)) => S_X5_nightOn_160 R k v.1 v.2) n160 k160 (ep_160, en_160) = fin160 → va_P D vwCl [(mx, .inr (5, [.int th, .ref mh, .int (nI R), .ref mw, .ref ml, .int (nI G), .ref mp, .ref mq, .ref mb])), (mh, .inl (cy 0, 50, .inl ((I_X5_nightOn_129 eh ew el ep en eb R G).1))), (mw, .inl (cy 0, 6, .inl ew)), (ml, .inl (cy 0, 6, .inl el)), (mp, .inl (cy 0, 72, .inl ep_160)), (mq, .inl (cy 0, 2, .inl en_160)), (mb, .inl (cy 0, 50, .inl ((F_X5_drive eh ew el eb R).2)))] H → va_D A [(mx, .inr (5, [.int th, .ref mh, .int (nI R), .ref mw, .ref ml, .int (nI G), .ref mp, .ref mq, .ref mb])), (mh, .inl (cy 0, 50, .inl ((I_X5_nightOn_129 eh ew el ep en eb R G).1))), (mw, .inl (cy 0, 6, .inl ew)), (ml, .inl (cy 0, 6, .inl el)), (mp, .inl (cy 0, 72, .inl ep_160)), (mq, .inl (cy 0, 2, .inl en_160)), (mb, .inl (cy 0, 50, .inl ((F_X5_drive eh ew el eb R).2)))] → va_S A s.heap H locs → lv_has ls 3 [(2, .int (nI k160)), (1, .int (F_X5_moon (en 0))), (0, .ref mx)] → MI R G ew ep_160 → W p l e (RM 4 0 0 91) s m args below meth c H locs 0 0 Q (F0 m 160 ls []) := by
      intro n160
      induction n160 with
      | zero =>
        intro k160 ep_160 en_160 H locs ls hkn160 hE160 hP hD hS hl hI160
        have hk160 : G = k160 := by omega
        subst hk160
        have hE160 : (ep_160, en_160) = fin160 := hE160
        subst hE160
        refine lv_iload_n hx hb dX5_nightOn_160 rfl (lv_at hl 0 rfl) ?_
        refine lv_aload_n hx hb dX5_nightOn_161 rfl (lv_at hl 2 rfl) ?_
        refine va_get (D := D) (ci := 5) (v := .int (nI G)) (C := RX5) (T := TX5) (N := 9) hx hb hts hin5 hown hK hP 0 rfl rfl 5 (by decide) (hts (.fieldLink RX5 39 "FireflyInnModel" "guests" "I") (List.mem_of_getElem? (i := 4) rfl)) (fun _ h9 => h9) rfl dX5_nightOn_162 ?_
        refine lv_icmp_ge (tgt := 225) hx hb dX5_nightOn_165 (by decide) (fun c165 => ?_) (fun c165 => ?_)
        rotate_left
        · exact absurd (nI_le (a := G) (b := G) (Nat.le_refl _) (by omega)) c165
        exact kk160 _ _ _ hP hD hS (lv_sub hl [1, 2] rfl) hI160
      | succ n160 ih160 =>
        intro k160 ep_160 en_160 H locs ls hkn160 hE160 hP hD hS hl hI160
        have hlt160 : k160 < G := by omega
        refine lv_iload_n hx hb dX5_nightOn_160 rfl (lv_at hl 0 rfl) ?_
        refine lv_aload_n hx hb dX5_nightOn_161 rfl (lv_at hl 2 rfl) ?_
        refine va_get (D := D) (ci := 5) (v := .int (nI G)) (C := RX5) (T := TX5) (N := 9) hx hb hts hin5 hown hK hP 0 rfl rfl 5 (by decide) (hts (.fieldLink RX5 39 "FireflyInnModel" "guests" "I") (List.mem_of_getElem? (i := 4) rfl)) (fun _ h9 => h9) rfl dX5_nightOn_162 ?_
        refine lv_icmp_ge (tgt := 225) hx hb dX5_nightOn_165 (by decide) (fun c165 => ?_) (fun c165 => ?_)
        · exact absurd c165 (nI_ge (a := k160) (b := G) hlt160 (by omega))
        refine lv_aload_n hx hb dX5_nightOn_168 rfl (lv_at hl 2 rfl) ?_
        refine va_get (D := D) (ci := 5) (v := .int (nI R)) (C := RX5) (T := TX5) (N := 9) hx hb hts hin5 hown hK hP 0 rfl rfl 2 (by decide) (hts (.fieldLink RX5 36 "FireflyInnModel" "rooms" "I") (List.mem_of_getElem? (i := 1) rfl)) (fun _ h9 => h9) rfl dX5_nightOn_169 ?_
        refine lv_if_le (tgt := 225) hx hb dX5_nightOn_172 (by decide) (fun c172 => ?_) (fun c172 => ?_)
        · have hq : (ep_160, en_160) = fin160 := (it_fix (f := (fun (k : Nat) (v : (Nat → Int32) × (Nat → Int32)) => S_X5_nightOn_160 R k v.1 v.2)) (v := (ep_160, en_160)) (fun k => show S_X5_nightOn_160 R k ep_160 en_160 = (ep_160, en_160) from by rw [S_X5_nightOn_160, if_pos c172]) _ _).symm.trans hE160
          subst hq
          exact kk160 _ _ _ hP hD hS (lv_sub hl [1, 2] rfl) hI160
        · refine lv_aload_n hx hb dX5_nightOn_175 rfl (lv_at hl 2 rfl) ?_
          refine lv_iload_n hx hb dX5_nightOn_176 rfl (lv_at hl 0 rfl) ?_
          refine lv_aload_n hx hb dX5_nightOn_177 rfl (lv_at hl 2 rfl) ?_
          refine va_get (D := D) (ci := 5) (v := .ref mq) (C := RX5) (T := TX5) (N := 9) hx hb hts hin5 hown hK hP 0 rfl rfl 7 (by decide) (hts (.fieldLink RX5 22 "FireflyInnModel" "numbers" "[I") (List.mem_of_getElem? (i := 3) rfl)) (fun _ h9 => h9) rfl dX5_nightOn_178 ?_
          refine lv_iconst (v := 0) hx hb dX5_nightOn_181 (by decide) ?_
          refine ial_n (k := 0) hx hb hK hP 5 rfl (by omega) (by decide) dX5_nightOn_182 ?_
          refine lv_aload_n hx hb dX5_nightOn_183 rfl (lv_at hl 2 rfl) ?_
          refine va_get (D := D) (ci := 5) (v := .int (nI R)) (C := RX5) (T := TX5) (N := 9) hx hb hts hin5 hown hK hP 0 rfl rfl 2 (by decide) (hts (.fieldLink RX5 36 "FireflyInnModel" "rooms" "I") (List.mem_of_getElem? (i := 1) rfl)) (fun _ h9 => h9) rfl dX5_nightOn_184 ?_
          refine lv_irem hx hb dX5_nightOn_187 (pos_ne c172) ?_
          refine lv_iv (y := rmd (en_160 0) (nI R)) rfl ?_
          refine cl_i (wr := []) (w2 := [(mx, .inr (5, [.int th, .ref mh, .int (nI R), .ref mw, .ref ml, .int (nI G), .ref mp, .ref mq, .ref mb])), (mh, .inl (cy 0, 50, .inl ((I_X5_nightOn_129 eh ew el ep en eb R G).1))), (mw, .inl (cy 0, 6, .inl ew)), (ml, .inl (cy 0, 6, .inl el)), (mp, .inl (cy 0, 72, .inl ep_160)), (mq, .inl (cy 0, 2, .inl en_160)), (mb, .inl (cy 0, 50, .inl ((F_X5_drive eh ew el eb R).2)))]) (rn_V (As := [.int (nI k160), .int (rmd (en_160 0) (nI R))]) (rest := []) (ci := 5) (q0 := 0) ⟨hx, hb, hml, hown, hts⟩ (k_X5_isThere l D cy _ mx mh mw ml mp mq mb th ((I_X5_nightOn_129 eh ew el ep en eb R G).1) ew el ep_160 en_160 ((F_X5_drive eh ew el eb R).2) R G k160 (rmd (en_160 0) (nI R)) hR hG (by omega)) (cwV 2 hts gX5_nightOn_X5_isThere rfl rfl rfl (by decide +kernel) ⟨Nat.le_of_ble_eq_true rfl, Nat.le_of_ble_eq_true rfl⟩) hN hK hP hD [0, 1, 2, 3, 4, 5, 6] rfl (by decide) rfl rfl rfl rfl hl.1 rfl (Nat.le_of_ble_eq_true rfl) dX5_nightOn_188 ⟨Nat.le_of_ble_eq_true rfl, Nat.le_of_ble_eq_true rfl⟩) hP hD hS hA [0, 1, 2, 3, 4, 5, 6] [] [0, 1, 2, 3, 4, 5, 6] rfl rfl (by decide) (by decide) rfl (by decide) (fun H locs hP hD hS => ?_)
          refine lv_if_ne (tgt := 197) hx hb dX5_nightOn_191 (by decide) (fun c191 => ?_) (fun c191 => ?_)
          · refine lv_aload_n hx hb dX5_nightOn_197 rfl (lv_at hl 2 rfl) ?_
            refine va_get (D := D) (ci := 5) (v := .ref mq) (C := RX5) (T := TX5) (N := 9) hx hb hts hin5 hown hK hP 0 rfl rfl 7 (by decide) (hts (.fieldLink RX5 22 "FireflyInnModel" "numbers" "[I") (List.mem_of_getElem? (i := 3) rfl)) (fun _ h9 => h9) rfl dX5_nightOn_198 ?_
            refine lv_iconst (v := 1) hx hb dX5_nightOn_201 (by decide) ?_
            refine lv_dup2_11 hx hb dX5_nightOn_202 rfl rfl ?_
            refine ial_n (k := 1) hx hb hK hP 5 rfl (by omega) (by decide) dX5_nightOn_203 ?_
            refine lv_aload_n hx hb dX5_nightOn_204 rfl (lv_at hl 2 rfl) ?_
            refine lv_iload_n hx hb dX5_nightOn_205 rfl (lv_at hl 0 rfl) ?_
            refine lv_iconst (v := 2) hx hb dX5_nightOn_206 (by decide) ?_
            refine cl_i (wr := []) (w2 := [(mx, .inr (5, [.int th, .ref mh, .int (nI R), .ref mw, .ref ml, .int (nI G), .ref mp, .ref mq, .ref mb])), (mh, .inl (cy 0, 50, .inl ((I_X5_nightOn_129 eh ew el ep en eb R G).1))), (mw, .inl (cy 0, 6, .inl ew)), (ml, .inl (cy 0, 6, .inl el)), (mp, .inl (cy 0, 72, .inl ep_160)), (mq, .inl (cy 0, 2, .inl en_160)), (mb, .inl (cy 0, 50, .inl ((F_X5_drive eh ew el eb R).2)))]) (rn_V (As := [.int (nI k160), .int 2]) (rest := [.int (en_160 1), .int 1, .ref mq]) (ci := 5) (q0 := 0) ⟨hx, hb, hml, hown, hts⟩ (k_X5_pe l D cy _ mx mh mw ml mp mq mb th ((I_X5_nightOn_129 eh ew el ep en eb R G).1) ew el ep_160 en_160 ((F_X5_drive eh ew el eb R).2) R G k160 2 hR hG (by omega)) (cwV 2 hts gX5_nightOn_X5_pe rfl rfl rfl (by decide +kernel) ⟨Nat.le_of_ble_eq_true rfl, Nat.le_of_ble_eq_true rfl⟩) hN hK hP hD [0, 1, 2, 3, 4, 5, 6] rfl (by decide) rfl rfl rfl rfl hl.1 rfl (Nat.le_of_ble_eq_true rfl) dX5_nightOn_207 ⟨Nat.le_of_ble_eq_true rfl, Nat.le_of_ble_eq_true rfl⟩) hP hD hS hA [0, 1, 2, 3, 4, 5, 6] [] [0, 1, 2, 3, 4, 5, 6] rfl rfl (by decide) (by decide) rfl (by decide) (fun H locs hP hD hS => ?_)
            refine lv_iadd hx hb dX5_nightOn_210 ?_
            refine ias_n (k := 1) hx hb hK hP hD hS 5 rfl (by omega) (by decide) dX5_nightOn_211 (fun H locs hP hD hS => ?_)
            have hP : va_P D vwCl [(mx, .inr (5, [.int th, .ref mh, .int (nI R), .ref mw, .ref ml, .int (nI G), .ref mp, .ref mq, .ref mb])), (mh, .inl (cy 0, 50, .inl ((I_X5_nightOn_129 eh ew el ep en eb R G).1))), (mw, .inl (cy 0, 6, .inl ew)), (ml, .inl (cy 0, 6, .inl el)), (mp, .inl (cy 0, 72, .inl ep_160)), (mq, .inl (cy 0, 2, .inl (upd en_160 1 ((en_160 1) + (F_X5_pe ep_160 k160 2))))), (mb, .inl (cy 0, 50, .inl ((F_X5_drive eh ew el eb R).2)))] H := hP
            have hD : va_D A [(mx, .inr (5, [.int th, .ref mh, .int (nI R), .ref mw, .ref ml, .int (nI G), .ref mp, .ref mq, .ref mb])), (mh, .inl (cy 0, 50, .inl ((I_X5_nightOn_129 eh ew el ep en eb R G).1))), (mw, .inl (cy 0, 6, .inl ew)), (ml, .inl (cy 0, 6, .inl el)), (mp, .inl (cy 0, 72, .inl ep_160)), (mq, .inl (cy 0, 2, .inl (upd en_160 1 ((en_160 1) + (F_X5_pe ep_160 k160 2))))), (mb, .inl (cy 0, 50, .inl ((F_X5_drive eh ew el eb R).2)))] := hD
            refine lv_aload_n hx hb dX5_nightOn_212 rfl (lv_at hl 2 rfl) ?_
            refine lv_iload_n hx hb dX5_nightOn_213 rfl (lv_at hl 0 rfl) ?_
            refine lv_iconst (v := 2) hx hb dX5_nightOn_214 (by decide) ?_
            refine lv_iconst (v := 0) hx hb dX5_nightOn_215 (by decide) ?_
            refine cl_v (wr := []) (w2 := [(mx, .inr (5, [.int th, .ref mh, .int (nI R), .ref mw, .ref ml, .int (nI G), .ref mp, .ref mq, .ref mb])), (mh, .inl (cy 0, 50, .inl ((I_X5_nightOn_129 eh ew el ep en eb R G).1))), (mw, .inl (cy 0, 6, .inl ew)), (ml, .inl (cy 0, 6, .inl el)), (mp, .inl (cy 0, 72, .inl (F_X5_put ep_160 k160 2 0))), (mq, .inl (cy 0, 2, .inl (upd en_160 1 ((en_160 1) + (F_X5_pe ep_160 k160 2))))), (mb, .inl (cy 0, 50, .inl ((F_X5_drive eh ew el eb R).2)))]) (rn_V (As := [.int (nI k160), .int 2, .int 0]) (rest := []) (ci := 5) (q0 := 0) ⟨hx, hb, hml, hown, hts⟩ (k_X5_put l D cy _ mx mh mw ml mp mq mb th ((I_X5_nightOn_129 eh ew el ep en eb R G).1) ew el ep_160 (upd en_160 1 ((en_160 1) + (F_X5_pe ep_160 k160 2))) ((F_X5_drive eh ew el eb R).2) R G k160 2 0 hR hG (by omega)) (cwV 3 hts gX5_nightOn_X5_put rfl rfl rfl (by decide +kernel) ⟨Nat.le_of_ble_eq_true rfl, Nat.le_of_ble_eq_true rfl⟩) hN hK hP hD [0, 1, 2, 3, 4, 5, 6] rfl (by decide) rfl rfl rfl rfl hl.1 rfl (Nat.le_of_ble_eq_true rfl) dX5_nightOn_216 ⟨Nat.le_of_ble_eq_true rfl, Nat.le_of_ble_eq_true rfl⟩) hP hD hS hA [0, 1, 2, 3, 4, 5, 6] [] [0, 1, 2, 3, 4, 5, 6] rfl rfl (by decide) (by decide) rfl (by decide) (fun H locs hP hD hS => ?_)
            refine lv_iinc (v := (nI (k160 + 1))) (lv' := [(2, .int (nI (k160 + 1))), (1, .int (F_X5_moon (en 0))), (0, .ref mx)]) hx hb dX5_nightOn_219 hl (k := 0) rfl (nI_1 k160) (by decide) rfl (fun ls hl => ?_)
            refine lv_goto (tgt := 160) hx hb dX5_nightOn_222 (by decide) ?_
            exact ih160 (k160 + 1) (F_X5_put ep_160 k160 2 0) (upd en_160 1 ((en_160 1) + (F_X5_pe ep_160 k160 2))) _ _ _ (by omega) (it_step (f := (fun (k : Nat) (v : (Nat → Int32) × (Nat → Int32)) => S_X5_nightOn_160 R k v.1 v.2)) (v := (ep_160, en_160)) (show S_X5_nightOn_160 R k160 ep_160 en_160 = ((F_X5_put ep_160 k160 2 0), (upd en_160 1 ((en_160 1) + (F_X5_pe ep_160 k160 2)))) from by rw [S_X5_nightOn_160, if_neg c172, if_neg c191]) hE160) hP hD hS (lv_sub hl [0, 1, 2] rfl) (MI_put hI160 (by omega) (by omega))
          · refine lv_goto (tgt := 219) hx hb dX5_nightOn_194 (by decide) ?_
            refine lv_iinc (v := (nI (k160 + 1))) (lv' := [(2, .int (nI (k160 + 1))), (1, .int (F_X5_moon (en 0))), (0, .ref mx)]) hx hb dX5_nightOn_219 hl (k := 0) rfl (nI_1 k160) (by decide) rfl (fun ls hl => ?_)
            refine lv_goto (tgt := 160) hx hb dX5_nightOn_222 (by decide) ?_
            exact ih160 (k160 + 1) ep_160 en_160 _ _ _ (by omega) (it_step (f := (fun (k : Nat) (v : (Nat → Int32) × (Nat → Int32)) => S_X5_nightOn_160 R k v.1 v.2)) (v := (ep_160, en_160)) (show S_X5_nightOn_160 R k160 ep_160 en_160 = (ep_160, en_160) from by rw [S_X5_nightOn_160, if_neg c172, if_pos c191]) hE160) hP hD hS (lv_sub hl [0, 1, 2] rfl) hI160
    exact lp160 G 0 ((I_X5_nightOn_129 eh ew el ep en eb R G).2) en _ _ _ (by omega) hfin160 hP hD hS (lv_sub hl [0, 1, 2] rfl) hI129
  intro H locs ls hP hD hS hl hI160
  subst hfin160
  refine lv_iconst (v := 0) hx hb dX5_nightOn_225 (by decide) ?_
  refine lv_istore_n (lv' := [(2, .int 0), (1, .int (F_X5_moon (en 0))), (0, .ref mx)]) hx hb dX5_nightOn_226 rfl hl (by decide) rfl (fun ls hl => ?_)
  obtain ⟨fin227, hfin227⟩ : ∃ z, (I_X5_nightOn_227 eh ew el ep en eb R G) = z := ⟨_, rfl⟩
  suffices kk227 : ∀ (H : Heap) (locs : List Loc) (ls : Array Slot), va_P D vwCl [(mx, .inr (5, [.int th, .ref mh, .int (nI R), .ref mw, .ref ml, .int (nI G), .ref mp, .ref mq, .ref mb])), (mh, .inl (cy 0, 50, .inl fin227)), (mw, .inl (cy 0, 6, .inl ew)), (ml, .inl (cy 0, 6, .inl el)), (mp, .inl (cy 0, 72, .inl ((I_X5_nightOn_160 eh ew el ep en eb R G).1))), (mq, .inl (cy 0, 2, .inl ((I_X5_nightOn_160 eh ew el ep en eb R G).2))), (mb, .inl (cy 0, 50, .inl ((F_X5_drive eh ew el eb R).2)))] H → va_D A [(mx, .inr (5, [.int th, .ref mh, .int (nI R), .ref mw, .ref ml, .int (nI G), .ref mp, .ref mq, .ref mb])), (mh, .inl (cy 0, 50, .inl fin227)), (mw, .inl (cy 0, 6, .inl ew)), (ml, .inl (cy 0, 6, .inl el)), (mp, .inl (cy 0, 72, .inl ((I_X5_nightOn_160 eh ew el ep en eb R G).1))), (mq, .inl (cy 0, 2, .inl ((I_X5_nightOn_160 eh ew el ep en eb R G).2))), (mb, .inl (cy 0, 50, .inl ((F_X5_drive eh ew el eb R).2)))] → va_S A s.heap H locs → lv_has ls 3 [(2, .int (nI 50)), (1, .int (F_X5_moon (en 0))), (0, .ref mx)] → W p l e (RM 4 0 0 91) s m args below meth c H locs 0 0 Q (F0 m 288 ls []) by
    have lp227 : ∀ (n227 k227 : Nat) (eh_227 : Nat → Int32) (H : Heap) (locs : List Loc) (ls : Array Slot), k227 + n227 = 50 → it (fun (k : Nat) (v : Nat → Int32) => S_X5_nightOn_227 ew el R k v) n227 k227 eh_227 = fin227 → va_P D vwCl [(mx, .inr (5, [.int th, .ref mh, .int (nI R), .ref mw, .ref ml, .int (nI G), .ref mp, .ref mq, .ref mb])), (mh, .inl (cy 0, 50, .inl eh_227)), (mw, .inl (cy 0, 6, .inl ew)), (ml, .inl (cy 0, 6, .inl el)), (mp, .inl (cy 0, 72, .inl ((I_X5_nightOn_160 eh ew el ep en eb R G).1))), (mq, .inl (cy 0, 2, .inl ((I_X5_nightOn_160 eh ew el ep en eb R G).2))), (mb, .inl (cy 0, 50, .inl ((F_X5_drive eh ew el eb R).2)))] H → va_D A [(mx, .inr (5, [.int th, .ref mh, .int (nI R), .ref mw, .ref ml, .int (nI G), .ref mp, .ref mq, .ref mb])), (mh, .inl (cy 0, 50, .inl eh_227)), (mw, .inl (cy 0, 6, .inl ew)), (ml, .inl (cy 0, 6, .inl el)), (mp, .inl (cy 0, 72, .inl ((I_X5_nightOn_160 eh ew el ep en eb R G).1))), (mq, .inl (cy 0, 2, .inl ((I_X5_nightOn_160 eh ew el ep en eb R G).2))), (mb, .inl (cy 0, 50, .inl ((F_X5_drive eh ew el eb R).2)))] → va_S A s.heap H locs → lv_has ls 3 [(2, .int (nI k227)), (1, .int (F_X5_moon (en 0))), (0, .ref mx)] → W p l e (RM 4 0 0 91) s m args below meth c H locs 0 0 Q (F0 m 227 ls []) := by
      intro n227
      induction n227 with
      | zero =>
        intro k227 eh_227 H locs ls hkn227 hE227 hP hD hS hl
        have hk227 : 50 = k227 := by omega
        subst hk227
        have hE227 : eh_227 = fin227 := hE227
        subst hE227
        refine lv_iload_n hx hb dX5_nightOn_227 rfl (lv_at hl 0 rfl) ?_
        refine lv_bipush (v := 50) hx hb dX5_nightOn_228 (by decide) ?_
        refine lv_icmp_ge (tgt := 288) hx hb dX5_nightOn_230 (by decide) (fun c230 => ?_) (fun c230 => ?_)
        rotate_left
        · exact absurd (nI_le (a := 50) (b := 50) (Nat.le_refl _) (by decide)) c230
        exact kk227 _ _ _ hP hD hS (lv_sub hl [0, 1, 2] rfl)
      | succ n227 ih227 =>
        intro k227 eh_227 H locs ls hkn227 hE227 hP hD hS hl
        have hlt227 : k227 < 50 := by omega
        refine lv_iload_n hx hb dX5_nightOn_227 rfl (lv_at hl 0 rfl) ?_
        refine lv_bipush (v := 50) hx hb dX5_nightOn_228 (by decide) ?_
        refine lv_icmp_ge (tgt := 288) hx hb dX5_nightOn_230 (by decide) (fun c230 => ?_) (fun c230 => ?_)
        · exact absurd c230 (nI_ge (a := k227) (b := 50) hlt227 (by decide))
        refine lv_aload_n hx hb dX5_nightOn_233 rfl (lv_at hl 2 rfl) ?_
        refine va_get (D := D) (ci := 5) (v := .ref mh) (C := RX5) (T := TX5) (N := 9) hx hb hts hin5 hown hK hP 0 rfl rfl 1 (by decide) (hts (.fieldLink RX5 9 "FireflyInnModel" "hedge" "[I") (List.mem_of_getElem? (i := 6) rfl)) (fun _ h9 => h9) rfl dX5_nightOn_234 ?_
        refine lv_iload_n hx hb dX5_nightOn_237 rfl (lv_at hl 0 rfl) ?_
        refine ial_n (k := k227) hx hb hK hP 1 rfl (by omega) (by decide) dX5_nightOn_238 ?_
        refine lv_bipush (v := 10) hx hb dX5_nightOn_239 (by decide) ?_
        refine lv_icmp_lt (tgt := 282) hx hb dX5_nightOn_241 (by decide) (fun c241 => ?_) (fun c241 => ?_)
        · refine lv_iinc (v := (nI (k227 + 1))) (lv' := [(2, .int (nI (k227 + 1))), (1, .int (F_X5_moon (en 0))), (0, .ref mx)]) hx hb dX5_nightOn_282 hl (k := 0) rfl (nI_1 k227) (by decide) rfl (fun ls hl => ?_)
          refine lv_goto (tgt := 227) hx hb dX5_nightOn_285 (by decide) ?_
          exact ih227 (k227 + 1) eh_227 _ _ _ (by omega) (it_step (f := (fun (k : Nat) (v : Nat → Int32) => S_X5_nightOn_227 ew el R k v)) (v := eh_227) (show S_X5_nightOn_227 ew el R k227 eh_227 = eh_227 from by rw [S_X5_nightOn_227, if_pos c241]) hE227) hP hD hS (lv_sub hl [0, 1, 2] rfl)
        · refine lv_aload_n hx hb dX5_nightOn_244 rfl (lv_at hl 2 rfl) ?_
          refine lv_iload_n hx hb dX5_nightOn_245 rfl (lv_at hl 0 rfl) ?_
          refine lv_bipush (v := 10) hx hb dX5_nightOn_246 (by decide) ?_
          refine lv_irem hx hb dX5_nightOn_248 (by decide) ?_
          refine lv_iv (y := rmd (nI k227) 10) rfl ?_
          refine cl_i (wr := []) (w2 := [(mx, .inr (5, [.int th, .ref mh, .int (nI R), .ref mw, .ref ml, .int (nI G), .ref mp, .ref mq, .ref mb])), (mh, .inl (cy 0, 50, .inl eh_227)), (mw, .inl (cy 0, 6, .inl ew)), (ml, .inl (cy 0, 6, .inl el)), (mp, .inl (cy 0, 72, .inl ((I_X5_nightOn_160 eh ew el ep en eb R G).1))), (mq, .inl (cy 0, 2, .inl ((I_X5_nightOn_160 eh ew el ep en eb R G).2))), (mb, .inl (cy 0, 50, .inl ((F_X5_drive eh ew el eb R).2)))]) (rn_V (As := [.int (rmd (nI k227) 10)]) (rest := []) (ci := 5) (q0 := 0) ⟨hx, hb, hml, hown, hts⟩ (k_X5_lit l D cy _ mx mh mw ml mp mq mb th eh_227 ew el ((I_X5_nightOn_160 eh ew el ep en eb R G).1) ((I_X5_nightOn_160 eh ew el ep en eb R G).2) ((F_X5_drive eh ew el eb R).2) R G (rmd (nI k227) 10) hR hG) (cwV 1 hts gX5_nightOn_X5_lit rfl rfl rfl (by decide +kernel) ⟨Nat.le_of_ble_eq_true rfl, Nat.le_of_ble_eq_true rfl⟩) hN hK hP hD [0, 1, 2, 3, 4, 5, 6] rfl (by decide) rfl rfl rfl rfl hl.1 rfl (Nat.le_of_ble_eq_true rfl) dX5_nightOn_249 ⟨Nat.le_of_ble_eq_true rfl, Nat.le_of_ble_eq_true rfl⟩) hP hD hS hA [0, 1, 2, 3, 4, 5, 6] [] [0, 1, 2, 3, 4, 5, 6] rfl rfl (by decide) (by decide) rfl (by decide) (fun H locs hP hD hS => ?_)
          refine lv_if_ne (tgt := 282) hx hb dX5_nightOn_252 (by decide) (fun c252 => ?_) (fun c252 => ?_)
          · refine lv_iinc (v := (nI (k227 + 1))) (lv' := [(2, .int (nI (k227 + 1))), (1, .int (F_X5_moon (en 0))), (0, .ref mx)]) hx hb dX5_nightOn_282 hl (k := 0) rfl (nI_1 k227) (by decide) rfl (fun ls hl => ?_)
            refine lv_goto (tgt := 227) hx hb dX5_nightOn_285 (by decide) ?_
            exact ih227 (k227 + 1) eh_227 _ _ _ (by omega) (it_step (f := (fun (k : Nat) (v : Nat → Int32) => S_X5_nightOn_227 ew el R k v)) (v := eh_227) (show S_X5_nightOn_227 ew el R k227 eh_227 = eh_227 from by rw [S_X5_nightOn_227, if_neg c241, if_neg c252]) hE227) hP hD hS (lv_sub hl [0, 1, 2] rfl)
          · refine lv_aload_n hx hb dX5_nightOn_255 rfl (lv_at hl 2 rfl) ?_
            refine va_get (D := D) (ci := 5) (v := .ref mh) (C := RX5) (T := TX5) (N := 9) hx hb hts hin5 hown hK hP 0 rfl rfl 1 (by decide) (hts (.fieldLink RX5 9 "FireflyInnModel" "hedge" "[I") (List.mem_of_getElem? (i := 6) rfl)) (fun _ h9 => h9) rfl dX5_nightOn_256 ?_
            refine lv_iload_n hx hb dX5_nightOn_259 rfl (lv_at hl 0 rfl) ?_
            refine lv_bipush (v := 40) hx hb dX5_nightOn_260 (by decide) ?_
            refine lv_aload_n hx hb dX5_nightOn_262 rfl (lv_at hl 2 rfl) ?_
            refine va_get (D := D) (ci := 5) (v := .ref mh) (C := RX5) (T := TX5) (N := 9) hx hb hts hin5 hown hK hP 0 rfl rfl 1 (by decide) (hts (.fieldLink RX5 9 "FireflyInnModel" "hedge" "[I") (List.mem_of_getElem? (i := 6) rfl)) (fun _ h9 => h9) rfl dX5_nightOn_263 ?_
            refine lv_iload_n hx hb dX5_nightOn_266 rfl (lv_at hl 0 rfl) ?_
            refine ial_n (k := k227) hx hb hK hP 1 rfl (by omega) (by decide) dX5_nightOn_267 ?_
            refine lv_aload_n hx hb dX5_nightOn_268 rfl (lv_at hl 2 rfl) ?_
            refine va_get (D := D) (ci := 5) (v := .ref mh) (C := RX5) (T := TX5) (N := 9) hx hb hts hin5 hown hK hP 0 rfl rfl 1 (by decide) (hts (.fieldLink RX5 9 "FireflyInnModel" "hedge" "[I") (List.mem_of_getElem? (i := 6) rfl)) (fun _ h9 => h9) rfl dX5_nightOn_269 ?_
            refine lv_iload_n hx hb dX5_nightOn_272 rfl (lv_at hl 0 rfl) ?_
            refine ial_n (k := k227) hx hb hK hP 1 rfl (by omega) (by decide) dX5_nightOn_273 ?_
            refine lv_bipush (v := 10) hx hb dX5_nightOn_274 (by decide) ?_
            refine lv_idiv hx hb dX5_nightOn_276 (by decide) ?_
            refine lv_iadd hx hb dX5_nightOn_277 ?_
            refine va_mmin (rest := [.int (nI k227), .ref mh]) hx hb (hml.trans hl.1.symm) hown (hts (.methodLink RX5 101 Lib.Math.min.name) (List.mem_of_getElem? (i := 7) rfl)) (hts (.static Lib.Math.min.name) (List.mem_of_getElem? (i := 8) rfl)) (hts (.initialized "java/lang/Math") (List.mem_of_getElem? (i := 9) rfl)) (hts (.code Lib.Math.min.name Lib.Math.min.code 2 (some .int)) (List.mem_of_getElem? (i := 10) rfl)) (Nat.le_of_ble_eq_true rfl) (Nat.le_of_ble_eq_true rfl) (Nat.le_of_ble_eq_true rfl) (Nat.le_of_ble_eq_true rfl) dX5_nightOn_278 ?_
            refine lv_iv (y := (mn 40 ((eh_227 k227) + ((eh_227 k227) / 10)))) rfl ?_
            refine ias_n (k := k227) hx hb hK hP hD hS 1 rfl (by omega) (by decide) dX5_nightOn_281 (fun H locs hP hD hS => ?_)
            have hP : va_P D vwCl [(mx, .inr (5, [.int th, .ref mh, .int (nI R), .ref mw, .ref ml, .int (nI G), .ref mp, .ref mq, .ref mb])), (mh, .inl (cy 0, 50, .inl (upd eh_227 k227 (mn 40 ((eh_227 k227) + ((eh_227 k227) / 10)))))), (mw, .inl (cy 0, 6, .inl ew)), (ml, .inl (cy 0, 6, .inl el)), (mp, .inl (cy 0, 72, .inl ((I_X5_nightOn_160 eh ew el ep en eb R G).1))), (mq, .inl (cy 0, 2, .inl ((I_X5_nightOn_160 eh ew el ep en eb R G).2))), (mb, .inl (cy 0, 50, .inl ((F_X5_drive eh ew el eb R).2)))] H := hP
            have hD : va_D A [(mx, .inr (5, [.int th, .ref mh, .int (nI R), .ref mw, .ref ml, .int (nI G), .ref mp, .ref mq, .ref mb])), (mh, .inl (cy 0, 50, .inl (upd eh_227 k227 (mn 40 ((eh_227 k227) + ((eh_227 k227) / 10)))))), (mw, .inl (cy 0, 6, .inl ew)), (ml, .inl (cy 0, 6, .inl el)), (mp, .inl (cy 0, 72, .inl ((I_X5_nightOn_160 eh ew el ep en eb R G).1))), (mq, .inl (cy 0, 2, .inl ((I_X5_nightOn_160 eh ew el ep en eb R G).2))), (mb, .inl (cy 0, 50, .inl ((F_X5_drive eh ew el eb R).2)))] := hD
            refine lv_iinc (v := (nI (k227 + 1))) (lv' := [(2, .int (nI (k227 + 1))), (1, .int (F_X5_moon (en 0))), (0, .ref mx)]) hx hb dX5_nightOn_282 hl (k := 0) rfl (nI_1 k227) (by decide) rfl (fun ls hl => ?_)
            refine lv_goto (tgt := 227) hx hb dX5_nightOn_285 (by decide) ?_
            exact ih227 (k227 + 1) (upd eh_227 k227 (mn 40 ((eh_227 k227) + ((eh_227 k227) / 10)))) _ _ _ (by omega) (it_step (f := (fun (k : Nat) (v : Nat → Int32) => S_X5_nightOn_227 ew el R k v)) (v := eh_227) (show S_X5_nightOn_227 ew el R k227 eh_227 = (upd eh_227 k227 (mn 40 ((eh_227 k227) + ((eh_227 k227) / 10)))) from by rw [S_X5_nightOn_227, if_neg c241, if_pos c252]) hE227) hP hD hS (lv_sub hl [0, 1, 2] rfl)
    exact lp227 50 0 ((I_X5_nightOn_129 eh ew el ep en eb R G).1) _ _ _ (by omega) hfin227 hP hD hS (lv_sub hl [0, 1, 2] rfl)
  intro H locs ls hP hD hS hl
  subst hfin227
  refine lv_aload_n hx hb dX5_nightOn_288 rfl (lv_at hl 2 rfl) ?_
  refine va_get (D := D) (ci := 5) (v := .ref mq) (C := RX5) (T := TX5) (N := 9) hx hb hts hin5 hown hK hP 0 rfl rfl 7 (by decide) (hts (.fieldLink RX5 22 "FireflyInnModel" "numbers" "[I") (List.mem_of_getElem? (i := 3) rfl)) (fun _ h9 => h9) rfl dX5_nightOn_289 ?_
  refine lv_iconst (v := 0) hx hb dX5_nightOn_292 (by decide) ?_
  refine lv_dup2_11 hx hb dX5_nightOn_293 rfl rfl ?_
  refine ial_n (k := 0) hx hb hK hP 5 rfl (by omega) (by decide) dX5_nightOn_294 ?_
  refine lv_iconst (v := 1) hx hb dX5_nightOn_295 (by decide) ?_
  refine lv_iadd hx hb dX5_nightOn_296 ?_
  refine ias_n (k := 0) hx hb hK hP hD hS 5 rfl (by omega) (by decide) dX5_nightOn_297 (fun H locs hP hD hS => ?_)
  have hP : va_P D vwCl [(mx, .inr (5, [.int th, .ref mh, .int (nI R), .ref mw, .ref ml, .int (nI G), .ref mp, .ref mq, .ref mb])), (mh, .inl (cy 0, 50, .inl (I_X5_nightOn_227 eh ew el ep en eb R G))), (mw, .inl (cy 0, 6, .inl ew)), (ml, .inl (cy 0, 6, .inl el)), (mp, .inl (cy 0, 72, .inl ((I_X5_nightOn_160 eh ew el ep en eb R G).1))), (mq, .inl (cy 0, 2, .inl (upd ((I_X5_nightOn_160 eh ew el ep en eb R G).2) 0 ((((I_X5_nightOn_160 eh ew el ep en eb R G).2) 0) + 1)))), (mb, .inl (cy 0, 50, .inl ((F_X5_drive eh ew el eb R).2)))] H := hP
  have hD : va_D A [(mx, .inr (5, [.int th, .ref mh, .int (nI R), .ref mw, .ref ml, .int (nI G), .ref mp, .ref mq, .ref mb])), (mh, .inl (cy 0, 50, .inl (I_X5_nightOn_227 eh ew el ep en eb R G))), (mw, .inl (cy 0, 6, .inl ew)), (ml, .inl (cy 0, 6, .inl el)), (mp, .inl (cy 0, 72, .inl ((I_X5_nightOn_160 eh ew el ep en eb R G).1))), (mq, .inl (cy 0, 2, .inl (upd ((I_X5_nightOn_160 eh ew el ep en eb R G).2) 0 ((((I_X5_nightOn_160 eh ew el ep en eb R G).2) 0) + 1)))), (mb, .inl (cy 0, 50, .inl ((F_X5_drive eh ew el eb R).2)))] := hD
  subst hQ
  exact en_v (tv := ((I_X5_nightOn_227 eh ew el ep en eb R G), (I_X5_nightOn_160 eh ew el ep en eb R G).1, (upd ((I_X5_nightOn_160 eh ew el ep en eb R G).2) 0 ((((I_X5_nightOn_160 eh ew el ep en eb R G).2) 0) + 1)), (F_X5_drive eh ew el eb R).2)) hx hb hr hlocks (by rw [F_X5_nightOn]) hK (by first | with_reducible exact hP | exact hP) (by first | with_reducible exact hD | exact hD) hS (Nat.le_refl _) (Nat.le_refl _) dX5_nightOn_298
