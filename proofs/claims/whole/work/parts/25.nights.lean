theorem night160 (R : Nat) {G : Nat} {ew : Nat → Int32} (j : Nat) (w : (Nat → Int32) × (Nat → Int32)) (x : Int32) (h : MI R G ew w.1 ∧ w.2 0 = x) : MI R G ew (S_X5_nightOn_160 R j w.1 w.2).1 ∧ (S_X5_nightOn_160 R j w.1 w.2).2 0 = x := by
  unfold S_X5_nightOn_160
  split
  · exact h
  split
  · exact h
  · exact ⟨MI_put h.1 (by omega) (by omega), h.2⟩
theorem night_keeps {R G : Nat} {eh ew el ep en eb : Nat → Int32} (h : MI R G ew ep) : MI R G ew (I_X5_nightOn_160 eh ew el ep en eb R G).1 ∧ (I_X5_nightOn_160 eh ew el ep en eb R G).2 0 = en 0 := by
  have h53 : MI R G ew (I_X5_nightOn_53 eh ew el ep en eb R G) := by
    unfold I_X5_nightOn_53
    refine it_inv (P := fun v => MI R G ew v) (fun j w hw => ?_) _ _ _ h
    show MI R G ew (S_X5_nightOn_53 eh ew el ep en eb R G j w)
    unfold S_X5_nightOn_53
    repeat' split
    all_goals first | exact hw | (unfold C_X5_nightOn_118; exact MI_put hw (by omega) (by omega))
  have h129 : MI R G ew (I_X5_nightOn_129 eh ew el ep en eb R G).2 := by
    unfold I_X5_nightOn_129
    refine it_inv (P := fun (v : (Nat → Int32) × (Nat → Int32)) => MI R G ew v.2) (fun j w hw => ?_) _ _ _ h53
    show MI R G ew (S_X5_nightOn_129 ew j w.1 w.2).2
    unfold S_X5_nightOn_129
    split
    · exact MI_catch hw
    · exact hw
  unfold I_X5_nightOn_160
  exact it_inv (P := fun (v : (Nat → Int32) × (Nat → Int32)) => MI R G ew v.1 ∧ v.2 0 = en 0) (fun j w hw => night160 R j w (en 0) hw) _ _ _ ⟨h129, rfl⟩
theorem MI_night {R G : Nat} {eh ew el ep en eb : Nat → Int32} (h : MI R G ew ep) : MI R G ew (F_X5_nightOn eh ew el ep en eb R G).2.1 := (night_keeps h).1
theorem NT_night {R G : Nat} {eh ew el ep en eb : Nat → Int32} {n : Nat} (h : MI R G ew ep) (hn : en 0 = nI n) : (F_X5_nightOn eh ew el ep en eb R G).2.2.1 0 = nI (n + 1) := by
  show (I_X5_nightOn_160 eh ew el ep en eb R G).2 0 + 1 = nI (n + 1)
  rw [(night_keeps h).2, hn]
  exact nI_1 n

def S_X5_nightsOn_8 (ew : Nat → Int32) (el : Nat → Int32) (R : Nat) (G : Nat) (k8 : Nat) (eh_8 : Nat → Int32) (ep_8 : Nat → Int32) (en_8 : Nat → Int32) (eb_8 : Nat → Int32) : (Nat → Int32) × (Nat → Int32) × (Nat → Int32) × (Nat → Int32) :=
  ((F_X5_nightOn eh_8 ew el ep_8 en_8 eb_8 R G).1, (F_X5_nightOn eh_8 ew el ep_8 en_8 eb_8 R G).2.1, (F_X5_nightOn eh_8 ew el ep_8 en_8 eb_8 R G).2.2.1, (F_X5_nightOn eh_8 ew el ep_8 en_8 eb_8 R G).2.2.2)
def I_X5_nightsOn_8 (eh : Nat → Int32) (ew : Nat → Int32) (el : Nat → Int32) (ep : Nat → Int32) (en : Nat → Int32) (eb : Nat → Int32) (R : Nat) (G : Nat) (nn : Nat) : (Nat → Int32) × (Nat → Int32) × (Nat → Int32) × (Nat → Int32) :=
  it (fun (k : Nat) (v : (Nat → Int32) × (Nat → Int32) × (Nat → Int32) × (Nat → Int32)) => S_X5_nightsOn_8 ew el R G k v.1 v.2.1 v.2.2.1 v.2.2.2) nn 0 (eh, ep, en, eb)
def F_X5_nightsOn (eh : Nat → Int32) (ew : Nat → Int32) (el : Nat → Int32) (ep : Nat → Int32) (en : Nat → Int32) (eb : Nat → Int32) (R : Nat) (G : Nat) (nn : Nat) : Int32 × (Nat → Int32) × (Nat → Int32) × (Nat → Int32) × (Nat → Int32) :=
  (((F_X5_all ((I_X5_nightsOn_8 eh ew el ep en eb R G nn).2.1) G 4) - (F_X5_all ep G 4)), (I_X5_nightsOn_8 eh ew el ep en eb R G nn).1, (I_X5_nightsOn_8 eh ew el ep en eb R G nn).2.1, (I_X5_nightsOn_8 eh ew el ep en eb R G nn).2.2.1, (I_X5_nightsOn_8 eh ew el ep en eb R G nn).2.2.2)
set_option maxHeartbeats 4000000 in
set_option maxRecDepth 100000 in
theorem k_X5_nightsOn (l : Launch) (D : va_G) (cy : Nat → ClassId) (sz : Nat) (mx mh mw ml mp mq mb : Nat) (th : Int32) (eh : Nat → Int32) (ew : Nat → Int32) (el : Nat → Int32) (ep : Nat → Int32) (en : Nat → Int32) (eb : Nat → Int32) (R : Nat) (G : Nat) (nt : Nat) (nn : Nat) (hR : R ≤ 6) (hG : G ≤ 12) (hMI : MI R G ew ep) (hnt : en 0 = nI nt ∧ nt ≤ 100000) (hnn : nn ≤ 60) : MTa l D cy yX5_nightsOn wsX5_nightsOn 5 0 0 113 [(mx, .inr (5, [.int th, .ref mh, .int (nI R), .ref mw, .ref ml, .int (nI G), .ref mp, .ref mq, .ref mb])), (mh, .inl (cy 0, 50, .inl eh)), (mw, .inl (cy 0, 6, .inl ew)), (ml, .inl (cy 0, 6, .inl el)), (mp, .inl (cy 0, 72, .inl ep)), (mq, .inl (cy 0, 2, .inl en)), (mb, .inl (cy 0, 50, .inl eb))] sz [.ref mx, .int (nI nn)] (fun A => QiT D cy (fun (t : Int32 × (Nat → Int32) × (Nat → Int32) × (Nat → Int32) × (Nat → Int32)) => t.1) (fun (t : Int32 × (Nat → Int32) × (Nat → Int32) × (Nat → Int32) × (Nat → Int32)) => [(mx, .inr (5, [.int th, .ref mh, .int (nI R), .ref mw, .ref ml, .int (nI G), .ref mp, .ref mq, .ref mb])), (mh, .inl (cy 0, 50, .inl t.2.1)), (mw, .inl (cy 0, 6, .inl ew)), (ml, .inl (cy 0, 6, .inl el)), (mp, .inl (cy 0, 72, .inl t.2.2.1)), (mq, .inl (cy 0, 2, .inl t.2.2.2.1)), (mb, .inl (cy 0, 50, .inl t.2.2.2.2))]) (F_X5_nightsOn eh ew el ep en eb R G nn) A) := by
  refine ofWT (cc := cX5_nightsOn) (maxL := 4) (ret := (some .int)) (own := RX5) (by decide) rfl (Nat.le_of_ble_eq_true rfl) rfl ?_
  intro p e s m args below meth c A ls hx hb hr hml hts hown hlocks hin hN hK hP hD hA hl
  have hS : va_S A s.heap s.heap [] := va_S.rf
  have hl : lv_has ls 4 [(0, .ref mx), (1, .int (nI nn))] := hl
  generalize hQ : MQ below ((fun A => QiT D cy (fun (t : Int32 × (Nat → Int32) × (Nat → Int32) × (Nat → Int32) × (Nat → Int32)) => t.1) (fun (t : Int32 × (Nat → Int32) × (Nat → Int32) × (Nat → Int32) × (Nat → Int32)) => [(mx, .inr (5, [.int th, .ref mh, .int (nI R), .ref mw, .ref ml, .int (nI G), .ref mp, .ref mq, .ref mb])), (mh, .inl (cy 0, 50, .inl t.2.1)), (mw, .inl (cy 0, 6, .inl ew)), (ml, .inl (cy 0, 6, .inl el)), (mp, .inl (cy 0, 72, .inl t.2.2.1)), (mq, .inl (cy 0, 2, .inl t.2.2.2.1)), (mb, .inl (cy 0, 50, .inl t.2.2.2.2))]) (F_X5_nightsOn eh ew el ep en eb R G nn) A) A) args s 0 0 A = Q
  refine lv_aload_n hx hb dX5_nightsOn_0 rfl (lv_at hl 0 rfl) ?_
  refine lv_iconst (v := 4) hx hb dX5_nightsOn_1 (by decide) ?_
  refine cl_i (wr := []) (w2 := [(mx, .inr (5, [.int th, .ref mh, .int (nI R), .ref mw, .ref ml, .int (nI G), .ref mp, .ref mq, .ref mb])), (mh, .inl (cy 0, 50, .inl eh)), (mw, .inl (cy 0, 6, .inl ew)), (ml, .inl (cy 0, 6, .inl el)), (mp, .inl (cy 0, 72, .inl ep)), (mq, .inl (cy 0, 2, .inl en)), (mb, .inl (cy 0, 50, .inl eb))]) (rn_V (As := [.int 4]) (rest := []) (ci := 5) (q0 := 0) ⟨hx, hb, hml, hown, hts⟩ (k_X5_all l D cy _ mx mh mw ml mp mq mb th eh ew el ep en eb R G 4 hR hG (by omega)) (cwV 1 hts gX5_nightsOn_X5_all rfl rfl rfl (by decide +kernel) ⟨Nat.le_of_ble_eq_true rfl, Nat.le_of_ble_eq_true rfl⟩) hN hK hP hD [0, 1, 2, 3, 4, 5, 6] rfl (by decide) rfl rfl rfl rfl hl.1 rfl (Nat.le_of_ble_eq_true rfl) dX5_nightsOn_2 ⟨Nat.le_of_ble_eq_true rfl, Nat.le_of_ble_eq_true rfl⟩) hP hD hS hA [0, 1, 2, 3, 4, 5, 6] [] [0, 1, 2, 3, 4, 5, 6] rfl rfl (by decide) (by decide) rfl (by decide) (fun H locs hP hD hS => ?_)
  refine lv_istore_n (lv' := [(2, .int (F_X5_all ep G 4)), (0, .ref mx), (1, .int (nI nn))]) hx hb dX5_nightsOn_5 rfl hl (by decide) rfl (fun ls hl => ?_)
  refine lv_iconst (v := 0) hx hb dX5_nightsOn_6 (by decide) ?_
  refine lv_istore_n (lv' := [(3, .int 0), (2, .int (F_X5_all ep G 4)), (0, .ref mx), (1, .int (nI nn))]) hx hb dX5_nightsOn_7 rfl hl (by decide) rfl (fun ls hl => ?_)
  obtain ⟨fin8, hfin8⟩ : ∃ z, (I_X5_nightsOn_8 eh ew el ep en eb R G nn) = z := ⟨_, rfl⟩
  suffices kk8 : ∀ (H : Heap) (locs : List Loc) (ls : Array Slot), va_P D vwCl [(mx, .inr (5, [.int th, .ref mh, .int (nI R), .ref mw, .ref ml, .int (nI G), .ref mp, .ref mq, .ref mb])), (mh, .inl (cy 0, 50, .inl fin8.1)), (mw, .inl (cy 0, 6, .inl ew)), (ml, .inl (cy 0, 6, .inl el)), (mp, .inl (cy 0, 72, .inl fin8.2.1)), (mq, .inl (cy 0, 2, .inl fin8.2.2.1)), (mb, .inl (cy 0, 50, .inl fin8.2.2.2))] H → va_D A [(mx, .inr (5, [.int th, .ref mh, .int (nI R), .ref mw, .ref ml, .int (nI G), .ref mp, .ref mq, .ref mb])), (mh, .inl (cy 0, 50, .inl fin8.1)), (mw, .inl (cy 0, 6, .inl ew)), (ml, .inl (cy 0, 6, .inl el)), (mp, .inl (cy 0, 72, .inl fin8.2.1)), (mq, .inl (cy 0, 2, .inl fin8.2.2.1)), (mb, .inl (cy 0, 50, .inl fin8.2.2.2))] → va_S A s.heap H locs → lv_has ls 4 [(3, .int (nI nn)), (2, .int (F_X5_all ep G 4)), (0, .ref mx), (1, .int (nI nn))] → (MI R G ew fin8.2.1 ∧ fin8.2.2.1 0 = nI (nt + nn)) → W p l e (RM 5 0 0 113) s m args below meth c H locs 0 0 Q (F0 m 23 ls []) by
    have lp8 : ∀ (n8 k8 : Nat) (eh_8 : Nat → Int32) (ep_8 : Nat → Int32) (en_8 : Nat → Int32) (eb_8 : Nat → Int32) (H : Heap) (locs : List Loc) (ls : Array Slot), k8 + n8 = nn → it (fun (k : Nat) (v : (Nat → Int32) × (Nat → Int32) × (Nat → Int32) × (Nat → Int32)) => S_X5_nightsOn_8 ew el R G k v.1 v.2.1 v.2.2.1 v.2.2.2) n8 k8 (eh_8, ep_8, en_8, eb_8) = fin8 → va_P D vwCl [(mx, .inr (5, [.int th, .ref mh, .int (nI R), .ref mw, .ref ml, .int (nI G), .ref mp, .ref mq, .ref mb])), (mh, .inl (cy 0, 50, .inl eh_8)), (mw, .inl (cy 0, 6, .inl ew)), (ml, .inl (cy 0, 6, .inl el)), (mp, .inl (cy 0, 72, .inl ep_8)), (mq, .inl (cy 0, 2, .inl en_8)), (mb, .inl (cy 0, 50, .inl eb_8))] H → va_D A [(mx, .inr (5, [.int th, .ref mh, .int (nI R), .ref mw, .ref ml, .int (nI G), .ref mp, .ref mq, .ref mb])), (mh, .inl (cy 0, 50, .inl eh_8)), (mw, .inl (cy 0, 6, .inl ew)), (ml, .inl (cy 0, 6, .inl el)), (mp, .inl (cy 0, 72, .inl ep_8)), (mq, .inl (cy 0, 2, .inl en_8)), (mb, .inl (cy 0, 50, .inl eb_8))] → va_S A s.heap H locs → lv_has ls 4 [(3, .int (nI k8)), (2, .int (F_X5_all ep G 4)), (0, .ref mx), (1, .int (nI nn))] → (MI R G ew ep_8 ∧ en_8 0 = nI (nt + k8)) → W p l e (RM 5 0 0 113) s m args below meth c H locs 0 0 Q (F0 m 8 ls []) := by
      intro n8
      induction n8 with
      | zero =>
        intro k8 eh_8 ep_8 en_8 eb_8 H locs ls hkn8 hE8 hP hD hS hl hI8
        have hk8 : nn = k8 := by omega
        subst hk8
        have hE8 : (eh_8, ep_8, en_8, eb_8) = fin8 := hE8
        subst hE8
        refine lv_iload_n hx hb dX5_nightsOn_8 rfl (lv_at hl 0 rfl) ?_
        refine lv_iload_n hx hb dX5_nightsOn_9 rfl (lv_at hl 3 rfl) ?_
        refine lv_icmp_ge (tgt := 23) hx hb dX5_nightsOn_10 (by decide) (fun c10 => ?_) (fun c10 => ?_)
        rotate_left
        · exact absurd (nI_le (a := nn) (b := nn) (Nat.le_refl _) (by omega)) c10
        exact kk8 _ _ _ hP hD hS (lv_sub hl [0, 1, 2, 3] rfl) hI8
      | succ n8 ih8 =>
        intro k8 eh_8 ep_8 en_8 eb_8 H locs ls hkn8 hE8 hP hD hS hl hI8
        have hlt8 : k8 < nn := by omega
        refine lv_iload_n hx hb dX5_nightsOn_8 rfl (lv_at hl 0 rfl) ?_
        refine lv_iload_n hx hb dX5_nightsOn_9 rfl (lv_at hl 3 rfl) ?_
        refine lv_icmp_ge (tgt := 23) hx hb dX5_nightsOn_10 (by decide) (fun c10 => ?_) (fun c10 => ?_)
        · exact absurd c10 (nI_ge (a := k8) (b := nn) hlt8 (by omega))
        refine lv_aload_n hx hb dX5_nightsOn_13 rfl (lv_at hl 2 rfl) ?_
        refine cl_v (wr := []) (w2 := [(mx, .inr (5, [.int th, .ref mh, .int (nI R), .ref mw, .ref ml, .int (nI G), .ref mp, .ref mq, .ref mb])), (mh, .inl (cy 0, 50, .inl ((F_X5_nightOn eh_8 ew el ep_8 en_8 eb_8 R G).1))), (mw, .inl (cy 0, 6, .inl ew)), (ml, .inl (cy 0, 6, .inl el)), (mp, .inl (cy 0, 72, .inl ((F_X5_nightOn eh_8 ew el ep_8 en_8 eb_8 R G).2.1))), (mq, .inl (cy 0, 2, .inl ((F_X5_nightOn eh_8 ew el ep_8 en_8 eb_8 R G).2.2.1))), (mb, .inl (cy 0, 50, .inl ((F_X5_nightOn eh_8 ew el ep_8 en_8 eb_8 R G).2.2.2)))]) (rn_V (As := []) (rest := []) (ci := 5) (q0 := 0) ⟨hx, hb, hml, hown, hts⟩ (k_X5_nightOn l D cy _ mx mh mw ml mp mq mb th eh_8 ew el ep_8 en_8 eb_8 R G (nt + k8) hR hG hI8.1 ⟨hI8.2, by omega⟩) (cwV 0 hts gX5_nightsOn_X5_nightOn rfl rfl rfl (by decide +kernel) ⟨Nat.le_of_ble_eq_true rfl, Nat.le_of_ble_eq_true rfl⟩) hN hK hP hD [0, 1, 2, 3, 4, 5, 6] rfl (by decide) rfl rfl rfl rfl hl.1 rfl (Nat.le_of_ble_eq_true rfl) dX5_nightsOn_14 ⟨Nat.le_of_ble_eq_true rfl, Nat.le_of_ble_eq_true rfl⟩) hP hD hS hA [0, 1, 2, 3, 4, 5, 6] [] [0, 1, 2, 3, 4, 5, 6] rfl rfl (by decide) (by decide) rfl (by decide) (fun H locs hP hD hS => ?_)
        refine lv_iinc (v := (nI (k8 + 1))) (lv' := [(3, .int (nI (k8 + 1))), (2, .int (F_X5_all ep G 4)), (0, .ref mx), (1, .int (nI nn))]) hx hb dX5_nightsOn_17 hl (k := 0) rfl (nI_1 k8) (by decide) rfl (fun ls hl => ?_)
        refine lv_goto (tgt := 8) hx hb dX5_nightsOn_20 (by decide) ?_
        exact ih8 (k8 + 1) ((F_X5_nightOn eh_8 ew el ep_8 en_8 eb_8 R G).1) ((F_X5_nightOn eh_8 ew el ep_8 en_8 eb_8 R G).2.1) ((F_X5_nightOn eh_8 ew el ep_8 en_8 eb_8 R G).2.2.1) ((F_X5_nightOn eh_8 ew el ep_8 en_8 eb_8 R G).2.2.2) _ _ _ (by omega) (it_step (f := (fun (k : Nat) (v : (Nat → Int32) × (Nat → Int32) × (Nat → Int32) × (Nat → Int32)) => S_X5_nightsOn_8 ew el R G k v.1 v.2.1 v.2.2.1 v.2.2.2)) (v := (eh_8, ep_8, en_8, eb_8)) (show S_X5_nightsOn_8 ew el R G k8 eh_8 ep_8 en_8 eb_8 = ((F_X5_nightOn eh_8 ew el ep_8 en_8 eb_8 R G).1, (F_X5_nightOn eh_8 ew el ep_8 en_8 eb_8 R G).2.1, (F_X5_nightOn eh_8 ew el ep_8 en_8 eb_8 R G).2.2.1, (F_X5_nightOn eh_8 ew el ep_8 en_8 eb_8 R G).2.2.2) from by rw [S_X5_nightsOn_8]) hE8) hP hD hS (lv_sub hl [0, 1, 2, 3] rfl) ⟨MI_night hI8.1, NT_night hI8.1 hI8.2⟩
    exact lp8 nn 0 eh ep en eb _ _ _ (by omega) hfin8 hP hD hS (lv_sub hl [0, 1, 2, 3] rfl) ⟨hMI, hnt.1⟩
  intro H locs ls hP hD hS hl hI8
  subst hfin8
  refine lv_aload_n hx hb dX5_nightsOn_23 rfl (lv_at hl 2 rfl) ?_
  refine lv_iconst (v := 4) hx hb dX5_nightsOn_24 (by decide) ?_
  refine cl_i (wr := []) (w2 := [(mx, .inr (5, [.int th, .ref mh, .int (nI R), .ref mw, .ref ml, .int (nI G), .ref mp, .ref mq, .ref mb])), (mh, .inl (cy 0, 50, .inl ((I_X5_nightsOn_8 eh ew el ep en eb R G nn).1))), (mw, .inl (cy 0, 6, .inl ew)), (ml, .inl (cy 0, 6, .inl el)), (mp, .inl (cy 0, 72, .inl ((I_X5_nightsOn_8 eh ew el ep en eb R G nn).2.1))), (mq, .inl (cy 0, 2, .inl ((I_X5_nightsOn_8 eh ew el ep en eb R G nn).2.2.1))), (mb, .inl (cy 0, 50, .inl ((I_X5_nightsOn_8 eh ew el ep en eb R G nn).2.2.2)))]) (rn_V (As := [.int 4]) (rest := []) (ci := 5) (q0 := 0) ⟨hx, hb, hml, hown, hts⟩ (k_X5_all l D cy _ mx mh mw ml mp mq mb th ((I_X5_nightsOn_8 eh ew el ep en eb R G nn).1) ew el ((I_X5_nightsOn_8 eh ew el ep en eb R G nn).2.1) ((I_X5_nightsOn_8 eh ew el ep en eb R G nn).2.2.1) ((I_X5_nightsOn_8 eh ew el ep en eb R G nn).2.2.2) R G 4 hR hG (by omega)) (cwV 1 hts gX5_nightsOn_X5_all rfl rfl rfl (by decide +kernel) ⟨Nat.le_of_ble_eq_true rfl, Nat.le_of_ble_eq_true rfl⟩) hN hK hP hD [0, 1, 2, 3, 4, 5, 6] rfl (by decide) rfl rfl rfl rfl hl.1 rfl (Nat.le_of_ble_eq_true rfl) dX5_nightsOn_25 ⟨Nat.le_of_ble_eq_true rfl, Nat.le_of_ble_eq_true rfl⟩) hP hD hS hA [0, 1, 2, 3, 4, 5, 6] [] [0, 1, 2, 3, 4, 5, 6] rfl rfl (by decide) (by decide) rfl (by decide) (fun H locs hP hD hS => ?_)
  refine lv_iload_n hx hb dX5_nightsOn_28 rfl (lv_at hl 1 rfl) ?_
  refine lv_isub hx hb dX5_nightsOn_29 ?_
  subst hQ
  exact en_i (tv := (((F_X5_all ((I_X5_nightsOn_8 eh ew el ep en eb R G nn).2.1) G 4) - (F_X5_all ep G 4)), (I_X5_nightsOn_8 eh ew el ep en eb R G nn).1, (I_X5_nightsOn_8 eh ew el ep en eb R G nn).2.1, (I_X5_nightsOn_8 eh ew el ep en eb R G nn).2.2.1, (I_X5_nightsOn_8 eh ew el ep en eb R G nn).2.2.2)) hx hb hr hlocks (by rw [F_X5_nightsOn]) rfl hK (by first | with_reducible exact hP | exact hP) (by first | with_reducible exact hD | exact hD) hS (Nat.le_refl _) (Nat.le_refl _) dX5_nightsOn_30

def F_X5_pass (eh : Nat → Int32) (ew : Nat → Int32) (el : Nat → Int32) (ep : Nat → Int32) (en : Nat → Int32) (eb : Nat → Int32) (R : Nat) (G : Nat) (nn : Nat) : Int32 × Int32 × (Nat → Int32) × (Nat → Int32) × (Nat → Int32) × (Nat → Int32) :=
  ((F_X5_nightsOn eh ew el ep en eb R G nn).1, 0, (F_X5_nightsOn eh ew el ep en eb R G nn).2.1, (F_X5_nightsOn eh ew el ep en eb R G nn).2.2.1, (F_X5_nightsOn eh ew el ep en eb R G nn).2.2.2.1, (F_X5_nightsOn eh ew el ep en eb R G nn).2.2.2.2)
set_option maxHeartbeats 4000000 in
set_option maxRecDepth 100000 in
theorem k_X5_pass (l : Launch) (D : va_G) (cy : Nat → ClassId) (sz : Nat) (mx mh mw ml mp mq mb : Nat) (th : Int32) (eh : Nat → Int32) (ew : Nat → Int32) (el : Nat → Int32) (ep : Nat → Int32) (en : Nat → Int32) (eb : Nat → Int32) (R : Nat) (G : Nat) (nt : Nat) (nn : Nat) (hR : R ≤ 6) (hG : G ≤ 12) (hMI : MI R G ew ep) (hnt : en 0 = nI nt ∧ nt ≤ 100000) (h1 : 1 ≤ nn) (h2 : nn ≤ 60) : MTa l D cy yX5_pass wsX5_pass 6 0 0 136 [(mx, .inr (5, [.int th, .ref mh, .int (nI R), .ref mw, .ref ml, .int (nI G), .ref mp, .ref mq, .ref mb])), (mh, .inl (cy 0, 50, .inl eh)), (mw, .inl (cy 0, 6, .inl ew)), (ml, .inl (cy 0, 6, .inl el)), (mp, .inl (cy 0, 72, .inl ep)), (mq, .inl (cy 0, 2, .inl en)), (mb, .inl (cy 0, 50, .inl eb))] sz [.ref mx, .int (nI nn)] (fun A => QiT D cy (fun (t : Int32 × Int32 × (Nat → Int32) × (Nat → Int32) × (Nat → Int32) × (Nat → Int32)) => t.1) (fun (t : Int32 × Int32 × (Nat → Int32) × (Nat → Int32) × (Nat → Int32) × (Nat → Int32)) => [(mx, .inr (5, [.int t.2.1, .ref mh, .int (nI R), .ref mw, .ref ml, .int (nI G), .ref mp, .ref mq, .ref mb])), (mh, .inl (cy 0, 50, .inl t.2.2.1)), (mw, .inl (cy 0, 6, .inl ew)), (ml, .inl (cy 0, 6, .inl el)), (mp, .inl (cy 0, 72, .inl t.2.2.2.1)), (mq, .inl (cy 0, 2, .inl t.2.2.2.2.1)), (mb, .inl (cy 0, 50, .inl t.2.2.2.2.2))]) (F_X5_pass eh ew el ep en eb R G nn) A) := by
  refine ofWT (cc := cX5_pass) (maxL := 2) (ret := (some .int)) (own := RX5) (by decide) rfl (Nat.le_of_ble_eq_true rfl) rfl ?_
  intro p e s m args below meth c A ls hx hb hr hml hts hown hlocks hin hN hK hP hD hA hl
  have hS : va_S A s.heap s.heap [] := va_S.rf
  have hl : lv_has ls 2 [(0, .ref mx), (1, .int (nI nn))] := hl
  have hin5 : ∀ w ∈ u_ws RX5 TX5 9, w ∈ wsX5_pass := (fun w h => List.mem_cons_of_mem _ (List.mem_append_right _ h))
  generalize hQ : MQ below ((fun A => QiT D cy (fun (t : Int32 × Int32 × (Nat → Int32) × (Nat → Int32) × (Nat → Int32) × (Nat → Int32)) => t.1) (fun (t : Int32 × Int32 × (Nat → Int32) × (Nat → Int32) × (Nat → Int32) × (Nat → Int32)) => [(mx, .inr (5, [.int t.2.1, .ref mh, .int (nI R), .ref mw, .ref ml, .int (nI G), .ref mp, .ref mq, .ref mb])), (mh, .inl (cy 0, 50, .inl t.2.2.1)), (mw, .inl (cy 0, 6, .inl ew)), (ml, .inl (cy 0, 6, .inl el)), (mp, .inl (cy 0, 72, .inl t.2.2.2.1)), (mq, .inl (cy 0, 2, .inl t.2.2.2.2.1)), (mb, .inl (cy 0, 50, .inl t.2.2.2.2.2))]) (F_X5_pass eh ew el ep en eb R G nn) A) A) args s 0 0 A = Q
  refine lv_aload_n hx hb dX5_pass_0 rfl (lv_at hl 0 rfl) ?_
  refine lv_iconst (v := 0) hx hb dX5_pass_1 (by decide) ?_
  refine va_put (D := D) (ci := 5) (v := .int 0) (ty := .int) (C := RX5) (T := TX5) (N := 9) hx hb hts hin5 tyX5 tyX5_ok nmX5 hown hK hP hD hS 0 rfl rfl 0 (by decide) (hts (.fieldLink RX5 28 "FireflyInnModel" "thrown" "I") (List.mem_of_getElem? (i := 1) rfl)) (fun _ h9 => h9) rfl (by decide +kernel) rfl rfl (Nat.le_of_ble_eq_true rfl) dX5_pass_2 (fun H locs hP hD hS => ?_)
  have hP : va_P D vwCl [(mx, .inr (5, [.int 0, .ref mh, .int (nI R), .ref mw, .ref ml, .int (nI G), .ref mp, .ref mq, .ref mb])), (mh, .inl (cy 0, 50, .inl eh)), (mw, .inl (cy 0, 6, .inl ew)), (ml, .inl (cy 0, 6, .inl el)), (mp, .inl (cy 0, 72, .inl ep)), (mq, .inl (cy 0, 2, .inl en)), (mb, .inl (cy 0, 50, .inl eb))] H := hP
  have hD : va_D A [(mx, .inr (5, [.int 0, .ref mh, .int (nI R), .ref mw, .ref ml, .int (nI G), .ref mp, .ref mq, .ref mb])), (mh, .inl (cy 0, 50, .inl eh)), (mw, .inl (cy 0, 6, .inl ew)), (ml, .inl (cy 0, 6, .inl el)), (mp, .inl (cy 0, 72, .inl ep)), (mq, .inl (cy 0, 2, .inl en)), (mb, .inl (cy 0, 50, .inl eb))] := hD
  refine lv_iload_n hx hb dX5_pass_5 rfl (lv_at hl 1 rfl) ?_
  refine lv_iconst (v := 1) hx hb dX5_pass_6 (by decide) ?_
  refine lv_bipush (v := 60) hx hb dX5_pass_7 (by decide) ?_
  refine cl_i (wr := [(mx, .inr (5, [.int 0, .ref mh, .int (nI R), .ref mw, .ref ml, .int (nI G), .ref mp, .ref mq, .ref mb])), (mh, .inl (cy 0, 50, .inl eh)), (mw, .inl (cy 0, 6, .inl ew)), (ml, .inl (cy 0, 6, .inl el)), (mp, .inl (cy 0, 72, .inl ep)), (mq, .inl (cy 0, 2, .inl en)), (mb, .inl (cy 0, 50, .inl eb))]) (w2 := [(mx, .inr (5, [.int 0, .ref mh, .int (nI R), .ref mw, .ref ml, .int (nI G), .ref mp, .ref mq, .ref mb])), (mh, .inl (cy 0, 50, .inl eh)), (mw, .inl (cy 0, 6, .inl ew)), (ml, .inl (cy 0, 6, .inl el)), (mp, .inl (cy 0, 72, .inl ep)), (mq, .inl (cy 0, 2, .inl en)), (mb, .inl (cy 0, 50, .inl eb))]) (rn_S (As := [.int (nI nn), .int 1, .int 60]) (rest := []) ⟨hx, hb, hml, hown, hts⟩ (k_X5_isIn l D cy _ (nI nn) 1 60) (va_cwS 3 hts gX5_pass_X5_isIn rfl rfl rfl (by decide +kernel) ⟨Nat.le_of_ble_eq_true rfl, Nat.le_of_ble_eq_true rfl⟩) hN hK hP hD [] rfl (by decide) rfl hl.1 rfl (Nat.le_of_ble_eq_true rfl) dX5_pass_9 ⟨Nat.le_of_ble_eq_true rfl, Nat.le_of_ble_eq_true rfl⟩) hP hD hS hA [] [0, 1, 2, 3, 4, 5, 6] [0, 1, 2, 3, 4, 5, 6] rfl rfl (by decide) (by decide) rfl (by decide) (fun H locs hP hD hS => ?_)
  refine lv_if_eq (tgt := 23) hx hb dX5_pass_12 (by decide) (fun c12 => ?_) (fun c12 => ?_)
  · exact absurd c12 (by rw [isIn_mk (v := nI nn) (a := 1) (b := 60) ⟨nI_le (a := 1) h1 (by omega), nI_le (b := 60) h2 (by omega)⟩]; decide)
  refine lv_aload_n hx hb dX5_pass_15 rfl (lv_at hl 0 rfl) ?_
  refine lv_iload_n hx hb dX5_pass_16 rfl (lv_at hl 1 rfl) ?_
  refine cl_i (wr := []) (w2 := [(mx, .inr (5, [.int 0, .ref mh, .int (nI R), .ref mw, .ref ml, .int (nI G), .ref mp, .ref mq, .ref mb])), (mh, .inl (cy 0, 50, .inl ((F_X5_nightsOn eh ew el ep en eb R G nn).2.1))), (mw, .inl (cy 0, 6, .inl ew)), (ml, .inl (cy 0, 6, .inl el)), (mp, .inl (cy 0, 72, .inl ((F_X5_nightsOn eh ew el ep en eb R G nn).2.2.1))), (mq, .inl (cy 0, 2, .inl ((F_X5_nightsOn eh ew el ep en eb R G nn).2.2.2.1))), (mb, .inl (cy 0, 50, .inl ((F_X5_nightsOn eh ew el ep en eb R G nn).2.2.2.2)))]) (rn_V (As := [.int (nI nn)]) (rest := []) (ci := 5) (q0 := 0) ⟨hx, hb, hml, hown, hts⟩ (k_X5_nightsOn l D cy _ mx mh mw ml mp mq mb 0 eh ew el ep en eb R G nt nn hR hG hMI hnt (by omega)) (cwV 1 hts gX5_pass_X5_nightsOn rfl rfl rfl (by decide +kernel) ⟨Nat.le_of_ble_eq_true rfl, Nat.le_of_ble_eq_true rfl⟩) hN hK hP hD [0, 1, 2, 3, 4, 5, 6] rfl (by decide) rfl rfl rfl rfl hl.1 rfl (Nat.le_of_ble_eq_true rfl) dX5_pass_17 ⟨Nat.le_of_ble_eq_true rfl, Nat.le_of_ble_eq_true rfl⟩) hP hD hS hA [0, 1, 2, 3, 4, 5, 6] [] [0, 1, 2, 3, 4, 5, 6] rfl rfl (by decide) (by decide) rfl (by decide) (fun H locs hP hD hS => ?_)
  refine lv_goto (tgt := 28) hx hb dX5_pass_20 (by decide) ?_
  subst hQ
  exact en_i (tv := ((F_X5_nightsOn eh ew el ep en eb R G nn).1, 0, (F_X5_nightsOn eh ew el ep en eb R G nn).2.1, (F_X5_nightsOn eh ew el ep en eb R G nn).2.2.1, (F_X5_nightsOn eh ew el ep en eb R G nn).2.2.2.1, (F_X5_nightsOn eh ew el ep en eb R G nn).2.2.2.2)) hx hb hr hlocks (by rw [F_X5_pass]) rfl hK (by first | with_reducible exact hP | exact hP) (by first | with_reducible exact hD | exact hD) hS (Nat.le_refl _) (Nat.le_refl _) dX5_pass_28

def F_X5_pass_bad  : Int32 × Int32 :=
  ((F_X5_fail 1).1, (F_X5_fail 1).2)
set_option maxHeartbeats 4000000 in
set_option maxRecDepth 100000 in
theorem k_X5_pass_bad (l : Launch) (D : va_G) (cy : Nat → ClassId) (sz : Nat) (mx mh mw ml mp mq mb : Nat) (th : Int32) (eh : Nat → Int32) (ew : Nat → Int32) (el : Nat → Int32) (ep : Nat → Int32) (en : Nat → Int32) (eb : Nat → Int32) (R : Nat) (G : Nat) (nt : Nat) (nights : Int32) (hR : R ≤ 6) (hG : G ≤ 12) (hbad : F_X5_isIn nights 1 60 = 0) : MTa l D cy yX5_pass wsX5_pass 1 0 0 22 [(mx, .inr (5, [.int th, .ref mh, .int (nI R), .ref mw, .ref ml, .int (nI G), .ref mp, .ref mq, .ref mb])), (mh, .inl (cy 0, 50, .inl eh)), (mw, .inl (cy 0, 6, .inl ew)), (ml, .inl (cy 0, 6, .inl el)), (mp, .inl (cy 0, 72, .inl ep)), (mq, .inl (cy 0, 2, .inl en)), (mb, .inl (cy 0, 50, .inl eb))] sz [.ref mx, .int nights] (fun A => QiT D cy (fun (t : Int32 × Int32) => t.1) (fun (t : Int32 × Int32) => [(mx, .inr (5, [.int t.2, .ref mh, .int (nI R), .ref mw, .ref ml, .int (nI G), .ref mp, .ref mq, .ref mb])), (mh, .inl (cy 0, 50, .inl eh)), (mw, .inl (cy 0, 6, .inl ew)), (ml, .inl (cy 0, 6, .inl el)), (mp, .inl (cy 0, 72, .inl ep)), (mq, .inl (cy 0, 2, .inl en)), (mb, .inl (cy 0, 50, .inl eb))]) F_X5_pass_bad A) := by
  refine ofWT (cc := cX5_pass) (maxL := 2) (ret := (some .int)) (own := RX5) (by decide) rfl (Nat.le_of_ble_eq_true rfl) rfl ?_
  intro p e s m args below meth c A ls hx hb hr hml hts hown hlocks hin hN hK hP hD hA hl
  have hS : va_S A s.heap s.heap [] := va_S.rf
  have hl : lv_has ls 2 [(0, .ref mx), (1, .int nights)] := hl
  have hin5 : ∀ w ∈ u_ws RX5 TX5 9, w ∈ wsX5_pass := (fun w h => List.mem_cons_of_mem _ (List.mem_append_right _ h))
  generalize hQ : MQ below ((fun A => QiT D cy (fun (t : Int32 × Int32) => t.1) (fun (t : Int32 × Int32) => [(mx, .inr (5, [.int t.2, .ref mh, .int (nI R), .ref mw, .ref ml, .int (nI G), .ref mp, .ref mq, .ref mb])), (mh, .inl (cy 0, 50, .inl eh)), (mw, .inl (cy 0, 6, .inl ew)), (ml, .inl (cy 0, 6, .inl el)), (mp, .inl (cy 0, 72, .inl ep)), (mq, .inl (cy 0, 2, .inl en)), (mb, .inl (cy 0, 50, .inl eb))]) F_X5_pass_bad A) A) args s 0 0 A = Q
  refine lv_aload_n hx hb dX5_pass_0 rfl (lv_at hl 0 rfl) ?_
  refine lv_iconst (v := 0) hx hb dX5_pass_1 (by decide) ?_
  refine va_put (D := D) (ci := 5) (v := .int 0) (ty := .int) (C := RX5) (T := TX5) (N := 9) hx hb hts hin5 tyX5 tyX5_ok nmX5 hown hK hP hD hS 0 rfl rfl 0 (by decide) (hts (.fieldLink RX5 28 "FireflyInnModel" "thrown" "I") (List.mem_of_getElem? (i := 1) rfl)) (fun _ h9 => h9) rfl (by decide +kernel) rfl rfl (Nat.le_of_ble_eq_true rfl) dX5_pass_2 (fun H locs hP hD hS => ?_)
  have hP : va_P D vwCl [(mx, .inr (5, [.int 0, .ref mh, .int (nI R), .ref mw, .ref ml, .int (nI G), .ref mp, .ref mq, .ref mb])), (mh, .inl (cy 0, 50, .inl eh)), (mw, .inl (cy 0, 6, .inl ew)), (ml, .inl (cy 0, 6, .inl el)), (mp, .inl (cy 0, 72, .inl ep)), (mq, .inl (cy 0, 2, .inl en)), (mb, .inl (cy 0, 50, .inl eb))] H := hP
  have hD : va_D A [(mx, .inr (5, [.int 0, .ref mh, .int (nI R), .ref mw, .ref ml, .int (nI G), .ref mp, .ref mq, .ref mb])), (mh, .inl (cy 0, 50, .inl eh)), (mw, .inl (cy 0, 6, .inl ew)), (ml, .inl (cy 0, 6, .inl el)), (mp, .inl (cy 0, 72, .inl ep)), (mq, .inl (cy 0, 2, .inl en)), (mb, .inl (cy 0, 50, .inl eb))] := hD
  refine lv_iload_n hx hb dX5_pass_5 rfl (lv_at hl 1 rfl) ?_
  refine lv_iconst (v := 1) hx hb dX5_pass_6 (by decide) ?_
  refine lv_bipush (v := 60) hx hb dX5_pass_7 (by decide) ?_
  refine cl_i (wr := [(mx, .inr (5, [.int 0, .ref mh, .int (nI R), .ref mw, .ref ml, .int (nI G), .ref mp, .ref mq, .ref mb])), (mh, .inl (cy 0, 50, .inl eh)), (mw, .inl (cy 0, 6, .inl ew)), (ml, .inl (cy 0, 6, .inl el)), (mp, .inl (cy 0, 72, .inl ep)), (mq, .inl (cy 0, 2, .inl en)), (mb, .inl (cy 0, 50, .inl eb))]) (w2 := [(mx, .inr (5, [.int 0, .ref mh, .int (nI R), .ref mw, .ref ml, .int (nI G), .ref mp, .ref mq, .ref mb])), (mh, .inl (cy 0, 50, .inl eh)), (mw, .inl (cy 0, 6, .inl ew)), (ml, .inl (cy 0, 6, .inl el)), (mp, .inl (cy 0, 72, .inl ep)), (mq, .inl (cy 0, 2, .inl en)), (mb, .inl (cy 0, 50, .inl eb))]) (rn_S (As := [.int nights, .int 1, .int 60]) (rest := []) ⟨hx, hb, hml, hown, hts⟩ (k_X5_isIn l D cy _ nights 1 60) (va_cwS 3 hts gX5_pass_X5_isIn rfl rfl rfl (by decide +kernel) ⟨Nat.le_of_ble_eq_true rfl, Nat.le_of_ble_eq_true rfl⟩) hN hK hP hD [] rfl (by decide) rfl hl.1 rfl (Nat.le_of_ble_eq_true rfl) dX5_pass_9 ⟨Nat.le_of_ble_eq_true rfl, Nat.le_of_ble_eq_true rfl⟩) hP hD hS hA [] [0, 1, 2, 3, 4, 5, 6] [0, 1, 2, 3, 4, 5, 6] rfl rfl (by decide) (by decide) rfl (by decide) (fun H locs hP hD hS => ?_)
  refine lv_if_eq (tgt := 23) hx hb dX5_pass_12 (by decide) (fun c12 => ?_) (fun c12 => ?_)
  rotate_left
  · exact absurd hbad c12
  refine lv_aload_n hx hb dX5_pass_23 rfl (lv_at hl 0 rfl) ?_
  refine lv_iconst (v := 1) hx hb dX5_pass_24 (by decide) ?_
  refine cl_i (wr := []) (w2 := [(mx, .inr (5, [.int ((F_X5_fail 1).2), .ref mh, .int (nI R), .ref mw, .ref ml, .int (nI G), .ref mp, .ref mq, .ref mb])), (mh, .inl (cy 0, 50, .inl eh)), (mw, .inl (cy 0, 6, .inl ew)), (ml, .inl (cy 0, 6, .inl el)), (mp, .inl (cy 0, 72, .inl ep)), (mq, .inl (cy 0, 2, .inl en)), (mb, .inl (cy 0, 50, .inl eb))]) (rn_V (As := [.int 1]) (rest := []) (ci := 5) (q0 := 0) ⟨hx, hb, hml, hown, hts⟩ (k_X5_fail l D cy _ mx mh mw ml mp mq mb 0 eh ew el ep en eb R G 1 hR hG) (cwV 1 hts gX5_pass_X5_fail rfl rfl rfl (by decide +kernel) ⟨Nat.le_of_ble_eq_true rfl, Nat.le_of_ble_eq_true rfl⟩) hN hK hP hD [0, 1, 2, 3, 4, 5, 6] rfl (by decide) rfl rfl rfl rfl hl.1 rfl (Nat.le_of_ble_eq_true rfl) dX5_pass_25 ⟨Nat.le_of_ble_eq_true rfl, Nat.le_of_ble_eq_true rfl⟩) hP hD hS hA [0, 1, 2, 3, 4, 5, 6] [] [0, 1, 2, 3, 4, 5, 6] rfl rfl (by decide) (by decide) rfl (by decide) (fun H locs hP hD hS => ?_)
  subst hQ
  exact en_i (tv := ((F_X5_fail 1).1, (F_X5_fail 1).2)) hx hb hr hlocks (by rw [F_X5_pass_bad]) rfl hK (by first | with_reducible exact hP | exact hP) (by first | with_reducible exact hD | exact hD) hS (Nat.le_refl _) (Nat.le_refl _) dX5_pass_28

theorem dark_end {en : Nat → Int32} {nt k : Nat} {most : Int32} (hnt : en 0 = nI nt ∧ nt ≤ 100000) (h : ((en 0).toNatClampNeg + k + 0) % 8 = 0 ∧ k + 0 ≤ 8) (h0 : 0 ≤ most) : F_X5_moon (nI ((en 0).toNatClampNeg + k)) ≤ most := by
  have e : (en 0).toNatClampNeg = nt := by rw [hnt.1, nI_clamp (by omega)]
  rw [e] at h ⊢
  rw [mmoon (by omega)]
  have t : tri (nt + k) = 0 := by unfold tri; rw [if_pos (by omega)]; omega
  rw [t]
  exact h0

def L_X5_dark_22 (en : Nat → Int32) (most : Int32) : Nat → Nat → (Int32 × Int32)
  | 0, k22 =>
    ((nI k22), 0)
  | n22 + 1, k22 =>
    if (F_X5_moon (nI (((en 0).toNatClampNeg) + k22))) ≤ most then
      ((nI k22), 0)
    else
      L_X5_dark_22 en most n22 (k22 + 1)
def F_X5_dark (en : Nat → Int32) (most : Int32) : Int32 × Int32 :=
  if (F_X5_isIn most 0 4) = 0 then
    ((F_X5_fail 1).1, (F_X5_fail 1).2)
  else
    L_X5_dark_22 en most (8 - (en 0).toNatClampNeg % 8) 0
set_option maxHeartbeats 4000000 in
set_option maxRecDepth 100000 in
theorem k_X5_dark (l : Launch) (D : va_G) (cy : Nat → ClassId) (sz : Nat) (mx mh mw ml mp mq mb : Nat) (th : Int32) (eh : Nat → Int32) (ew : Nat → Int32) (el : Nat → Int32) (ep : Nat → Int32) (en : Nat → Int32) (eb : Nat → Int32) (R : Nat) (G : Nat) (nt : Nat) (most : Int32) (hR : R ≤ 6) (hG : G ≤ 12) (hnt : en 0 = nI nt ∧ nt ≤ 100000) : MTa l D cy yX5_dark wsX5_dark 2 0 0 44 [(mx, .inr (5, [.int th, .ref mh, .int (nI R), .ref mw, .ref ml, .int (nI G), .ref mp, .ref mq, .ref mb])), (mh, .inl (cy 0, 50, .inl eh)), (mw, .inl (cy 0, 6, .inl ew)), (ml, .inl (cy 0, 6, .inl el)), (mp, .inl (cy 0, 72, .inl ep)), (mq, .inl (cy 0, 2, .inl en)), (mb, .inl (cy 0, 50, .inl eb))] sz [.ref mx, .int most] (fun A => QiT D cy (fun (t : Int32 × Int32) => t.1) (fun (t : Int32 × Int32) => [(mx, .inr (5, [.int t.2, .ref mh, .int (nI R), .ref mw, .ref ml, .int (nI G), .ref mp, .ref mq, .ref mb])), (mh, .inl (cy 0, 50, .inl eh)), (mw, .inl (cy 0, 6, .inl ew)), (ml, .inl (cy 0, 6, .inl el)), (mp, .inl (cy 0, 72, .inl ep)), (mq, .inl (cy 0, 2, .inl en)), (mb, .inl (cy 0, 50, .inl eb))]) (F_X5_dark en most) A) := by
  refine ofWT (cc := cX5_dark) (maxL := 3) (ret := (some .int)) (own := RX5) (by decide) rfl (Nat.le_of_ble_eq_true rfl) rfl ?_
  intro p e s m args below meth c A ls hx hb hr hml hts hown hlocks hin hN hK hP hD hA hl
  have hS : va_S A s.heap s.heap [] := va_S.rf
  have hl : lv_has ls 3 [(0, .ref mx), (1, .int most)] := hl
  have hin5 : ∀ w ∈ u_ws RX5 TX5 9, w ∈ wsX5_dark := (fun w h => List.mem_cons_of_mem _ (List.mem_append_right _ h))
  generalize hQ : MQ below ((fun A => QiT D cy (fun (t : Int32 × Int32) => t.1) (fun (t : Int32 × Int32) => [(mx, .inr (5, [.int t.2, .ref mh, .int (nI R), .ref mw, .ref ml, .int (nI G), .ref mp, .ref mq, .ref mb])), (mh, .inl (cy 0, 50, .inl eh)), (mw, .inl (cy 0, 6, .inl ew)), (ml, .inl (cy 0, 6, .inl el)), (mp, .inl (cy 0, 72, .inl ep)), (mq, .inl (cy 0, 2, .inl en)), (mb, .inl (cy 0, 50, .inl eb))]) (F_X5_dark en most) A) A) args s 0 0 A = Q
  refine lv_aload_n hx hb dX5_dark_0 rfl (lv_at hl 0 rfl) ?_
  refine lv_iconst (v := 0) hx hb dX5_dark_1 (by decide) ?_
  refine va_put (D := D) (ci := 5) (v := .int 0) (ty := .int) (C := RX5) (T := TX5) (N := 9) hx hb hts hin5 tyX5 tyX5_ok nmX5 hown hK hP hD hS 0 rfl rfl 0 (by decide) (hts (.fieldLink RX5 28 "FireflyInnModel" "thrown" "I") (List.mem_of_getElem? (i := 1) rfl)) (fun _ h9 => h9) rfl (by decide +kernel) rfl rfl (Nat.le_of_ble_eq_true rfl) dX5_dark_2 (fun H locs hP hD hS => ?_)
  have hP : va_P D vwCl [(mx, .inr (5, [.int 0, .ref mh, .int (nI R), .ref mw, .ref ml, .int (nI G), .ref mp, .ref mq, .ref mb])), (mh, .inl (cy 0, 50, .inl eh)), (mw, .inl (cy 0, 6, .inl ew)), (ml, .inl (cy 0, 6, .inl el)), (mp, .inl (cy 0, 72, .inl ep)), (mq, .inl (cy 0, 2, .inl en)), (mb, .inl (cy 0, 50, .inl eb))] H := hP
  have hD : va_D A [(mx, .inr (5, [.int 0, .ref mh, .int (nI R), .ref mw, .ref ml, .int (nI G), .ref mp, .ref mq, .ref mb])), (mh, .inl (cy 0, 50, .inl eh)), (mw, .inl (cy 0, 6, .inl ew)), (ml, .inl (cy 0, 6, .inl el)), (mp, .inl (cy 0, 72, .inl ep)), (mq, .inl (cy 0, 2, .inl en)), (mb, .inl (cy 0, 50, .inl eb))] := hD
  refine lv_iload_n hx hb dX5_dark_5 rfl (lv_at hl 1 rfl) ?_
  refine lv_iconst (v := 0) hx hb dX5_dark_6 (by decide) ?_
  refine lv_iconst (v := 4) hx hb dX5_dark_7 (by decide) ?_
  refine cl_i (wr := [(mx, .inr (5, [.int 0, .ref mh, .int (nI R), .ref mw, .ref ml, .int (nI G), .ref mp, .ref mq, .ref mb])), (mh, .inl (cy 0, 50, .inl eh)), (mw, .inl (cy 0, 6, .inl ew)), (ml, .inl (cy 0, 6, .inl el)), (mp, .inl (cy 0, 72, .inl ep)), (mq, .inl (cy 0, 2, .inl en)), (mb, .inl (cy 0, 50, .inl eb))]) (w2 := [(mx, .inr (5, [.int 0, .ref mh, .int (nI R), .ref mw, .ref ml, .int (nI G), .ref mp, .ref mq, .ref mb])), (mh, .inl (cy 0, 50, .inl eh)), (mw, .inl (cy 0, 6, .inl ew)), (ml, .inl (cy 0, 6, .inl el)), (mp, .inl (cy 0, 72, .inl ep)), (mq, .inl (cy 0, 2, .inl en)), (mb, .inl (cy 0, 50, .inl eb))]) (rn_S (As := [.int most, .int 0, .int 4]) (rest := []) ⟨hx, hb, hml, hown, hts⟩ (k_X5_isIn l D cy _ most 0 4) (va_cwS 3 hts gX5_dark_X5_isIn rfl rfl rfl (by decide +kernel) ⟨Nat.le_of_ble_eq_true rfl, Nat.le_of_ble_eq_true rfl⟩) hN hK hP hD [] rfl (by decide) rfl hl.1 rfl (Nat.le_of_ble_eq_true rfl) dX5_dark_8 ⟨Nat.le_of_ble_eq_true rfl, Nat.le_of_ble_eq_true rfl⟩) hP hD hS hA [] [0, 1, 2, 3, 4, 5, 6] [0, 1, 2, 3, 4, 5, 6] rfl rfl (by decide) (by decide) rfl (by decide) (fun H locs hP hD hS => ?_)
  refine lv_if_ne (tgt := 20) hx hb dX5_dark_11 (by decide) (fun c11 => ?_) (fun c11 => ?_)
  · refine lv_iconst (v := 0) hx hb dX5_dark_20 (by decide) ?_
    refine lv_istore_n (lv' := [(2, .int 0), (0, .ref mx), (1, .int most)]) hx hb dX5_dark_21 rfl hl (by decide) rfl (fun ls hl => ?_)
    have lp22 : ∀ (n22 k22 : Nat) (H : Heap) (locs : List Loc) (ls : Array Slot), ((en 0).toNatClampNeg + k22 + n22) % 8 = 0 ∧ k22 + n22 ≤ 8 → (F_X5_dark en most) = L_X5_dark_22 en most n22 k22 → va_P D vwCl [(mx, .inr (5, [.int 0, .ref mh, .int (nI R), .ref mw, .ref ml, .int (nI G), .ref mp, .ref mq, .ref mb])), (mh, .inl (cy 0, 50, .inl eh)), (mw, .inl (cy 0, 6, .inl ew)), (ml, .inl (cy 0, 6, .inl el)), (mp, .inl (cy 0, 72, .inl ep)), (mq, .inl (cy 0, 2, .inl en)), (mb, .inl (cy 0, 50, .inl eb))] H → va_D A [(mx, .inr (5, [.int 0, .ref mh, .int (nI R), .ref mw, .ref ml, .int (nI G), .ref mp, .ref mq, .ref mb])), (mh, .inl (cy 0, 50, .inl eh)), (mw, .inl (cy 0, 6, .inl ew)), (ml, .inl (cy 0, 6, .inl el)), (mp, .inl (cy 0, 72, .inl ep)), (mq, .inl (cy 0, 2, .inl en)), (mb, .inl (cy 0, 50, .inl eb))] → va_S A s.heap H locs → lv_has ls 3 [(2, .int (nI k22)), (0, .ref mx), (1, .int most)] → W p l e (RM 2 0 0 44) s m args below meth c H locs 0 0 Q (F0 m 22 ls []) := by
      intro n22
      induction n22 with
      | zero =>
        intro k22 H locs ls hkn22 hE22 hP hD hS hl
        refine lv_aload_n hx hb dX5_dark_22 rfl (lv_at hl 1 rfl) ?_
        refine va_get (D := D) (ci := 5) (v := .ref mq) (C := RX5) (T := TX5) (N := 9) hx hb hts hin5 hown hK hP 0 rfl rfl 7 (by decide) (hts (.fieldLink RX5 22 "FireflyInnModel" "numbers" "[I") (List.mem_of_getElem? (i := 2) rfl)) (fun _ h9 => h9) rfl dX5_dark_23 ?_
        refine lv_iconst (v := 0) hx hb dX5_dark_26 (by decide) ?_
        refine ial_n (k := 0) hx hb hK hP 5 rfl (by omega) (by decide) dX5_dark_27 ?_
        refine lv_iv (y := (nI ((en 0).toNatClampNeg))) (by rw [hnt.1, nI_clamp (by omega)]) ?_
        refine lv_iload_n hx hb dX5_dark_28 rfl (lv_at hl 0 rfl) ?_
        refine lv_iadd hx hb dX5_dark_29 ?_
        refine lv_iv (y := (nI (((en 0).toNatClampNeg) + k22))) (nI_add ((en 0).toNatClampNeg) k22) ?_
        refine cl_i (wr := [(mx, .inr (5, [.int 0, .ref mh, .int (nI R), .ref mw, .ref ml, .int (nI G), .ref mp, .ref mq, .ref mb])), (mh, .inl (cy 0, 50, .inl eh)), (mw, .inl (cy 0, 6, .inl ew)), (ml, .inl (cy 0, 6, .inl el)), (mp, .inl (cy 0, 72, .inl ep)), (mq, .inl (cy 0, 2, .inl en)), (mb, .inl (cy 0, 50, .inl eb))]) (w2 := [(mx, .inr (5, [.int 0, .ref mh, .int (nI R), .ref mw, .ref ml, .int (nI G), .ref mp, .ref mq, .ref mb])), (mh, .inl (cy 0, 50, .inl eh)), (mw, .inl (cy 0, 6, .inl ew)), (ml, .inl (cy 0, 6, .inl el)), (mp, .inl (cy 0, 72, .inl ep)), (mq, .inl (cy 0, 2, .inl en)), (mb, .inl (cy 0, 50, .inl eb))]) (rn_S (As := [.int (nI (((en 0).toNatClampNeg) + k22))]) (rest := []) ⟨hx, hb, hml, hown, hts⟩ (k_X5_moon l D cy _ (nI (((en 0).toNatClampNeg) + k22))) (va_cwS 1 hts gX5_dark_X5_moon rfl rfl rfl (by decide +kernel) ⟨Nat.le_of_ble_eq_true rfl, Nat.le_of_ble_eq_true rfl⟩) hN hK hP hD [] rfl (by decide) rfl hl.1 rfl (Nat.le_of_ble_eq_true rfl) dX5_dark_30 ⟨Nat.le_of_ble_eq_true rfl, Nat.le_of_ble_eq_true rfl⟩) hP hD hS hA [] [0, 1, 2, 3, 4, 5, 6] [0, 1, 2, 3, 4, 5, 6] rfl rfl (by decide) (by decide) rfl (by decide) (fun H locs hP hD hS => ?_)
        refine lv_iload_n hx hb dX5_dark_33 rfl (lv_at hl 2 rfl) ?_
        refine lv_icmp_le (tgt := 43) hx hb dX5_dark_34 (by decide) (fun c34 => ?_) (fun c34 => ?_)
        rotate_left
        · exact absurd (dark_end hnt hkn22 (isIn_of c11).1) c34
        refine lv_iload_n hx hb dX5_dark_43 rfl (lv_at hl 0 rfl) ?_
        subst hQ
        exact en_i (tv := ((nI k22), 0)) hx hb hr hlocks (hE22.trans (by rw [L_X5_dark_22])) rfl hK (by first | with_reducible exact hP | exact hP) (by first | with_reducible exact hD | exact hD) hS (Nat.le_refl _) (Nat.le_refl _) dX5_dark_44
      | succ n22 ih22 =>
        intro k22 H locs ls hkn22 hE22 hP hD hS hl
        refine lv_aload_n hx hb dX5_dark_22 rfl (lv_at hl 1 rfl) ?_
        refine va_get (D := D) (ci := 5) (v := .ref mq) (C := RX5) (T := TX5) (N := 9) hx hb hts hin5 hown hK hP 0 rfl rfl 7 (by decide) (hts (.fieldLink RX5 22 "FireflyInnModel" "numbers" "[I") (List.mem_of_getElem? (i := 2) rfl)) (fun _ h9 => h9) rfl dX5_dark_23 ?_
        refine lv_iconst (v := 0) hx hb dX5_dark_26 (by decide) ?_
        refine ial_n (k := 0) hx hb hK hP 5 rfl (by omega) (by decide) dX5_dark_27 ?_
        refine lv_iv (y := (nI ((en 0).toNatClampNeg))) (by rw [hnt.1, nI_clamp (by omega)]) ?_
        refine lv_iload_n hx hb dX5_dark_28 rfl (lv_at hl 0 rfl) ?_
        refine lv_iadd hx hb dX5_dark_29 ?_
        refine lv_iv (y := (nI (((en 0).toNatClampNeg) + k22))) (nI_add ((en 0).toNatClampNeg) k22) ?_
        refine cl_i (wr := [(mx, .inr (5, [.int 0, .ref mh, .int (nI R), .ref mw, .ref ml, .int (nI G), .ref mp, .ref mq, .ref mb])), (mh, .inl (cy 0, 50, .inl eh)), (mw, .inl (cy 0, 6, .inl ew)), (ml, .inl (cy 0, 6, .inl el)), (mp, .inl (cy 0, 72, .inl ep)), (mq, .inl (cy 0, 2, .inl en)), (mb, .inl (cy 0, 50, .inl eb))]) (w2 := [(mx, .inr (5, [.int 0, .ref mh, .int (nI R), .ref mw, .ref ml, .int (nI G), .ref mp, .ref mq, .ref mb])), (mh, .inl (cy 0, 50, .inl eh)), (mw, .inl (cy 0, 6, .inl ew)), (ml, .inl (cy 0, 6, .inl el)), (mp, .inl (cy 0, 72, .inl ep)), (mq, .inl (cy 0, 2, .inl en)), (mb, .inl (cy 0, 50, .inl eb))]) (rn_S (As := [.int (nI (((en 0).toNatClampNeg) + k22))]) (rest := []) ⟨hx, hb, hml, hown, hts⟩ (k_X5_moon l D cy _ (nI (((en 0).toNatClampNeg) + k22))) (va_cwS 1 hts gX5_dark_X5_moon rfl rfl rfl (by decide +kernel) ⟨Nat.le_of_ble_eq_true rfl, Nat.le_of_ble_eq_true rfl⟩) hN hK hP hD [] rfl (by decide) rfl hl.1 rfl (Nat.le_of_ble_eq_true rfl) dX5_dark_30 ⟨Nat.le_of_ble_eq_true rfl, Nat.le_of_ble_eq_true rfl⟩) hP hD hS hA [] [0, 1, 2, 3, 4, 5, 6] [0, 1, 2, 3, 4, 5, 6] rfl rfl (by decide) (by decide) rfl (by decide) (fun H locs hP hD hS => ?_)
        refine lv_iload_n hx hb dX5_dark_33 rfl (lv_at hl 2 rfl) ?_
        refine lv_icmp_le (tgt := 43) hx hb dX5_dark_34 (by decide) (fun c34 => ?_) (fun c34 => ?_)
        · refine lv_iload_n hx hb dX5_dark_43 rfl (lv_at hl 0 rfl) ?_
          subst hQ
          exact en_i (tv := ((nI k22), 0)) hx hb hr hlocks (hE22.trans (by rw [L_X5_dark_22, if_pos c34])) rfl hK (by first | with_reducible exact hP | exact hP) (by first | with_reducible exact hD | exact hD) hS (Nat.le_refl _) (Nat.le_refl _) dX5_dark_44
        · refine lv_iinc (v := (nI (k22 + 1))) (lv' := [(2, .int (nI (k22 + 1))), (0, .ref mx), (1, .int most)]) hx hb dX5_dark_37 hl (k := 0) rfl (nI_1 k22) (by decide) rfl (fun ls hl => ?_)
          refine lv_goto (tgt := 22) hx hb dX5_dark_40 (by decide) ?_
          exact ih22 (k22 + 1)  _ _ _ (by omega) (hE22.trans (by rw [L_X5_dark_22, if_neg c34])) hP hD hS (lv_sub hl [0, 1, 2] rfl)
    exact lp22 (8 - (en 0).toNatClampNeg % 8) 0  _ _ _ (by omega) (by rw [F_X5_dark, if_neg c11]) hP hD hS (lv_sub hl [0, 1, 2] rfl)
  · refine lv_aload_n hx hb dX5_dark_14 rfl (lv_at hl 0 rfl) ?_
    refine lv_iconst (v := 1) hx hb dX5_dark_15 (by decide) ?_
    refine cl_i (wr := []) (w2 := [(mx, .inr (5, [.int ((F_X5_fail 1).2), .ref mh, .int (nI R), .ref mw, .ref ml, .int (nI G), .ref mp, .ref mq, .ref mb])), (mh, .inl (cy 0, 50, .inl eh)), (mw, .inl (cy 0, 6, .inl ew)), (ml, .inl (cy 0, 6, .inl el)), (mp, .inl (cy 0, 72, .inl ep)), (mq, .inl (cy 0, 2, .inl en)), (mb, .inl (cy 0, 50, .inl eb))]) (rn_V (As := [.int 1]) (rest := []) (ci := 5) (q0 := 0) ⟨hx, hb, hml, hown, hts⟩ (k_X5_fail l D cy _ mx mh mw ml mp mq mb 0 eh ew el ep en eb R G 1 hR hG) (cwV 1 hts gX5_dark_X5_fail rfl rfl rfl (by decide +kernel) ⟨Nat.le_of_ble_eq_true rfl, Nat.le_of_ble_eq_true rfl⟩) hN hK hP hD [0, 1, 2, 3, 4, 5, 6] rfl (by decide) rfl rfl rfl rfl hl.1 rfl (Nat.le_of_ble_eq_true rfl) dX5_dark_16 ⟨Nat.le_of_ble_eq_true rfl, Nat.le_of_ble_eq_true rfl⟩) hP hD hS hA [0, 1, 2, 3, 4, 5, 6] [] [0, 1, 2, 3, 4, 5, 6] rfl rfl (by decide) (by decide) rfl (by decide) (fun H locs hP hD hS => ?_)
    subst hQ
    exact en_i (tv := ((F_X5_fail 1).1, (F_X5_fail 1).2)) hx hb hr hlocks (by rw [F_X5_dark, if_pos c11]) rfl hK (by first | with_reducible exact hP | exact hP) (by first | with_reducible exact hD | exact hD) hS (Nat.le_refl _) (Nat.le_refl _) dX5_dark_19
