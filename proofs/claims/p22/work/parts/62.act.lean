theorem nI_z0 {n : Nat} (h : nI n = 0) (h2 : n < 2 ^ 31) : n = 0 := Decidable.byContradiction fun q => nI_ne0 (Nat.pos_of_ne_zero q) h2 h

def F_L_act (R : Nat) (G : Nat) (x : Int32) : Int32 :=
  if (nI G) = 0 then
    if (nI R) = 0 then
      1
    else
      if (nI (bl (shr x 9) 16)) = 0 then
        1
      else
        if (nI (bl (shr x 9) 16)) = 1 then
          1
        else
          if (nI (bl (shr x 9) 16)) = 2 then
            1
          else
            if (nI (bl (shr x 9) 16)) = 3 then
              1
            else
              if (nI (bl (shr x 9) 16)) = 4 then
                1
              else
                if (nI (bl (shr x 9) 16)) = 5 then
                  1
                else
                  if (nI (bl (shr x 9) 16)) = 6 then
                    1
                  else
                    if (nI (bl (shr x 9) 16)) = 7 then
                      1
                    else
                      if (nI (bl (shr x 9) 16)) = 8 then
                        1
                      else
                        if (nI (bl (shr x 9) 16)) = 9 then
                          1
                        else
                          if (nI (bl (shr x 9) 16)) = 10 then
                            1
                          else
                            if (nI (bl (shr x 9) 16)) = 11 then
                              1
                            else
                              if (nI (bl (shr x 9) 16)) = 12 then
                                1
                              else
                                1
  else
    if (nI R) = 0 then
      1
    else
      if (nI (bl (shr x 9) 16)) = 0 then
        1
      else
        if (nI (bl (shr x 9) 16)) = 1 then
          1
        else
          if (nI (bl (shr x 9) 16)) = 2 then
            1
          else
            if (nI (bl (shr x 9) 16)) = 3 then
              1
            else
              if (nI (bl (shr x 9) 16)) = 4 then
                1
              else
                if (nI (bl (shr x 9) 16)) = 5 then
                  1
                else
                  if (nI (bl (shr x 9) 16)) = 6 then
                    1
                  else
                    if (nI (bl (shr x 9) 16)) = 7 then
                      1
                    else
                      if (nI (bl (shr x 9) 16)) = 8 then
                        1
                      else
                        if (nI (bl (shr x 9) 16)) = 9 then
                          1
                        else
                          if (nI (bl (shr x 9) 16)) = 10 then
                            1
                          else
                            if (nI (bl (shr x 9) 16)) = 11 then
                              1
                            else
                              if (nI (bl (shr x 9) 16)) = 12 then
                                1
                              else
                                1
set_option maxHeartbeats 4000000 in
set_option maxRecDepth 100000 in
theorem k_L_act (l : Launch) (D : va_G) (cy : Nat → ClassId) (sz : Nat) (qx qi qh qc qr qw qb qg qR qW qT qS qJ qY ql qiz qhz qcz qrz qwz qbz qgz qRz qWz qTz qSz qJz qYz qlz qm ho ro go : Nat) (ah ar ag : Nat → Nat) (Y : va_W) (nf : Int32) (fc : Nat → Int32) (fw : Nat → Int32) (fb : Nat → Int32) (gR : Nat → Int32) (gW : Nat → Int32) (gT : Nat → Int32) (gS : Nat → Int32) (gJ : Nat → Int32) (gY : Nat → Int32) (fl : Nat → Int32) (ntz : Int32) (nfz : Int32) (fcz : Nat → Int32) (nrz : Int32) (fwz : Nat → Int32) (fbz : Nat → Int32) (ngz : Int32) (gRz : Nat → Int32) (gWz : Nat → Int32) (gTz : Nat → Int32) (gSz : Nat → Int32) (gJz : Nat → Int32) (gYz : Nat → Int32) (flz : Nat → Int32) (sf : Int32) (sh : Nat → Nat → Int32) (sr : Nat → Nat → Int32) (sg : Nat → Nat → Int32) (R : Nat) (G : Nat) (n : Nat) (x : Int32) (hn31 : n < 2 ^ 30) (hRel : Rel R G n (nI n) nf fc (nI R) fw fb (nI G) gR gW gT gS gJ gY (EH sh) (EW sr) (EL sr) (EP sg) (EN (nI n) sf)) : MTa l D cy yL_act wsL_act 4 2 19 86 (((CWX cy qx qi qh qc qr qw qb qg qR qW qT qS qJ qY ql qiz qhz qcz qrz qwz qbz qgz qRz qWz qTz qSz qJz qYz qlz (nI n) nf fc (nI R) fw fb (nI G) gR gW gT gS gJ gY fl ntz nfz fcz nrz fwz fbz ngz gRz gWz gTz gSz gJz gYz flz) ++ [(qm, .inr (5, [.ref ho, .ref ro, .ref go, .int (nI n), .int sf])), (ho, .inl (cy 3, 10, .inr (.inr (.inr (.inr (pf 10 ah)))))), (ro, .inl (cy 3, R, .inr (.inr (.inr (.inr (pf R ar)))))), (go, .inl (cy 3, G, .inr (.inr (.inr (.inr (pf G ag))))))]) ++ (rws cy 10 5 ah sh ++ (rws cy R 2 ar sr ++ (rws cy G 6 ag sg ++ Y)))) sz [.ref qx, .ref qm, .int x] (fun A => QiE D cy (ActP n nf gT gS sf) (ActW cy qx qi qh qc qr qw qb qg qR qW qT qS qJ qY ql qiz qhz qcz qrz qwz qbz qgz qRz qWz qTz qSz qJz qYz qlz qm ho ah Y n nf gT gS fl ntz nfz fcz nrz fwz fbz ngz gRz gWz gTz gSz gJz gYz flz sf) A) := by
  refine ofWT (cc := cL_act) (maxL := 13) (ret := (some .boolean)) (own := RL) (by decide) rfl (Nat.le_of_ble_eq_true rfl) rfl ?_
  intro p e s m args below meth c A ls hx hb hr hml hts hown hlocks hin hN hK hP hD hA hl
  have hS : va_S A s.heap s.heap [] := va_S.rf
  have hl : lv_has ls 13 [(0, .ref qx), (1, .ref qm), (2, .int x)] := hl
  have hin5 : ∀ w ∈ u_ws RX5 TX5 5, w ∈ wsL_act := (fun w h => List.mem_cons_of_mem _ (List.mem_append_left _ (List.mem_append_left _ (List.mem_append_left _ (List.mem_append_left _ (List.mem_append_left _ (List.mem_append_left _ (List.mem_append_left _ (List.mem_append_left _ (List.mem_append_right _ h))))))))))
  have hR := hRel.1
  have hG := hRel.2.1
  have C0 : AC p s m args meth c D cy A := ⟨hx, hb, hr, hml, hts, hown, hlocks, hN, hK, hA⟩
  generalize hQ : MQ below ((fun A => QiE D cy (ActP n nf gT gS sf) (ActW cy qx qi qh qc qr qw qb qg qR qW qT qS qJ qY ql qiz qhz qcz qrz qwz qbz qgz qRz qWz qTz qSz qJz qYz qlz qm ho ah Y n nf gT gS fl ntz nfz fcz nrz fwz fbz ngz gRz gWz gTz gSz gJz gYz flz sf) A) A) args s 2 19 A = Q
  refine lv_aload_n hx hb dL_act_0 rfl (lv_at hl 1 rfl) ?_
  refine va_get (D := D) (ci := 5) (v := .ref ro) (C := RX5) (T := TX5) (N := 5) hx hb hts hin5 hown hK hP 29 rfl rfl 1 (by decide) (hts (.fieldLink RL 9 "FireflyInnLaw$Sim" "rooms" "[[I") (List.mem_of_getElem? (i := 1) rfl)) (fun _ h9 => h9) rfl dL_act_1 ?_
  refine va_alen (v := nI R) hx hb hK hP 31 3 rfl rfl rfl dL_act_4 ?_
  refine lv_istore_n (lv' := [(3, .int (nI R)), (0, .ref qx), (1, .ref qm), (2, .int x)]) hx hb dL_act_5 rfl hl (by decide) rfl (fun ls hl => ?_)
  refine lv_aload_n hx hb dL_act_6 rfl (lv_at hl 2 rfl) ?_
  refine va_get (D := D) (ci := 5) (v := .ref go) (C := RX5) (T := TX5) (N := 5) hx hb hts hin5 hown hK hP 29 rfl rfl 2 (by decide) (hts (.fieldLink RL 15 "FireflyInnLaw$Sim" "guests" "[[I") (List.mem_of_getElem? (i := 2) rfl)) (fun _ h9 => h9) rfl dL_act_7 ?_
  refine va_alen (v := nI G) hx hb hK hP 32 3 rfl rfl rfl dL_act_10 ?_
  refine lv_istore (lv' := [(4, .int (nI G)), (3, .int (nI R)), (0, .ref qx), (1, .ref qm), (2, .int x)]) hx hb dL_act_11 hl (by decide) rfl (fun ls hl => ?_)
  refine lv_iload hx hb dL_act_13 (lv_at hl 0 rfl) ?_
  refine lv_if_ne (tgt := 22) hx hb dL_act_15 (by decide) (fun c15 => ?_) (fun c15 => ?_)
  · refine lv_aload_n hx hb dL_act_22 rfl (lv_at hl 3 rfl) ?_
    refine va_get (D := D) (ci := 5) (v := .ref go) (C := RX5) (T := TX5) (N := 5) hx hb hts hin5 hown hK hP 29 rfl rfl 2 (by decide) (hts (.fieldLink RL 15 "FireflyInnLaw$Sim" "guests" "[[I") (List.mem_of_getElem? (i := 2) rfl)) (fun _ h9 => h9) rfl dL_act_23 ?_
    refine lv_iload_n hx hb dL_act_26 rfl (lv_at hl 4 rfl) ?_
    refine lv_iload hx hb dL_act_27 (lv_at hl 0 rfl) ?_
    refine cl_iQ (S := Unit) (X := ((CWX cy qx qi qh qc qr qw qb qg qR qW qT qS qJ qY ql qiz qhz qcz qrz qwz qbz qgz qRz qWz qTz qSz qJz qYz qlz (nI n) nf fc (nI R) fw fb (nI G) gR gW gT gS gJ gY fl ntz nfz fcz nrz fwz fbz ngz gRz gWz gTz gSz gJz gYz flz) ++ [(qm, .inr (5, [.ref ho, .ref ro, .ref go, .int (nI n), .int sf])), (ho, .inl (cy 3, 10, .inr (.inr (.inr (.inr (pf 10 ah)))))), (ro, .inl (cy 3, R, .inr (.inr (.inr (.inr (pf R ar)))))), (go, .inl (cy 3, G, .inr (.inr (.inr (.inr (pf G ag))))))])) (pl := (rws cy 10 5 ah sh ++ (rws cy R 2 ar sr ++ (rws cy G 6 ag sg ++ Y)))) (wr := ((CWX cy qx qi qh qc qr qw qb qg qR qW qT qS qJ qY ql qiz qhz qcz qrz qwz qbz qgz qRz qWz qTz qSz qJz qYz qlz (nI n) nf fc (nI R) fw fb (nI G) gR gW gT gS gJ gY fl ntz nfz fcz nrz fwz fbz ngz gRz gWz gTz gSz gJz gYz flz) ++ [(qm, .inr (5, [.ref ho, .ref ro, .ref go, .int (nI n), .int sf])), (ho, .inl (cy 3, 10, .inr (.inr (.inr (.inr (pf 10 ah)))))), (ro, .inl (cy 3, R, .inr (.inr (.inr (.inr (pf R ar)))))), (go, .inl (cy 3, G, .inr (.inr (.inr (.inr (pf G ag))))))])) (rn_S (As := [.int x, .int (nI G)]) (rest := [.ref go]) ⟨hx, hb, hml, hown, hts⟩ (k_L_below l D cy _ x G (pos_of c15) (by omega)) (va_cwS 2 hts gL_act_L_below rfl rfl rfl (by decide +kernel) ⟨Nat.le_of_ble_eq_true rfl, Nat.le_of_ble_eq_true rfl⟩) hN hK hP hD [] rfl (by decide) rfl hl.1 rfl (Nat.le_of_ble_eq_true rfl) dL_act_29 ⟨(show 0 + 0 ≤ 2 by omega), (show 0 + 0 ≤ 19 by omega)⟩) hP hD hS hA [] [0, 1, 2, 3, 4, 5, 6, 7, 8, 9, 10, 11, 12, 13, 14, 15, 16, 17, 18, 19, 20, 21, 22, 23, 24, 25, 26, 27, 28, 29, 30, 31, 32] rfl rfl rfl (by decide) (by decide) (fun r9 u9 H locs h9 hP hD hS => ?_)
    have h9 : r9 = (F_L_below x G) := h9
    subst h9
    have hP : va_P D vwCl (((CWX cy qx qi qh qc qr qw qb qg qR qW qT qS qJ qY ql qiz qhz qcz qrz qwz qbz qgz qRz qWz qTz qSz qJz qYz qlz (nI n) nf fc (nI R) fw fb (nI G) gR gW gT gS gJ gY fl ntz nfz fcz nrz fwz fbz ngz gRz gWz gTz gSz gJz gYz flz) ++ [(qm, .inr (5, [.ref ho, .ref ro, .ref go, .int (nI n), .int sf])), (ho, .inl (cy 3, 10, .inr (.inr (.inr (.inr (pf 10 ah)))))), (ro, .inl (cy 3, R, .inr (.inr (.inr (.inr (pf R ar)))))), (go, .inl (cy 3, G, .inr (.inr (.inr (.inr (pf G ag))))))]) ++ (rws cy 10 5 ah sh ++ (rws cy R 2 ar sr ++ (rws cy G 6 ag sg ++ Y)))) H := va_P.part hP [0, 1, 2, 3, 4, 5, 6, 7, 8, 9, 10, 11, 12, 13, 14, 15, 16, 17, 18, 19, 20, 21, 22, 23, 24, 25, 26, 27, 28, 29, 30, 31, 32] rfl
    have hD : va_D A (((CWX cy qx qi qh qc qr qw qb qg qR qW qT qS qJ qY ql qiz qhz qcz qrz qwz qbz qgz qRz qWz qTz qSz qJz qYz qlz (nI n) nf fc (nI R) fw fb (nI G) gR gW gT gS gJ gY fl ntz nfz fcz nrz fwz fbz ngz gRz gWz gTz gSz gJz gYz flz) ++ [(qm, .inr (5, [.ref ho, .ref ro, .ref go, .int (nI n), .int sf])), (ho, .inl (cy 3, 10, .inr (.inr (.inr (.inr (pf 10 ah)))))), (ro, .inl (cy 3, R, .inr (.inr (.inr (.inr (pf R ar)))))), (go, .inl (cy 3, G, .inr (.inr (.inr (.inr (pf G ag))))))]) ++ (rws cy 10 5 ah sh ++ (rws cy R 2 ar sr ++ (rws cy G 6 ag sg ++ Y)))) := va_D.part hD [0, 1, 2, 3, 4, 5, 6, 7, 8, 9, 10, 11, 12, 13, 14, 15, 16, 17, 18, 19, 20, 21, 22, 23, 24, 25, 26, 27, 28, 29, 30, 31, 32] (by decide) rfl
    refine lv_iv (y := nI (bl x G)) rfl ?_
    refine ald_p (n := G) (k := bl x G) hx hb hK hP 32 rfl (bl_lt _ (pos_of c15)) (by omega) dL_act_32 ?_
    refine lv_astore (lv' := [(5, .ref (ag (bl x G))), (4, .int (nI G)), (3, .int (nI R)), (0, .ref qx), (1, .ref qm), (2, .int x)]) hx hb dL_act_33 hl (by decide) rfl (fun ls hl => ?_)
    refine lv_iload_n hx hb dL_act_35 rfl (lv_at hl 2 rfl) ?_
    refine lv_if_ne (tgt := 43) hx hb dL_act_36 (by decide) (fun c36 => ?_) (fun c36 => ?_)
    · refine lv_iload_n hx hb dL_act_43 rfl (lv_at hl 5 rfl) ?_
      refine lv_iconst (v := 3) hx hb dL_act_44 (by decide) ?_
      refine lv_ishr hx hb dL_act_45 ?_
      refine lv_iv (y := (shr x 3)) rfl ?_
      refine lv_iload_n hx hb dL_act_46 rfl (lv_at hl 2 rfl) ?_
      refine cl_iQ (S := Unit) (X := ((CWX cy qx qi qh qc qr qw qb qg qR qW qT qS qJ qY ql qiz qhz qcz qrz qwz qbz qgz qRz qWz qTz qSz qJz qYz qlz (nI n) nf fc (nI R) fw fb (nI G) gR gW gT gS gJ gY fl ntz nfz fcz nrz fwz fbz ngz gRz gWz gTz gSz gJz gYz flz) ++ [(qm, .inr (5, [.ref ho, .ref ro, .ref go, .int (nI n), .int sf])), (ho, .inl (cy 3, 10, .inr (.inr (.inr (.inr (pf 10 ah)))))), (ro, .inl (cy 3, R, .inr (.inr (.inr (.inr (pf R ar)))))), (go, .inl (cy 3, G, .inr (.inr (.inr (.inr (pf G ag))))))])) (pl := (rws cy 10 5 ah sh ++ (rws cy R 2 ar sr ++ (rws cy G 6 ag sg ++ Y)))) (wr := ((CWX cy qx qi qh qc qr qw qb qg qR qW qT qS qJ qY ql qiz qhz qcz qrz qwz qbz qgz qRz qWz qTz qSz qJz qYz qlz (nI n) nf fc (nI R) fw fb (nI G) gR gW gT gS gJ gY fl ntz nfz fcz nrz fwz fbz ngz gRz gWz gTz gSz gJz gYz flz) ++ [(qm, .inr (5, [.ref ho, .ref ro, .ref go, .int (nI n), .int sf])), (ho, .inl (cy 3, 10, .inr (.inr (.inr (.inr (pf 10 ah)))))), (ro, .inl (cy 3, R, .inr (.inr (.inr (.inr (pf R ar)))))), (go, .inl (cy 3, G, .inr (.inr (.inr (.inr (pf G ag))))))])) (rn_S (As := [.int (shr x 3), .int (nI R)]) (rest := []) ⟨hx, hb, hml, hown, hts⟩ (k_L_below l D cy _ (shr x 3) R (pos_of c36) (by omega)) (va_cwS 2 hts gL_act_L_below rfl rfl rfl (by decide +kernel) ⟨Nat.le_of_ble_eq_true rfl, Nat.le_of_ble_eq_true rfl⟩) hN hK hP hD [] rfl (by decide) rfl hl.1 rfl (Nat.le_of_ble_eq_true rfl) dL_act_47 ⟨(show (0 + 0) + 0 ≤ 2 by omega), (show (0 + 0) + 0 ≤ 19 by omega)⟩) hP hD hS hA [] [0, 1, 2, 3, 4, 5, 6, 7, 8, 9, 10, 11, 12, 13, 14, 15, 16, 17, 18, 19, 20, 21, 22, 23, 24, 25, 26, 27, 28, 29, 30, 31, 32] rfl rfl rfl (by decide) (by decide) (fun r9 u9 H locs h9 hP hD hS => ?_)
      have h9 : r9 = (F_L_below (shr x 3) R) := h9
      subst h9
      have hP : va_P D vwCl (((CWX cy qx qi qh qc qr qw qb qg qR qW qT qS qJ qY ql qiz qhz qcz qrz qwz qbz qgz qRz qWz qTz qSz qJz qYz qlz (nI n) nf fc (nI R) fw fb (nI G) gR gW gT gS gJ gY fl ntz nfz fcz nrz fwz fbz ngz gRz gWz gTz gSz gJz gYz flz) ++ [(qm, .inr (5, [.ref ho, .ref ro, .ref go, .int (nI n), .int sf])), (ho, .inl (cy 3, 10, .inr (.inr (.inr (.inr (pf 10 ah)))))), (ro, .inl (cy 3, R, .inr (.inr (.inr (.inr (pf R ar)))))), (go, .inl (cy 3, G, .inr (.inr (.inr (.inr (pf G ag))))))]) ++ (rws cy 10 5 ah sh ++ (rws cy R 2 ar sr ++ (rws cy G 6 ag sg ++ Y)))) H := va_P.part hP [0, 1, 2, 3, 4, 5, 6, 7, 8, 9, 10, 11, 12, 13, 14, 15, 16, 17, 18, 19, 20, 21, 22, 23, 24, 25, 26, 27, 28, 29, 30, 31, 32] rfl
      have hD : va_D A (((CWX cy qx qi qh qc qr qw qb qg qR qW qT qS qJ qY ql qiz qhz qcz qrz qwz qbz qgz qRz qWz qTz qSz qJz qYz qlz (nI n) nf fc (nI R) fw fb (nI G) gR gW gT gS gJ gY fl ntz nfz fcz nrz fwz fbz ngz gRz gWz gTz gSz gJz gYz flz) ++ [(qm, .inr (5, [.ref ho, .ref ro, .ref go, .int (nI n), .int sf])), (ho, .inl (cy 3, 10, .inr (.inr (.inr (.inr (pf 10 ah)))))), (ro, .inl (cy 3, R, .inr (.inr (.inr (.inr (pf R ar)))))), (go, .inl (cy 3, G, .inr (.inr (.inr (.inr (pf G ag))))))]) ++ (rws cy 10 5 ah sh ++ (rws cy R 2 ar sr ++ (rws cy G 6 ag sg ++ Y)))) := va_D.part hD [0, 1, 2, 3, 4, 5, 6, 7, 8, 9, 10, 11, 12, 13, 14, 15, 16, 17, 18, 19, 20, 21, 22, 23, 24, 25, 26, 27, 28, 29, 30, 31, 32] (by decide) rfl
      refine lv_iv (y := nI (bl (shr x 3) R)) rfl ?_
      refine lv_istore (lv' := [(6, .int (nI (bl (shr x 3) R))), (5, .ref (ag (bl x G))), (4, .int (nI G)), (3, .int (nI R)), (0, .ref qx), (1, .ref qm), (2, .int x)]) hx hb dL_act_50 hl (by decide) rfl (fun ls hl => ?_)
      refine lv_iload_n hx hb dL_act_52 rfl (lv_at hl 3 rfl) ?_
      refine lv_if_ne (tgt := 60) hx hb dL_act_53 (by decide) (fun c53 => ?_) (fun c53 => ?_)
      rotate_left
      · exact absurd c53 c36
      refine lv_iload_n hx hb dL_act_60 rfl (lv_at hl 6 rfl) ?_
      refine lv_bipush (v := 9) hx hb dL_act_61 (by decide) ?_
      refine lv_ishr hx hb dL_act_63 ?_
      refine lv_iv (y := (shr x 9)) rfl ?_
      refine lv_bipush (v := 16) hx hb dL_act_64 (by decide) ?_
      refine cl_iQ (S := Unit) (X := ((CWX cy qx qi qh qc qr qw qb qg qR qW qT qS qJ qY ql qiz qhz qcz qrz qwz qbz qgz qRz qWz qTz qSz qJz qYz qlz (nI n) nf fc (nI R) fw fb (nI G) gR gW gT gS gJ gY fl ntz nfz fcz nrz fwz fbz ngz gRz gWz gTz gSz gJz gYz flz) ++ [(qm, .inr (5, [.ref ho, .ref ro, .ref go, .int (nI n), .int sf])), (ho, .inl (cy 3, 10, .inr (.inr (.inr (.inr (pf 10 ah)))))), (ro, .inl (cy 3, R, .inr (.inr (.inr (.inr (pf R ar)))))), (go, .inl (cy 3, G, .inr (.inr (.inr (.inr (pf G ag))))))])) (pl := (rws cy 10 5 ah sh ++ (rws cy R 2 ar sr ++ (rws cy G 6 ag sg ++ Y)))) (wr := ((CWX cy qx qi qh qc qr qw qb qg qR qW qT qS qJ qY ql qiz qhz qcz qrz qwz qbz qgz qRz qWz qTz qSz qJz qYz qlz (nI n) nf fc (nI R) fw fb (nI G) gR gW gT gS gJ gY fl ntz nfz fcz nrz fwz fbz ngz gRz gWz gTz gSz gJz gYz flz) ++ [(qm, .inr (5, [.ref ho, .ref ro, .ref go, .int (nI n), .int sf])), (ho, .inl (cy 3, 10, .inr (.inr (.inr (.inr (pf 10 ah)))))), (ro, .inl (cy 3, R, .inr (.inr (.inr (.inr (pf R ar)))))), (go, .inl (cy 3, G, .inr (.inr (.inr (.inr (pf G ag))))))])) (rn_S (As := [.int (shr x 9), .int 16]) (rest := []) ⟨hx, hb, hml, hown, hts⟩ (k_L_below l D cy _ (shr x 9) 16 (by omega) (by omega)) (va_cwS 2 hts gL_act_L_below rfl rfl rfl (by decide +kernel) ⟨Nat.le_of_ble_eq_true rfl, Nat.le_of_ble_eq_true rfl⟩) hN hK hP hD [] rfl (by decide) rfl hl.1 rfl (Nat.le_of_ble_eq_true rfl) dL_act_66 ⟨(show ((0 + 0) + 0) + 0 ≤ 2 by omega), (show ((0 + 0) + 0) + 0 ≤ 19 by omega)⟩) hP hD hS hA [] [0, 1, 2, 3, 4, 5, 6, 7, 8, 9, 10, 11, 12, 13, 14, 15, 16, 17, 18, 19, 20, 21, 22, 23, 24, 25, 26, 27, 28, 29, 30, 31, 32] rfl rfl rfl (by decide) (by decide) (fun r9 u9 H locs h9 hP hD hS => ?_)
      have h9 : r9 = (F_L_below (shr x 9) 16) := h9
      subst h9
      have hP : va_P D vwCl (((CWX cy qx qi qh qc qr qw qb qg qR qW qT qS qJ qY ql qiz qhz qcz qrz qwz qbz qgz qRz qWz qTz qSz qJz qYz qlz (nI n) nf fc (nI R) fw fb (nI G) gR gW gT gS gJ gY fl ntz nfz fcz nrz fwz fbz ngz gRz gWz gTz gSz gJz gYz flz) ++ [(qm, .inr (5, [.ref ho, .ref ro, .ref go, .int (nI n), .int sf])), (ho, .inl (cy 3, 10, .inr (.inr (.inr (.inr (pf 10 ah)))))), (ro, .inl (cy 3, R, .inr (.inr (.inr (.inr (pf R ar)))))), (go, .inl (cy 3, G, .inr (.inr (.inr (.inr (pf G ag))))))]) ++ (rws cy 10 5 ah sh ++ (rws cy R 2 ar sr ++ (rws cy G 6 ag sg ++ Y)))) H := va_P.part hP [0, 1, 2, 3, 4, 5, 6, 7, 8, 9, 10, 11, 12, 13, 14, 15, 16, 17, 18, 19, 20, 21, 22, 23, 24, 25, 26, 27, 28, 29, 30, 31, 32] rfl
      have hD : va_D A (((CWX cy qx qi qh qc qr qw qb qg qR qW qT qS qJ qY ql qiz qhz qcz qrz qwz qbz qgz qRz qWz qTz qSz qJz qYz qlz (nI n) nf fc (nI R) fw fb (nI G) gR gW gT gS gJ gY fl ntz nfz fcz nrz fwz fbz ngz gRz gWz gTz gSz gJz gYz flz) ++ [(qm, .inr (5, [.ref ho, .ref ro, .ref go, .int (nI n), .int sf])), (ho, .inl (cy 3, 10, .inr (.inr (.inr (.inr (pf 10 ah)))))), (ro, .inl (cy 3, R, .inr (.inr (.inr (.inr (pf R ar)))))), (go, .inl (cy 3, G, .inr (.inr (.inr (.inr (pf G ag))))))]) ++ (rws cy 10 5 ah sh ++ (rws cy R 2 ar sr ++ (rws cy G 6 ag sg ++ Y)))) := va_D.part hD [0, 1, 2, 3, 4, 5, 6, 7, 8, 9, 10, 11, 12, 13, 14, 15, 16, 17, 18, 19, 20, 21, 22, 23, 24, 25, 26, 27, 28, 29, 30, 31, 32] (by decide) rfl
      refine lv_iv (y := nI (bl (shr x 9) 16)) rfl ?_
      by_cases c69_0 : (nI (bl (shr x 9) 16)) = 0
      · refine lv_tableIn (off := 67) (tgt := 136) hx hb dL_act_69 (by rw [c69_0]; decide) (by rw [c69_0]; decide) (by rw [c69_0]; rfl) (by decide) ?_
        subst hQ
        exact ac_open (rm := 0) (gi := 0) C0 hn31 hRel hP hD hS (lv_sub hl [4, 5, 6, 3, 2] rfl)
      by_cases c69_1 : (nI (bl (shr x 9) 16)) = 1
      · refine lv_tableIn (off := 67) (tgt := 136) hx hb dL_act_69 (by rw [c69_1]; decide) (by rw [c69_1]; decide) (by rw [c69_1]; rfl) (by decide) ?_
        subst hQ
        exact ac_open (rm := 0) (gi := 0) C0 hn31 hRel hP hD hS (lv_sub hl [4, 5, 6, 3, 2] rfl)
      by_cases c69_2 : (nI (bl (shr x 9) 16)) = 2
      · refine lv_tableIn (off := 126) (tgt := 195) hx hb dL_act_69 (by rw [c69_2]; decide) (by rw [c69_2]; decide) (by rw [c69_2]; rfl) (by decide) ?_
        subst hQ
        exact ac_lamp (gi := 0) C0 hn31 hRel (bl_lt _ (pos_of c36)) hP hD hS (lv_sub hl [4, 5, 6, 3, 2, 0] rfl)
      by_cases c69_3 : (nI (bl (shr x 9) 16)) = 3
      · refine lv_tableIn (off := 126) (tgt := 195) hx hb dL_act_69 (by rw [c69_3]; decide) (by rw [c69_3]; decide) (by rw [c69_3]; rfl) (by decide) ?_
        subst hQ
        exact ac_lamp (gi := 0) C0 hn31 hRel (bl_lt _ (pos_of c36)) hP hD hS (lv_sub hl [4, 5, 6, 3, 2, 0] rfl)
      by_cases c69_4 : (nI (bl (shr x 9) 16)) = 4
      · refine lv_tableIn (off := 179) (tgt := 248) hx hb dL_act_69 (by rw [c69_4]; decide) (by rw [c69_4]; decide) (by rw [c69_4]; rfl) (by decide) ?_
        subst hQ
        exact ac_swarm (rm := 0) (gi := 0) C0 hn31 hRel hP hD hS (lv_sub hl [4, 5, 6, 3, 2] rfl)
      by_cases c69_5 : (nI (bl (shr x 9) 16)) = 5
      · refine lv_tableIn (off := 179) (tgt := 248) hx hb dL_act_69 (by rw [c69_5]; decide) (by rw [c69_5]; decide) (by rw [c69_5]; rfl) (by decide) ?_
        subst hQ
        exact ac_swarm (rm := 0) (gi := 0) C0 hn31 hRel hP hD hS (lv_sub hl [4, 5, 6, 3, 2] rfl)
      by_cases c69_6 : (nI (bl (shr x 9) 16)) = 6
      · refine lv_tableIn (off := 179) (tgt := 248) hx hb dL_act_69 (by rw [c69_6]; decide) (by rw [c69_6]; decide) (by rw [c69_6]; rfl) (by decide) ?_
        subst hQ
        exact ac_swarm (rm := 0) (gi := 0) C0 hn31 hRel hP hD hS (lv_sub hl [4, 5, 6, 3, 2] rfl)
      by_cases c69_7 : (nI (bl (shr x 9) 16)) = 7
      · refine lv_tableIn (off := 179) (tgt := 248) hx hb dL_act_69 (by rw [c69_7]; decide) (by rw [c69_7]; decide) (by rw [c69_7]; rfl) (by decide) ?_
        subst hQ
        exact ac_swarm (rm := 0) (gi := 0) C0 hn31 hRel hP hD hS (lv_sub hl [4, 5, 6, 3, 2] rfl)
      by_cases c69_8 : (nI (bl (shr x 9) 16)) = 8
      · refine lv_tableIn (off := 255) (tgt := 324) hx hb dL_act_69 (by rw [c69_8]; decide) (by rw [c69_8]; decide) (by rw [c69_8]; rfl) (by decide) ?_
        subst hQ
        exact ac_stay (gi := 0) C0 hn31 hRel (bl_lt _ (pos_of c36)) hP hD hS (lv_sub hl [4, 5, 6, 3, 2, 0] rfl)
      by_cases c69_9 : (nI (bl (shr x 9) 16)) = 9
      · refine lv_tableIn (off := 255) (tgt := 324) hx hb dL_act_69 (by rw [c69_9]; decide) (by rw [c69_9]; decide) (by rw [c69_9]; rfl) (by decide) ?_
        subst hQ
        exact ac_stay (gi := 0) C0 hn31 hRel (bl_lt _ (pos_of c36)) hP hD hS (lv_sub hl [4, 5, 6, 3, 2, 0] rfl)
      by_cases c69_10 : (nI (bl (shr x 9) 16)) = 10
      · refine lv_tableIn (off := 255) (tgt := 324) hx hb dL_act_69 (by rw [c69_10]; decide) (by rw [c69_10]; decide) (by rw [c69_10]; rfl) (by decide) ?_
        subst hQ
        exact ac_stay (gi := 0) C0 hn31 hRel (bl_lt _ (pos_of c36)) hP hD hS (lv_sub hl [4, 5, 6, 3, 2, 0] rfl)
      by_cases c69_11 : (nI (bl (shr x 9) 16)) = 11
      · refine lv_tableIn (off := 358) (tgt := 427) hx hb dL_act_69 (by rw [c69_11]; decide) (by rw [c69_11]; decide) (by rw [c69_11]; rfl) (by decide) ?_
        subst hQ
        exact ac_move C0 hn31 hRel (bl_lt _ (pos_of c36)) (bl_lt _ (pos_of c15)) rfl hP hD hS (lv_sub hl [4, 5, 6, 3, 2, 1, 0] rfl)
      by_cases c69_12 : (nI (bl (shr x 9) 16)) = 12
      · refine lv_tableIn (off := 408) (tgt := 477) hx hb dL_act_69 (by rw [c69_12]; decide) (by rw [c69_12]; decide) (by rw [c69_12]; rfl) (by decide) ?_
        subst hQ
        exact ac_leave C0 hn31 hRel (bl_lt _ (pos_of c15)) rfl hP hD hS (lv_sub hl [4, 5, 6, 3, 2, 1, 0] rfl)
      refine lv_tableOut (tgt := 535) hx hb dL_act_69 (by have := lv_neT (a := 0) c69_0 rfl; have := lv_neT (a := 1) c69_1 rfl; have := lv_neT (a := 2) c69_2 rfl; have := lv_neT (a := 3) c69_3 rfl; have := lv_neT (a := 4) c69_4 rfl; have := lv_neT (a := 5) c69_5 rfl; have := lv_neT (a := 6) c69_6 rfl; have := lv_neT (a := 7) c69_7 rfl; have := lv_neT (a := 8) c69_8 rfl; have := lv_neT (a := 9) c69_9 rfl; have := lv_neT (a := 10) c69_10 rfl; have := lv_neT (a := 11) c69_11 rfl; have := lv_neT (a := 12) c69_12 rfl; omega) (by decide) ?_
      subst hQ
      exact ac_hush C0 hn31 hRel (bl_lt _ (pos_of c15)) rfl hP hD hS (lv_sub hl [4, 5, 6, 3, 2, 1, 0] rfl)
    · refine lv_iconst (v := 0) hx hb dL_act_39 (by decide) ?_
      refine lv_goto (tgt := 50) hx hb dL_act_40 (by decide) ?_
      refine lv_istore (lv' := [(6, .int 0), (5, .ref (ag (bl x G))), (4, .int (nI G)), (3, .int (nI R)), (0, .ref qx), (1, .ref qm), (2, .int x)]) hx hb dL_act_50 hl (by decide) rfl (fun ls hl => ?_)
      refine lv_iload_n hx hb dL_act_52 rfl (lv_at hl 3 rfl) ?_
      refine lv_if_ne (tgt := 60) hx hb dL_act_53 (by decide) (fun c53 => ?_) (fun c53 => ?_)
      · exact absurd c36 c53
      refine lv_iconst (v := 0) hx hb dL_act_56 (by decide) ?_
      refine lv_goto (tgt := 69) hx hb dL_act_57 (by decide) ?_
      refine lv_tableIn (off := 67) (tgt := 136) hx hb dL_act_69 (by decide) (by decide) (by rfl) (by decide) ?_
      subst hQ
      exact ac_open (rm := 0) (gi := 0) C0 hn31 hRel hP hD hS (lv_sub hl [4, 5, 6, 3, 2] rfl)
  · refine lv_null hx hb dL_act_18 ?_
    refine lv_goto (tgt := 33) hx hb dL_act_19 (by decide) ?_
    refine lv_astoreN (lv' := [(5, .null), (4, .int (nI G)), (3, .int (nI R)), (0, .ref qx), (1, .ref qm), (2, .int x)]) hx hb dL_act_33 hl (by decide) rfl (fun ls hl => ?_)
    refine lv_iload_n hx hb dL_act_35 rfl (lv_at hl 2 rfl) ?_
    refine lv_if_ne (tgt := 43) hx hb dL_act_36 (by decide) (fun c36 => ?_) (fun c36 => ?_)
    · refine lv_iload_n hx hb dL_act_43 rfl (lv_at hl 5 rfl) ?_
      refine lv_iconst (v := 3) hx hb dL_act_44 (by decide) ?_
      refine lv_ishr hx hb dL_act_45 ?_
      refine lv_iv (y := (shr x 3)) rfl ?_
      refine lv_iload_n hx hb dL_act_46 rfl (lv_at hl 2 rfl) ?_
      refine cl_iQ (S := Unit) (X := ((CWX cy qx qi qh qc qr qw qb qg qR qW qT qS qJ qY ql qiz qhz qcz qrz qwz qbz qgz qRz qWz qTz qSz qJz qYz qlz (nI n) nf fc (nI R) fw fb (nI G) gR gW gT gS gJ gY fl ntz nfz fcz nrz fwz fbz ngz gRz gWz gTz gSz gJz gYz flz) ++ [(qm, .inr (5, [.ref ho, .ref ro, .ref go, .int (nI n), .int sf])), (ho, .inl (cy 3, 10, .inr (.inr (.inr (.inr (pf 10 ah)))))), (ro, .inl (cy 3, R, .inr (.inr (.inr (.inr (pf R ar)))))), (go, .inl (cy 3, G, .inr (.inr (.inr (.inr (pf G ag))))))])) (pl := (rws cy 10 5 ah sh ++ (rws cy R 2 ar sr ++ (rws cy G 6 ag sg ++ Y)))) (wr := ((CWX cy qx qi qh qc qr qw qb qg qR qW qT qS qJ qY ql qiz qhz qcz qrz qwz qbz qgz qRz qWz qTz qSz qJz qYz qlz (nI n) nf fc (nI R) fw fb (nI G) gR gW gT gS gJ gY fl ntz nfz fcz nrz fwz fbz ngz gRz gWz gTz gSz gJz gYz flz) ++ [(qm, .inr (5, [.ref ho, .ref ro, .ref go, .int (nI n), .int sf])), (ho, .inl (cy 3, 10, .inr (.inr (.inr (.inr (pf 10 ah)))))), (ro, .inl (cy 3, R, .inr (.inr (.inr (.inr (pf R ar)))))), (go, .inl (cy 3, G, .inr (.inr (.inr (.inr (pf G ag))))))])) (rn_S (As := [.int (shr x 3), .int (nI R)]) (rest := []) ⟨hx, hb, hml, hown, hts⟩ (k_L_below l D cy _ (shr x 3) R (pos_of c36) (by omega)) (va_cwS 2 hts gL_act_L_below rfl rfl rfl (by decide +kernel) ⟨Nat.le_of_ble_eq_true rfl, Nat.le_of_ble_eq_true rfl⟩) hN hK hP hD [] rfl (by decide) rfl hl.1 rfl (Nat.le_of_ble_eq_true rfl) dL_act_47 ⟨(show 0 + 0 ≤ 2 by omega), (show 0 + 0 ≤ 19 by omega)⟩) hP hD hS hA [] [0, 1, 2, 3, 4, 5, 6, 7, 8, 9, 10, 11, 12, 13, 14, 15, 16, 17, 18, 19, 20, 21, 22, 23, 24, 25, 26, 27, 28, 29, 30, 31, 32] rfl rfl rfl (by decide) (by decide) (fun r9 u9 H locs h9 hP hD hS => ?_)
      have h9 : r9 = (F_L_below (shr x 3) R) := h9
      subst h9
      have hP : va_P D vwCl (((CWX cy qx qi qh qc qr qw qb qg qR qW qT qS qJ qY ql qiz qhz qcz qrz qwz qbz qgz qRz qWz qTz qSz qJz qYz qlz (nI n) nf fc (nI R) fw fb (nI G) gR gW gT gS gJ gY fl ntz nfz fcz nrz fwz fbz ngz gRz gWz gTz gSz gJz gYz flz) ++ [(qm, .inr (5, [.ref ho, .ref ro, .ref go, .int (nI n), .int sf])), (ho, .inl (cy 3, 10, .inr (.inr (.inr (.inr (pf 10 ah)))))), (ro, .inl (cy 3, R, .inr (.inr (.inr (.inr (pf R ar)))))), (go, .inl (cy 3, G, .inr (.inr (.inr (.inr (pf G ag))))))]) ++ (rws cy 10 5 ah sh ++ (rws cy R 2 ar sr ++ (rws cy G 6 ag sg ++ Y)))) H := va_P.part hP [0, 1, 2, 3, 4, 5, 6, 7, 8, 9, 10, 11, 12, 13, 14, 15, 16, 17, 18, 19, 20, 21, 22, 23, 24, 25, 26, 27, 28, 29, 30, 31, 32] rfl
      have hD : va_D A (((CWX cy qx qi qh qc qr qw qb qg qR qW qT qS qJ qY ql qiz qhz qcz qrz qwz qbz qgz qRz qWz qTz qSz qJz qYz qlz (nI n) nf fc (nI R) fw fb (nI G) gR gW gT gS gJ gY fl ntz nfz fcz nrz fwz fbz ngz gRz gWz gTz gSz gJz gYz flz) ++ [(qm, .inr (5, [.ref ho, .ref ro, .ref go, .int (nI n), .int sf])), (ho, .inl (cy 3, 10, .inr (.inr (.inr (.inr (pf 10 ah)))))), (ro, .inl (cy 3, R, .inr (.inr (.inr (.inr (pf R ar)))))), (go, .inl (cy 3, G, .inr (.inr (.inr (.inr (pf G ag))))))]) ++ (rws cy 10 5 ah sh ++ (rws cy R 2 ar sr ++ (rws cy G 6 ag sg ++ Y)))) := va_D.part hD [0, 1, 2, 3, 4, 5, 6, 7, 8, 9, 10, 11, 12, 13, 14, 15, 16, 17, 18, 19, 20, 21, 22, 23, 24, 25, 26, 27, 28, 29, 30, 31, 32] (by decide) rfl
      refine lv_iv (y := nI (bl (shr x 3) R)) rfl ?_
      refine lv_istore (lv' := [(6, .int (nI (bl (shr x 3) R))), (5, .null), (4, .int (nI G)), (3, .int (nI R)), (0, .ref qx), (1, .ref qm), (2, .int x)]) hx hb dL_act_50 hl (by decide) rfl (fun ls hl => ?_)
      refine lv_iload_n hx hb dL_act_52 rfl (lv_at hl 3 rfl) ?_
      refine lv_if_ne (tgt := 60) hx hb dL_act_53 (by decide) (fun c53 => ?_) (fun c53 => ?_)
      rotate_left
      · exact absurd c53 c36
      refine lv_iload_n hx hb dL_act_60 rfl (lv_at hl 6 rfl) ?_
      refine lv_bipush (v := 9) hx hb dL_act_61 (by decide) ?_
      refine lv_ishr hx hb dL_act_63 ?_
      refine lv_iv (y := (shr x 9)) rfl ?_
      refine lv_bipush (v := 16) hx hb dL_act_64 (by decide) ?_
      refine cl_iQ (S := Unit) (X := ((CWX cy qx qi qh qc qr qw qb qg qR qW qT qS qJ qY ql qiz qhz qcz qrz qwz qbz qgz qRz qWz qTz qSz qJz qYz qlz (nI n) nf fc (nI R) fw fb (nI G) gR gW gT gS gJ gY fl ntz nfz fcz nrz fwz fbz ngz gRz gWz gTz gSz gJz gYz flz) ++ [(qm, .inr (5, [.ref ho, .ref ro, .ref go, .int (nI n), .int sf])), (ho, .inl (cy 3, 10, .inr (.inr (.inr (.inr (pf 10 ah)))))), (ro, .inl (cy 3, R, .inr (.inr (.inr (.inr (pf R ar)))))), (go, .inl (cy 3, G, .inr (.inr (.inr (.inr (pf G ag))))))])) (pl := (rws cy 10 5 ah sh ++ (rws cy R 2 ar sr ++ (rws cy G 6 ag sg ++ Y)))) (wr := ((CWX cy qx qi qh qc qr qw qb qg qR qW qT qS qJ qY ql qiz qhz qcz qrz qwz qbz qgz qRz qWz qTz qSz qJz qYz qlz (nI n) nf fc (nI R) fw fb (nI G) gR gW gT gS gJ gY fl ntz nfz fcz nrz fwz fbz ngz gRz gWz gTz gSz gJz gYz flz) ++ [(qm, .inr (5, [.ref ho, .ref ro, .ref go, .int (nI n), .int sf])), (ho, .inl (cy 3, 10, .inr (.inr (.inr (.inr (pf 10 ah)))))), (ro, .inl (cy 3, R, .inr (.inr (.inr (.inr (pf R ar)))))), (go, .inl (cy 3, G, .inr (.inr (.inr (.inr (pf G ag))))))])) (rn_S (As := [.int (shr x 9), .int 16]) (rest := []) ⟨hx, hb, hml, hown, hts⟩ (k_L_below l D cy _ (shr x 9) 16 (by omega) (by omega)) (va_cwS 2 hts gL_act_L_below rfl rfl rfl (by decide +kernel) ⟨Nat.le_of_ble_eq_true rfl, Nat.le_of_ble_eq_true rfl⟩) hN hK hP hD [] rfl (by decide) rfl hl.1 rfl (Nat.le_of_ble_eq_true rfl) dL_act_66 ⟨(show (0 + 0) + 0 ≤ 2 by omega), (show (0 + 0) + 0 ≤ 19 by omega)⟩) hP hD hS hA [] [0, 1, 2, 3, 4, 5, 6, 7, 8, 9, 10, 11, 12, 13, 14, 15, 16, 17, 18, 19, 20, 21, 22, 23, 24, 25, 26, 27, 28, 29, 30, 31, 32] rfl rfl rfl (by decide) (by decide) (fun r9 u9 H locs h9 hP hD hS => ?_)
      have h9 : r9 = (F_L_below (shr x 9) 16) := h9
      subst h9
      have hP : va_P D vwCl (((CWX cy qx qi qh qc qr qw qb qg qR qW qT qS qJ qY ql qiz qhz qcz qrz qwz qbz qgz qRz qWz qTz qSz qJz qYz qlz (nI n) nf fc (nI R) fw fb (nI G) gR gW gT gS gJ gY fl ntz nfz fcz nrz fwz fbz ngz gRz gWz gTz gSz gJz gYz flz) ++ [(qm, .inr (5, [.ref ho, .ref ro, .ref go, .int (nI n), .int sf])), (ho, .inl (cy 3, 10, .inr (.inr (.inr (.inr (pf 10 ah)))))), (ro, .inl (cy 3, R, .inr (.inr (.inr (.inr (pf R ar)))))), (go, .inl (cy 3, G, .inr (.inr (.inr (.inr (pf G ag))))))]) ++ (rws cy 10 5 ah sh ++ (rws cy R 2 ar sr ++ (rws cy G 6 ag sg ++ Y)))) H := va_P.part hP [0, 1, 2, 3, 4, 5, 6, 7, 8, 9, 10, 11, 12, 13, 14, 15, 16, 17, 18, 19, 20, 21, 22, 23, 24, 25, 26, 27, 28, 29, 30, 31, 32] rfl
      have hD : va_D A (((CWX cy qx qi qh qc qr qw qb qg qR qW qT qS qJ qY ql qiz qhz qcz qrz qwz qbz qgz qRz qWz qTz qSz qJz qYz qlz (nI n) nf fc (nI R) fw fb (nI G) gR gW gT gS gJ gY fl ntz nfz fcz nrz fwz fbz ngz gRz gWz gTz gSz gJz gYz flz) ++ [(qm, .inr (5, [.ref ho, .ref ro, .ref go, .int (nI n), .int sf])), (ho, .inl (cy 3, 10, .inr (.inr (.inr (.inr (pf 10 ah)))))), (ro, .inl (cy 3, R, .inr (.inr (.inr (.inr (pf R ar)))))), (go, .inl (cy 3, G, .inr (.inr (.inr (.inr (pf G ag))))))]) ++ (rws cy 10 5 ah sh ++ (rws cy R 2 ar sr ++ (rws cy G 6 ag sg ++ Y)))) := va_D.part hD [0, 1, 2, 3, 4, 5, 6, 7, 8, 9, 10, 11, 12, 13, 14, 15, 16, 17, 18, 19, 20, 21, 22, 23, 24, 25, 26, 27, 28, 29, 30, 31, 32] (by decide) rfl
      refine lv_iv (y := nI (bl (shr x 9) 16)) rfl ?_
      by_cases c69_0 : (nI (bl (shr x 9) 16)) = 0
      · refine lv_tableIn (off := 67) (tgt := 136) hx hb dL_act_69 (by rw [c69_0]; decide) (by rw [c69_0]; decide) (by rw [c69_0]; rfl) (by decide) ?_
        subst hQ
        exact ac_open (rm := 0) (gi := 0) C0 hn31 hRel hP hD hS (lv_sub hl [4, 5, 6, 3, 2] rfl)
      by_cases c69_1 : (nI (bl (shr x 9) 16)) = 1
      · refine lv_tableIn (off := 67) (tgt := 136) hx hb dL_act_69 (by rw [c69_1]; decide) (by rw [c69_1]; decide) (by rw [c69_1]; rfl) (by decide) ?_
        subst hQ
        exact ac_open (rm := 0) (gi := 0) C0 hn31 hRel hP hD hS (lv_sub hl [4, 5, 6, 3, 2] rfl)
      by_cases c69_2 : (nI (bl (shr x 9) 16)) = 2
      · refine lv_tableIn (off := 126) (tgt := 195) hx hb dL_act_69 (by rw [c69_2]; decide) (by rw [c69_2]; decide) (by rw [c69_2]; rfl) (by decide) ?_
        subst hQ
        exact ac_lamp (gi := 0) C0 hn31 hRel (bl_lt _ (pos_of c36)) hP hD hS (lv_sub hl [4, 5, 6, 3, 2, 0] rfl)
      by_cases c69_3 : (nI (bl (shr x 9) 16)) = 3
      · refine lv_tableIn (off := 126) (tgt := 195) hx hb dL_act_69 (by rw [c69_3]; decide) (by rw [c69_3]; decide) (by rw [c69_3]; rfl) (by decide) ?_
        subst hQ
        exact ac_lamp (gi := 0) C0 hn31 hRel (bl_lt _ (pos_of c36)) hP hD hS (lv_sub hl [4, 5, 6, 3, 2, 0] rfl)
      by_cases c69_4 : (nI (bl (shr x 9) 16)) = 4
      · refine lv_tableIn (off := 179) (tgt := 248) hx hb dL_act_69 (by rw [c69_4]; decide) (by rw [c69_4]; decide) (by rw [c69_4]; rfl) (by decide) ?_
        subst hQ
        exact ac_swarm (rm := 0) (gi := 0) C0 hn31 hRel hP hD hS (lv_sub hl [4, 5, 6, 3, 2] rfl)
      by_cases c69_5 : (nI (bl (shr x 9) 16)) = 5
      · refine lv_tableIn (off := 179) (tgt := 248) hx hb dL_act_69 (by rw [c69_5]; decide) (by rw [c69_5]; decide) (by rw [c69_5]; rfl) (by decide) ?_
        subst hQ
        exact ac_swarm (rm := 0) (gi := 0) C0 hn31 hRel hP hD hS (lv_sub hl [4, 5, 6, 3, 2] rfl)
      by_cases c69_6 : (nI (bl (shr x 9) 16)) = 6
      · refine lv_tableIn (off := 179) (tgt := 248) hx hb dL_act_69 (by rw [c69_6]; decide) (by rw [c69_6]; decide) (by rw [c69_6]; rfl) (by decide) ?_
        subst hQ
        exact ac_swarm (rm := 0) (gi := 0) C0 hn31 hRel hP hD hS (lv_sub hl [4, 5, 6, 3, 2] rfl)
      by_cases c69_7 : (nI (bl (shr x 9) 16)) = 7
      · refine lv_tableIn (off := 179) (tgt := 248) hx hb dL_act_69 (by rw [c69_7]; decide) (by rw [c69_7]; decide) (by rw [c69_7]; rfl) (by decide) ?_
        subst hQ
        exact ac_swarm (rm := 0) (gi := 0) C0 hn31 hRel hP hD hS (lv_sub hl [4, 5, 6, 3, 2] rfl)
      by_cases c69_8 : (nI (bl (shr x 9) 16)) = 8
      · refine lv_tableIn (off := 255) (tgt := 324) hx hb dL_act_69 (by rw [c69_8]; decide) (by rw [c69_8]; decide) (by rw [c69_8]; rfl) (by decide) ?_
        subst hQ
        exact ac_stay (gi := 0) C0 hn31 hRel (bl_lt _ (pos_of c36)) hP hD hS (lv_sub hl [4, 5, 6, 3, 2, 0] rfl)
      by_cases c69_9 : (nI (bl (shr x 9) 16)) = 9
      · refine lv_tableIn (off := 255) (tgt := 324) hx hb dL_act_69 (by rw [c69_9]; decide) (by rw [c69_9]; decide) (by rw [c69_9]; rfl) (by decide) ?_
        subst hQ
        exact ac_stay (gi := 0) C0 hn31 hRel (bl_lt _ (pos_of c36)) hP hD hS (lv_sub hl [4, 5, 6, 3, 2, 0] rfl)
      by_cases c69_10 : (nI (bl (shr x 9) 16)) = 10
      · refine lv_tableIn (off := 255) (tgt := 324) hx hb dL_act_69 (by rw [c69_10]; decide) (by rw [c69_10]; decide) (by rw [c69_10]; rfl) (by decide) ?_
        subst hQ
        exact ac_stay (gi := 0) C0 hn31 hRel (bl_lt _ (pos_of c36)) hP hD hS (lv_sub hl [4, 5, 6, 3, 2, 0] rfl)
      by_cases c69_11 : (nI (bl (shr x 9) 16)) = 11
      · refine lv_tableIn (off := 358) (tgt := 427) hx hb dL_act_69 (by rw [c69_11]; decide) (by rw [c69_11]; decide) (by rw [c69_11]; rfl) (by decide) ?_
        subst hQ
        exact ac_move0 (gi := 0) C0 hn31 hRel (nI_z0 c15 (by omega)) hP hD hS (lv_sub hl [4, 5, 6, 3, 2, 0] rfl)
      by_cases c69_12 : (nI (bl (shr x 9) 16)) = 12
      · refine lv_tableIn (off := 408) (tgt := 477) hx hb dL_act_69 (by rw [c69_12]; decide) (by rw [c69_12]; decide) (by rw [c69_12]; rfl) (by decide) ?_
        subst hQ
        exact ac_leave0 (gi := 0) C0 hn31 hRel (nI_z0 c15 (by omega)) hP hD hS (lv_sub hl [4, 5, 6, 3, 2, 0] rfl)
      refine lv_tableOut (tgt := 535) hx hb dL_act_69 (by have := lv_neT (a := 0) c69_0 rfl; have := lv_neT (a := 1) c69_1 rfl; have := lv_neT (a := 2) c69_2 rfl; have := lv_neT (a := 3) c69_3 rfl; have := lv_neT (a := 4) c69_4 rfl; have := lv_neT (a := 5) c69_5 rfl; have := lv_neT (a := 6) c69_6 rfl; have := lv_neT (a := 7) c69_7 rfl; have := lv_neT (a := 8) c69_8 rfl; have := lv_neT (a := 9) c69_9 rfl; have := lv_neT (a := 10) c69_10 rfl; have := lv_neT (a := 11) c69_11 rfl; have := lv_neT (a := 12) c69_12 rfl; omega) (by decide) ?_
      subst hQ
      exact ac_hush0 (gi := 0) C0 hn31 hRel (nI_z0 c15 (by omega)) hP hD hS (lv_sub hl [4, 5, 6, 3, 2, 0] rfl)
    · refine lv_iconst (v := 0) hx hb dL_act_39 (by decide) ?_
      refine lv_goto (tgt := 50) hx hb dL_act_40 (by decide) ?_
      refine lv_istore (lv' := [(6, .int 0), (5, .null), (4, .int (nI G)), (3, .int (nI R)), (0, .ref qx), (1, .ref qm), (2, .int x)]) hx hb dL_act_50 hl (by decide) rfl (fun ls hl => ?_)
      refine lv_iload_n hx hb dL_act_52 rfl (lv_at hl 3 rfl) ?_
      refine lv_if_ne (tgt := 60) hx hb dL_act_53 (by decide) (fun c53 => ?_) (fun c53 => ?_)
      · exact absurd c36 c53
      refine lv_iconst (v := 0) hx hb dL_act_56 (by decide) ?_
      refine lv_goto (tgt := 69) hx hb dL_act_57 (by decide) ?_
      refine lv_tableIn (off := 67) (tgt := 136) hx hb dL_act_69 (by decide) (by decide) (by rfl) (by decide) ?_
      subst hQ
      exact ac_open (rm := 0) (gi := 0) C0 hn31 hRel hP hD hS (lv_sub hl [4, 5, 6, 3, 2] rfl)
