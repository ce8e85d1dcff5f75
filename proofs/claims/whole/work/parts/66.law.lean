set_option maxHeartbeats 4000000 in
set_option maxRecDepth 100000 in
theorem law_call {p : Program} {l : Launch} {e : Env} {s : State} {m : MethodId} {args : Array Value} {below : List Frame} {meth : Method} {c : Code} {H : Heap} {locs : List Loc} {cells slots : Nat} {Q : State → Prop} {D : va_G} {cy : Nat → ClassId} {A : Nat → Prop} {ls : Array Slot} {b L : Nat} {xs : Nat → Int32} {qx qi qh qc qr qw qb qg qR qW qT qS qJ qY ql qiz qhz qcz qrz qwz qbz qgz qRz qWz qTz qSz qJz qYz qlz mx mh mw ml mp mq mb qo k R G n : Nat} {nt : Int32} {nf : Int32} {fc : Nat → Int32} {nr : Int32} {fw : Nat → Int32} {fb : Nat → Int32} {ng : Int32} {gR : Nat → Int32} {gW : Nat → Int32} {gT : Nat → Int32} {gS : Nat → Int32} {gJ : Nat → Int32} {gY : Nat → Int32} {fl : Nat → Int32} {ntz : Int32} {nfz : Int32} {fcz : Nat → Int32} {nrz : Int32} {fwz : Nat → Int32} {fbz : Nat → Int32} {ngz : Int32} {gRz : Nat → Int32} {gWz : Nat → Int32} {gTz : Nat → Int32} {gSz : Nat → Int32} {gJz : Nat → Int32} {gYz : Nat → Int32} {flz : Nat → Int32} {th : Int32} {eh : Nat → Int32} {ew : Nat → Int32} {el : Nat → Int32} {ep : Nat → Int32} {en : Nat → Int32} {eb : Nat → Int32} {fo : Nat → Int64} (hst : l.stackTraces = false) (C0 : LC p s m args c D cy A b L xs) (hk : 4 * k + 4 ≤ L) (hL : L ≤ 2048) (hc : cells + 40 ≤ 601024) (hs : slots + 400 ≤ 7293034) (hRel : Rel R G n nt nf fc nr fw fb ng gR gW gT gS gJ gY eh ew el ep en) (hn : n ≤ 100000) (hP : va_P D vwCl (WL cy qx qi qh qc qr qw qb qg qR qW qT qS qJ qY ql qiz qhz qcz qrz qwz qbz qgz qRz qWz qTz qSz qJz qYz qlz mx mh mw ml mp mq mb qo R G nt nf fc nr fw fb ng gR gW gT gS gJ gY fl ntz nfz fcz nrz fwz fbz ngz gRz gWz gTz gSz gJz gYz flz th eh ew el ep en eb fo) H) (hD : va_D A (WL cy qx qi qh qc qr qw qb qg qR qW qT qS qJ qY ql qiz qhz qcz qrz qwz qbz qgz qRz qWz qTz qSz qJz qYz qlz mx mh mw ml mp mq mb qo R G nt nf fc nr fw fb ng gR gW gT gS gJ gY fl ntz nfz fcz nrz fwz fbz ngz gRz gWz gTz gSz gJz gYz flz th eh ew el ep en eb fo)) (hS : va_S A s.heap H locs) (hl : lv_has ls 9 [(0, .ref b), (1, .ref qx), (2, .ref mx), (3, .ref qo), (4, .int (nI (4 * k)))]) (back : LB p l e s m args below meth c cells slots Q D cy A b k n qx qi qh qc qr qw qb qg qR qW qT qS qJ qY ql qiz qhz qcz qrz qwz qbz qgz qRz qWz qTz qSz qJz qYz qlz mx mh mw ml mp mq mb qo) : W p l e room_1 s m args below meth c H locs cells slots Q (F0 m 32 ls []) := by
  obtain ⟨hx, hb, hml, hown, hts, hN, hSR, hNC, hZ, hK, hX, hbl, hbA, hA⟩ := id C0
  refine lv_aload_n hx hb dL_law_32 rfl (lv_at hl 0 rfl) ?_
  refine lv_iload hx hb dL_law_33 (lv_at hl 4 rfl) ?_
  refine va_sld hx hb hX hbl hbA hS (i := nI (4 * k)) (vp_in_nI (by omega) (by omega)) dL_law_35 ?_
  refine lv_bipush (v := 31) hx hb dL_law_36 (by decide) ?_
  refine lv_iand hx hb dL_law_38 ?_
  obtain ⟨j, hj, ej⟩ := pk_andE (xs (nI (4 * k)).toNatClampNeg) (m := 31) 5 rfl
  refine lv_iv (y := nI j) ej ?_
  by_cases c0 : j = 0
  · subst c0
    refine lv_tableIn (off := 89) (tgt := 128) hx hb dL_law_39 (by decide) (by decide) rfl (by decide) ?_
    exact ls_swarm hst C0 hk hL hc hs hRel hn hP hD hS hl back
  by_cases c1 : j = 1
  · subst c1
    refine lv_tableIn (off := 169) (tgt := 208) hx hb dL_law_39 (by decide) (by decide) rfl (by decide) ?_
    exact ls_cell hst C0 hk hL hc hs hRel hn hP hD hS hl back
  by_cases c2 : j = 2
  · subst c2
    refine lv_tableIn (off := 237) (tgt := 276) hx hb dL_law_39 (by decide) (by decide) rfl (by decide) ?_
    exact ls_open hst C0 hk hL hc hs hRel hn hP hD hS hl back
  by_cases c3 : j = 3
  · subst c3
    refine lv_tableIn (off := 293) (tgt := 332) hx hb dL_law_39 (by decide) (by decide) rfl (by decide) ?_
    exact ls_lamp hst C0 hk hL hc hs hRel hn hP hD hS hl back
  by_cases c4 : j = 4
  · subst c4
    refine lv_tableIn (off := 356) (tgt := 395) hx hb dL_law_39 (by decide) (by decide) rfl (by decide) ?_
    exact ls_room hst C0 hk hL hc hs hRel hn hP hD hS hl back
  by_cases c5 : j = 5
  · subst c5
    refine lv_tableIn (off := 424) (tgt := 463) hx hb dL_law_39 (by decide) (by decide) rfl (by decide) ?_
    exact ls_isLit hst C0 hk hL hc hs hRel hn hP hD hS hl back
  by_cases c6 : j = 6
  · subst c6
    refine lv_tableIn (off := 487) (tgt := 526) hx hb dL_law_39 (by decide) (by decide) rfl (by decide) ?_
    exact ls_stay hst C0 hk hL hc hs hRel hn hP hD hS hl back
  by_cases c7 : j = 7
  · subst c7
    refine lv_tableIn (off := 583) (tgt := 622) hx hb dL_law_39 (by decide) (by decide) rfl (by decide) ?_
    exact ls_move hst C0 hk hL hc hs hRel hn hP hD hS hl back
  by_cases c8 : j = 8
  · subst c8
    refine lv_tableIn (off := 651) (tgt := 690) hx hb dL_law_39 (by decide) (by decide) rfl (by decide) ?_
    exact ls_leave hst C0 hk hL hc hs hRel hn hP hD hS hl back
  by_cases c9 : j = 9
  · subst c9
    refine lv_tableIn (off := 707) (tgt := 746) hx hb dL_law_39 (by decide) (by decide) rfl (by decide) ?_
    exact ls_hush hst C0 hk hL hc hs hRel hn hP hD hS hl back
  by_cases c10 : j = 10
  · subst c10
    refine lv_tableIn (off := 775) (tgt := 814) hx hb dL_law_39 (by decide) (by decide) rfl (by decide) ?_
    exact ls_guest hst C0 hk hL hc hs hRel hn hP hD hS hl back
  by_cases c11 : j = 11
  · subst c11
    refine lv_tableIn (off := 843) (tgt := 882) hx hb dL_law_39 (by decide) (by decide) rfl (by decide) ?_
    exact ls_count hst C0 hk hL hc hs hRel hn hP hD hS hl back
  by_cases c12 : j = 12
  · subst c12
    refine lv_tableIn (off := 899) (tgt := 938) hx hb dL_law_39 (by decide) (by decide) rfl (by decide) ?_
    exact ls_pass hst C0 hk hL hc hs hRel hn hP hD hS hl back
  by_cases c13 : j = 13
  · subst c13
    refine lv_tableIn (off := 955) (tgt := 994) hx hb dL_law_39 (by decide) (by decide) rfl (by decide) ?_
    exact ls_dark hst C0 hk hL hc hs hRel hn hP hD hS hl back
  by_cases c14 : j = 14
  · subst c14
    refine lv_tableIn (off := 1011) (tgt := 1050) hx hb dL_law_39 (by decide) (by decide) rfl (by decide) ?_
    exact ls_foresee hst C0 hk hL hc hs hRel hn hP hD hS hl back
  by_cases c15 : j = 15
  · subst c15
    refine lv_tableIn (off := 1079) (tgt := 1118) hx hb dL_law_39 (by decide) (by decide) rfl (by decide) ?_
    exact ls_advise hst C0 hk hL hc hs hRel hn hP hD hS hl back
  by_cases c16 : j = 16
  · subst c16
    refine lv_tableIn (off := 1135) (tgt := 1174) hx hb dL_law_39 (by decide) (by decide) rfl (by decide) ?_
    exact ls_harm hst C0 hk hL hc hs hRel hn hP hD hS hl back
  by_cases c17 : j = 17
  · subst c17
    refine lv_tableIn (off := 1191) (tgt := 1230) hx hb dL_law_39 (by decide) (by decide) rfl (by decide) ?_
    exact ls_mean hst C0 hk hL hc hs hRel hn hP hD hS hl back
  by_cases c18 : j = 18
  · subst c18
    refine lv_tableIn (off := 1232) (tgt := 1271) hx hb dL_law_39 (by decide) (by decide) rfl (by decide) ?_
    exact ls_digest hst C0 hk hL hc hs hRel hn hP hD hS hl back
  refine lv_tableOut (tgt := 1285) hx hb dL_law_39 (Or.inr (by rw [nI_toInt (by omega)]; omega)) (by decide) ?_
  refine W.widen (k := cells + 20) (n := slots + 200) (by omega) (by omega) ?_
  exact back R G n nt nf fc nr fw fb ng gR gW gT gS gJ gY fl ntz nfz fcz nrz fwz fbz ngz gRz gWz gTz gSz gJz gYz flz th eh ew el ep en eb fo _ _ _ hP hD hS hl hRel (by omega)
