set_option maxHeartbeats 4000000 in
set_option maxRecDepth 100000 in
theorem law_loop {p : Program} {l : Launch} {e : Env} {s : State} {m : MethodId} {args : Array Value} {below : List Frame} {meth : Method} {c : Code} {Q : State → Prop} {D : va_G} {cy : Nat → ClassId} {A : Nat → Prop} {b L : Nat} {xs : Nat → Int32} {qx qi qh qc qr qw qb qg qR qW qT qS qJ qY ql qiz qhz qcz qrz qwz qbz qgz qRz qWz qTz qSz qJz qYz qlz mx mh mw ml mp mq mb qo : Nat} (hst : l.stackTraces = false) (C0 : LC p s m args c D cy A b L xs) (hL : L ≤ 2048) (hend : ∀ (H : Heap) (locs : List Loc) (ls : Array Slot) (cells slots : Nat), cells ≤ 601024 → slots ≤ 7293034 → va_S A s.heap H locs → W p l e room_1 s m args below meth c H locs cells slots Q (F0 m 1291 ls [])) : ∀ (j k R G n cells slots : Nat) (nt : Int32) (nf : Int32) (fc : Nat → Int32) (nr : Int32) (fw : Nat → Int32) (fb : Nat → Int32) (ng : Int32) (gR : Nat → Int32) (gW : Nat → Int32) (gT : Nat → Int32) (gS : Nat → Int32) (gJ : Nat → Int32) (gY : Nat → Int32) (fl : Nat → Int32) (ntz : Int32) (nfz : Int32) (fcz : Nat → Int32) (nrz : Int32) (fwz : Nat → Int32) (fbz : Nat → Int32) (ngz : Int32) (gRz : Nat → Int32) (gWz : Nat → Int32) (gTz : Nat → Int32) (gSz : Nat → Int32) (gJz : Nat → Int32) (gYz : Nat → Int32) (flz : Nat → Int32) (th : Int32) (eh : Nat → Int32) (ew : Nat → Int32) (el : Nat → Int32) (ep : Nat → Int32) (en : Nat → Int32) (eb : Nat → Int32) (fo : Nat → Int64) (H : Heap) (locs : List Loc) (ls : Array Slot), k + j = L / 4 → cells ≤ 60 + 20 * k → slots ≤ 600 + 200 * k → n ≤ 60 * k → Rel R G n nt nf fc nr fw fb ng gR gW gT gS gJ gY eh ew el ep en → va_P D vwCl (WL cy qx qi qh qc qr qw qb qg qR qW qT qS qJ qY ql qiz qhz qcz qrz qwz qbz qgz qRz qWz qTz qSz qJz qYz qlz mx mh mw ml mp mq mb qo R G nt nf fc nr fw fb ng gR gW gT gS gJ gY fl ntz nfz fcz nrz fwz fbz ngz gRz gWz gTz gSz gJz gYz flz th eh ew el ep en eb fo) H → va_D A (WL cy qx qi qh qc qr qw qb qg qR qW qT qS qJ qY ql qiz qhz qcz qrz qwz qbz qgz qRz qWz qTz qSz qJz qYz qlz mx mh mw ml mp mq mb qo R G nt nf fc nr fw fb ng gR gW gT gS gJ gY fl ntz nfz fcz nrz fwz fbz ngz gRz gWz gTz gSz gJz gYz flz th eh ew el ep en eb fo) → va_S A s.heap H locs → lv_has ls 9 [(0, .ref b), (1, .ref qx), (2, .ref mx), (3, .ref qo), (4, .int (nI (4 * k)))] → W p l e room_1 s m args below meth c H locs cells slots Q (F0 m 23 ls []) := by
  obtain ⟨hx, hb, hml, hown, hts, hN, hSR, hNC, hZ, hK, hX, hbl, hbA, hA⟩ := id C0
  have e4 : (4 : Int32).toInt = 4 := rfl
  have eL : (Int32.ofNat L - 4).toInt = (L : Int) - 4 := by
    have h0 : (Int32.ofNat L).toInt = (L : Int) := nI_toInt (n := L) (by omega)
    rw [i_sub (by rw [h0, e4]; omega) (by rw [h0, e4]; omega), h0, e4]
  intro j
  induction j with
  | zero =>
    intro k R G n cells slots nt nf fc nr fw fb ng gR gW gT gS gJ gY fl ntz nfz fcz nrz fwz fbz ngz gRz gWz gTz gSz gJz gYz flz th eh ew el ep en eb fo H locs ls hkj hc hs hn hRel hP hD hS hl
    refine lv_iload hx hb dL_law_23 (lv_at hl 4 rfl) ?_
    refine lv_aload_n hx hb dL_law_25 rfl (lv_at hl 0 rfl) ?_
    refine va_slen hx hb hX hbl hbA hS dL_law_26 ?_
    refine lv_iconst (v := 4) hx hb dL_law_27 (by decide) ?_
    refine lv_isub hx hb dL_law_28 ?_
    refine lv_icmp_gt (tgt := 1291) hx hb dL_law_29 (by decide) (fun c29 => ?_) (fun c29 => ?_)
    · exact hend H locs ls cells slots (by omega) (by omega) hS
    · exact absurd (by rw [i_lt, eL, nI_toInt (by omega)]; omega) c29
  | succ j ih =>
    intro k R G n cells slots nt nf fc nr fw fb ng gR gW gT gS gJ gY fl ntz nfz fcz nrz fwz fbz ngz gRz gWz gTz gSz gJz gYz flz th eh ew el ep en eb fo H locs ls hkj hc hs hn hRel hP hD hS hl
    refine lv_iload hx hb dL_law_23 (lv_at hl 4 rfl) ?_
    refine lv_aload_n hx hb dL_law_25 rfl (lv_at hl 0 rfl) ?_
    refine va_slen hx hb hX hbl hbA hS dL_law_26 ?_
    refine lv_iconst (v := 4) hx hb dL_law_27 (by decide) ?_
    refine lv_isub hx hb dL_law_28 ?_
    refine lv_icmp_gt (tgt := 1291) hx hb dL_law_29 (by decide) (fun c29 => ?_) (fun c29 => ?_)
    · exact absurd c29 (by rw [i_lt, eL, nI_toInt (by omega)]; omega)
    refine law_call hst C0 (by omega) hL (by omega) (by omega) hRel (by omega) hP hD hS hl ?_
    intro R' G' n' nt' nf' fc' nr' fw' fb' ng' gR' gW' gT' gS' gJ' gY' fl' ntz' nfz' fcz' nrz' fwz' fbz' ngz' gRz' gWz' gTz' gSz' gJz' gYz' flz' th' eh' ew' el' ep' en' eb' fo' H locs ls hP hD hS hl hRel hn9
    refine lv_iinc (v := nI (4 * (k + 1))) (lv' := [(4, .int (nI (4 * (k + 1)))), (0, .ref b), (1, .ref qx), (2, .ref mx), (3, .ref qo)]) hx hb dL_law_1285 hl (k := 4) rfl (nI_add (4 * k) 4) (by decide) rfl (fun ls hl => ?_)
    refine lv_goto (tgt := 23) hx hb dL_law_1288 (by decide) ?_
    exact ih (k + 1) R' G' n' _ _ nt' nf' fc' nr' fw' fb' ng' gR' gW' gT' gS' gJ' gY' fl' ntz' nfz' fcz' nrz' fwz' fbz' ngz' gRz' gWz' gTz' gSz' gJz' gYz' flz' th' eh' ew' el' ep' en' eb' fo' H locs ls (by omega) (by omega) (by omega) (by omega) hRel hP hD hS (lv_sub hl [1, 2, 3, 4, 0] rfl)
