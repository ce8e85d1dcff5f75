set_option maxHeartbeats 4000000 in
set_option maxRecDepth 100000 in
theorem law_loop {p : Program} {l : Launch} {e : Env} {s : State} {m : MethodId} {args : Array Value} {below : List Frame} {meth : Method} {c : Code} {Q : State → Prop} {D : va_G} {cy : Nat → ClassId} {A : Nat → Prop} {b L : Nat} {xs : Nat → Int32} {qx qi qh qc qr qw qb qg qR qW qT qS qJ qY ql qiz qhz qcz qrz qwz qbz qgz qRz qWz qTz qSz qJz qYz qlz qm : Nat} (C0 : LC cL_law 26 wsL_law p s m args c D cy A b L xs) (hL : L ≤ 260) (hend : ∀ (H : Heap) (locs : List Loc) (ls : Array Slot) (cells slots : Nat), cells ≤ 600130 → slots ≤ 7301079 → va_S A s.heap H locs → W p l e room_1 s m args below meth c H locs cells slots Q (F0 m 939 ls [.int 1])) :
    ∀ (j k : Nat), k + j = 36 → ∀ (n : Nat) (ho : Nat) (ro : Nat) (go : Nat) (ah : Nat → Nat) (ar : Nat → Nat) (ag : Nat → Nat) (Y : va_W) (R : Nat) (G : Nat) (nf : Int32) (fc : Nat → Int32) (fw : Nat → Int32) (fb : Nat → Int32) (gR : Nat → Int32) (gW : Nat → Int32) (gT : Nat → Int32) (gS : Nat → Int32) (gJ : Nat → Int32) (gY : Nat → Int32) (fl : Nat → Int32) (ntz : Int32) (nfz : Int32) (fcz : Nat → Int32) (nrz : Int32) (fwz : Nat → Int32) (fbz : Nat → Int32) (ngz : Int32) (gRz : Nat → Int32) (gWz : Nat → Int32) (gTz : Nat → Int32) (gSz : Nat → Int32) (gJz : Nat → Int32) (gYz : Nat → Int32) (flz : Nat → Int32) (sf : Int32) (sh : Nat → Nat → Int32) (sr : Nat → Nat → Int32) (sg : Nat → Nat → Int32) (cells slots : Nat) (H : Heap) (locs : List Loc) (ls : Array Slot), n ≤ k → cells + 37 * j + 8 ≤ 600130 → slots + 232 * j + 47 ≤ 7301079 → Rel R G n (nI n) nf fc (nI R) fw fb (nI G) gR gW gT gS gJ gY (EH sh) (EW sr) (EL sr) (EP sg) (EN (nI n) sf) → va_P D vwCl (AWL cy qx qi qh qc qr qw qb qg qR qW qT qS qJ qY ql qiz qhz qcz qrz qwz qbz qgz qRz qWz qTz qSz qJz qYz qlz qm ho ro go ah ar ag Y R G n nf fc fw fb gR gW gT gS gJ gY fl ntz nfz fcz nrz fwz fbz ngz gRz gWz gTz gSz gJz gYz flz sf sh sr sg) H → va_D A (AWL cy qx qi qh qc qr qw qb qg qR qW qT qS qJ qY ql qiz qhz qcz qrz qwz qbz qgz qRz qWz qTz qSz qJz qYz qlz qm ho ro go ah ar ag Y R G n nf fc fw fb gR gW gT gS gJ gY fl ntz nfz fcz nrz fwz fbz ngz gRz gWz gTz gSz gJz gYz flz sf sh sr sg) → va_S A s.heap H locs → lv_has ls 26 [(0, .ref b), (1, .ref qx), (2, .ref qm), (3, .int (nI k))] → W p l e room_1 s m args below meth c H locs cells slots Q (F0 m 22 ls []) := by
  have hx := C0.1
  have hb := C0.2.1
  intro j
  induction j with
  | zero =>
    intro k hk n ho ro go ah ar ag Y R G nf fc fw fb gR gW gT gS gJ gY fl ntz nfz fcz nrz fwz fbz ngz gRz gWz gTz gSz gJz gYz flz sf sh sr sg cells slots H locs ls hn hc hs hRel hP hD hS hl
    refine lv_iload_n hx hb dL_law_22 rfl (lv_at hl 3 rfl) ?_
    refine lv_bipush (v := 36) hx hb dL_law_23 (by decide) ?_
    refine lv_icmp_ge (tgt := 934) hx hb dL_law_25 (by decide) (fun c9 => ?_) (fun c9 => ?_)
    · exact sg_same C0 hL (by omega) hRel (by omega) (by omega) hP hD hS hl (fun H locs ls hP hD hS hl => hend H locs ls _ _ (by omega) (by omega) hS)
    · exact absurd (nI_le (a := 36) (b := k) (by omega) (by omega)) c9
  | succ j ih =>
    intro k hk n ho ro go ah ar ag Y R G nf fc fw fb gR gW gT gS gJ gY fl ntz nfz fcz nrz fwz fbz ngz gRz gWz gTz gSz gJz gYz flz sf sh sr sg cells slots H locs ls hn hc hs hRel hP hD hS hl
    refine lv_iload_n hx hb dL_law_22 rfl (lv_at hl 3 rfl) ?_
    refine lv_bipush (v := 36) hx hb dL_law_23 (by decide) ?_
    refine lv_icmp_ge (tgt := 934) hx hb dL_law_25 (by decide) (fun c9 => ?_) (fun c9 => ?_)
    · exact absurd c9 (nI_ge (a := k) (b := 36) (by omega) (by decide))
    · exact lw_round C0 hL (by omega) (by omega) hRel (by omega) (by omega) hP hD hS hl (fun ho ro go ah ar ag Y R G nf fc fw fb gR gW gT gS gJ gY fl ntz nfz fcz nrz fwz fbz ngz gRz gWz gTz gSz gJz gYz flz sf sh sr sg H locs ls hRel hP hD hS hl => ih (k + 1) (by omega) (n + 1) ho ro go ah ar ag Y R G nf fc fw fb gR gW gT gS gJ gY fl ntz nfz fcz nrz fwz fbz ngz gRz gWz gTz gSz gJz gYz flz sf sh sr sg (cells + 37) (slots + 232) H locs ls (by omega) (by omega) (by omega) hRel hP hD hS hl)
