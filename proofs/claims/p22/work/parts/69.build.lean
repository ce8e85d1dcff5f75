theorem bu_swarms {p : Program} {l : Launch} {e : Env} {s : State} {m : MethodId} {args : Array Value} {below : List Frame} {meth : Method} {c : Code} {cells slots : Nat} {Q : State → Prop} {D : va_G} {cy : Nat → ClassId} {A : Nat → Prop} {b L : Nat} {xs : Nat → Int32} {qx qi qh qc qr qw qb qg qR qW qT qS qJ qY ql qiz qhz qcz qrz qwz qbz qgz qRz qWz qTz qSz qJz qYz qlz qm ho ro go : Nat} {ah : Nat → Nat} {Y : va_W} {n : Nat} {ar ag : Nat → Nat} {R G : Nat} {nf : Int32} {fw : Nat → Int32} {fb : Nat → Int32} {gR : Nat → Int32} {gW : Nat → Int32} {gT : Nat → Int32} {gS : Nat → Int32} {gJ : Nat → Int32} {gY : Nat → Int32} {fl : Nat → Int32} {ntz : Int32} {nfz : Int32} {fcz : Nat → Int32} {nrz : Int32} {fwz : Nat → Int32} {fbz : Nat → Int32} {ngz : Int32} {gRz : Nat → Int32} {gWz : Nat → Int32} {gTz : Nat → Int32} {gSz : Nat → Int32} {gJz : Nat → Int32} {gYz : Nat → Int32} {flz : Nat → Int32} {sf : Int32} {sr : Nat → Nat → Int32} {sg : Nat → Nat → Int32} (C0 : LC cL_build 6 wsL_build p s m args c D cy A b L xs) (hL : L ≤ 260) (hn20 : n < 2 ^ 20) (hc : cells ≤ 62) (hs : slots ≤ 521)
    (back : ∀ (fc : Nat → Int32) (sh : Nat → Nat → Int32) (H : Heap) (locs : List Loc) (ls : Array Slot), va_P D vwCl (AWL cy qx qi qh qc qr qw qb qg qR qW qT qS qJ qY ql qiz qhz qcz qrz qwz qbz qgz qRz qWz qTz qSz qJz qYz qlz qm ho ro go ah ar ag Y R G n nf fc fw fb gR gW gT gS gJ gY fl ntz nfz fcz nrz fwz fbz ngz gRz gWz gTz gSz gJz gYz flz sf sh sr sg) H → va_D A (AWL cy qx qi qh qc qr qw qb qg qR qW qT qS qJ qY ql qiz qhz qcz qrz qwz qbz qgz qRz qWz qTz qSz qJz qYz qlz qm ho ro go ah ar ag Y R G n nf fc fw fb gR gW gT gS gJ gY fl ntz nfz fcz nrz fwz fbz ngz gRz gWz gTz gSz gJz gYz flz sf sh sr sg) → va_S A s.heap H locs → lv_has ls 6 [(0, .ref qx), (1, .ref b), (2, .ref qm)] → Rel R G n (nI n) nf fc (nI R) fw fb (nI G) gR gW gT gS gJ gY (EH sh) (EW sr) (EL sr) (EP sg) (EN (nI n) sf) → W p l e (RM 5 62 521 118) s m args below meth c H locs cells slots Q (F0 m 94 ls [])) :
    ∀ (d k : Nat), k + d = 12 → ∀ (fc : Nat → Int32) (sh : Nat → Nat → Int32) (H : Heap) (locs : List Loc) (ls : Array Slot), Rel R G n (nI n) nf fc (nI R) fw fb (nI G) gR gW gT gS gJ gY (EH sh) (EW sr) (EL sr) (EP sg) (EN (nI n) sf) → va_P D vwCl (AWL cy qx qi qh qc qr qw qb qg qR qW qT qS qJ qY ql qiz qhz qcz qrz qwz qbz qgz qRz qWz qTz qSz qJz qYz qlz qm ho ro go ah ar ag Y R G n nf fc fw fb gR gW gT gS gJ gY fl ntz nfz fcz nrz fwz fbz ngz gRz gWz gTz gSz gJz gYz flz sf sh sr sg) H → va_D A (AWL cy qx qi qh qc qr qw qb qg qR qW qT qS qJ qY ql qiz qhz qcz qrz qwz qbz qgz qRz qWz qTz qSz qJz qYz qlz qm ho ro go ah ar ag Y R G n nf fc fw fb gR gW gT gS gJ gY fl ntz nfz fcz nrz fwz fbz ngz gRz gWz gTz gSz gJz gYz flz sf sh sr sg) → va_S A s.heap H locs → lv_has ls 6 [(0, .ref qx), (1, .ref b), (2, .ref qm), (3, .int (nI k))] → W p l e (RM 5 62 521 118) s m args below meth c H locs cells slots Q (F0 m 10 ls []) := by
  have hx := C0.1
  have hb := C0.2.1
  intro d
  induction d with
  | zero =>
    intro k hk fc sh H locs ls hRel hP hD hS hl
    refine lv_iload_n hx hb dL_build_10 rfl (lv_at hl 3 rfl) ?_
    refine lv_bipush (v := 12) hx hb dL_build_11 (by decide) ?_
    refine lv_icmp_ge (tgt := 94) hx hb dL_build_13 (by decide) (fun c9 => ?_) (fun c9 => ?_)
    · exact back fc sh H locs ls hP hD hS (lv_sub hl [0, 1, 2] rfl) hRel
    · exact absurd (nI_le (a := 12) (b := k) (by omega) (by omega)) c9
  | succ d ih =>
    intro k hk fc sh H locs ls hRel hP hD hS hl
    refine lv_iload_n hx hb dL_build_10 rfl (lv_at hl 3 rfl) ?_
    refine lv_bipush (v := 12) hx hb dL_build_11 (by decide) ?_
    refine lv_icmp_ge (tgt := 94) hx hb dL_build_13 (by decide) (fun c9 => ?_) (fun c9 => ?_)
    · exact absurd c9 (nI_ge (a := k) (b := 12) (by omega) (by omega))
    · exact sg_swarms C0 hL hn20 hRel (by omega) (by omega) (by omega) hP hD hS hl (fun fc sh H locs ls hP hD hS hl hRel => ih (k + 1) (by omega) fc sh H locs ls hRel hP hD hS hl)
theorem bu_acts {p : Program} {l : Launch} {e : Env} {s : State} {m : MethodId} {args : Array Value} {below : List Frame} {meth : Method} {c : Code} {Q : State → Prop} {D : va_G} {cy : Nat → ClassId} {A : Nat → Prop} {b L : Nat} {xs : Nat → Int32} {qx qi qh qc qr qw qb qg qR qW qT qS qJ qY ql qiz qhz qcz qrz qwz qbz qgz qRz qWz qTz qSz qJz qYz qlz qm ho : Nat} {ah : Nat → Nat} {Y : va_W} {n : Nat} {nf : Int32} {gT : Nat → Int32} {gS : Nat → Int32} {fl : Nat → Int32} {ntz : Int32} {nfz : Int32} {fcz : Nat → Int32} {nrz : Int32} {fwz : Nat → Int32} {fbz : Nat → Int32} {ngz : Int32} {gRz : Nat → Int32} {gWz : Nat → Int32} {gTz : Nat → Int32} {gSz : Nat → Int32} {gJz : Nat → Int32} {gYz : Nat → Int32} {flz : Nat → Int32} {sf : Int32} (C0 : LC cL_build 6 wsL_build p s m args c D cy A b L xs) (hL : L ≤ 260) (hn20 : n < 2 ^ 20)
    (back : ∀ (R : Nat) (G : Nat) (ro : Nat) (go : Nat) (ar : Nat → Nat) (ag : Nat → Nat) (fc : Nat → Int32) (fw : Nat → Int32) (fb : Nat → Int32) (gR : Nat → Int32) (gW : Nat → Int32) (gJ : Nat → Int32) (gY : Nat → Int32) (sh : Nat → Nat → Int32) (sr : Nat → Nat → Int32) (sg : Nat → Nat → Int32) (H : Heap) (locs : List Loc) (ls : Array Slot), va_P D vwCl (AWL cy qx qi qh qc qr qw qb qg qR qW qT qS qJ qY ql qiz qhz qcz qrz qwz qbz qgz qRz qWz qTz qSz qJz qYz qlz qm ho ro go ah ar ag Y R G n nf fc fw fb gR gW gT gS gJ gY fl ntz nfz fcz nrz fwz fbz ngz gRz gWz gTz gSz gJz gYz flz sf sh sr sg) H → va_D A (AWL cy qx qi qh qc qr qw qb qg qR qW qT qS qJ qY ql qiz qhz qcz qrz qwz qbz qgz qRz qWz qTz qSz qJz qYz qlz qm ho ro go ah ar ag Y R G n nf fc fw fb gR gW gT gS gJ gY fl ntz nfz fcz nrz fwz fbz ngz gRz gWz gTz gSz gJz gYz flz sf sh sr sg) → va_S A s.heap H locs → lv_has ls 6 [(0, .ref qx), (1, .ref b), (2, .ref qm)] → Rel R G n (nI n) nf fc (nI R) fw fb (nI G) gR gW gT gS gJ gY (EH sh) (EW sr) (EL sr) (EP sg) (EN (nI n) sf) → W p l e (RM 5 62 521 118) s m args below meth c H locs 62 521 Q (F0 m 157 ls [])) :
    ∀ (d k : Nat), k + d = 24 → ∀ (cells slots : Nat), cells + 2 * d ≤ 62 → slots + 19 * d ≤ 521 → ∀ (R : Nat) (G : Nat) (ro : Nat) (go : Nat) (ar : Nat → Nat) (ag : Nat → Nat) (fc : Nat → Int32) (fw : Nat → Int32) (fb : Nat → Int32) (gR : Nat → Int32) (gW : Nat → Int32) (gJ : Nat → Int32) (gY : Nat → Int32) (sh : Nat → Nat → Int32) (sr : Nat → Nat → Int32) (sg : Nat → Nat → Int32) (H : Heap) (locs : List Loc) (ls : Array Slot), Rel R G n (nI n) nf fc (nI R) fw fb (nI G) gR gW gT gS gJ gY (EH sh) (EW sr) (EL sr) (EP sg) (EN (nI n) sf) → va_P D vwCl (AWL cy qx qi qh qc qr qw qb qg qR qW qT qS qJ qY ql qiz qhz qcz qrz qwz qbz qgz qRz qWz qTz qSz qJz qYz qlz qm ho ro go ah ar ag Y R G n nf fc fw fb gR gW gT gS gJ gY fl ntz nfz fcz nrz fwz fbz ngz gRz gWz gTz gSz gJz gYz flz sf sh sr sg) H → va_D A (AWL cy qx qi qh qc qr qw qb qg qR qW qT qS qJ qY ql qiz qhz qcz qrz qwz qbz qgz qRz qWz qTz qSz qJz qYz qlz qm ho ro go ah ar ag Y R G n nf fc fw fb gR gW gT gS gJ gY fl ntz nfz fcz nrz fwz fbz ngz gRz gWz gTz gSz gJz gYz flz sf sh sr sg) → va_S A s.heap H locs → lv_has ls 6 [(0, .ref qx), (1, .ref b), (2, .ref qm), (3, .int (nI k))] → W p l e (RM 5 62 521 118) s m args below meth c H locs cells slots Q (F0 m 96 ls []) := by
  have hx := C0.1
  have hb := C0.2.1
  intro d
  induction d with
  | zero =>
    intro k hk cells slots hc hs R G ro go ar ag fc fw fb gR gW gJ gY sh sr sg H locs ls hRel hP hD hS hl
    refine lv_iload_n hx hb dL_build_96 rfl (lv_at hl 3 rfl) ?_
    refine lv_bipush (v := 24) hx hb dL_build_97 (by decide) ?_
    refine lv_icmp_ge (tgt := 157) hx hb dL_build_99 (by decide) (fun c9 => ?_) (fun c9 => ?_)
    · refine W.widen (k := 62) (n := 521) (by omega) (by omega) ?_
      exact back R G ro go ar ag fc fw fb gR gW gJ gY sh sr sg H locs ls hP hD hS (lv_sub hl [0, 1, 2] rfl) hRel
    · exact absurd (nI_le (a := 24) (b := k) (by omega) (by omega)) c9
  | succ d ih =>
    intro k hk cells slots hc hs R G ro go ar ag fc fw fb gR gW gJ gY sh sr sg H locs ls hRel hP hD hS hl
    refine lv_iload_n hx hb dL_build_96 rfl (lv_at hl 3 rfl) ?_
    refine lv_bipush (v := 24) hx hb dL_build_97 (by decide) ?_
    refine lv_icmp_ge (tgt := 157) hx hb dL_build_99 (by decide) (fun c9 => ?_) (fun c9 => ?_)
    · exact absurd c9 (nI_ge (a := k) (b := 24) (by omega) (by omega))
    · exact sg_acts C0 hL hn20 hRel (by omega) (by omega) (by omega) hP hD hS hl (fun R G ro go ar ag fc fw fb gR gW gJ gY sh sr sg H locs ls hP hD hS hl hRel => ih (k + 1) (by omega) (cells + 2) (slots + 19) (by omega) (by omega) R G ro go ar ag fc fw fb gR gW gJ gY sh sr sg H locs ls hRel hP hD hS hl)
/-- an inn that was built, class and by hand alike -/
abbrev BUS (nf : Int32) (gT gS : Nat → Int32) : Type := {u : (Nat × (Nat → Nat)) × AU // ActP 0 nf gT gS 0 1 u.2}
set_option maxHeartbeats 4000000 in
set_option maxRecDepth 100000 in
theorem k_L_build (l : Launch) (D : va_G) (cy : Nat → ClassId) (sz b L : Nat) (xs : Nat → Int32) (qx qi qh qc qr qw qb qg qR qW qT qS qJ qY ql qiz qhz qcz qrz qwz qbz qgz qRz qWz qTz qSz qJz qYz qlz : Nat) (nf : Int32) (fc : Nat → Int32) (fw : Nat → Int32) (fb : Nat → Int32) (gR : Nat → Int32) (gW : Nat → Int32) (gT : Nat → Int32) (gS : Nat → Int32) (gJ : Nat → Int32) (gY : Nat → Int32) (fl : Nat → Int32) (ntz : Int32) (nfz : Int32) (fcz : Nat → Int32) (nrz : Int32) (fwz : Nat → Int32) (fbz : Nat → Int32) (ngz : Int32) (gRz : Nat → Int32) (gWz : Nat → Int32) (gTz : Nat → Int32) (gSz : Nat → Int32) (gJz : Nat → Int32) (gYz : Nat → Int32) (flz : Nat → Int32) (hL : L ≤ 260) (hRel : Rel 0 0 0 (nI 0) nf fc (nI 0) fw fb (nI 0) gR gW gT gS gJ gY (EH (fun _ _ => 0)) (EW (fun _ _ => 0)) (EL (fun _ _ => 0)) (EP (fun _ _ => 0)) (EN (nI 0) 0)) : Met l yL_build wsL_build (RM 5 62 521 118) (PcX D cy (CWX cy qx qi qh qc qr qw qb qg qR qW qT qS qJ qY ql qiz qhz qcz qrz qwz qbz qgz qRz qWz qTz qSz qJz qYz qlz (nI 0) nf fc (nI 0) fw fb (nI 0) gR gW gT gS gJ gY fl ntz nfz fcz nrz fwz fbz ngz gRz gWz gTz gSz gJz gYz flz) sz b L xs [.ref qx, .ref b]) (QrT D cy (fun (u : BUS nf gT gS) (a : Nat) => (ActW cy qx qi qh qc qr qw qb qg qR qW qT qS qJ qY ql qiz qhz qcz qrz qwz qbz qgz qRz qWz qTz qSz qJz qYz qlz a u.1.1.1 u.1.1.2 ([]) 0 nf gT gS fl ntz nfz fcz nrz fwz fbz ngz gRz gWz gTz gSz gJz gYz flz 0 u.1.2)) (va_A (CWX cy qx qi qh qc qr qw qb qg qR qW qT qS qJ qY ql qiz qhz qcz qrz qwz qbz qgz qRz qWz qTz qSz qJz qYz qlz (nI 0) nf fc (nI 0) fw fb (nI 0) gR gW gT gS gJ gY fl ntz nfz fcz nrz fwz fbz ngz gRz gWz gTz gSz gJz gYz flz) sz)) 62 521 (va_A (CWX cy qx qi qh qc qr qw qb qg qR qW qT qS qJ qY ql qiz qhz qcz qrz qwz qbz qgz qRz qWz qTz qSz qJz qYz qlz (nI 0) nf fc (nI 0) fw fb (nI 0) gR gW gT gS gJ gY fl ntz nfz fcz nrz fwz fbz ngz gRz gWz gTz gSz gJz gYz flz) sz) := by
  refine ofXT (Qf := fun A => QrT D cy (fun (u : BUS nf gT gS) (a : Nat) => (ActW cy qx qi qh qc qr qw qb qg qR qW qT qS qJ qY ql qiz qhz qcz qrz qwz qbz qgz qRz qWz qTz qSz qJz qYz qlz a u.1.1.1 u.1.1.2 ([]) 0 nf gT gS fl ntz nfz fcz nrz fwz fbz ngz gRz gWz gTz gSz gJz gYz flz 0 u.1.2)) A) (cc := cL_build) (maxL := 6) (ret := some (.object "FireflyInnLaw$Sim")) (own := RL) (by decide) rfl (Nat.le_of_ble_eq_true rfl) rfl ?_
  intro p e s m args below meth c A ls hx hb hr hml hts hown hlocks hin hN hK hP hD hA hX hbl hbA hl
  have C0 : LC cL_build 6 wsL_build p s m args c D cy A b L xs := ⟨hx, hb, hml, hts, hown, hN, hK, hX, hbl, hbA, hA⟩
  have hS : va_S A s.heap s.heap [] := va_S.rf
  have hl : lv_has ls 6 [(0, .ref qx), (1, .ref b)] := hl
  have hin5 : ∀ w ∈ u_ws RX5 TX5 5, w ∈ wsL_build := (fun w h => List.mem_cons_of_mem _ (List.mem_append_left _ (List.mem_append_left _ (List.mem_append_left _ (List.mem_append_left _ (List.mem_append_left _ (List.mem_append_left _ (List.mem_append_left _ (List.mem_append_left _ (List.mem_append_right _ h))))))))))
  refine va_new (ci := 5) (fs := [.null, .null, .null, .int 0, .int 0]) (C := RX5) (T := TX5) (N := 5) hx hb hts hin5 tyX5 tyX5_ok hown (hts (.classLink RL 10 RX5) (List.mem_of_getElem? (i := 1) rfl)) (hts (.instantiable RX5 5) (List.mem_of_getElem? (i := 2) rfl)) (hts (.initialized RX5) (List.mem_of_getElem? (i := 3) rfl)) hK hP hD hS hA rfl (fun j hj => by rcases (show j = 0 ∨ j = 1 ∨ j = 2 ∨ j = 3 ∨ j = 4 by omega) with rfl | rfl | rfl | rfl | rfl <;> rfl) (Nat.le_of_ble_eq_true rfl) (Nat.le_of_ble_eq_true rfl) dL_build_0 (fun qm H hP hD hS => ?_)
  refine lv_dup hx hb dL_build_3 rfl ?_
  refine cl_e (wr := (CWX cy qx qi qh qc qr qw qb qg qR qW qT qS qJ qY ql qiz qhz qcz qrz qwz qbz qgz qRz qWz qTz qSz qJz qYz qlz (nI 0) nf fc (nI 0) fw fb (nI 0) gR gW gT gS gJ gY fl ntz nfz fcz nrz fwz fbz ngz gRz gWz gTz gSz gJz gYz flz)) (rn_IN (As := []) (rest := [.ref qm]) ⟨hx, hb, hml, hown, hts⟩ (k_X5_init l D cy _ qm) ⟨va_cnB 0 hts ggL_build_X5_init rfl rfl rfl (hN.at 7 rfl) (hts (.initialized RX5) (List.mem_of_getElem? (i := 3) rfl)) (by decide +kernel) ⟨Nat.le_of_ble_eq_true rfl, Nat.le_of_ble_eq_true rfl⟩, rfl, (hts (.instanceMethod yX5_init) (List.mem_of_getElem? (i := 5) rfl))⟩ hN hK hP hD [29] rfl (by decide) rfl hl.1 rfl (Nat.le_of_ble_eq_true rfl) dL_build_4 ⟨Nat.le_of_ble_eq_true rfl, Nat.le_of_ble_eq_true rfl⟩) hP hD hS hA [29] [0, 1, 2, 3, 4, 5, 6, 7, 8, 9, 10, 11, 12, 13, 14, 15, 16, 17, 18, 19, 20, 21, 22, 23, 24, 25, 26, 27, 28] rfl rfl (by decide) (by decide) (fun u H locs hP hD hS => ?_)
  obtain ⟨ah, ho, ro, go⟩ := u
  have hP : va_P D vwCl (AWL cy qx qi qh qc qr qw qb qg qR qW qT qS qJ qY ql qiz qhz qcz qrz qwz qbz qgz qRz qWz qTz qSz qJz qYz qlz qm ho ro go ah ah ah ([]) 0 0 0 nf fc fw fb gR gW gT gS gJ gY fl ntz nfz fcz nrz fwz fbz ngz gRz gWz gTz gSz gJz gYz flz 0 (fun _ _ => 0) (fun _ _ => 0) (fun _ _ => 0)) H := by
    have h9 := hP
    rw [← List.append_assoc] at h9
    show va_P D vwCl (_ ++ (rws cy 10 5 ah (fun _ _ => 0) ++ [])) H
    rw [List.append_nil]
    exact h9
  have hD : va_D A (AWL cy qx qi qh qc qr qw qb qg qR qW qT qS qJ qY ql qiz qhz qcz qrz qwz qbz qgz qRz qWz qTz qSz qJz qYz qlz qm ho ro go ah ah ah ([]) 0 0 0 nf fc fw fb gR gW gT gS gJ gY fl ntz nfz fcz nrz fwz fbz ngz gRz gWz gTz gSz gJz gYz flz 0 (fun _ _ => 0) (fun _ _ => 0) (fun _ _ => 0)) := by
    have h9 := hD
    rw [← List.append_assoc] at h9
    show va_D A (_ ++ (rws cy 10 5 ah (fun _ _ => 0) ++ []))
    rw [List.append_nil]
    exact h9
  refine lv_astore_n (lv' := [(2, .ref qm), (0, .ref qx), (1, .ref b)]) hx hb dL_build_7 rfl hl (by decide) rfl (fun ls hl => ?_)
  refine lv_iconst (v := 0) hx hb dL_build_8 (by decide) ?_
  refine lv_istore_n (lv' := [(3, .int (nI 0)), (2, .ref qm), (0, .ref qx), (1, .ref b)]) hx hb dL_build_9 rfl hl (by decide) rfl (fun ls hl => ?_)
  refine bu_swarms C0 hL (by decide) (by decide) (by decide) (fun fc sh H locs ls hP hD hS hl hRel => ?_) 12 0 rfl fc (fun _ _ => 0) H locs ls hRel hP hD hS (lv_sub hl [2, 3, 1, 0] rfl)
  refine lv_iconst (v := 0) hx hb dL_build_94 (by decide) ?_
  refine lv_istore_n (lv' := [(3, .int (nI 0)), (0, .ref qx), (1, .ref b), (2, .ref qm)]) hx hb dL_build_95 rfl hl (by decide) rfl (fun ls hl => ?_)
  refine bu_acts C0 hL (by decide) (fun R G ro go ar ag fc fw fb gR gW gJ gY sh sr sg H locs ls hP hD hS hl hRel => ?_) 24 0 rfl _ _ (Nat.le_of_ble_eq_true rfl) (Nat.le_of_ble_eq_true rfl) 0 0 ro go ah ah fc fw fb gR gW gJ gY sh (fun _ _ => 0) (fun _ _ => 0) H locs ls hRel hP hD hS (lv_sub hl [1, 2, 3, 0] rfl)
  refine lv_aload_n hx hb dL_build_157 rfl (lv_at hl 2 rfl) ?_
  exact W.aret hx hb hr (Or.inl ⟨_, rfl⟩) (Or.inr ⟨_, rfl⟩) (fun t ht hW => ⟨⟨⟨((ho, ah), (R, G, ro, go, ar, ag, fc, fw, fb, gR, gW, gJ, gY, sh, sr, sg)), rfl, hRel⟩, qm, rfl, trivial, by rw [ht]; exact hP, va_K.moved hW.alike hK, hD⟩, hS.F ht⟩) hS.2.2 dL_build_158 hlocks
