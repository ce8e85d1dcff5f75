theorem SE.eq {R : Nat} {zr : Nat → Nat} {se : Nat → Int32} (h : SE R zr se) {r : Nat} (hr : r < R) (c : ¬ se r < 0) : se r = nI (zr r) := by
  rcases h r hr with q | q
  · exact absurd (by rw [q]; decide) c
  · exact q
set_option maxHeartbeats 4000000 in
set_option maxRecDepth 100000 in
theorem sg_gs {p : Program} {l : Launch} {e : Env} {s : State} {m : MethodId} {args : Array Value} {below : List Frame} {meth : Method} {c : Code} {H : Heap} {locs : List Loc} {cells slots : Nat} {Q : State → Prop} {D : va_G} {cy : Nat → ClassId} {A : Nat → Prop} {ls : Array Slot} {b L : Nat} {xs : Nat → Int32} {qx qi qh qc qr qw qb qg qR qW qT qS qJ qY ql qiz qhz qcz qrz qwz qbz qgz qRz qWz qTz qSz qJz qYz qlz qm ho ro go zw zo zs : Nat} {ah ar ag uw um : Nat → Nat} {Y : va_W} {R G n : Nat} {nf : Int32} {fc : Nat → Int32} {fw : Nat → Int32} {fb : Nat → Int32} {gR : Nat → Int32} {gW : Nat → Int32} {gT : Nat → Int32} {gS : Nat → Int32} {gJ : Nat → Int32} {gY : Nat → Int32} {fl : Nat → Int32} {ntz : Int32} {nfz : Int32} {fcz : Nat → Int32} {nrz : Int32} {fwz : Nat → Int32} {fbz : Nat → Int32} {ngz : Int32} {gRz : Nat → Int32} {gWz : Nat → Int32} {gTz : Nat → Int32} {gSz : Nat → Int32} {gJz : Nat → Int32} {gYz : Nat → Int32} {flz : Nat → Int32} {sf : Int32} {se : Nat → Int32} {sh : Nat → Nat → Int32} {sr : Nat → Nat → Int32} {sg : Nat → Nat → Int32} {was : Nat → Nat → Int32} {rm : Nat → Nat → Int32} {tm : Nat} {n0 : Nat} {fl0 : Nat} {sf0 : Int32} {seen : Int32} {thn : Int32} {takes : Int32} {k : Nat} {tk : Int32} {sw : Int32} {jr : Int32} {t : Nat → Nat} {z : Nat → Nat} {zr : Nat → Nat} {sg0 : Nat → Nat → Int32} (C0 : LC cL_law 26 wsL_law p s m args c D cy A b L xs) (hL : L ≤ 260) (hn20 : n < 2 ^ 20) (hRel : Rel R G n (nI n) nf fc (nI R) fw fb (nI G) gR gW gT gS gJ gY (EH sh) (EW sr) (EL sr) (EP sg) (EN (nI n) sf)) (hk : k < G) (hGF : GF R G n0 sg0 sg t z zr) (hSI0 : SI R G sr sg0) (hw9 : ∀ g, g < G → ∀ j, j < 6 → was g j = sg0 g j) (hz9 : ∀ r, r < R → zr r ≤ 600 ∧ (sr r 1 = 1 ∨ tri n0 = 4 → zr r = 0)) (hn0 : n0 < 2 ^ 20) (hm9 : ∀ r, r < R → ∀ j, j < 5 → rm r j = rt sr sg0 G r j) (hse : SE R zr se) (hc : cells + 0 + 0 ≤ 600130) (hs : slots + 0 + 0 ≤ 7301079) (hP : va_P D vwCl (((CWX cy qx qi qh qc qr qw qb qg qR qW qT qS qJ qY ql qiz qhz qcz qrz qwz qbz qgz qRz qWz qTz qSz qJz qYz qlz (nI n) nf fc (nI R) fw fb (nI G) gR gW gT gS gJ gY fl ntz nfz fcz nrz fwz fbz ngz gRz gWz gTz gSz gJz gYz flz) ++ [(qm, .inr (5, [.ref ho, .ref ro, .ref go, .int (nI n), .int sf])), (ho, .inl (cy 3, 10, .inr (.inr (.inr (.inr (pf 10 ah)))))), (ro, .inl (cy 3, R, .inr (.inr (.inr (.inr (pf R ar)))))), (go, .inl (cy 3, G, .inr (.inr (.inr (.inr (pf G ag)))))), (zw, .inl (cy 3, G, .inr (.inr (.inr (.inr (pf G uw)))))), (zo, .inl (cy 3, R, .inr (.inr (.inr (.inr (pf R um)))))), (zs, .inl (cy 0, R, .inl se))]) ++ (rws cy 10 5 ah sh ++ (rws cy R 2 ar sr ++ (rws cy G 6 ag sg ++ (rws cy G 6 uw was ++ (rws cy R 5 um rm ++ Y)))))) H) (hD : va_D A (((CWX cy qx qi qh qc qr qw qb qg qR qW qT qS qJ qY ql qiz qhz qcz qrz qwz qbz qgz qRz qWz qTz qSz qJz qYz qlz (nI n) nf fc (nI R) fw fb (nI G) gR gW gT gS gJ gY fl ntz nfz fcz nrz fwz fbz ngz gRz gWz gTz gSz gJz gYz flz) ++ [(qm, .inr (5, [.ref ho, .ref ro, .ref go, .int (nI n), .int sf])), (ho, .inl (cy 3, 10, .inr (.inr (.inr (.inr (pf 10 ah)))))), (ro, .inl (cy 3, R, .inr (.inr (.inr (.inr (pf R ar)))))), (go, .inl (cy 3, G, .inr (.inr (.inr (.inr (pf G ag)))))), (zw, .inl (cy 3, G, .inr (.inr (.inr (.inr (pf G uw)))))), (zo, .inl (cy 3, R, .inr (.inr (.inr (.inr (pf R um)))))), (zs, .inl (cy 0, R, .inl se))]) ++ (rws cy 10 5 ah sh ++ (rws cy R 2 ar sr ++ (rws cy G 6 ag sg ++ (rws cy G 6 uw was ++ (rws cy R 5 um rm ++ Y))))))) (hS : va_S A s.heap H locs) (hl : lv_has ls 26 [(0, .ref b), (1, .ref qx), (2, .ref qm), (3, .int (nI tm)), (5, .int (nI R)), (6, .int (nI G)), (7, .int (nI n0)), (8, .int (nI (tri n0))), (9, .int (nI fl0)), (10, .int sf0), (11, .ref zw), (12, .ref zo), (13, .int seen), (14, .int thn), (15, .int takes), (16, .int tk), (17, .int sw), (18, .int jr), (19, .ref zs), (20, .int (nI k)), (21, .int (nI (t k))), (22, .int (nI (z k)))]) (back : ∀ (se : Nat → Int32) (H : Heap) (locs : List Loc) (ls : Array Slot), va_P D vwCl (((CWX cy qx qi qh qc qr qw qb qg qR qW qT qS qJ qY ql qiz qhz qcz qrz qwz qbz qgz qRz qWz qTz qSz qJz qYz qlz (nI n) nf fc (nI R) fw fb (nI G) gR gW gT gS gJ gY fl ntz nfz fcz nrz fwz fbz ngz gRz gWz gTz gSz gJz gYz flz) ++ [(qm, .inr (5, [.ref ho, .ref ro, .ref go, .int (nI n), .int sf])), (ho, .inl (cy 3, 10, .inr (.inr (.inr (.inr (pf 10 ah)))))), (ro, .inl (cy 3, R, .inr (.inr (.inr (.inr (pf R ar)))))), (go, .inl (cy 3, G, .inr (.inr (.inr (.inr (pf G ag)))))), (zw, .inl (cy 3, G, .inr (.inr (.inr (.inr (pf G uw)))))), (zo, .inl (cy 3, R, .inr (.inr (.inr (.inr (pf R um)))))), (zs, .inl (cy 0, R, .inl se))]) ++ (rws cy 10 5 ah sh ++ (rws cy R 2 ar sr ++ (rws cy G 6 ag sg ++ (rws cy G 6 uw was ++ (rws cy R 5 um rm ++ Y)))))) H → va_D A (((CWX cy qx qi qh qc qr qw qb qg qR qW qT qS qJ qY ql qiz qhz qcz qrz qwz qbz qgz qRz qWz qTz qSz qJz qYz qlz (nI n) nf fc (nI R) fw fb (nI G) gR gW gT gS gJ gY fl ntz nfz fcz nrz fwz fbz ngz gRz gWz gTz gSz gJz gYz flz) ++ [(qm, .inr (5, [.ref ho, .ref ro, .ref go, .int (nI n), .int sf])), (ho, .inl (cy 3, 10, .inr (.inr (.inr (.inr (pf 10 ah)))))), (ro, .inl (cy 3, R, .inr (.inr (.inr (.inr (pf R ar)))))), (go, .inl (cy 3, G, .inr (.inr (.inr (.inr (pf G ag)))))), (zw, .inl (cy 3, G, .inr (.inr (.inr (.inr (pf G uw)))))), (zo, .inl (cy 3, R, .inr (.inr (.inr (.inr (pf R um)))))), (zs, .inl (cy 0, R, .inl se))]) ++ (rws cy 10 5 ah sh ++ (rws cy R 2 ar sr ++ (rws cy G 6 ag sg ++ (rws cy G 6 uw was ++ (rws cy R 5 um rm ++ Y)))))) → va_S A s.heap H locs → lv_has ls 26 [(0, .ref b), (1, .ref qx), (2, .ref qm), (3, .int (nI tm)), (5, .int (nI R)), (6, .int (nI G)), (7, .int (nI n0)), (8, .int (nI (tri n0))), (9, .int (nI fl0)), (10, .int sf0), (11, .ref zw), (12, .ref zo), (13, .int seen), (14, .int thn), (15, .int takes), (16, .int tk), (17, .int sw), (18, .int jr), (19, .ref zs), (20, .int (nI (k + 1)))] → (SE R zr se) → W p l e room_1 s m args below meth c H locs (cells + 0) (slots + 0) Q (F0 m 379 ls [])) : W p l e room_1 s m args below meth c H locs cells slots Q (F0 m 606 ls []) := by
  obtain ⟨hx, hb, hml, hts, hown, hN, hK, hX, hbl, hbA, hA⟩ := C0
  have hR := hRel.1
  have hG := hRel.2.1
  have hSI := hRel.si
  have hr9 := (hSI0.rm hR hk).2
  have er9 := (hSI0.rm hR hk).1
  obtain ⟨q0, q1, q5, q3, q4, q2, ⟨j, hj, ej, ht⟩, ez, h5⟩ := hGF k hk
  have hz6 : z k ≤ 600 := by
    rw [ez]
    split
    · omega
    · exact (hz9 _ hr9).1
  have ht0 : sg0 k 5 = 1 → t k = 0 := fun q => by
    have e0 : j = 0 := nI_ij (by omega) (by omega) (ej.symm.trans (h5 q))
    omega
  refine lv_aload hx hb dL_law_606 (lv_at hl 10 rfl) ?_
  refine lv_iload hx hb dL_law_608 (lv_at hl 19 rfl) ?_
  refine ald_p (n := G) (k := k) hx hb hK hP 33 rfl (by omega) (by omega) dL_law_610 ?_
  refine lv_iconst (v := 5) hx hb dL_law_611 (by decide) ?_
  refine ial_w (k := 5) hx hb hK hP (RSl.app _ (RSl.app _ (RSl.app _ (RSl.app _ (RSl.left _ (RSl.row (by omega))))))) (by omega) (by decide) dL_law_612 ?_
  refine lv_iv (y := (was k 5)) rfl ?_
  refine lv_iv (y := (sg0 k 5)) (hw9 k hk 5 (by decide)) ?_
  refine lv_iconst (v := 1) hx hb dL_law_613 (by decide) ?_
  refine lv_icmp_ne (tgt := 620) hx hb dL_law_614 (by decide) (fun c614 => ?_) (fun c614 => ?_)
  · refine lv_iload hx hb dL_law_620 (lv_at hl 21 rfl) ?_
    refine lv_if_le (tgt := 647) hx hb dL_law_622 (by decide) (fun c622 => ?_) (fun c622 => ?_)
    · refine lv_aload hx hb dL_law_647 (lv_at hl 18 rfl) ?_
      refine lv_aload hx hb dL_law_649 (lv_at hl 10 rfl) ?_
      refine lv_iload hx hb dL_law_651 (lv_at hl 19 rfl) ?_
      refine ald_p (n := G) (k := k) hx hb hK hP 33 rfl (by omega) (by omega) dL_law_653 ?_
      refine lv_iconst (v := 0) hx hb dL_law_654 (by decide) ?_
      refine ial_w (k := 0) hx hb hK hP (RSl.app _ (RSl.app _ (RSl.app _ (RSl.app _ (RSl.left _ (RSl.row (by omega))))))) (by omega) (by decide) dL_law_655 ?_
      refine lv_iv (y := (was k 0)) rfl ?_
      refine lv_iv (y := (nI (tn (sg0 k 0)))) ((hw9 k hk 0 (by decide)).trans er9) ?_
      refine ial_n (k := tn (sg0 k 0)) hx hb hK hP 35 rfl (by omega) (by omega) dL_law_656 ?_
      refine lv_if_lt (tgt := 677) hx hb dL_law_657 (by decide) (fun c657 => ?_) (fun c657 => ?_)
      · refine lv_aload hx hb dL_law_677 (lv_at hl 18 rfl) ?_
        refine lv_aload hx hb dL_law_679 (lv_at hl 10 rfl) ?_
        refine lv_iload hx hb dL_law_681 (lv_at hl 19 rfl) ?_
        refine ald_p (n := G) (k := k) hx hb hK hP 33 rfl (by omega) (by omega) dL_law_683 ?_
        refine lv_iconst (v := 0) hx hb dL_law_684 (by decide) ?_
        refine ial_w (k := 0) hx hb hK hP (RSl.app _ (RSl.app _ (RSl.app _ (RSl.app _ (RSl.left _ (RSl.row (by omega))))))) (by omega) (by decide) dL_law_685 ?_
        refine lv_iv (y := (was k 0)) rfl ?_
        refine lv_iv (y := (nI (tn (sg0 k 0)))) ((hw9 k hk 0 (by decide)).trans er9) ?_
        refine lv_iload hx hb dL_law_686 (lv_at hl 21 rfl) ?_
        refine ias_n (k := tn (sg0 k 0)) hx hb hK hP hD hS 35 rfl (by omega) (by omega) dL_law_688 (fun H locs hP hD hS => ?_)
        have hP : va_P D vwCl (((CWX cy qx qi qh qc qr qw qb qg qR qW qT qS qJ qY ql qiz qhz qcz qrz qwz qbz qgz qRz qWz qTz qSz qJz qYz qlz (nI n) nf fc (nI R) fw fb (nI G) gR gW gT gS gJ gY fl ntz nfz fcz nrz fwz fbz ngz gRz gWz gTz gSz gJz gYz flz) ++ [(qm, .inr (5, [.ref ho, .ref ro, .ref go, .int (nI n), .int sf])), (ho, .inl (cy 3, 10, .inr (.inr (.inr (.inr (pf 10 ah)))))), (ro, .inl (cy 3, R, .inr (.inr (.inr (.inr (pf R ar)))))), (go, .inl (cy 3, G, .inr (.inr (.inr (.inr (pf G ag)))))), (zw, .inl (cy 3, G, .inr (.inr (.inr (.inr (pf G uw)))))), (zo, .inl (cy 3, R, .inr (.inr (.inr (.inr (pf R um)))))), (zs, .inl (cy 0, R, .inl (upd se (tn (sg0 k 0)) (nI (z k)))))]) ++ (rws cy 10 5 ah sh ++ (rws cy R 2 ar sr ++ (rws cy G 6 ag sg ++ (rws cy G 6 uw was ++ (rws cy R 5 um rm ++ Y)))))) H := hP
        have hD : va_D A (((CWX cy qx qi qh qc qr qw qb qg qR qW qT qS qJ qY ql qiz qhz qcz qrz qwz qbz qgz qRz qWz qTz qSz qJz qYz qlz (nI n) nf fc (nI R) fw fb (nI G) gR gW gT gS gJ gY fl ntz nfz fcz nrz fwz fbz ngz gRz gWz gTz gSz gJz gYz flz) ++ [(qm, .inr (5, [.ref ho, .ref ro, .ref go, .int (nI n), .int sf])), (ho, .inl (cy 3, 10, .inr (.inr (.inr (.inr (pf 10 ah)))))), (ro, .inl (cy 3, R, .inr (.inr (.inr (.inr (pf R ar)))))), (go, .inl (cy 3, G, .inr (.inr (.inr (.inr (pf G ag)))))), (zw, .inl (cy 3, G, .inr (.inr (.inr (.inr (pf G uw)))))), (zo, .inl (cy 3, R, .inr (.inr (.inr (.inr (pf R um)))))), (zs, .inl (cy 0, R, .inl (upd se (tn (sg0 k 0)) (nI (z k)))))]) ++ (rws cy 10 5 ah sh ++ (rws cy R 2 ar sr ++ (rws cy G 6 ag sg ++ (rws cy G 6 uw was ++ (rws cy R 5 um rm ++ Y)))))) := hD
        refine lv_iinc (v := (nI (k + 1))) (lv' := [(20, .int (nI (k + 1))), (0, .ref b), (1, .ref qx), (2, .ref qm), (3, .int (nI tm)), (5, .int (nI R)), (6, .int (nI G)), (7, .int (nI n0)), (8, .int (nI (tri n0))), (9, .int (nI fl0)), (10, .int sf0), (11, .ref zw), (12, .ref zo), (13, .int seen), (14, .int thn), (15, .int takes), (16, .int tk), (17, .int sw), (18, .int jr), (19, .ref zs), (21, .int (nI (t k))), (22, .int (nI (z k)))]) hx hb dL_law_689 hl (k := 19) rfl (nI_1 k) (by decide) rfl (fun ls hl => ?_)
        refine lv_goto (tgt := 379) hx hb dL_law_692 (by decide) ?_
        refine W.widen (k := cells + 0) (n := slots + 0) (by omega) (by omega) ?_
        exact back (upd se (tn (sg0 k 0)) (nI (z k))) _ _ _ hP hD hS (lv_sub hl [1, 2, 3, 4, 5, 6, 7, 8, 9, 10, 11, 12, 13, 14, 15, 16, 17, 18, 19, 0] rfl) (SE.up hse (by rw [ez, if_neg c614]))
      · refine lv_aload hx hb dL_law_660 (lv_at hl 18 rfl) ?_
        refine lv_aload hx hb dL_law_662 (lv_at hl 10 rfl) ?_
        refine lv_iload hx hb dL_law_664 (lv_at hl 19 rfl) ?_
        refine ald_p (n := G) (k := k) hx hb hK hP 33 rfl (by omega) (by omega) dL_law_666 ?_
        refine lv_iconst (v := 0) hx hb dL_law_667 (by decide) ?_
        refine ial_w (k := 0) hx hb hK hP (RSl.app _ (RSl.app _ (RSl.app _ (RSl.app _ (RSl.left _ (RSl.row (by omega))))))) (by omega) (by decide) dL_law_668 ?_
        refine lv_iv (y := (was k 0)) rfl ?_
        refine lv_iv (y := (nI (tn (sg0 k 0)))) ((hw9 k hk 0 (by decide)).trans er9) ?_
        refine ial_n (k := tn (sg0 k 0)) hx hb hK hP 35 rfl (by omega) (by omega) dL_law_669 ?_
        refine lv_iload hx hb dL_law_670 (lv_at hl 21 rfl) ?_
        refine lv_icmp_eq (tgt := 677) hx hb dL_law_672 (by decide) (fun c672 => ?_) (fun c672 => ?_)
        rotate_left
        · exact absurd ((SE.eq hse hr9 c657).trans (by rw [ez, if_neg c614])) c672
        refine lv_aload hx hb dL_law_677 (lv_at hl 18 rfl) ?_
        refine lv_aload hx hb dL_law_679 (lv_at hl 10 rfl) ?_
        refine lv_iload hx hb dL_law_681 (lv_at hl 19 rfl) ?_
        refine ald_p (n := G) (k := k) hx hb hK hP 33 rfl (by omega) (by omega) dL_law_683 ?_
        refine lv_iconst (v := 0) hx hb dL_law_684 (by decide) ?_
        refine ial_w (k := 0) hx hb hK hP (RSl.app _ (RSl.app _ (RSl.app _ (RSl.app _ (RSl.left _ (RSl.row (by omega))))))) (by omega) (by decide) dL_law_685 ?_
        refine lv_iv (y := (was k 0)) rfl ?_
        refine lv_iv (y := (nI (tn (sg0 k 0)))) ((hw9 k hk 0 (by decide)).trans er9) ?_
        refine lv_iload hx hb dL_law_686 (lv_at hl 21 rfl) ?_
        refine ias_n (k := tn (sg0 k 0)) hx hb hK hP hD hS 35 rfl (by omega) (by omega) dL_law_688 (fun H locs hP hD hS => ?_)
        have hP : va_P D vwCl (((CWX cy qx qi qh qc qr qw qb qg qR qW qT qS qJ qY ql qiz qhz qcz qrz qwz qbz qgz qRz qWz qTz qSz qJz qYz qlz (nI n) nf fc (nI R) fw fb (nI G) gR gW gT gS gJ gY fl ntz nfz fcz nrz fwz fbz ngz gRz gWz gTz gSz gJz gYz flz) ++ [(qm, .inr (5, [.ref ho, .ref ro, .ref go, .int (nI n), .int sf])), (ho, .inl (cy 3, 10, .inr (.inr (.inr (.inr (pf 10 ah)))))), (ro, .inl (cy 3, R, .inr (.inr (.inr (.inr (pf R ar)))))), (go, .inl (cy 3, G, .inr (.inr (.inr (.inr (pf G ag)))))), (zw, .inl (cy 3, G, .inr (.inr (.inr (.inr (pf G uw)))))), (zo, .inl (cy 3, R, .inr (.inr (.inr (.inr (pf R um)))))), (zs, .inl (cy 0, R, .inl (upd se (tn (sg0 k 0)) (nI (z k)))))]) ++ (rws cy 10 5 ah sh ++ (rws cy R 2 ar sr ++ (rws cy G 6 ag sg ++ (rws cy G 6 uw was ++ (rws cy R 5 um rm ++ Y)))))) H := hP
        have hD : va_D A (((CWX cy qx qi qh qc qr qw qb qg qR qW qT qS qJ qY ql qiz qhz qcz qrz qwz qbz qgz qRz qWz qTz qSz qJz qYz qlz (nI n) nf fc (nI R) fw fb (nI G) gR gW gT gS gJ gY fl ntz nfz fcz nrz fwz fbz ngz gRz gWz gTz gSz gJz gYz flz) ++ [(qm, .inr (5, [.ref ho, .ref ro, .ref go, .int (nI n), .int sf])), (ho, .inl (cy 3, 10, .inr (.inr (.inr (.inr (pf 10 ah)))))), (ro, .inl (cy 3, R, .inr (.inr (.inr (.inr (pf R ar)))))), (go, .inl (cy 3, G, .inr (.inr (.inr (.inr (pf G ag)))))), (zw, .inl (cy 3, G, .inr (.inr (.inr (.inr (pf G uw)))))), (zo, .inl (cy 3, R, .inr (.inr (.inr (.inr (pf R um)))))), (zs, .inl (cy 0, R, .inl (upd se (tn (sg0 k 0)) (nI (z k)))))]) ++ (rws cy 10 5 ah sh ++ (rws cy R 2 ar sr ++ (rws cy G 6 ag sg ++ (rws cy G 6 uw was ++ (rws cy R 5 um rm ++ Y)))))) := hD
        refine lv_iinc (v := (nI (k + 1))) (lv' := [(20, .int (nI (k + 1))), (0, .ref b), (1, .ref qx), (2, .ref qm), (3, .int (nI tm)), (5, .int (nI R)), (6, .int (nI G)), (7, .int (nI n0)), (8, .int (nI (tri n0))), (9, .int (nI fl0)), (10, .int sf0), (11, .ref zw), (12, .ref zo), (13, .int seen), (14, .int thn), (15, .int takes), (16, .int tk), (17, .int sw), (18, .int jr), (19, .ref zs), (21, .int (nI (t k))), (22, .int (nI (z k)))]) hx hb dL_law_689 hl (k := 19) rfl (nI_1 k) (by decide) rfl (fun ls hl => ?_)
        refine lv_goto (tgt := 379) hx hb dL_law_692 (by decide) ?_
        refine W.widen (k := cells + 0) (n := slots + 0) (by omega) (by omega) ?_
        exact back (upd se (tn (sg0 k 0)) (nI (z k))) _ _ _ hP hD hS (lv_sub hl [1, 2, 3, 4, 5, 6, 7, 8, 9, 10, 11, 12, 13, 14, 15, 16, 17, 18, 19, 0] rfl) (SE.up hse (by rw [ez, if_neg c614]))
    · refine lv_aload hx hb dL_law_625 (lv_at hl 11 rfl) ?_
      refine lv_aload hx hb dL_law_627 (lv_at hl 10 rfl) ?_
      refine lv_iload hx hb dL_law_629 (lv_at hl 19 rfl) ?_
      refine ald_p (n := G) (k := k) hx hb hK hP 33 rfl (by omega) (by omega) dL_law_631 ?_
      refine lv_iconst (v := 0) hx hb dL_law_632 (by decide) ?_
      refine ial_w (k := 0) hx hb hK hP (RSl.app _ (RSl.app _ (RSl.app _ (RSl.app _ (RSl.left _ (RSl.row (by omega))))))) (by omega) (by decide) dL_law_633 ?_
      refine lv_iv (y := (was k 0)) rfl ?_
      refine lv_iv (y := (nI (tn (sg0 k 0)))) ((hw9 k hk 0 (by decide)).trans er9) ?_
      refine ald_p (n := R) (k := tn (sg0 k 0)) hx hb hK hP 34 rfl (by omega) (by omega) dL_law_634 ?_
      refine lv_iconst (v := 1) hx hb dL_law_635 (by decide) ?_
      refine ial_w (k := 1) hx hb hK hP (RSl.app _ (RSl.app _ (RSl.app _ (RSl.app _ (RSl.app _ (RSl.left _ (RSl.row (by omega)))))))) (by omega) (by decide) dL_law_636 ?_
      refine lv_iv (y := (rm (tn (sg0 k 0)) 1)) rfl ?_
      refine lv_iv (y := (sr (tn (sg0 k 0)) 1)) ((hm9 _ hr9 1 (by decide)).trans (rt_1 sr sg0 G _)) ?_
      refine lv_iconst (v := 1) hx hb dL_law_637 (by decide) ?_
      refine lv_icmp_eq (tgt := 675) hx hb dL_law_638 (by decide) (fun c638 => ?_) (fun c638 => ?_)
      · exact absurd c638 (fun q => c622 (by rw [ez, if_neg c614, (hz9 _ hr9).2 (Or.inl q)]; decide))
      refine lv_iload hx hb dL_law_641 (lv_at hl 7 rfl) ?_
      refine lv_iconst (v := 4) hx hb dL_law_643 (by decide) ?_
      refine lv_icmp_eq (tgt := 675) hx hb dL_law_644 (by decide) (fun c644 => ?_) (fun c644 => ?_)
      · exact absurd c644 (fun q => c622 (by rw [ez, if_neg c614, (hz9 _ hr9).2 (Or.inr (nI_ij (b := 4) (by have := tri_le n0; omega) (by omega) q))]; decide))
      refine lv_aload hx hb dL_law_647 (lv_at hl 18 rfl) ?_
      refine lv_aload hx hb dL_law_649 (lv_at hl 10 rfl) ?_
      refine lv_iload hx hb dL_law_651 (lv_at hl 19 rfl) ?_
      refine ald_p (n := G) (k := k) hx hb hK hP 33 rfl (by omega) (by omega) dL_law_653 ?_
      refine lv_iconst (v := 0) hx hb dL_law_654 (by decide) ?_
      refine ial_w (k := 0) hx hb hK hP (RSl.app _ (RSl.app _ (RSl.app _ (RSl.app _ (RSl.left _ (RSl.row (by omega))))))) (by omega) (by decide) dL_law_655 ?_
      refine lv_iv (y := (was k 0)) rfl ?_
      refine lv_iv (y := (nI (tn (sg0 k 0)))) ((hw9 k hk 0 (by decide)).trans er9) ?_
      refine ial_n (k := tn (sg0 k 0)) hx hb hK hP 35 rfl (by omega) (by omega) dL_law_656 ?_
      refine lv_if_lt (tgt := 677) hx hb dL_law_657 (by decide) (fun c657 => ?_) (fun c657 => ?_)
      · refine lv_aload hx hb dL_law_677 (lv_at hl 18 rfl) ?_
        refine lv_aload hx hb dL_law_679 (lv_at hl 10 rfl) ?_
        refine lv_iload hx hb dL_law_681 (lv_at hl 19 rfl) ?_
        refine ald_p (n := G) (k := k) hx hb hK hP 33 rfl (by omega) (by omega) dL_law_683 ?_
        refine lv_iconst (v := 0) hx hb dL_law_684 (by decide) ?_
        refine ial_w (k := 0) hx hb hK hP (RSl.app _ (RSl.app _ (RSl.app _ (RSl.app _ (RSl.left _ (RSl.row (by omega))))))) (by omega) (by decide) dL_law_685 ?_
        refine lv_iv (y := (was k 0)) rfl ?_
        refine lv_iv (y := (nI (tn (sg0 k 0)))) ((hw9 k hk 0 (by decide)).trans er9) ?_
        refine lv_iload hx hb dL_law_686 (lv_at hl 21 rfl) ?_
        refine ias_n (k := tn (sg0 k 0)) hx hb hK hP hD hS 35 rfl (by omega) (by omega) dL_law_688 (fun H locs hP hD hS => ?_)
        have hP : va_P D vwCl (((CWX cy qx qi qh qc qr qw qb qg qR qW qT qS qJ qY ql qiz qhz qcz qrz qwz qbz qgz qRz qWz qTz qSz qJz qYz qlz (nI n) nf fc (nI R) fw fb (nI G) gR gW gT gS gJ gY fl ntz nfz fcz nrz fwz fbz ngz gRz gWz gTz gSz gJz gYz flz) ++ [(qm, .inr (5, [.ref ho, .ref ro, .ref go, .int (nI n), .int sf])), (ho, .inl (cy 3, 10, .inr (.inr (.inr (.inr (pf 10 ah)))))), (ro, .inl (cy 3, R, .inr (.inr (.inr (.inr (pf R ar)))))), (go, .inl (cy 3, G, .inr (.inr (.inr (.inr (pf G ag)))))), (zw, .inl (cy 3, G, .inr (.inr (.inr (.inr (pf G uw)))))), (zo, .inl (cy 3, R, .inr (.inr (.inr (.inr (pf R um)))))), (zs, .inl (cy 0, R, .inl (upd se (tn (sg0 k 0)) (nI (z k)))))]) ++ (rws cy 10 5 ah sh ++ (rws cy R 2 ar sr ++ (rws cy G 6 ag sg ++ (rws cy G 6 uw was ++ (rws cy R 5 um rm ++ Y)))))) H := hP
        have hD : va_D A (((CWX cy qx qi qh qc qr qw qb qg qR qW qT qS qJ qY ql qiz qhz qcz qrz qwz qbz qgz qRz qWz qTz qSz qJz qYz qlz (nI n) nf fc (nI R) fw fb (nI G) gR gW gT gS gJ gY fl ntz nfz fcz nrz fwz fbz ngz gRz gWz gTz gSz gJz gYz flz) ++ [(qm, .inr (5, [.ref ho, .ref ro, .ref go, .int (nI n), .int sf])), (ho, .inl (cy 3, 10, .inr (.inr (.inr (.inr (pf 10 ah)))))), (ro, .inl (cy 3, R, .inr (.inr (.inr (.inr (pf R ar)))))), (go, .inl (cy 3, G, .inr (.inr (.inr (.inr (pf G ag)))))), (zw, .inl (cy 3, G, .inr (.inr (.inr (.inr (pf G uw)))))), (zo, .inl (cy 3, R, .inr (.inr (.inr (.inr (pf R um)))))), (zs, .inl (cy 0, R, .inl (upd se (tn (sg0 k 0)) (nI (z k)))))]) ++ (rws cy 10 5 ah sh ++ (rws cy R 2 ar sr ++ (rws cy G 6 ag sg ++ (rws cy G 6 uw was ++ (rws cy R 5 um rm ++ Y)))))) := hD
        refine lv_iinc (v := (nI (k + 1))) (lv' := [(20, .int (nI (k + 1))), (0, .ref b), (1, .ref qx), (2, .ref qm), (3, .int (nI tm)), (5, .int (nI R)), (6, .int (nI G)), (7, .int (nI n0)), (8, .int (nI (tri n0))), (9, .int (nI fl0)), (10, .int sf0), (11, .ref zw), (12, .ref zo), (13, .int seen), (14, .int thn), (15, .int takes), (16, .int tk), (17, .int sw), (18, .int jr), (19, .ref zs), (21, .int (nI (t k))), (22, .int (nI (z k)))]) hx hb dL_law_689 hl (k := 19) rfl (nI_1 k) (by decide) rfl (fun ls hl => ?_)
        refine lv_goto (tgt := 379) hx hb dL_law_692 (by decide) ?_
        refine W.widen (k := cells + 0) (n := slots + 0) (by omega) (by omega) ?_
        exact back (upd se (tn (sg0 k 0)) (nI (z k))) _ _ _ hP hD hS (lv_sub hl [1, 2, 3, 4, 5, 6, 7, 8, 9, 10, 11, 12, 13, 14, 15, 16, 17, 18, 19, 0] rfl) (SE.up hse (by rw [ez, if_neg c614]))
      · refine lv_aload hx hb dL_law_660 (lv_at hl 18 rfl) ?_
        refine lv_aload hx hb dL_law_662 (lv_at hl 10 rfl) ?_
        refine lv_iload hx hb dL_law_664 (lv_at hl 19 rfl) ?_
        refine ald_p (n := G) (k := k) hx hb hK hP 33 rfl (by omega) (by omega) dL_law_666 ?_
        refine lv_iconst (v := 0) hx hb dL_law_667 (by decide) ?_
        refine ial_w (k := 0) hx hb hK hP (RSl.app _ (RSl.app _ (RSl.app _ (RSl.app _ (RSl.left _ (RSl.row (by omega))))))) (by omega) (by decide) dL_law_668 ?_
        refine lv_iv (y := (was k 0)) rfl ?_
        refine lv_iv (y := (nI (tn (sg0 k 0)))) ((hw9 k hk 0 (by decide)).trans er9) ?_
        refine ial_n (k := tn (sg0 k 0)) hx hb hK hP 35 rfl (by omega) (by omega) dL_law_669 ?_
        refine lv_iload hx hb dL_law_670 (lv_at hl 21 rfl) ?_
        refine lv_icmp_eq (tgt := 677) hx hb dL_law_672 (by decide) (fun c672 => ?_) (fun c672 => ?_)
        rotate_left
        · exact absurd ((SE.eq hse hr9 c657).trans (by rw [ez, if_neg c614])) c672
        refine lv_aload hx hb dL_law_677 (lv_at hl 18 rfl) ?_
        refine lv_aload hx hb dL_law_679 (lv_at hl 10 rfl) ?_
        refine lv_iload hx hb dL_law_681 (lv_at hl 19 rfl) ?_
        refine ald_p (n := G) (k := k) hx hb hK hP 33 rfl (by omega) (by omega) dL_law_683 ?_
        refine lv_iconst (v := 0) hx hb dL_law_684 (by decide) ?_
        refine ial_w (k := 0) hx hb hK hP (RSl.app _ (RSl.app _ (RSl.app _ (RSl.app _ (RSl.left _ (RSl.row (by omega))))))) (by omega) (by decide) dL_law_685 ?_
        refine lv_iv (y := (was k 0)) rfl ?_
        refine lv_iv (y := (nI (tn (sg0 k 0)))) ((hw9 k hk 0 (by decide)).trans er9) ?_
        refine lv_iload hx hb dL_law_686 (lv_at hl 21 rfl) ?_
        refine ias_n (k := tn (sg0 k 0)) hx hb hK hP hD hS 35 rfl (by omega) (by omega) dL_law_688 (fun H locs hP hD hS => ?_)
        have hP : va_P D vwCl (((CWX cy qx qi qh qc qr qw qb qg qR qW qT qS qJ qY ql qiz qhz qcz qrz qwz qbz qgz qRz qWz qTz qSz qJz qYz qlz (nI n) nf fc (nI R) fw fb (nI G) gR gW gT gS gJ gY fl ntz nfz fcz nrz fwz fbz ngz gRz gWz gTz gSz gJz gYz flz) ++ [(qm, .inr (5, [.ref ho, .ref ro, .ref go, .int (nI n), .int sf])), (ho, .inl (cy 3, 10, .inr (.inr (.inr (.inr (pf 10 ah)))))), (ro, .inl (cy 3, R, .inr (.inr (.inr (.inr (pf R ar)))))), (go, .inl (cy 3, G, .inr (.inr (.inr (.inr (pf G ag)))))), (zw, .inl (cy 3, G, .inr (.inr (.inr (.inr (pf G uw)))))), (zo, .inl (cy 3, R, .inr (.inr (.inr (.inr (pf R um)))))), (zs, .inl (cy 0, R, .inl (upd se (tn (sg0 k 0)) (nI (z k)))))]) ++ (rws cy 10 5 ah sh ++ (rws cy R 2 ar sr ++ (rws cy G 6 ag sg ++ (rws cy G 6 uw was ++ (rws cy R 5 um rm ++ Y)))))) H := hP
        have hD : va_D A (((CWX cy qx qi qh qc qr qw qb qg qR qW qT qS qJ qY ql qiz qhz qcz qrz qwz qbz qgz qRz qWz qTz qSz qJz qYz qlz (nI n) nf fc (nI R) fw fb (nI G) gR gW gT gS gJ gY fl ntz nfz fcz nrz fwz fbz ngz gRz gWz gTz gSz gJz gYz flz) ++ [(qm, .inr (5, [.ref ho, .ref ro, .ref go, .int (nI n), .int sf])), (ho, .inl (cy 3, 10, .inr (.inr (.inr (.inr (pf 10 ah)))))), (ro, .inl (cy 3, R, .inr (.inr (.inr (.inr (pf R ar)))))), (go, .inl (cy 3, G, .inr (.inr (.inr (.inr (pf G ag)))))), (zw, .inl (cy 3, G, .inr (.inr (.inr (.inr (pf G uw)))))), (zo, .inl (cy 3, R, .inr (.inr (.inr (.inr (pf R um)))))), (zs, .inl (cy 0, R, .inl (upd se (tn (sg0 k 0)) (nI (z k)))))]) ++ (rws cy 10 5 ah sh ++ (rws cy R 2 ar sr ++ (rws cy G 6 ag sg ++ (rws cy G 6 uw was ++ (rws cy R 5 um rm ++ Y)))))) := hD
        refine lv_iinc (v := (nI (k + 1))) (lv' := [(20, .int (nI (k + 1))), (0, .ref b), (1, .ref qx), (2, .ref qm), (3, .int (nI tm)), (5, .int (nI R)), (6, .int (nI G)), (7, .int (nI n0)), (8, .int (nI (tri n0))), (9, .int (nI fl0)), (10, .int sf0), (11, .ref zw), (12, .ref zo), (13, .int seen), (14, .int thn), (15, .int takes), (16, .int tk), (17, .int sw), (18, .int jr), (19, .ref zs), (21, .int (nI (t k))), (22, .int (nI (z k)))]) hx hb dL_law_689 hl (k := 19) rfl (nI_1 k) (by decide) rfl (fun ls hl => ?_)
        refine lv_goto (tgt := 379) hx hb dL_law_692 (by decide) ?_
        refine W.widen (k := cells + 0) (n := slots + 0) (by omega) (by omega) ?_
        exact back (upd se (tn (sg0 k 0)) (nI (z k))) _ _ _ hP hD hS (lv_sub hl [1, 2, 3, 4, 5, 6, 7, 8, 9, 10, 11, 12, 13, 14, 15, 16, 17, 18, 19, 0] rfl) (SE.up hse (by rw [ez, if_neg c614]))
  · refine lv_goto (tgt := 689) hx hb dL_law_617 (by decide) ?_
    refine lv_iinc (v := (nI (k + 1))) (lv' := [(20, .int (nI (k + 1))), (0, .ref b), (1, .ref qx), (2, .ref qm), (3, .int (nI tm)), (5, .int (nI R)), (6, .int (nI G)), (7, .int (nI n0)), (8, .int (nI (tri n0))), (9, .int (nI fl0)), (10, .int sf0), (11, .ref zw), (12, .ref zo), (13, .int seen), (14, .int thn), (15, .int takes), (16, .int tk), (17, .int sw), (18, .int jr), (19, .ref zs), (21, .int (nI (t k))), (22, .int (nI (z k)))]) hx hb dL_law_689 hl (k := 19) rfl (nI_1 k) (by decide) rfl (fun ls hl => ?_)
    refine lv_goto (tgt := 379) hx hb dL_law_692 (by decide) ?_
    refine W.widen (k := cells + 0) (n := slots + 0) (by omega) (by omega) ?_
    exact back se _ _ _ hP hD hS (lv_sub hl [1, 2, 3, 4, 5, 6, 7, 8, 9, 10, 11, 12, 13, 14, 15, 16, 17, 18, 19, 0] rfl) hse
