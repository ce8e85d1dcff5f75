theorem gon_0 (q : Nat) (f : Nat → Int32) : gon q f 0 = 0 := if_neg (Nat.not_lt_zero q)
theorem gon_R {R n : Nat} {f : Nat → Int32} {sf sf9 : Int32} (h0 : R = 0 → sf9 = sf) (h1 : 0 < R → sf9 = sf + f (n % R)) : sf9 = sf + gon (n % R) f R := by
  unfold gon
  by_cases c : 0 < R
  · rw [if_pos (Nat.mod_lt _ c), h1 c]
  · have e : R = 0 := by omega
    subst e
    rw [if_neg (Nat.not_lt_zero _), h0 rfl, Int32.add_zero]
set_option maxHeartbeats 4000000 in
set_option maxRecDepth 100000 in
theorem lw_round {p : Program} {l : Launch} {e : Env} {s : State} {m : MethodId} {args : Array Value} {below : List Frame} {meth : Method} {c : Code} {H : Heap} {locs : List Loc} {cells slots : Nat} {Q : State → Prop} {D : va_G} {cy : Nat → ClassId} {A : Nat → Prop} {ls : Array Slot} {b L : Nat} {xs : Nat → Int32} {qx qi qh qc qr qw qb qg qR qW qT qS qJ qY ql qiz qhz qcz qrz qwz qbz qgz qRz qWz qTz qSz qJz qYz qlz qm ho ro go : Nat} {ah ar ag : Nat → Nat} {Y : va_W} {R G n tm : Nat} {nf : Int32} {fc : Nat → Int32} {fw : Nat → Int32} {fb : Nat → Int32} {gR : Nat → Int32} {gW : Nat → Int32} {gT : Nat → Int32} {gS : Nat → Int32} {gJ : Nat → Int32} {gY : Nat → Int32} {fl : Nat → Int32} {ntz : Int32} {nfz : Int32} {fcz : Nat → Int32} {nrz : Int32} {fwz : Nat → Int32} {fbz : Nat → Int32} {ngz : Int32} {gRz : Nat → Int32} {gWz : Nat → Int32} {gTz : Nat → Int32} {gSz : Nat → Int32} {gJz : Nat → Int32} {gYz : Nat → Int32} {flz : Nat → Int32} {sf : Int32} {sh : Nat → Nat → Int32} {sr : Nat → Nat → Int32} {sg : Nat → Nat → Int32} (C0 : LC cL_law 26 wsL_law p s m args c D cy A b L xs) (hL : L ≤ 260) (hn19 : n < 2 ^ 19) (htm : tm < 36) (hRel : Rel R G n (nI n) nf fc (nI R) fw fb (nI G) gR gW gT gS gJ gY (EH sh) (EW sr) (EL sr) (EP sg) (EN (nI n) sf)) (hc : cells + 37 ≤ 600130) (hs : slots + 232 ≤ 7301079) (hP : va_P D vwCl (AWL cy qx qi qh qc qr qw qb qg qR qW qT qS qJ qY ql qiz qhz qcz qrz qwz qbz qgz qRz qWz qTz qSz qJz qYz qlz qm ho ro go ah ar ag Y R G n nf fc fw fb gR gW gT gS gJ gY fl ntz nfz fcz nrz fwz fbz ngz gRz gWz gTz gSz gJz gYz flz sf sh sr sg) H) (hD : va_D A (AWL cy qx qi qh qc qr qw qb qg qR qW qT qS qJ qY ql qiz qhz qcz qrz qwz qbz qgz qRz qWz qTz qSz qJz qYz qlz qm ho ro go ah ar ag Y R G n nf fc fw fb gR gW gT gS gJ gY fl ntz nfz fcz nrz fwz fbz ngz gRz gWz gTz gSz gJz gYz flz sf sh sr sg)) (hS : va_S A s.heap H locs) (hl : lv_has ls 26 [(0, .ref b), (1, .ref qx), (2, .ref qm), (3, .int (nI tm))])
    (back : ∀ (ho : Nat) (ro : Nat) (go : Nat) (ah : Nat → Nat) (ar : Nat → Nat) (ag : Nat → Nat) (Y : va_W) (R : Nat) (G : Nat) (nf : Int32) (fc : Nat → Int32) (fw : Nat → Int32) (fb : Nat → Int32) (gR : Nat → Int32) (gW : Nat → Int32) (gT : Nat → Int32) (gS : Nat → Int32) (gJ : Nat → Int32) (gY : Nat → Int32) (fl : Nat → Int32) (ntz : Int32) (nfz : Int32) (fcz : Nat → Int32) (nrz : Int32) (fwz : Nat → Int32) (fbz : Nat → Int32) (ngz : Int32) (gRz : Nat → Int32) (gWz : Nat → Int32) (gTz : Nat → Int32) (gSz : Nat → Int32) (gJz : Nat → Int32) (gYz : Nat → Int32) (flz : Nat → Int32) (sf : Int32) (sh : Nat → Nat → Int32) (sr : Nat → Nat → Int32) (sg : Nat → Nat → Int32) (H : Heap) (locs : List Loc) (ls : Array Slot), Rel R G (n + 1) (nI (n + 1)) nf fc (nI R) fw fb (nI G) gR gW gT gS gJ gY (EH sh) (EW sr) (EL sr) (EP sg) (EN (nI (n + 1)) sf) → va_P D vwCl (AWL cy qx qi qh qc qr qw qb qg qR qW qT qS qJ qY ql qiz qhz qcz qrz qwz qbz qgz qRz qWz qTz qSz qJz qYz qlz qm ho ro go ah ar ag Y R G (n + 1) nf fc fw fb gR gW gT gS gJ gY fl ntz nfz fcz nrz fwz fbz ngz gRz gWz gTz gSz gJz gYz flz sf sh sr sg) H → va_D A (AWL cy qx qi qh qc qr qw qb qg qR qW qT qS qJ qY ql qiz qhz qcz qrz qwz qbz qgz qRz qWz qTz qSz qJz qYz qlz qm ho ro go ah ar ag Y R G (n + 1) nf fc fw fb gR gW gT gS gJ gY fl ntz nfz fcz nrz fwz fbz ngz gRz gWz gTz gSz gJz gYz flz sf sh sr sg) → va_S A s.heap H locs → lv_has ls 26 [(0, .ref b), (1, .ref qx), (2, .ref qm), (3, .int (nI (tm + 1)))] → W p l e room_1 s m args below meth c H locs (cells + 37) (slots + 232) Q (F0 m 22 ls [])) : W p l e room_1 s m args below meth c H locs cells slots Q (F0 m 28 ls []) := by
  have hx := C0.1
  have hb := C0.2.1
  have hn20 : n < 2 ^ 20 := by omega
  have hn21 : n + 1 < 2 ^ 20 := by omega
  refine sg_ax C0 hL hn20 hRel htm (by omega) (by omega) hP hD hS hl (fun x H locs ls hP hD hS hl => ?_)
  refine lv_iload hx hb dL_law_54 (lv_at hl 5 rfl) ?_
  refine lv_iconst (v := 2) hx hb dL_law_56 (by decide) ?_
  refine lv_icmp_ge (tgt := 89) hx hb dL_law_57 (by decide) (fun c9 => ?_) (fun c9 => ?_)
  · exact absurd c9 (nI_ge (a := 0) (b := 2) (by decide) (by decide))
  refine sg_act2 (k := 0) C0 hL hn20 hRel htm (by decide) (by omega) (by omega) hP hD hS hl (fun R G ro go ar ag fc fw fb gR gW gJ gY sh sr sg H locs ls hP hD hS hl hRel => ?_)
  refine lv_iload hx hb dL_law_54 (lv_at hl 5 rfl) ?_
  refine lv_iconst (v := 2) hx hb dL_law_56 (by decide) ?_
  refine lv_icmp_ge (tgt := 89) hx hb dL_law_57 (by decide) (fun c9 => ?_) (fun c9 => ?_)
  · exact absurd c9 (nI_ge (a := 0 + 1) (b := 2) (by decide) (by decide))
  refine sg_act2 (k := 0 + 1) C0 hL hn20 hRel htm (by decide) (by omega) (by omega) hP hD hS hl (fun R G ro go ar ag fc fw fb gR gW gJ gY sh sr sg H locs ls hP hD hS hl hRel => ?_)
  refine lv_iload hx hb dL_law_54 (lv_at hl 5 rfl) ?_
  refine lv_iconst (v := 2) hx hb dL_law_56 (by decide) ?_
  refine lv_icmp_ge (tgt := 89) hx hb dL_law_57 (by decide) (fun c9 => ?_) (fun c9 => ?_)
  rotate_left
  · exact absurd (nI_le (a := 2) (b := 0 + 1 + 1) (by decide) (by decide)) c9
  have hR := hRel.1
  have hG := hRel.2.1
  refine sg_counts C0 hL hn20 hRel (by omega) (by omega) hP hD hS (lv_sub hl [0, 1, 2, 3] rfl) (fun H locs ls hP hD hS hl => ?_)
  refine sg_was0 C0 hL hn20 hRel (by omega) (by omega) hP hD hS hl (fun zw uw H locs ls hP hD hS hl => ?_)
  refine lw_was C0 hL hn20 hRel (by omega) (by omega) (fun was H locs ls hP hD hS hl hw9 => ?_) G 0 (Nat.zero_add G) _ H locs ls (fun g hg => absurd hg (Nat.not_lt_zero _)) hP hD hS hl
  refine sg_room0 C0 hL hn20 hRel (by omega) (by omega) hP hD hS hl (fun zo um H locs ls hP hD hS hl => ?_)
  refine lw_room C0 hL hn20 hRel (by omega) (by omega) (fun rm H locs ls hP hD hS hl hm9 => ?_) R 0 (Nat.zero_add R) _ H locs ls (fun g hg => absurd hg (Nat.not_lt_zero _)) hP hD hS hl
  refine sg_fore C0 hL hn20 hRel (by omega) (by omega) hP hD hS hl (fun ntz nfz fcz nrz fwz fbz ngz gRz gWz gTz gSz gJz gYz flz H locs ls hP hD hS hl => ?_)
  refine sg_moon C0 hL hn20 hRel (by omega) (by omega) hP hD hS hl (fun H locs ls hP hD hS hl => ?_)
  refine sg_night C0 hL hn20 hRel (by omega) (by omega) hP hD hS hl (fun on un nf9 fc9 gT9 gS9 gJ9 fl9 sh9 sg9 sf9 seen thn takes H locs ls hP hD hS hl hRel9 hNF => ?_)
  obtain ⟨t, z, zr, hg, h0, f1, f2, f3, f4, f5, f6, f7, f8, f9, f10, f11⟩ := hNF
  rw [f9] at hl
  refine sg_sees0 C0 hL hn21 hRel9 (by omega) (by omega) hP hD hS hl (fun zs H locs ls hP hD hS hl => ?_)
  refine lw_sees C0 hL hn21 hRel9 (by omega) (by omega) (fun se H locs ls hP hD hS hl hse => ?_) R 0 (Nat.zero_add R) _ H locs ls (fun g hg => absurd hg (Nat.not_lt_zero _)) hP hD hS hl
  refine lv_iconst (v := 0) hx hb dL_law_376 (by decide) ?_
  refine lv_istore (lv' := [(20, .int (nI 0)), (0, .ref b), (1, .ref qx), (2, .ref qm), (3, .int (nI tm)), (5, .int (nI R)), (6, .int (nI G)), (7, .int (nI n)), (8, .int (nI (tri n))), (9, .int (nI (sn h0 50))), (10, .int sf), (11, .ref zw), (12, .ref zo), (13, .int seen), (14, .int thn), (15, .int takes), (16, .int 0), (17, .int 0), (18, .int 0), (19, .ref zs)]) hx hb dL_law_377 hl (by decide) rfl (fun ls hl => ?_)
  refine lw_guests C0 hL hn21 hRel9 (t := t) (z := z) (zr := zr) (sg0 := sg) f1 hRel.si hw9 f2 hn20 hm9 (by omega) (by omega) (fun se H locs ls hP hD hS hl hse9 => ?_) G 0 (Nat.zero_add G) se H locs ls (fun r hr => Or.inl (hse r hr)) hP hD hS (lv_sub hl [1, 2, 3, 4, 5, 6, 7, 8, 9, 10, 11, 12, 13, 14, 15, 16, 17, 18, 19, 0] rfl)
  refine lv_iconst (v := 0) hx hb dL_law_695 (by decide) ?_
  refine lv_iv (y := (gon (n % R) (fun r => rt sr sg G r 4) 0)) (gon_0 _ _).symm ?_
  refine lv_istore (lv' := [(20, .int (gon (n % R) (fun r => rt sr sg G r 4) 0)), (0, .ref b), (1, .ref qx), (2, .ref qm), (3, .int (nI tm)), (5, .int (nI R)), (6, .int (nI G)), (7, .int (nI n)), (8, .int (nI (tri n))), (9, .int (nI (sn h0 50))), (10, .int sf), (11, .ref zw), (12, .ref zo), (13, .int seen), (14, .int thn), (15, .int takes), (16, .int (sm (fun g => nI (t g)) G)), (17, .int (sm (fun g => nI (z g)) G)), (18, .int (sm (fun g => sg9 g 2) G)), (19, .ref zs)]) hx hb dL_law_696 hl (by decide) rfl (fun ls hl => ?_)
  refine lv_iconst (v := 0) hx hb dL_law_698 (by decide) ?_
  refine lv_istore (lv' := [(21, .int (nI 0)), (20, .int (gon (n % R) (fun r => rt sr sg G r 4) 0)), (0, .ref b), (1, .ref qx), (2, .ref qm), (3, .int (nI tm)), (5, .int (nI R)), (6, .int (nI G)), (7, .int (nI n)), (8, .int (nI (tri n))), (9, .int (nI (sn h0 50))), (10, .int sf), (11, .ref zw), (12, .ref zo), (13, .int seen), (14, .int thn), (15, .int takes), (16, .int (sm (fun g => nI (t g)) G)), (17, .int (sm (fun g => nI (z g)) G)), (18, .int (sm (fun g => sg9 g 2) G)), (19, .ref zs)]) hx hb dL_law_699 hl (by decide) rfl (fun ls hl => ?_)
  refine lw_rooms C0 hL hn21 hRel9 hm9 (fun g hg9 => ⟨(f1 g hg9).1, (f1 g hg9).2.1, (f1 g hg9).2.2.1⟩) hn20 (by omega) (by omega) (fun H locs ls hP hD hS hl => ?_) R 0 (Nat.zero_add R) H locs ls hP hD hS (lv_sub hl [2, 3, 4, 5, 6, 7, 8, 9, 10, 11, 12, 13, 14, 15, 16, 17, 18, 19, 1, 0] rfl)
  refine sg_sums C0 hL hn21 hRel9 f4 f3 (gon_R f6 f7) (by omega) (by omega) hP hD hS hl (fun H locs ls hP hD hS hl => ?_)
  refine lw_cells C0 hL hn21 hRel9 (by omega) (by omega) (fun H locs ls hP hD hS hl => ?_) 10 0 rfl H locs ls hP hD hS (lv_sub hl [0, 1, 2, 3, 4, 5, 6, 7, 8, 9, 10, 11, 12, 13, 14, 15, 16, 17, 18] rfl)
  obtain ⟨g1, g2, g3⟩ := cells_end f8
  refine sg_end (SA := sn (cvs sh9) (5 * 10)) (MO := sn (mss sr sh9 R) (5 * 10)) (fl0 := sn h0 50) (t := t) C0 hL hn21 hRel9 (f5.trans (flies_cvs (fun x y hx9 hy9 => (hRel9.cv hx9 hy9).1))) (by omega) f10 (by show sn (cvs sh9) 50 + sn t G ≤ sn h0 50 + sn (mss sr sh9 R) 50; omega) g3 (by omega) (by omega) hP hD hS hl (fun H locs ls hP hD hS hl => ?_)
  refine W.widen (k := cells + 37) (n := slots + 232) (by omega) (by omega) ?_
  exact back on ro go un ar ag (rws cy G 6 uw was ++ (rws cy R 5 um rm ++ Y)) R G nf9 fc9 fw fb gR gW gT9 gS9 gJ9 gY fl9 ntz nfz fcz nrz fwz fbz ngz gRz gWz gTz gSz gJz gYz flz sf9 sh9 sr sg9 H locs ls hRel9 hP hD hS hl
