/-! what every contract of this claim is made of: the tables' words of nest mates, the worlds before and behind a method, and rows that join a call's world to its caller's -/
def nwL : List Cond := [.methodLinkNest "FireflyInn" 11 ⟨"FireflyInn$Inn", "<init>", "()V"⟩ "FireflyInn", .methodLinkNest "FireflyInn$Inn" 11 ⟨"FireflyInn$Hedge", "<init>", "()V"⟩ "FireflyInn", .methodLinkNest "FireflyInn$Inn" 20 ⟨"FireflyInn$Rooms", "<init>", "()V"⟩ "FireflyInn", .methodLinkNest "FireflyInn$Inn" 27 ⟨"FireflyInn$Guests", "<init>", "()V"⟩ "FireflyInn", .fieldLinkNest "FireflyInn" 27 "FireflyInn$Inn" "hedge" "LFireflyInn$Hedge;" "FireflyInn", .fieldLinkNest "FireflyInn" 40 "FireflyInn$Inn" "rooms" "LFireflyInn$Rooms;" "FireflyInn", .fieldLinkNest "FireflyInn" 79 "FireflyInn$Inn" "guests" "LFireflyInn$Guests;" "FireflyInn", .methodLinkNest "FireflyInnLaw" 58 ⟨"FireflyInnLaw$Sim", "<init>", "()V"⟩ "FireflyInnLaw", .methodLinkNest "FireflyInn$Guests" 62 ⟨"FireflyInn", "sum", "([I)I"⟩ "FireflyInn", .methodLinkNest "FireflyInn$Hedge" 31 ⟨"FireflyInn", "sum", "([I)I"⟩ "FireflyInn", .methodLinkNest "FireflyInn$Rooms" 27 ⟨"FireflyInn", "countTrue", "([Z)I"⟩ "FireflyInn", .methodLinkNest "FireflyInn$Guests" 58 ⟨"FireflyInn", "countTrue", "([Z)I"⟩ "FireflyInn", .castable "[I" "java/lang/Cloneable", .arrayOver (.array .int)]
def NWp (U : State) : Prop := ∀ (k : Nat) (w : Cond), nwL[k]? = some w → va_Nw w U
theorem NWp.at {U : State} (h : NWp U) (k : Nat) {w : Cond} (hk : nwL[k]? = some w) : va_Nw w U := h k w hk
theorem NWp.same {u U : State} (hvm : u.vm = U.vm) (h : NWp u) : NWp U := by
  have hal : u.vm.Alike U.vm := hvm ▸ Vm.Alike.refl u.vm
  intro k w hk
  have h0 := h k w hk
  have hm := List.mem_of_getElem? hk
  simp only [nwL, List.mem_cons, List.not_mem_nil, or_false] at hm
  rcases hm with rfl | rfl | rfl | rfl | rfl | rfl | rfl | rfl | rfl | rfl | rfl | rfl | rfl | rfl <;> first | exact over_moved hal h0 | exact va_Nw.same rfl hvm h0
theorem NWp.warm {u U : State} (hW : u.WarmedH U.vm) (h : NWp u) : NWp U := by
  intro k w hk
  have h0 := h k w hk
  have hm := List.mem_of_getElem? hk
  simp only [nwL, List.mem_cons, List.not_mem_nil, or_false] at hm
  rcases hm with rfl | rfl | rfl | rfl | rfl | rfl | rfl | rfl | rfl | rfl | rfl | rfl | rfl | rfl <;> first | exact va_Nw.warmM hW h0 | exact va_Nw.warmF hW h0 | exact va_Nw.warmC hW h0 | exact over_moved hW.alike h0
theorem va_Nw.arr {args : Array Value} {U : State} {t : FieldType} (h : va_Nw (.arrayOver t) U) : (Cond.arrayOver t).before args U = true := h
/-- the array classes of the worlds, by place: int[], boolean[], (once more), int[][] -/
abbrev TY (cy : Nat → ClassId) : List (ClassId × FieldType) := [(cy 0, .int), (cy 1, .boolean), (cy 2, .boolean), (cy 3, .array .int)]
abbrev PcW (D : va_G) (cy : Nat → ClassId) (ws : va_W) (sz : Nat) (av : List Value) : Array Value → State → Prop := va_Pc av (fun U => U.heap.size = sz ∧ NWp U ∧ va_P D vwCl ws U.heap ∧ va_K D vwCl (TY cy) U ∧ va_D (fun _ => True) ws)
abbrev BW (D : va_G) (cy : Nat → ClassId) (A : Nat → Prop) (ws : va_W) (t : State) : Prop := va_P D vwCl ws t.heap ∧ va_K D vwCl (TY cy) t ∧ va_D A ws
abbrev QiT (D : va_G) (cy : Nat → ClassId) {τ : Type} (rf : τ → Int32) (wf : τ → va_W) (F : τ) (A : Nat → Prop) : Array Value → State → Outcome → State → Prop := va_Qi (fun (r : Int32) (_ : Unit) => r = rf F) (fun _ t => BW D cy A (wf F) t) A
abbrev QlT (D : va_G) (cy : Nat → ClassId) {τ : Type} (rf : τ → Int64) (wf : τ → va_W) (F : τ) (A : Nat → Prop) : Array Value → State → Outcome → State → Prop := va_Ql (fun (r : Int64) (_ : Unit) => r = rf F) (fun _ t => BW D cy A (wf F) t) A
abbrev QvT (D : va_G) (cy : Nat → ClassId) {τ : Type} (wf : τ → va_W) (F : τ) (A : Nat → Prop) : Array Value → State → Outcome → State → Prop := va_Qv (fun (_ : Unit) => True) (fun _ t => BW D cy A (wf F) t) A
abbrev RM (fr mc ms lo : Nat) : Room := { frames := fr, cells := mc, slots := ms, locals := lo }
/-- a contract: method y at the world ws with the arguments av -/
abbrev MTa (l : Launch) (D : va_G) (cy : Nat → ClassId) (y : MethodName) (wl : List Cond) (fr mc ms lo : Nat) (ws : va_W) (sz : Nat) (av : List Value) (Qf : (Nat → Prop) → Array Value → State → Outcome → State → Prop) : Prop := Met l y wl (RM fr mc ms lo) (PcW D cy ws sz av) (Qf (va_A ws sz)) mc ms (va_A ws sz)
theorem PcW_blind {D : va_G} {cy : Nat → ClassId} {ws : va_W} {sz : Nat} {av : List Value} : FrameBlind (PcW D cy ws sz av) := by
  intro a U g mk q
  obtain ⟨q0, q1, qN, qP, qK, qD⟩ := q
  exact ⟨q0, q1, NWp.same (u := U) (U := U.calling g mk a) rfl qN, qP, va_K.moved (u := U) (U := U.calling g mk a) (Vm.Alike.refl U.vm) qK, qD⟩
theorem ofWT {l : Launch} {D : va_G} {cy : Nat → ClassId} {y : MethodName} {wl wl' : List Cond} {fr mc ms lo : Nat} {ws : va_W} {sz : Nat} {av : List Value} {Qf : (Nat → Prop) → Array Value → State → Outcome → State → Prop} {cc : ByteArray} {maxL : Nat} {ret : Option FieldType} {own : String}
    (hy : plainName y.cls = true) (hw : wl = Cond.code y cc maxL ret :: wl') (hav : (lg_sl av).length ≤ maxL) (ho : y.cls = own)
    (body : ∀ (p : Program) (e : Env) (s : State) (m : MethodId) (args : Array Value) (below : List Frame) (meth : Method) (c : Code) (A : Nat → Prop) (ls : Array Slot), p.tables.exec = Jvm.exec → c.code = cc → meth.sig.returnType = ret → c.maxLocals = maxL → (∀ w ∈ wl, w.before args s = true) → s.vm.findClass own = some m.cls → meth.locks = false → meth.name = y.name → NWp s → va_K D vwCl (TY cy) s → va_P D vwCl ws s.heap → va_D A ws → (∀ q, s.heap.size ≤ q → A q) → lv_has ls maxL (lv_args 0 av) →
      W p l e (RM fr mc ms lo) s m args below meth c s.heap [] 0 0 (MQ below (Qf A) args s mc ms A) (F0 m 0 ls [])) : MTa l D cy y wl fr mc ms lo ws sz av Qf := by
  refine Met.ofW (cc := cc) (maxL := maxL) (ret := ret) hy hw ?_
  intro p e s m args below meth c s₁ B hml hv
  obtain ⟨rfl, hsz, hN, hP, hK, hD0⟩ := hv
  subst hsz
  subst ho
  have hD := hD0.self (sz := s.heap.size)
  have hl := lv_entry av (n := maxL) hav
  rw [lg_entry_eq]
  exact body p e s m _ below meth c _ _ B.exec B.bytes B.returns hml (atoms_spec (ws := wl) B.pre) (findClass_of_methodNamed B.named) B.notSynchronized (name_of_methodNamed B.named B.method).1 hN hK hP hD (fun q h => Or.inr h) hl
section
variable {p : Program} {l : Launch} {e : Env} {R : Room} {s : State} {m : MethodId} {args : Array Value} {below : List Frame} {meth : Method} {c : Code} {H : Heap} {locs : List Loc} {cells slots : Nat} {Q : State → Prop} {D : va_G} {cy : Nat → ClassId} {A : Nat → Prop} {H0 : Heap} {ls : Array Slot} {pc mc ms : Nat} {cc : ByteArray}
-- ends
theorem en_i {τ : Type} {rf : τ → Int32} {wf : τ → va_W} {F tv : τ} {v : Int32} (hx : p.tables.exec = Jvm.exec) (hb : c.code = cc) (hr : meth.sig.returnType = some .int) (hlocks : meth.locks = false) (hE : F = tv) (hv : v = rf tv) (hK : va_K D vwCl (TY cy) s) (hP : va_P D vwCl (wf tv) H) (hD : va_D A (wf tv)) (hS : va_S A s.heap H locs) (hc : cells ≤ mc) (hs : slots ≤ ms) (hdg : decode cc pc = .ok (.ireturn, 1)) :
    W p l e R s m args below meth c H locs cells slots (MQ below (QiT D cy rf wf F A) args s mc ms A) (F0 m pc ls [.int v]) := by
  subst hE; subst hv
  refine W.widen hc hs ?_
  exact W.iret hx hb hr (fun t ht hW => ⟨⟨_, (), rfl, rfl, by rw [ht]; exact hP, va_K.moved hW.alike hK, hD⟩, hS.F ht⟩) hS.2.2 hdg hlocks
theorem en_z {τ : Type} {rf : τ → Int32} {wf : τ → va_W} {F tv : τ} {v : Int32} (hx : p.tables.exec = Jvm.exec) (hb : c.code = cc) (hr : meth.sig.returnType = some .boolean) (hlocks : meth.locks = false) (hE : F = tv) (hv : v = rf tv) (hK : va_K D vwCl (TY cy) s) (hP : va_P D vwCl (wf tv) H) (hD : va_D A (wf tv)) (hS : va_S A s.heap H locs) (hc : cells ≤ mc) (hs : slots ≤ ms) (hn : v = 0 ∨ v = 1) (hdg : decode cc pc = .ok (.ireturn, 1)) :
    W p l e R s m args below meth c H locs cells slots (MQ below (QiT D cy rf wf F A) args s mc ms A) (F0 m pc ls [.int v]) := by
  subst hE
  refine W.widen hc hs ?_
  exact W.zret hx hb hr (by rcases hn with h | h <;> rw [h] <;> rfl) (fun t ht hW => ⟨⟨_, (), rfl, hv, by rw [ht]; exact hP, va_K.moved hW.alike hK, hD⟩, hS.F ht⟩) hS.2.2 hdg hlocks
theorem en_l {τ : Type} {rf : τ → Int64} {wf : τ → va_W} {F tv : τ} {v : Int64} (hx : p.tables.exec = Jvm.exec) (hb : c.code = cc) (hr : meth.sig.returnType = some .long) (hlocks : meth.locks = false) (hE : F = tv) (hv : v = rf tv) (hK : va_K D vwCl (TY cy) s) (hP : va_P D vwCl (wf tv) H) (hD : va_D A (wf tv)) (hS : va_S A s.heap H locs) (hc : cells ≤ mc) (hs : slots ≤ ms) (hdg : decode cc pc = .ok (.lreturn, 1)) :
    W p l e R s m args below meth c H locs cells slots (MQ below (QlT D cy rf wf F A) args s mc ms A) (F0 m pc ls [.long v]) := by
  subst hE; subst hv
  refine W.widen hc hs ?_
  exact W.lret hx hb hr (fun t ht hW => ⟨⟨_, (), rfl, rfl, by rw [ht]; exact hP, va_K.moved hW.alike hK, hD⟩, hS.F ht⟩) hS.2.2 hdg hlocks
theorem en_v {τ : Type} {wf : τ → va_W} {F tv : τ} (hx : p.tables.exec = Jvm.exec) (hb : c.code = cc) (hr : meth.sig.returnType = none) (hlocks : meth.locks = false) (hE : F = tv) (hK : va_K D vwCl (TY cy) s) (hP : va_P D vwCl (wf tv) H) (hD : va_D A (wf tv)) (hS : va_S A s.heap H locs) (hc : cells ≤ mc) (hs : slots ≤ ms) (hdg : decode cc pc = .ok (.return_, 1)) :
    W p l e R s m args below meth c H locs cells slots (MQ below (QvT D cy wf F A) args s mc ms A) (F0 m pc ls []) := by
  subst hE
  refine W.widen hc hs ?_
  exact W.vret hx hb hr (fun t ht hW => ⟨⟨(), rfl, trivial, by rw [ht]; exact hP, va_K.moved hW.alike hK, hD⟩, hS.F ht⟩) hS.2.2 hdg hlocks
-- runs: a call's start out of the caller's world
theorem mapSome {ws wc : va_W} {is : List Nat} (h : is.map (fun i => ws[i]?) = wc.map some) : is.filterMap (fun i => ws[i]?) = wc := by
  have h1 : is.filterMap (fun i => ws[i]?) = (is.map (fun i => ws[i]?)).filterMap id := by rw [List.filterMap_map]; rfl
  rw [h1, h, List.filterMap_map]
  exact List.filterMap_some
theorem pre_w {ws wc : va_W} {av : List Value} (hN : NWp s) (hK : va_K D vwCl (TY cy) s) (hP : va_P D vwCl ws H) (hD : va_D A ws) (isC : List Nat) (hC : isC.map (fun i => ws[i]?) = wc.map some) (hn : va_nd isC = true) : ∀ U : State, U.heap = H → s.WarmedH U.vm → PcW D cy wc H.size av av.toArray U := by
  intro U hU hW
  exact ⟨rfl, by rw [hU], NWp.warm hW hN, by rw [hU]; exact hP.sub isC (mapSome hC), va_K.moved hW.alike hK, (hD.sub isC hn hC).weaken (fun _ _ _ _ => trivial)⟩
theorem rcv_w {ws wc : va_W} {b ci q0 : Nat} {q : vw_C} {fs : List Value} {C : String} (hK : va_K D vwCl (TY cy) s) (hP : va_P D vwCl ws H) (isC : List Nat) (hC : isC.map (fun i => ws[i]?) = wc.map some) (hc : vwCl[ci]? = some q) (hq : wc[q0]? = some (b, .inr (ci, fs))) (hcl : q.1 = C) : ∃ cellB : Cell, H[b]? = some cellB ∧ cellB.vm.isStatics = false ∧ s.vm.findClass C = some cellB.cls := by
  subst hcl
  exact va_recv hK (hP.sub isC (mapSome hC)) hc hq
-- behind a call that makes nothing
theorem cl_i {τ : Type} {rf : τ → Int32} {wf : τ → va_W} {F : τ} {ws wc wr w2 : va_W} {st0 rest : List Value} {a : Array Value} (hr : va_Run p l e R s m args below meth c H locs cells slots mc ms (F0 m pc ls st0) rest (QiT D cy rf wf F (va_A wc H.size) a) (va_A wc H.size)) (hP : va_P D vwCl ws H) (hD : va_D A ws) (hS : va_S A H0 H locs) (hA : ∀ q, H0.size ≤ q → A q) (isC isR isP : List Nat) (hC : isC.map (fun i => ws[i]?) = wc.map some) (hR : isR.map (fun i => ws[i]?) = wr.map some) (hn : va_nd isR = true) (hdis : ∀ i ∈ isR, i ∉ isC) (hp : isP.map (fun i => (wr ++ wf F)[i]?) = w2.map some) (hpn : va_nd isP = true)
    (kk : ∀ (H1 : Heap) (locs1 : List Loc), va_P D vwCl w2 H1 → va_D A w2 → va_S A H0 H1 locs1 → W p l e R s m args below meth c H1 locs1 (cells + mc) (slots + ms) Q (F0 m (pc + 3) ls (.int (rf F) :: rest))) : W p l e R s m args below meth c H locs cells slots Q (F0 m pc ls st0) := by
  have hFc := va_free hD hS hA isC hC
  refine va_calli hr hS (fun q _ h => hFc q h) hFc (fun r u t H1 locs1 ht hvm hw hB hz1 hk1 hS => ?_)
  obtain ⟨hP1, hK1, hD1⟩ := hB
  rw [ht] at hP1
  obtain ⟨hP2, hD2⟩ := va_join hP hD isC isR hC hR hn hdis hk1 hFc hP1 hD1
  have hw : r = rf F := hw
  subst hw
  exact kk H1 locs1 (hP2.sub isP (mapSome hp)) (hD2.sub isP hpn hp) hS
theorem cl_l {τ : Type} {rf : τ → Int64} {wf : τ → va_W} {F : τ} {ws wc wr w2 : va_W} {st0 rest : List Value} {a : Array Value} (hr : va_Run p l e R s m args below meth c H locs cells slots mc ms (F0 m pc ls st0) rest (QlT D cy rf wf F (va_A wc H.size) a) (va_A wc H.size)) (hP : va_P D vwCl ws H) (hD : va_D A ws) (hS : va_S A H0 H locs) (hA : ∀ q, H0.size ≤ q → A q) (isC isR isP : List Nat) (hC : isC.map (fun i => ws[i]?) = wc.map some) (hR : isR.map (fun i => ws[i]?) = wr.map some) (hn : va_nd isR = true) (hdis : ∀ i ∈ isR, i ∉ isC) (hp : isP.map (fun i => (wr ++ wf F)[i]?) = w2.map some) (hpn : va_nd isP = true)
    (kk : ∀ (H1 : Heap) (locs1 : List Loc), va_P D vwCl w2 H1 → va_D A w2 → va_S A H0 H1 locs1 → W p l e R s m args below meth c H1 locs1 (cells + mc) (slots + ms) Q (F0 m (pc + 3) ls (.long (rf F) :: rest))) : W p l e R s m args below meth c H locs cells slots Q (F0 m pc ls st0) := by
  have hFc := va_free hD hS hA isC hC
  refine va_calll hr hS (fun q _ h => hFc q h) hFc (fun r u t H1 locs1 ht hvm hw hB hz1 hk1 hS => ?_)
  obtain ⟨hP1, hK1, hD1⟩ := hB
  rw [ht] at hP1
  obtain ⟨hP2, hD2⟩ := va_join hP hD isC isR hC hR hn hdis hk1 hFc hP1 hD1
  have hw : r = rf F := hw
  subst hw
  exact kk H1 locs1 (hP2.sub isP (mapSome hp)) (hD2.sub isP hpn hp) hS
theorem cl_v {τ : Type} {wf : τ → va_W} {F : τ} {ws wc wr w2 : va_W} {st0 rest : List Value} {a : Array Value} (hr : va_Run p l e R s m args below meth c H locs cells slots mc ms (F0 m pc ls st0) rest (QvT D cy wf F (va_A wc H.size) a) (va_A wc H.size)) (hP : va_P D vwCl ws H) (hD : va_D A ws) (hS : va_S A H0 H locs) (hA : ∀ q, H0.size ≤ q → A q) (isC isR isP : List Nat) (hC : isC.map (fun i => ws[i]?) = wc.map some) (hR : isR.map (fun i => ws[i]?) = wr.map some) (hn : va_nd isR = true) (hdis : ∀ i ∈ isR, i ∉ isC) (hp : isP.map (fun i => (wr ++ wf F)[i]?) = w2.map some) (hpn : va_nd isP = true)
    (kk : ∀ (H1 : Heap) (locs1 : List Loc), va_P D vwCl w2 H1 → va_D A w2 → va_S A H0 H1 locs1 → W p l e R s m args below meth c H1 locs1 (cells + mc) (slots + ms) Q (F0 m (pc + 3) ls rest)) : W p l e R s m args below meth c H locs cells slots Q (F0 m pc ls st0) := by
  have hFc := va_free hD hS hA isC hC
  refine va_callv hr hS (fun q _ h => hFc q h) hFc (fun u t H1 locs1 ht hvm hw hB hz1 hk1 hS => ?_)
  obtain ⟨hP1, hK1, hD1⟩ := hB
  rw [ht] at hP1
  obtain ⟨hP2, hD2⟩ := va_join hP hD isC isR hC hR hn hdis hk1 hFc hP1 hD1
  exact kk H1 locs1 (hP2.sub isP (mapSome hp)) (hD2.sub isP hpn hp) hS
section
variable {y : MethodName} {bytes : ByteArray} {maxL nL n index : Nat} {ret : Option FieldType} {wl : List Cond} {rm : Room} {Qc : Array Value → State → Outcome → State → Prop} {free : Addr → Prop} {Ts : List Cond} {own C host : String} {b ci q0 : Nat} {As rest st0 : List Value} {ws wc : va_W} {q : vw_C} {fs : List Value}
theorem rn_V (S : CallFix p m c cc nL s args Ts own) (hM : Met l y wl rm (PcW D cy wc H.size (.ref b :: As)) Qc mc ms free) (cw : CallW R s args own C index y bytes maxL ret wl rm mc ms n) (hN : NWp s) (hK : va_K D vwCl (TY cy) s) (hP : va_P D vwCl ws H) (hD : va_D A ws) (isC : List Nat) (hC : isC.map (fun i => ws[i]?) = wc.map some) (hnd : va_nd isC = true) (hc : vwCl[ci]? = some q) (hq : wc[q0]? = some (b, .inr (ci, fs))) (hcl : q.1 = C)
    (hn : As.length = n) (hsize : ls.size = nL) (hstack : st0 = As.reverse ++ .ref b :: rest) (hW : (rest.map fun v => v.category).sum ≤ 8) (hdg : decode cc pc = .ok (.invokevirtual index, 3)) (hf : cells + mc ≤ R.cells ∧ slots + ms ≤ R.slots) :
    va_Run p l e R s m args below meth c H locs cells slots mc ms (F0 m pc ls st0) rest (Qc (Value.ref b :: As).toArray) free :=
  va_runV S hM cw ⟨PcW_blind, rcv_w hK hP isC hC hc hq hcl, pre_w hN hK hP hD isC hC hnd⟩ rfl hn hsize hstack (lv_room hW) hdg hf
theorem rn_S (S : CallFix p m c cc nL s args Ts own) (hM : Met l y wl rm (PcW D cy wc H.size As) Qc mc ms free) (cw : CallB R s args own index y bytes maxL ret wl rm mc ms n ∧ (Cond.static y).before args s = true) (hN : NWp s) (hK : va_K D vwCl (TY cy) s) (hP : va_P D vwCl ws H) (hD : va_D A ws) (isC : List Nat) (hC : isC.map (fun i => ws[i]?) = wc.map some) (hnd : va_nd isC = true)
    (hn : As.length = n) (hsize : ls.size = nL) (hstack : st0 = As.reverse ++ rest) (hW : (rest.map fun v => v.category).sum ≤ 8) (hdg : decode cc pc = .ok (.invokestatic index, 3)) (hf : cells + mc ≤ R.cells ∧ slots + ms ≤ R.slots) :
    va_Run p l e R s m args below meth c H locs cells slots mc ms (F0 m pc ls st0) rest (Qc As.toArray) free :=
  va_runS S hM cw ⟨PcW_blind, pre_w hN hK hP hD isC hC hnd⟩ rfl hn hsize hstack (lv_room hW) hdg hf
theorem rn_SN (S : CallFix p m c cc nL s args Ts own) (hM : Met l y wl rm (PcW D cy wc H.size As) Qc mc ms free) (cw : va_CN R s args own index y host bytes maxL ret wl rm mc ms n ∧ (Cond.static y).before args s = true ∧ True) (hN : NWp s) (hK : va_K D vwCl (TY cy) s) (hP : va_P D vwCl ws H) (hD : va_D A ws) (isC : List Nat) (hC : isC.map (fun i => ws[i]?) = wc.map some) (hnd : va_nd isC = true)
    (hn : As.length = n) (hsize : ls.size = nL) (hstack : st0 = As.reverse ++ rest) (hW : (rest.map fun v => v.category).sum ≤ 8) (hdg : decode cc pc = .ok (.invokestatic index, 3)) (hf : cells + mc ≤ R.cells ∧ slots + ms ≤ R.slots) :
    va_Run p l e R s m args below meth c H locs cells slots mc ms (F0 m pc ls st0) rest (Qc As.toArray) free :=
  va_runSN S hM cw ⟨PcW_blind, pre_w hN hK hP hD isC hC hnd⟩ rfl hn hsize hstack (lv_room hW) hdg hf
theorem rn_I (S : CallFix p m c cc nL s args Ts own) (hM : Met l y wl rm (PcW D cy wc H.size (.ref b :: As)) Qc mc ms free) (cw : CallB R s args own index y bytes maxL none wl rm mc ms n ∧ y.name = "<init>" ∧ (Cond.instanceMethod y).before args s = true) (hN : NWp s) (hK : va_K D vwCl (TY cy) s) (hP : va_P D vwCl ws H) (hD : va_D A ws) (isC : List Nat) (hC : isC.map (fun i => ws[i]?) = wc.map some) (hnd : va_nd isC = true)
    (hn : As.length = n) (hsize : ls.size = nL) (hstack : st0 = As.reverse ++ .ref b :: rest) (hW : (rest.map fun v => v.category).sum ≤ 8) (hdg : decode cc pc = .ok (.invokespecial index, 3)) (hf : cells + mc ≤ R.cells ∧ slots + ms ≤ R.slots) :
    va_Run p l e R s m args below meth c H locs cells slots mc ms (F0 m pc ls st0) rest (Qc (Value.ref b :: As).toArray) free :=
  va_runI S hM cw ⟨PcW_blind, pre_w hN hK hP hD isC hC hnd⟩ rfl hn hsize hstack (lv_room hW) hdg hf
theorem rn_IN (S : CallFix p m c cc nL s args Ts own) (hM : Met l y wl rm (PcW D cy wc H.size (.ref b :: As)) Qc mc ms free) (cw : va_CN R s args own index y host bytes maxL none wl rm mc ms n ∧ y.name = "<init>" ∧ (Cond.instanceMethod y).before args s = true) (hN : NWp s) (hK : va_K D vwCl (TY cy) s) (hP : va_P D vwCl ws H) (hD : va_D A ws) (isC : List Nat) (hC : isC.map (fun i => ws[i]?) = wc.map some) (hnd : va_nd isC = true)
    (hn : As.length = n) (hsize : ls.size = nL) (hstack : st0 = As.reverse ++ .ref b :: rest) (hW : (rest.map fun v => v.category).sum ≤ 8) (hdg : decode cc pc = .ok (.invokespecial index, 3)) (hf : cells + mc ≤ R.cells ∧ slots + ms ≤ R.slots) :
    va_Run p l e R s m args below meth c H locs cells slots mc ms (F0 m pc ls st0) rest (Qc (Value.ref b :: As).toArray) free :=
  va_runIN S hM cw ⟨PcW_blind, pre_w hN hK hP hD isC hC hnd⟩ rfl hn hsize hstack (lv_room hW) hdg hf
end
-- reads at an index that is a number
theorem ial_n {ws : va_W} {rest : List Value} {a : Nat} (hx : p.tables.exec = Jvm.exec) (hb : c.code = cc) (hK : va_K D vwCl (TY cy) s) (hP : va_P D vwCl ws H) (q0 : Nat) {n k : Nat} {f : Nat → Int32} (ha : ws[q0]? = some (a, .inl (cy 0, n, .inl f))) (hk : k < n) (hn : n < 2 ^ 31) (hdg : decode cc pc = .ok (.iaload, 1)) (kk : W p l e R s m args below meth c H locs cells slots Q (F0 m (pc + 1) ls (.int (f k) :: rest))) : W p l e R s m args below meth c H locs cells slots Q (F0 m pc ls (.int (nI k) :: .ref a :: rest)) := by
  refine va_iald hx hb hK hP q0 0 ha rfl (vp_in_nI hk hn) hdg ?_
  rw [nI_clamp (by omega)]
  exact kk
theorem zal_n {ws : va_W} {rest : List Value} {a : Nat} (hx : p.tables.exec = Jvm.exec) (hb : c.code = cc) (hK : va_K D vwCl (TY cy) s) (hP : va_P D vwCl ws H) (q0 : Nat) {n k : Nat} {f : Nat → Int32} (ha : ws[q0]? = some (a, .inl (cy 1, n, .inl f))) (hk : k < n) (hn : n < 2 ^ 31) (hdg : decode cc pc = .ok (.baload, 1)) (kk : W p l e R s m args below meth c H locs cells slots Q (F0 m (pc + 1) ls (.int (f k) :: rest))) : W p l e R s m args below meth c H locs cells slots Q (F0 m pc ls (.int (nI k) :: .ref a :: rest)) := by
  refine va_zald hx hb hK hP q0 1 ha rfl (vp_in_nI hk hn) hdg ?_
  rw [nI_clamp (by omega)]
  exact kk
theorem ias_n {ws : va_W} {rest : List Value} {a : Nat} (hx : p.tables.exec = Jvm.exec) (hb : c.code = cc) (hK : va_K D vwCl (TY cy) s) (hP : va_P D vwCl ws H) (hD : va_D A ws) (hS : va_S A H0 H locs) (q0 : Nat) {n k : Nat} {f : Nat → Int32} {x : Int32} (ha : ws[q0]? = some (a, .inl (cy 0, n, .inl f))) (hk : k < n) (hn : n < 2 ^ 31) (hdg : decode cc pc = .ok (.iastore, 1)) (kk : ∀ (H1 : Heap) (locs1 : List Loc), va_P D vwCl (ws.set q0 (a, .inl (cy 0, n, .inl (upd f k x)))) H1 → va_D A (ws.set q0 (a, .inl (cy 0, n, .inl (upd f k x)))) → va_S A H0 H1 locs1 → W p l e R s m args below meth c H1 locs1 cells slots Q (F0 m (pc + 1) ls rest)) : W p l e R s m args below meth c H locs cells slots Q (F0 m pc ls (.int x :: .int (nI k) :: .ref a :: rest)) := by
  refine va_iast hx hb hK hP hD hS q0 0 ha rfl (vp_in_nI hk hn) hdg (fun H1 locs1 h1 h2 h3 => ?_)
  rw [nI_clamp (by omega)] at h1 h2
  exact kk H1 locs1 h1 h2 h3
theorem zas_n {ws : va_W} {rest : List Value} {a : Nat} (hx : p.tables.exec = Jvm.exec) (hb : c.code = cc) (hK : va_K D vwCl (TY cy) s) (hP : va_P D vwCl ws H) (hD : va_D A ws) (hS : va_S A H0 H locs) (q0 : Nat) {n k : Nat} {f : Nat → Int32} {x : Int32} (ha : ws[q0]? = some (a, .inl (cy 1, n, .inl f))) (hk : k < n) (hn : n < 2 ^ 31) (hdg : decode cc pc = .ok (.bastore, 1)) (kk : ∀ (H1 : Heap) (locs1 : List Loc), va_P D vwCl (ws.set q0 (a, .inl (cy 1, n, .inl (upd f k (vp_nar .boolean x))))) H1 → va_D A (ws.set q0 (a, .inl (cy 1, n, .inl (upd f k (vp_nar .boolean x))))) → va_S A H0 H1 locs1 → W p l e R s m args below meth c H1 locs1 cells slots Q (F0 m (pc + 1) ls rest)) : W p l e R s m args below meth c H locs cells slots Q (F0 m pc ls (.int x :: .int (nI k) :: .ref a :: rest)) := by
  refine va_zast hx hb hK hP hD hS q0 1 ha rfl (vp_in_nI hk hn) hdg (fun H1 locs1 h1 h2 h3 => ?_)
  rw [nI_clamp (by omega)] at h1 h2
  exact kk H1 locs1 h1 h2 h3
end
-- loops: a step taken n times, from k on
def it {σ : Type} (f : Nat → σ → σ) : Nat → Nat → σ → σ
  | 0, _, v => v
  | n + 1, k, v => it f n (k + 1) (f k v)
theorem it_step {σ : Type} {f : Nat → σ → σ} {n k : Nat} {v v' F : σ} (h : f k v = v') (hE : it f (n + 1) k v = F) : it f n (k + 1) v' = F := by subst h; exact hE
theorem it_fix {σ : Type} {f : Nat → σ → σ} {v : σ} (h : ∀ k, f k v = v) : ∀ n k, it f n k v = v
  | 0, _ => rfl
  | n + 1, k => by rw [it, h k]; exact it_fix h n (k + 1)
/-- a number that is counted down: -1 behind 0 -/
def dN : Nat → Int32
  | 0 => -1
  | n + 1 => nI n
theorem dN_m1 (n : Nat) : nI n + Int32.ofInt (-1) = dN n := by
  cases n with
  | zero => rfl
  | succ n => exact pk_m1 n
