-- methods that throw on what is refused: nothing is changed, one exception comes
def strL : List (Nat × String) := [(181, "an index is out of its range"), (185, "an argument is out of its range"), (52, "all rooms are open"), (170, "there is no such room"), (86, "no more guests are taken in"), (174, "there is no such guest"), (179, "this guest has left")]
def dcL : List Cond := [.declares ⟨"java/lang/RuntimeException", "<init>", "(Ljava/lang/String;)V"⟩, .declares ⟨"java/lang/Exception", "<init>", "(Ljava/lang/String;)V"⟩, .declares ⟨"java/lang/Throwable", "<init>", "(Ljava/lang/String;)V"⟩]
def SRp (U : State) : Prop := (∀ (k : Nat) (q : Nat × String), strL[k]? = some q → ∃ a : Nat, vk_R RX4 q.1 q.2 a U) ∧ ∀ w ∈ dcL, va_Nw w U
theorem SRp.same {u U : State} (hvm : u.vm = U.vm) (h : SRp u) : SRp U := ⟨fun k q hk => (h.1 k q hk).elim fun a ha => ⟨a, vk_R.same hvm.symm ha⟩, fun w hw => by
  have h0 := h.2 w hw
  simp only [dcL, List.mem_cons, List.not_mem_nil, or_false] at hw
  rcases hw with rfl | rfl | rfl <;> exact va_Nw.same rfl hvm h0⟩
theorem SRp.warm {u U : State} (hW : u.WarmedH U.vm) (h : SRp u) : SRp U := ⟨fun k q hk => (h.1 k q hk).elim fun a ha => ⟨a, vk_R.warm hW ha⟩, fun w hw => by
  have h0 := h.2 w hw
  simp only [dcL, List.mem_cons, List.not_mem_nil, or_false] at hw
  rcases hw with rfl | rfl | rfl <;> exact va_Nw.warmD hW h0⟩
theorem SRp.hat {s : State} {args : Array Value} {own cls : String} {ic : Nat} (h : SRp s) (hc : va_Nw (.castable cls cls) s) (h1 : ∀ w ∈ (vx_atS own ic cls ["java/lang/RuntimeException", "java/lang/Exception"]).filter goodWord, w.before args s = true) (h2 : ∀ w ∈ (vx_atS own ic cls ["java/lang/RuntimeException", "java/lang/Exception"]).filter (fun w => !goodWord w), w ∈ dcL ++ [.castable cls cls]) : ∀ w ∈ vx_atS own ic cls ["java/lang/RuntimeException", "java/lang/Exception"], w.before args s = true :=
  vx_hat h1 h2 (fun w hw => by
    rcases List.mem_append.mp hw with hw | hw
    · have h0 := h.2 w hw
      simp only [dcL, List.mem_cons, List.not_mem_nil, or_false] at hw
      rcases hw with rfl | rfl | rfl <;> exact va_Nw.use rfl h0
    · rcases List.mem_singleton.mp hw with rfl
      exact va_Nw.use rfl hc)
def exI : String := "java/lang/IndexOutOfBoundsException"
def exA : String := "java/lang/IllegalArgumentException"
def exS : String := "java/lang/IllegalStateException"
abbrev exN : List String := ["java/lang/RuntimeException", "java/lang/Exception"]
def ncL : List (String × String) := [(exI, exA), (exI, exS), (exA, exI), (exA, exS), (exS, exI), (exS, exA)]
def NCp (U : State) : Prop := ∀ (k : Nat) (q : String × String), ncL[k]? = some q → va_Nc q.1 q.2 U
theorem NCp.moved {u U : State} (hvm : u.vm.Alike U.vm) (h : NCp u) : NCp U := fun k q hk => (h k q hk).moved hvm
def XZ (A : Nat → Prop) (U : State) (H : Heap) : Prop := vx_Zq Bundle.tN "UNASSIGNED_STACK" Bundle.steD A U H ∧ vx_Zq Bundle.tN "SUPPRESSED_SENTINEL" Bundle.listD A U H
theorem XZ.moved {A : Nat → Prop} {u U : State} {H : Heap} (hvm : u.vm.Alike U.vm) (h : XZ A u H) : XZ A U H := ⟨h.1.moved hvm, h.2.moved hvm⟩
theorem XZ.kept {A : Nat → Prop} {U : State} {H H1 : Heap} (h : XZ A U H) (hq : ∀ a : Nat, a < H.size → ¬ A a → H1[a]? = H[a]?) : XZ A U H1 := ⟨h.1.kept hq, h.2.kept hq⟩
theorem XZ.narrow {A B : Nat → Prop} {U : State} {H : Heap} (h : XZ A U H) (hAB : ∀ q, B q → A q) : XZ B U H := ⟨h.1.narrow hAB, h.2.narrow hAB⟩
abbrev PcX (D : va_G) (cy : Nat → ClassId) (ws : va_W) (sz : Nat) (av : List Value) : Array Value → State → Prop := va_Pc av (fun U => U.heap.size = sz ∧ NWp U ∧ SRp U ∧ XZ (va_A ws sz) U U.heap ∧ va_P D vwCl ws U.heap ∧ va_K D vwCl (TY cy) U ∧ va_D (fun _ => True) ws)
theorem PcX_blind {D : va_G} {cy : Nat → ClassId} {ws : va_W} {sz : Nat} {av : List Value} : FrameBlind (PcX D cy ws sz av) := by
  intro a U g mk q
  obtain ⟨q0, q1, qN, qR, qZ, qP, qK, qD⟩ := q
  exact ⟨q0, q1, NWp.same (u := U) (U := U.calling g mk a) rfl qN, SRp.same (u := U) (U := U.calling g mk a) rfl qR, XZ.moved (u := U) (U := U.calling g mk a) (Vm.Alike.refl U.vm) qZ, qP, va_K.moved (u := U) (U := U.calling g mk a) (Vm.Alike.refl U.vm) qK, qD⟩
abbrev XCw (D : va_G) (cy : Nat → ClassId) (ws : va_W) (E : String) (A : Nat → Prop) : String → State → State → Prop := vx_X (fun (_ : Unit) => True) (fun E' _ t => E' = E ∧ BW D cy A ws t) A
abbrev QF (A : Nat → Prop) : Array Value → State → Outcome → State → Prop := va_Qv (fun (_ : Unit) => False) (fun _ _ => True) A
/-- method y at the world ws with the arguments av throws an E -/
abbrev MTx (l : Launch) (D : va_G) (cy : Nat → ClassId) (y : MethodName) (wl : List Cond) (fr lo : Nat) (ws : va_W) (sz : Nat) (av : List Value) (E : String) : Prop := vx_Met l y wl (RM fr 1 6 lo) (PcX D cy ws sz av) (QF (va_A ws sz)) (XCw D cy ws E (va_A ws sz)) 1 6 (va_A ws sz)
theorem ofWX {l : Launch} {D : va_G} {cy : Nat → ClassId} {y : MethodName} {wl wl' : List Cond} {fr lo : Nat} {ws : va_W} {sz : Nat} {av : List Value} {E : String} {cc : ByteArray} {maxL : Nat} {ret : Option FieldType} {own : String}
    (hy : plainName y.cls = true) (hw : wl = Cond.code y cc maxL ret :: wl') (hav : (lg_sl av).length ≤ maxL) (ho : y.cls = own)
    (body : ∀ (p : Program) (e : Env) (s : State) (m : MethodId) (args : Array Value) (below : List Frame) (meth : Method) (c : Code) (A : Nat → Prop) (ls : Array Slot), p.tables.exec = Jvm.exec → c.code = cc → meth.sig.returnType = ret → c.maxLocals = maxL → (∀ w ∈ wl, w.before args s = true) → s.vm.findClass own = some m.cls → meth.locks = false → (∀ x ∈ c.exceptionTable.toList, False) → NWp s → SRp s → XZ A s s.heap → va_K D vwCl (TY cy) s → va_P D vwCl ws s.heap → va_D A ws → (∀ q, s.heap.size ≤ q → A q) → lv_has ls maxL (lv_args 0 av) →
      W p l e (RM fr 1 6 lo) s m args below meth c s.heap [] 0 0 (vx_MQ below (QF A) (XCw D cy ws E A) args s 1 6 A) (F0 m 0 ls [])) : MTx l D cy y wl fr lo ws sz av E := by
  refine vx_ofW (cc := cc) (maxL := maxL) (ret := ret) hy hw ?_
  intro p e s m args below meth c s₁ B hml hex hv
  obtain ⟨rfl, hsz, hN, hR, hZ, hP, hK, hD0⟩ := hv
  subst hsz
  subst ho
  have hD := hD0.self (sz := s.heap.size)
  have hl := lv_entry av (n := maxL) hav
  rw [lg_entry_eq]
  exact body p e s m _ below meth c _ _ B.exec B.bytes B.returns hml (atoms_spec (ws := wl) B.pre) (findClass_of_methodNamed B.named) B.notSynchronized hex hN hR hZ hK hP hD (fun q h => Or.inr h) hl
section
variable {p : Program} {l : Launch} {e : Env} {R : Room} {s : State} {m : MethodId} {args : Array Value} {below : List Frame} {meth : Method} {c : Code} {H : Heap} {locs : List Loc} {cells slots : Nat} {Q : State → Prop} {D : va_G} {cy : Nat → ClassId} {A : Nat → Prop} {H0 : Heap} {ls : Array Slot} {pc : Nat} {cc : ByteArray} {rest : List Value}
/-- new E(text) is made and thrown -/
theorem th_x {ws : va_W} {own cls text : String} {ik is ic sa : Nat} (hst : l.stackTraces = false) (hx : p.tables.exec = Jvm.exec) (hb : c.code = cc) (hown : s.vm.findClass own = some m.cls) (hcls : Bundle.fit cls = true) (hk : (Cond.classLink own ik cls).before args s = true) (hini : (Cond.initialized cls).before args s = true) (hstr : vk_R own is text sa s) (hat : ∀ w ∈ vx_atS own ic cls exN, w.before args s = true)
    (hgood : ∀ w ∈ Cond.classLink own ik cls :: Cond.initialized cls :: vx_atS own ic cls exN, vx_ot w = true) (hZ : XZ A s s.heap) (hK : va_K D vwCl (TY cy) s) (hP : va_P D vwCl ws H) (hD : va_D A ws) (hS : va_S A s.heap H locs) (hsize : ls.size = c.maxLocals) (hex : ∀ x ∈ c.exceptionTable.toList, False) (hlocks : meth.locks = false)
    (d0 : decode cc pc = .ok (.new ik, 3)) (d3 : decode cc (pc + 3) = .ok (.dup, 1)) (d4 : decode cc (pc + 4) = .ok (.ldc is, 2)) (d6 : decode cc (pc + 6) = .ok (.invokespecial ic, 3)) (d9 : decode cc (pc + 9) = .ok (.athrow, 1))
    (hRframes : 5 < R.frames) (hRlocals : (rest.map fun v => v.category).sum + 82 ≤ R.locals) (hRcells : cells + 1 ≤ R.cells) (hRslots : slots + 6 ≤ R.slots) (hc : cells + 1 ≤ 1) (hs : slots + 6 ≤ 6) :
    W p l e R s m args below meth c H locs cells slots (vx_MQ below (QF A) (XCw D cy ws cls A) args s 1 6 A) (F0 m pc ls rest) :=
  vx_throwS hx hb hst hown hcls (by decide +kernel) hk hini hstr hat hgood hZ.1 hZ.2 hS hsize d0 d3 d4 d6 d9 (fun x h => (hex x h).elim) hRframes hRlocals hRcells hRslots hlocks
    (fun t hal hz hq => ⟨(), trivial, ⟨rfl, hP.kept (fun k q h => hq q.1 (hP k q h).lt), va_K.moved hal hK, hD⟩, ⟨Nat.le_trans hS.1 hz, fun q h1 h2 => (hq q (Nat.lt_of_lt_of_le h1 hS.1)).trans (hS.2.1 q h1 h2)⟩⟩) hS.2.2 hc hs
theorem pre_x {ws wc : va_W} {av : List Value} (hN : NWp s) (hR : SRp s) (hZ : XZ A s s.heap) (hK : va_K D vwCl (TY cy) s) (hP : va_P D vwCl ws H) (hD : va_D A ws) (hS : va_S A s.heap H locs) (hA : ∀ q, s.heap.size ≤ q → A q) (isC : List Nat) (hC : isC.map (fun i => ws[i]?) = wc.map some) (hn : va_nd isC = true) : ∀ U : State, U.heap = H → s.WarmedH U.vm → PcX D cy wc H.size av av.toArray U := by
  intro U hU hW
  have hFc := va_free hD hS hA isC hC
  have hz : XZ (va_A wc H.size) U U.heap := by
    rw [hU]
    exact ((hZ.kept (fun a h1 h2 => hS.2.1 a h1 h2)).narrow (fun q h => hFc q h)).moved hW.alike
  exact ⟨rfl, by rw [hU], NWp.warm hW hN, SRp.warm hW hR, hz, by rw [hU]; exact hP.sub isC (mapSome hC), va_K.moved hW.alike hK, (hD.sub isC hn hC).weaken (fun _ _ _ _ => trivial)⟩
section
variable {y : MethodName} {bytes : ByteArray} {maxL nL n index mc ms : Nat} {ret : Option FieldType} {wl : List Cond} {rm : Room} {Qc : Array Value → State → Outcome → State → Prop} {XC : String → State → State → Prop} {free : Addr → Prop} {Ts : List Cond} {own C : String} {b ci q0 : Nat} {As st0 : List Value} {ws wc : va_W} {q : vw_C} {fs : List Value}
theorem rx_V (S : CallFix p m c cc nL s args Ts own) (hM : vx_Met l y wl rm (PcX D cy wc H.size (.ref b :: As)) Qc XC mc ms free) (cw : CallW R s args own C index y bytes maxL ret wl rm mc ms n) (hN : NWp s) (hR : SRp s) (hZ : XZ A s s.heap) (hK : va_K D vwCl (TY cy) s) (hP : va_P D vwCl ws H) (hD : va_D A ws) (hS : va_S A s.heap H locs) (hA : ∀ q, s.heap.size ≤ q → A q) (isC : List Nat) (hC : isC.map (fun i => ws[i]?) = wc.map some) (hnd : va_nd isC = true) (hc : vwCl[ci]? = some q) (hq : wc[q0]? = some (b, .inr (ci, fs))) (hcl : q.1 = C)
    (hn : As.length = n) (hsize : ls.size = nL) (hstack : st0 = As.reverse ++ .ref b :: rest) (hW : (rest.map fun v => v.category).sum ≤ 8) (hdg : decode cc pc = .ok (.invokevirtual index, 3)) (hf : cells + mc ≤ R.cells ∧ slots + ms ≤ R.slots) :
    vx_Run p l e R s m args below meth c H locs cells slots mc ms (F0 m pc ls st0) rest (Qc (Value.ref b :: As).toArray) XC free :=
  vx_runV S hM cw ⟨PcX_blind, rcv_w hK hP isC hC hc hq hcl, pre_x hN hR hZ hK hP hD hS hA isC hC hnd⟩ rfl hn hsize hstack (lv_room hW) hdg hf
theorem rx_S (S : CallFix p m c cc nL s args Ts own) (hM : vx_Met l y wl rm (PcX D cy wc H.size As) Qc XC mc ms free) (cw : CallB R s args own index y bytes maxL ret wl rm mc ms n ∧ (Cond.static y).before args s = true) (hN : NWp s) (hR : SRp s) (hZ : XZ A s s.heap) (hK : va_K D vwCl (TY cy) s) (hP : va_P D vwCl ws H) (hD : va_D A ws) (hS : va_S A s.heap H locs) (hA : ∀ q, s.heap.size ≤ q → A q) (isC : List Nat) (hC : isC.map (fun i => ws[i]?) = wc.map some) (hnd : va_nd isC = true)
    (hn : As.length = n) (hsize : ls.size = nL) (hstack : st0 = As.reverse ++ rest) (hW : (rest.map fun v => v.category).sum ≤ 8) (hdg : decode cc pc = .ok (.invokestatic index, 3)) (hf : cells + mc ≤ R.cells ∧ slots + ms ≤ R.slots) :
    vx_Run p l e R s m args below meth c H locs cells slots mc ms (F0 m pc ls st0) rest (Qc As.toArray) XC free :=
  vx_runS S hM cw ⟨PcX_blind, pre_x hN hR hZ hK hP hD hS hA isC hC hnd⟩ rfl hn hsize hstack (lv_room hW) hdg hf
end
/-- a call that throws: it goes on to the caller, whose world is as before -/
theorem cl_x {ws wc wr : va_W} {E : String} {st0 : List Value} {a : Array Value} (hr : vx_Run p l e R s m args below meth c H locs cells slots 1 6 (F0 m pc ls st0) rest (QF (va_A wc H.size) a) (XCw D cy wc E (va_A wc H.size)) (va_A wc H.size)) (hex : ∀ x ∈ c.exceptionTable.toList, False) (hlocks : meth.locks = false) (hK : va_K D vwCl (TY cy) s) (hP : va_P D vwCl ws H) (hD : va_D A ws) (hS : va_S A s.heap H locs) (hA : ∀ q, s.heap.size ≤ q → A q) (isC isR isP : List Nat) (hC : isC.map (fun i => ws[i]?) = wc.map some) (hR : isR.map (fun i => ws[i]?) = wr.map some) (hn : va_nd isR = true) (hdis : ∀ i ∈ isR, i ∉ isC) (hp : isP.map (fun i => (wr ++ wc)[i]?) = ws.map some) (hpn : va_nd isP = true) (hc : cells + 1 ≤ 1) (hs : slots + 6 ≤ 6) :
    W p l e R s m args below meth c H locs cells slots (vx_MQ below (QF A) (XCw D cy ws E A) args s 1 6 A) (F0 m pc ls st0) := by
  have hFc := va_free hD hS hA isC hC
  refine vx_callv hr hS (fun q _ h => hFc q h) hFc (fun q _ h => hFc q h) (fun E' ce q9 u t H1 locs1 ht hvm hp' hB hz hk hS1 hce hcv hcl => ?_) (fun u t H1 locs1 ht hvm hp' hB hz hk hS1 => hp'.elim)
  obtain ⟨rfl, hP1, hK1, hD1⟩ := hB
  rw [ht] at hP1
  obtain ⟨hP2, hD2⟩ := va_join hP hD isC isR hC hR hn hdis hk hFc hP1 hD1
  exact vx_out (fun x h => (hex x h).elim) hlocks hce hcv hcl (fun t ht hal => ⟨(), trivial, ⟨rfl, by rw [ht]; exact hP2.sub isP (mapSome hp), va_K.moved hal hK, hD2.sub isP hpn hp⟩, hS1.F ht⟩) hS1.2.2 hc hs
end
