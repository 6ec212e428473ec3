/-! the throw of NoSuchElementException: its constructor's link to the one above it lies at place 13 of its pool -/
def nsE : String := "java/util/NoSuchElementException"
def nsC : ByteArray := ⟨#[0x2a, 0x2b, 0xb7, 0x00, 0x0d, 0xb1]⟩
/-- what the throw rests on, beside what lies in the chain -/
def nsT (ic : Nat) : List Cond := [.methodLink RX9 ic (Bundle.initS nsE), .instantiable nsE 6, .selects nsE Bundle.tFill0 Bundle.tFill0, .selects nsE Bundle.tFill Bundle.tFill, .lays nsE Bundle.tN "cause" "Ljava/lang/Throwable;", .lays nsE Bundle.tN "stackTrace" Bundle.steD, .lays nsE Bundle.tN "suppressedExceptions" Bundle.listD, .lays nsE Bundle.tN "detailMessage" "Ljava/lang/String;", .lays nsE Bundle.tN "backtrace" "Ljava/lang/Object;", .isRef (.static Bundle.tN "UNASSIGNED_STACK" Bundle.steD), .isRef (.static Bundle.tN "SUPPRESSED_SENTINEL" Bundle.listD), .fieldLink Bundle.tN 198 Bundle.tN "backtrace" "Ljava/lang/Object;", .lays Bundle.tN Bundle.tN "backtrace" "Ljava/lang/Object;"]
def nsP : List Cond := Bundle.passSAtoms nsE "java/lang/RuntimeException" 13 nsC
def nsR : List Cond := Bundle.chainSAtoms "java/lang/RuntimeException" ["java/lang/Exception"]
def nsW (ic : Nat) : List Cond := Bundle.throwableAtoms ++ (Bundle.throwableSAtoms ++ (nsP ++ (nsR ++ nsT ic)))
section NSA
variable {p : Program} {l : Launch} {e : Env} {R : Room} {s : State} {m₀ : MethodId} {args : Array Value} {below : List Frame} {meth : Method} {c : Code} {W9 : State} {locs : List Loc} {cells slots : Nat}
set_option maxRecDepth 100000 in
/-- the five slots of the made exception apart from one another, and the rest that the making wants: from 'invokespecial' to 'threw' -/
theorem ns_made (X : Stand p l e R s m₀ args below meth c W9 locs cells slots) (hexec : p.tables.exec = Jvm.exec) (htr : e.platform.stackTraces = false) {ic : Nat} (hown : s.vm.findClass RX9 = some m₀.cls) (h : ∀ w ∈ nsW ic, w.before args s = true)
    (hlocs : ∀ x ∈ locs, ∀ cell, s.heap[x.base]? = some cell → cell.vm.isStatics = false)
    {a : Addr} {cX : ClassId} {kX : Class} (hfX : s.vm.findClass nsE = some cX) (hkX : s.vm.classes[cX]? = some kX) (hcell : W9.heap[a]? = some (freshCell cX kX)) (hnew : s.heap.size ≤ a) {msg : Value} (hmsg : msg.isRef = true)
    {g : JFrame} (hg : g.method = m₀) (hsize : g.locals.size = c.maxLocals) (hlocked : g.locked = none) (hentered : g.entered = []) {rest : List Value} (hstack : g.stack = msg :: .ref a :: .ref a :: rest)
    (hd6 : decode c.code g.pc = .ok (.invokespecial ic, 3)) (hd9 : decode c.code (g.pc + 3) = .ok (.athrow, 1)) (hout : ∀ x ∈ c.exceptionTable.toList, covers x (g.pc + 3) = false)
    (hF : 5 < R.frames) (hL : 2 * g.monitorRoom + ((Value.ref a :: rest).map fun v => v.category).sum + 81 ≤ R.locals) (hlocks : meth.locks = false) :
    ∃ U : State, Steps p.tables e below (W9.setTop g) U ∧ U.status = .running ∧ Ended U below (.threw a) ∧ s.WarmedH U.vm ∧ s.sameButNew ({ U with vm := s.vm } : State) locs cells slots ∧ ∃ ce, U.heap[a]? = some ce ∧ s.vm.findClass nsE = some ce.cls ∧ ce.vm = .none := by
  have hP := X.admits.platform
  have hpl : e.platform.magicAccessors = ({} : Platform).magicAccessors := by rw [hP]
  have hT : ∀ w ∈ nsT ic, w.holds args s none s [] = true := fun w hw => h w (List.mem_append_right _ (List.mem_append_right _ (List.mem_append_right _ (List.mem_append_right _ hw))))
  -- the classes above: Throwable, then Exception and RuntimeException, then the class itself
  obtain ⟨T, Z0, L, -, Y⟩ := ThrowableC.of_atoms (args := args) (by rw [hP]) (by rw [hP]) hpl (fun w hw => h w (List.mem_append_left _ hw))
  obtain ⟨Z, M, LZ, LM, hnZ⟩ := Init0T.ofS_atoms (args := args) hpl L Y (fun w hw => h w (List.mem_append_right _ (List.mem_append_left _ hw)))
  obtain ⟨P2, Ps, hlen, L2, hLs, hm2, hl2, hl3⟩ := Bundle.chainS (args := args) hpl hnZ ["java/lang/Exception"] "java/lang/RuntimeException" (by decide +kernel) (by decide +kernel) (fun w hw => h w (List.mem_append_right _ (List.mem_append_right _ (List.mem_append_right _ (List.mem_append_left _ hw)))))
  have hnsP : ∀ w ∈ nsP, w.before args s = true := fun w hw => h w (List.mem_append_right _ (List.mem_append_right _ (List.mem_append_left _ hw)))
  obtain ⟨P1, L1, hm1, hs1⟩ := PassC.ofS_atoms (args := args) (s := s) hpl (X := nsE) (Y := "java/lang/RuntimeException") (index := 13) (bytes := nsC) (by decide +kernel) (by decide) (by decide +kernel) (by decide +kernel) (by decide +kernel) (by decide +kernel) hnsP
  have hlink : PassesOn (Z.m T.toThrowableT) ((P1 :: P2 :: Ps).map (·.toPassT)) := ⟨Option.some.inj (hs1.symm.trans hm2), hl2, hl3⟩
  have hLl : ∀ P, P ∈ P1 :: P2 :: Ps → P.LinksS e.platform s := fun P hp => by
    rcases List.mem_cons.mp hp with rfl | hp
    · exact L1
    · rcases List.mem_cons.mp hp with rfl | hp
      · exact L2
      · exact hLs P hp
  have hfound : s.vm.findClass nsE = some P1.m.cls := findClass_of_methodNamed hm1
  cases Option.some.inj (hfX.symm.trans hfound)
  obtain ⟨c1, k1, hc1, hk, hord, -, -, -⟩ := Cond.instantiable_spec (hT (.instantiable nsE 6) (by simp [nsT]))
  cases Option.some.inj (hc1.symm.trans hfound)
  cases Option.some.inj (hkX.symm.trans hk)
  have hsel : ∀ {t : MethodName} {mt : MethodId}, s.methodNamed? t = some mt → t.cls ≠ "java/lang/invoke/MethodHandle" ∧ t.cls ≠ "java/lang/invoke/VarHandle" → (Cond.selects nsE t t).holds args s none s [] = true → selectMethod e.platform s.vm P1.m.cls mt = .method mt := fun hn hne hq => by
    obtain ⟨c2, r2, m2, q1, q2, q3, q4, -⟩ := Cond.selects_spec hq
    cases Option.some.inj (q1.symm.trans hfound)
    cases Option.some.inj (q2.symm.trans (State.methodFound?_of_named hn hne))
    cases Option.some.inj (q3.symm.trans hn)
    rw [Launch.admits_selectMethod X.admits]
    exact q4
  have hsel0 := hsel Y.fill0 (by decide) (hT (.selects nsE Bundle.tFill0 Bundle.tFill0) (by simp [nsT]))
  have hselF := hsel Y.fill (by decide) (hT (.selects nsE Bundle.tFill Bundle.tFill) (by simp [nsT]))
  -- Throwable's statics
  obtain ⟨cS0, hcS0, hiss⟩ := Y.statics
  obtain ⟨u0, hu0⟩ := Cond.staticRefV Y.unassigned L.unassignedStatic L.statics hcS0 hiss (hT (.isRef (.static Bundle.tN "UNASSIGNED_STACK" Bundle.steD)) (by simp [nsT]))
  obtain ⟨sen, hsen⟩ := Cond.staticRefV Y.sentinel L.sentinelStatic L.statics hcS0 hiss (hT (.isRef (.static Bundle.tN "SUPPRESSED_SENTINEL" Bundle.listD)) (by simp [nsT]))
  obtain ⟨ci8, i8, fB, hk8, hg8, ha8, hsB, -, hnB, htB, hffB⟩ := Cond.ownField (t := .object "java/lang/Object") Y.found L.cls (by decide +kernel) (hT (.fieldLink Bundle.tN 198 Bundle.tN "backtrace" "Ljava/lang/Object;") (by simp [nsT])) (hT (.lays Bundle.tN Bundle.tN "backtrace" "Ljava/lang/Object;") (by simp [nsT])) e.platform hpl
  obtain ⟨cS, hcS, heS, -, hkeep⟩ := X.same.2.2.2.2.2 T.aS cS0 hcS0
  have hnot : ∀ i, (⟨T.aS, i⟩ : Loc) ∉ locs := fun i hi => by
    have := hlocs _ hi cS0 hcS0
    rw [hiss] at this
    cases this
  have hknS : cS.vm ≠ .unknown := by
    rw [heS]
    intro hu
    rw [show cS0.vm = .unknown from hu] at hiss
    cases hiss
  have hneS : T.aS ≠ a := Nat.ne_of_lt (Nat.lt_of_lt_of_le (Array.getElem?_eq_some_iff.mp hcS0).1 hnew)
  -- the fields of the new exception
  obtain ⟨iM, hffM⟩ := Y.msg
  obtain ⟨tC, dC, hdC, eC⟩ := Cond.laysAt hfound hk Y.cause (hT (.lays nsE Bundle.tN "cause" "Ljava/lang/Throwable;") (by simp [nsT]))
  obtain ⟨tS, dS, hdS, eS⟩ := Cond.laysAt hfound hk Y.stack (hT (.lays nsE Bundle.tN "stackTrace" Bundle.steD) (by simp [nsT]))
  obtain ⟨tP, dP, hdP, eP⟩ := Cond.laysAt hfound hk Y.supp (hT (.lays nsE Bundle.tN "suppressedExceptions" Bundle.listD) (by simp [nsT]))
  obtain ⟨tM, dM, hdM, eM⟩ := Cond.laysAt hfound hk hffM (hT (.lays nsE Bundle.tN "detailMessage" "Ljava/lang/String;") (by simp [nsT]))
  obtain ⟨tB, dB, hdB, eB⟩ := Cond.laysAt hfound hk hffB (hT (.lays nsE Bundle.tN "backtrace" "Ljava/lang/Object;") (by simp [nsT]))
  have bC := Cond.laysApart hdB hdC eB eC (by rw [hnB, Y.causeName]; decide)
  have bS := Cond.laysApart hdB hdS eB eS (by rw [hnB, Y.stackName]; decide)
  have bP := Cond.laysApart hdB hdP eB eP (by rw [hnB, Y.suppName]; decide)
  have hnull : ((preparedCellV T.toThrowableT (freshCell P1.m.cls kX) a u0 sen).withEntry W9.cur).slots[fB.slot]? = some .null := by
    have := fresh_default (c := P1.m.cls) tB
    rw [htB] at this
    simpa [preparedCellV, Cell.setSlot, Cell.withEntry, Array.getElem?_setIfInBounds, bC, bS, bP, bC.symm, bS.symm, bP.symm, defaultValue] using this
  -- the constructor's call, its run, the throw
  obtain ⟨tm, mC, cC, kC, v1, hnC, -, -, -, -, -, -, -, hW1, go1⟩ := Steps.initColdS (tb := p.tables) (e := e) (below := below) (s := s) (U := W9) X.here hexec X.warmed hpl hown (t := Bundle.initS nsE) rfl rfl (by decide) (hT (.methodLink RX9 ic (Bundle.initS nsE)) (by simp [nsT])) (hnsP (.instanceMethod (Bundle.initS nsE)) (by simp [nsP, Bundle.passSAtoms])) (bytes := nsC) (maxL := 2) (hnsP (.code (Bundle.initS nsE) nsC 2 none) (by simp [nsP, Bundle.passSAtoms])) (f := g) hg (a := a) (msg := msg) (rest := .ref a :: rest) hstack hd6
  cases Option.some.inj (hnC.symm.trans hm1)
  obtain ⟨v2, X2, go2⟩ := (X.noted hW1).ctorMessageOffV hexec (g := { g with stack := .ref a :: rest }) hg hsize T L Z LZ M LM (P1 :: P2 :: Ps) hLl hlink (u0 := u0) (sen := sen) (self := a) hmsg (cell := freshCell P1.m.cls kX) (cellS := cS) hcell (fun _ => by simp) (by simp) rfl rfl hsel0 hselF hcS hneS hknS (by rw [hkeep _ (hnot _)]; exact hu0) (by rw [hkeep _ (hnot _)]; exact hsen) (Takes.of_laid hk hord tC (by rw [Y.causeType]; rfl)) (Takes.of_laid hk hord tS (by rw [Y.stackType]; exact fits_refV_array _ u0)) (Takes.of_laid hk hord tP (by rw [Y.suppType]; exact fits_refV_object _ sen)) (Takes.of_laid hk hord tM (by rw [Y.msgType]; exact fits_refV_object _ ⟨msg, hmsg⟩)) Y.objLocals ⟨{ ci198 := ci8, i198 := i8, fBack := fB }, ⟨hk8, hg8, ha8, hsB⟩, hnull, fun _ _ => rfl⟩ htr [] hd6 (by simp only [List.length_cons, hlen, List.length_nil]; omega) (by simp only [List.length_cons, hlen, List.length_nil]; exact hL)
  obtain ⟨hwalk, hrun, hend, hWU, hsame⟩ := X2.athrowLeaves hexec (g := { g with stack := .ref a :: rest, pc := g.pc + 3 }) hg hlocked hentered hout (a := a) (rest := rest) rfl hd9 (hlocks := hlocks)
  have hlt : a < ((W9.setVm v1).setVm v2).heap.size := (Array.getElem?_eq_some_iff.mp hcell).1
  refine ⟨_, go1 _ (fun acts => ?_), hrun, hend, hWU, hsame.weaken (fun y hy hl9 => ?_) (Nat.le_refl _) (Nat.le_refl _), _, heapAt_setCell_self (s := (W9.setVm v1).setVm v2) (plainBareV T.toThrowableT (freshCell P1.m.cls kX) a u0 sen msg) hlt, hfound, rfl⟩
  · rw [doInvoke_state]
    exact go2 _ hwalk
  · rcases List.mem_append.mp hy with h1 | h1
    · exact h1
    · have hb : y.base = a := by
        simp only [List.mem_cons, List.not_mem_nil, or_false] at h1
        rcases h1 with rfl | rfl | rfl | rfl | rfl <;> rfl
      rw [hb] at hl9
      exact absurd hl9 (Nat.not_lt.mpr hnew)
end NSA
section NSB
variable {p : Program} {l : Launch} {e : Env} {R : Room} {s : State} {m : MethodId} {args : Array Value} {below : List Frame} {meth : Method} {c : Code} {H : Heap} {locs : List Loc} {cells slots : Nat} {ls : Array Slot} {rest : List Value} {free : Addr → Prop} {Qc : Array Value → State → Outcome → State → Prop} {XC : String → State → State → Prop}
def nsV (ic : Nat) : List Cond := (nsW ic).filter vx_no
set_option maxRecDepth 100000 in
/-- the whole throw; q: behind the text's row -/
theorem ns_thrown {cc : ByteArray} {pc q : Nat} (hexec : p.tables.exec = Jvm.exec) (hb : c.code = cc) (hl : l.stackTraces = false) {text : String} {ik is ic mc ms sa : Nat} {A : Nat → Prop}
    (hown : s.vm.findClass RX9 = some m.cls) (hk : (Cond.classLink RX9 ik nsE).before args s = true) (hini : (Cond.initialized nsE).before args s = true) (hstr : vk_R RX9 is text sa s) (hat : ∀ w ∈ nsV ic, w.before args s = true)
    (hgood : ∀ w ∈ Cond.classLink RX9 ik nsE :: Cond.initialized nsE :: nsV ic, vx_ot w = true)
    (hU : vx_Zq Bundle.tN "UNASSIGNED_STACK" Bundle.steD A s s.heap) (hN : vx_Zq Bundle.tN "SUPPRESSED_SENTINEL" Bundle.listD A s s.heap) (hS : va_S A s.heap H locs) (hsize : ls.size = c.maxLocals)
    (d0 : decode cc pc = .ok (.new ik, 3)) (d3 : decode cc (pc + 3) = .ok (.dup, 1))
    (hld : ∀ (R' : Room) (s' T1 : State) (k n : Nat) (st : List Value) (target : State), Stand p l e R' s' m args below meth c T1 [] k n → s'.vm.findClass RX9 = some m.cls → vk_R RX9 is text sa s' → Steps p.tables e below (T1.setTop { method := m, pc := q, locals := ls, stack := .ref sa :: st, locked := none }) target → Steps p.tables e below (T1.setTop { method := m, pc := pc + 4, locals := ls, stack := st, locked := none }) target)
    (d6 : decode cc q = .ok (.invokespecial ic, 3)) (d9 : decode cc (q + 3) = .ok (.athrow, 1)) (hout : ∀ x ∈ c.exceptionTable.toList, covers x (q + 3) = false)
    (hF : 5 < R.frames) (hL : (rest.map fun v => v.category).sum + 82 ≤ R.locals) (hC : cells + 1 ≤ R.cells) (hR : slots + 6 ≤ R.slots) (hlocks : meth.locks = false)
    (hx : ∀ t : State, s.vm.Alike t.vm → H.size ≤ t.heap.size → (∀ q : Nat, q < H.size → t.heap[q]? = H[q]?) → XC nsE s t)
    (hf : ∀ z ∈ locs, free z.base) (hc : cells + 1 ≤ mc) (hs : slots + 6 ≤ ms) :
    W p l e R s m args below meth c H locs cells slots (vx_MQ below Qc XC args s mc ms free) (F0 m pc ls rest) := by
  intro T hT X
  have htr : e.platform.stackTraces = false := (show e.platform.stackTraces = l.stackTraces by rw [X.admits.platform]).trans hl
  -- the run from here on, as of a state of its own
  have X0 := vx_rebase X (R' := { frames := R.frames, locals := R.locals, cells := 1, slots := 6 }) (Nat.le_refl _) (Nat.le_refl _) hC hR
  obtain ⟨s', hA⟩ : ∃ z, z = (T.setVm s.vm).setFrames (.invoking m args :: below) := ⟨_, rfl⟩
  rw [← hA] at X0
  have hvm : s'.vm = s.vm := by rw [hA]; rfl
  have hhp : s'.heap = H := by rw [hA]; exact hT
  have hW0 : s.WarmedH s'.vm := by rw [hvm]; exact State.WarmedH.refl s
  have mv : ∀ w, vx_ot w = true → w.before args s = true → w.before args s' = true := fun w g hw => vx_ot_at hW0 hvm.symm g hw
  have hU' : vx_Zq Bundle.tN "UNASSIGNED_STACK" Bundle.steD A s' s'.heap := by rw [hhp]; exact vx_Zq.moved hW0.alike (hU.kept hS.2.1)
  have hN' : vx_Zq Bundle.tN "SUPPRESSED_SENTINEL" Bundle.listD A s' s'.heap := by rw [hhp]; exact vx_Zq.moved hW0.alike (hN.kept hS.2.1)
  have hall : ∀ w ∈ nsW ic, w.before args s' = true := vx_own (fun w hw => mv w (hgood w (List.mem_cons_of_mem _ (List.mem_cons_of_mem _ hw))) (hat w hw)) (vx_isRefq hU'.1) (vx_isRefq hN'.1) hU'.2.word hN'.2.word
  have hown' : s'.vm.findClass RX9 = some m.cls := by rw [hvm]; exact hown
  have hins : (Cond.instantiable nsE 6).before args s' = true := hall _ (by simp [nsW, nsT])
  obtain ⟨v1, cX, kX, hfX, hkX, -, -, X1, go⟩ := X0.newCold hexec (own := RX9) (C := nsE) (index := ik) (n := 6) hown' (mv _ (hgood _ List.mem_cons_self) hk) hins (mv _ (hgood _ (List.mem_cons_of_mem _ List.mem_cons_self)) hini) (g := F0 m pc ls rest) rfl (by rw [hb]; exact d0) (Nat.le_refl _) (Nat.le_refl _)
  generalize hT1 : (T.setVm v1).pushCell { cls := cX, slots := kX.instanceTypes.map defaultValue, vm := .none } = T1 at X1 go
  have hcat : (Value.ref T.heap.size).category = 1 := rfl
  have hcell : T1.heap[T.heap.size]? = some (freshCell cX kX) := by rw [← hT1]; exact State.heap_pushCell_size _ _
  have d3' : decode c.code (pc + 3) = .ok (.dup, 1) := by rw [hb]; exact d3
  obtain ⟨U, hsteps, hrun, hend, hW, hsame, ce, hce, hcl, hv⟩ := ns_made X1 hexec htr (ic := ic) hown' hall (fun x hx => nomatch hx) hfX hkX hcell (by rw [hhp, hT]; exact Nat.le_refl _) (msg := .ref sa) rfl (g := { method := m, pc := q, locals := ls, stack := .ref sa :: .ref T.heap.size :: .ref T.heap.size :: rest, locked := none }) rfl hsize rfl rfl (rest := rest) rfl (by rw [hb]; exact d6) (by rw [hb]; exact d9) hout hF (by simp only [List.map_cons, List.sum_cons, hcat]; omega) hlocks
  obtain ⟨f1, f2⟩ := vx_frame hsame
  rw [hhp] at f1 f2
  have hWs : s.WarmedH U.vm := State.WarmedH.trans hW0 hW
  rw [hvm] at hcl
  have hnew : s.sameButNew ({ U with vm := s.vm } : State) locs mc ms := by
    subst hA
    obtain ⟨e1, e2⟩ := hsame
    rw [State.setFrames_setFrames] at e1
    have h3 := X.same.trans (⟨e1, e2⟩ : (T.setVm s.vm).sameButNew ({ U with vm := s.vm } : State) [] (0 + 1) (0 + 6))
    rw [List.append_nil] at h3
    exact h3.mono hc hs
  refine ⟨U, go _ ?_, .threw T.heap.size, hrun, hend, Or.inr ⟨T.heap.size, rfl, nsE, ce, locs, hx U hWs.alike f1 (fun q hq => f2 q hq (fun z hz => nomatch hz)), hce, hv, hcl, hWs, hnew, hf⟩⟩
  show Steps p.tables e below (T1.setTop { method := m, pc := pc + 3, locals := ls, stack := .ref T.heap.size :: rest, locked := none }) _
  jvm_step X1.here [X1.here.top, hexec, d3', Value.category]
  exact hld _ _ _ _ _ _ _ X1 hown' (vk_R.warm hW0 hstr) hsteps
end NSB
set_option maxRecDepth 100000 in
theorem ns_fit : (∀ w ∈ (nsV 185).filter goodWord, w ∈ lw_tbl) ∧ (∀ w ∈ (nsV 185).filter (fun w => !goodWord w), w ∈ zBad nsE) ∧ Cond.classLink RX9 181 nsE ∈ BIG ∧ Cond.initialized nsE ∈ BIG ∧ (Cond.classLink RX9 181 nsE :: Cond.initialized nsE :: nsV 185).all vx_ot = true := ⟨by decide +kernel, by decide +kernel, List.mem_filter.mpr ⟨by decide +kernel, by decide +kernel⟩, List.mem_filter.mpr ⟨by decide +kernel, by decide +kernel⟩, by decide +kernel⟩
set_option maxRecDepth 100000 in
theorem ns_hat {args : Array Value} {s : State} (hts : ∀ w ∈ BIG, w.before args s = true) (hB : zB2 s) : ∀ w ∈ nsV 185, w.before args s = true := by
  intro w hw
  by_cases g : goodWord w = true
  · exact hts w (List.mem_filter.mpr ⟨ns_fit.1 w (List.mem_filter.mpr ⟨hw, g⟩), g⟩)
  · rcases List.mem_cons.mp (ns_fit.2.1 w (List.mem_filter.mpr ⟨hw, by simpa using g⟩)) with rfl | hb
    · exact va_Nw.use rfl (hB.2.2.1 _ (by decide))
    · obtain ⟨x, hx, rfl⟩ := List.mem_map.mp hb
      exact va_Nw.use rfl (hB.2.1 x hx)
set_option maxRecDepth 100000 in
theorem zTok_3 : (181 : Nat) = 181 ∧ (185 : Nat) = 185 := ⟨rfl, rfl⟩
section NSEE
variable {Γ : GG} {M : MT} {pc : Nat} {lo : List (Option AV)} {st : List AV} {σ : HS} {cu su : Nat} {Q : Res → HS → Prop}
set_option maxRecDepth 100000 in
theorem zW_throwN {tx : String} {ik ic is k : Nat} (T : ik = 181 ∧ ic = 185) (hE : "java/util/NoSuchElementException" ∈ zExc) (hown9 : (mY M).cls = RX9) (hh : mH M = []) (hk : zStr[k]? = some (RX9, is, tx))
    (d0 : decode (mB M) pc = .ok (.new ik, 3)) (d3 : decode (mB M) (pc + 3) = .ok (.dup, 1)) (d4 : decode (mB M) (pc + 4) = .ok (.ldc is, 2)) (d6 : decode (mB M) (pc + 6) = .ok (.invokespecial ic, 3)) (d9 : decode (mB M) (pc + 9) = .ok (.athrow, 1))
    (hf : 6 ≤ mF M) (hw : zcat st + 82 ≤ mW M) (hc : cu + 1 ≤ mC M) (hs : su + 6 ≤ mS M) (hQ : ∀ n, Q (.inr "java/util/NoSuchElementException") (sN σ n)) : zW Γ M pc lo st σ cu su Q := by
  obtain ⟨rfl, rfl⟩ := T
  intro l p e s m args below meth c H locs ls hl C hS hH hL
  obtain ⟨⟨hx, hb, hml, hown, hts⟩, hret, hlk, htab, hnam, hKK, hBs⟩ := id C
  rw [hown9] at hown
  refine ns_thrown (q := pc + 6) hx hb hl hown (hts _ ns_fit.2.2.1) (hts _ ns_fit.2.2.2.1) (hBs.2.2.2.1 k _ hk) (ns_hat hts hBs.2.2.2.2.2.2.2.2.2) (fun w hw => List.all_eq_true.mp ns_fit.2.2.2.2 w hw) hBs.2.1 hBs.2.2.1 hS (hL.1.trans hml.symm) d0 d3 (fun R' s' T1 k n st9 target X9 ho hr hst => X9.ldcString hx (own := RX9) (text := tx) (index := is) ho hr.1 hr.2 (g := { method := m, pc := pc + 4, locals := ls, stack := st9, locked := none }) rfl (by rw [hb]; exact d4) _ hst) d6 d9 (fun x hx9 => ?_) (show 5 < mF M by omega) (by rw [zcat_eq]; show zcat st + 82 ≤ mW M; omega) hc hs hlk (fun t ha hz hq => ⟨⟨sN σ t.heap.size, hQ _, zH_grow hH hz hq⟩, zF_grow hS hz hq⟩) hS.2.2 hc hs
  rw [htab, hh] at hx9
  cases hx9
set_option maxRecDepth 100000 in
theorem zW_throwNW {tx : String} {ik ic is k : Nat} (T : ik = 181 ∧ ic = 185) (hE : "java/util/NoSuchElementException" ∈ zExc) (hown9 : (mY M).cls = RX9) (hh : mH M = []) (hk : zStr[k]? = some (RX9, is, tx))
    (d0 : decode (mB M) pc = .ok (.new ik, 3)) (d3 : decode (mB M) (pc + 3) = .ok (.dup, 1)) (d4 : decode (mB M) (pc + 4) = .ok (.ldc_w is, 3)) (d7 : decode (mB M) (pc + 7) = .ok (.invokespecial ic, 3)) (d10 : decode (mB M) (pc + 10) = .ok (.athrow, 1))
    (hf : 6 ≤ mF M) (hw : zcat st + 82 ≤ mW M) (hc : cu + 1 ≤ mC M) (hs : su + 6 ≤ mS M) (hQ : ∀ n, Q (.inr "java/util/NoSuchElementException") (sN σ n)) : zW Γ M pc lo st σ cu su Q := by
  obtain ⟨rfl, rfl⟩ := T
  intro l p e s m args below meth c H locs ls hl C hS hH hL
  obtain ⟨⟨hx, hb, hml, hown, hts⟩, hret, hlk, htab, hnam, hKK, hBs⟩ := id C
  rw [hown9] at hown
  refine ns_thrown (q := pc + 7) hx hb hl hown (hts _ ns_fit.2.2.1) (hts _ ns_fit.2.2.2.1) (hBs.2.2.2.1 k _ hk) (ns_hat hts hBs.2.2.2.2.2.2.2.2.2) (fun w hw => List.all_eq_true.mp ns_fit.2.2.2.2 w hw) hBs.2.1 hBs.2.2.1 hS (hL.1.trans hml.symm) d0 d3 (fun R' s' T1 k n st9 target X9 ho hr hst => X9.ldcStringW hx (own := RX9) (text := tx) (index := is) ho hr.1 hr.2 (g := { method := m, pc := pc + 4, locals := ls, stack := st9, locked := none }) rfl (by rw [hb]; exact d4) _ hst) d7 d10 (fun x hx9 => ?_) (show 5 < mF M by omega) (by rw [zcat_eq]; show zcat st + 82 ≤ mW M; omega) hc hs hlk (fun t ha hz hq => ⟨⟨sN σ t.heap.size, hQ _, zH_grow hH hz hq⟩, zF_grow hS hz hq⟩) hS.2.2 hc hs
  rw [htab, hh] at hx9
  cases hx9
end NSEE
