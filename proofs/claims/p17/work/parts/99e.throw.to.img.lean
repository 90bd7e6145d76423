section
/-! ===== 'throw new NoSuchElementException("text")': its maker's link stands at 13 in its pool, not at 7, so the printed row vx_throwS doesn't take it; the same by the library's rows on chains of makers (chainSX, ctorMessageOffV, athrowLeaves) ===== -/
abbrev td_E : String := "java/util/NoSuchElementException"
abbrev td_N : List String := ["java/lang/RuntimeException", "java/lang/Exception"]
abbrev td_tx : String := "no such town, or nothing such is told of it"
abbrev td_rx : ByteArray := prog_23_method_4_code
abbrev td_own : List Cond := Bundle.ownAtomsX RX11 153 td_E 13 td_rx td_N
section TDC
variable {p : Program} {l : Launch} {e : Env} {R : Room} {s : State} {m₀ : MethodId} {args : Array Value} {below : List Frame} {meth : Method} {c : Code} {V : State} {cells slots : Nat}
set_option maxHeartbeats 2000000 in
theorem td_ctor (X : Stand p l e R s m₀ args below meth c V [] cells slots) (hexec : p.tables.exec = Jvm.exec) (htr : e.platform.stackTraces = false) (hown : s.vm.findClass RX11 = some m₀.cls) (h : ∀ w ∈ td_own, w.before args s = true)
    {a : Addr} {cX : ClassId} {kX : Class} (hfX : s.vm.findClass td_E = some cX) (hkX : s.vm.classes[cX]? = some kX) (hcell : V.heap[a]? = some (freshCell cX kX)) (hnew : s.heap.size ≤ a) {msg : Value} (hmsg : msg.isRef = true)
    {g : JFrame} (hg : g.method = m₀) (hsize : g.locals.size = c.maxLocals) (hlocked : g.locked = none) (hentered : g.entered = []) {rest : List Value} (hstack : g.stack = msg :: .ref a :: .ref a :: rest)
    (hd6 : decode c.code g.pc = .ok (.invokespecial 153, 3)) (hd9 : decode c.code (g.pc + 3) = .ok (.athrow, 1)) (hout : ∀ x ∈ c.exceptionTable.toList, covers x (g.pc + 3) = false)
    (hRf : 5 < R.frames) (hRl : 2 * g.monitorRoom + ((Value.ref a :: rest).map fun v => v.category).sum + 81 ≤ R.locals) (hlocks : meth.locks = false) :
    ∃ U : State, Steps p.tables e below (V.setTop g) U ∧ U.status = .running ∧ Ended U below (.threw a) ∧ s.WarmedH U.vm ∧ s.sameButNew ({ U with vm := s.vm } : State) [] cells slots ∧ ∃ ce, U.heap[a]? = some ce ∧ ce.cls = cX ∧ ce.vm = .none := by
  have hpl : e.platform.magicAccessors = ({} : Platform).magicAccessors := by rw [X.admits.platform]
  have hw : ∀ w, w ∈ td_own → w.holds args s none s [] = true := fun w hw => h w hw
  have fitX : Bundle.fit td_E = true := by decide +kernel
  obtain ⟨T, Z0, L, -, Y⟩ := ThrowableC.of_atoms (args := args) (by rw [X.admits.platform]) (by rw [X.admits.platform]) hpl (fun x hx => h x (by simp [td_own, Bundle.ownAtomsX, hx]))
  obtain ⟨Z, M, LZ, LM, hnZ⟩ := Init0T.ofS_atoms (args := args) hpl L Y (fun x hx => h x (by simp [td_own, Bundle.ownAtomsX, hx]))
  obtain ⟨P1, Ps, hlen, L1, hL, hP1m, hlink1, hlink⟩ := Bundle.chainSX (args := args) hpl hnZ (ix := 13) (rx := td_rx) (by decide +kernel) (by decide +kernel) (by decide +kernel) (by decide +kernel) td_N td_E fitX (by decide +kernel) (fun x hx => h x (by simp [td_own, Bundle.ownAtomsX, hx]))
  have hlen2 : Ps.length = 2 := hlen
  have hf1 : s.vm.findClass td_E = some P1.m.cls := findClass_of_methodNamed hP1m
  cases Option.some.inj (hfX.symm.trans hf1)
  obtain ⟨c1, kX', hc1, hk, hord, -, -, hn6⟩ := Cond.instantiable_spec (hw (.instantiable td_E 6) (by simp [td_own, Bundle.ownAtomsX]))
  cases Option.some.inj (hc1.symm.trans hf1)
  cases Option.some.inj (hkX.symm.trans hk)
  have sel : ∀ {y : MethodName} {f : MethodId}, Cond.selects td_E y y ∈ td_own → s.methodNamed? y = some f → s.methodFound? y.cls y.name y.desc = some f → selectMethod e.platform s.vm P1.m.cls f = .method f := fun {y f} hin hn hfo => by
    obtain ⟨c2, r2, m2, q1, q2, q3, q4, -⟩ := Cond.selects_spec (hw _ hin)
    cases Option.some.inj (q1.symm.trans hf1)
    cases Option.some.inj (q2.symm.trans hfo)
    cases Option.some.inj (q3.symm.trans hn)
    rw [Launch.admits_selectMethod X.admits]; exact q4
  have hsel0 := sel (y := Bundle.tFill0) (by simp [td_own, Bundle.ownAtomsX]) Y.fill0 (State.methodFound?_of_named Y.fill0 (by decide))
  have hselF := sel (y := Bundle.tFill) (by simp [td_own, Bundle.ownAtomsX]) Y.fill (State.methodFound?_of_named Y.fill (by decide))
  obtain ⟨cS0, hcS0, hiss⟩ := Y.statics
  obtain ⟨u0, hu0⟩ := Cond.staticRefV Y.unassigned L.unassignedStatic L.statics hcS0 hiss (hw (.isRef (.static Bundle.tN "UNASSIGNED_STACK" Bundle.steD)) (by simp [td_own, Bundle.ownAtomsX]))
  obtain ⟨sen, hsen⟩ := Cond.staticRefV Y.sentinel L.sentinelStatic L.statics hcS0 hiss (hw (.isRef (.static Bundle.tN "SUPPRESSED_SENTINEL" Bundle.listD)) (by simp [td_own, Bundle.ownAtomsX]))
  obtain ⟨k198, i198, fB, hk198, hg198, ha198, hsB, -, hnB, htB, hffB⟩ := Cond.ownField (t := .object "java/lang/Object") Y.found L.cls (by decide +kernel) (hw (.fieldLink Bundle.tN 198 Bundle.tN "backtrace" "Ljava/lang/Object;") (by simp [td_own, Bundle.ownAtomsX])) (hw (.lays Bundle.tN Bundle.tN "backtrace" "Ljava/lang/Object;") (by simp [td_own, Bundle.ownAtomsX])) e.platform hpl
  obtain ⟨cS, hcS', heS, -, hkeep⟩ := X.same.2.2.2.2.2 T.aS cS0 hcS0
  have hcS : V.heap[T.aS]? = some cS := hcS'
  have hknS : cS.vm ≠ .unknown := fun hu => by
    rw [heS] at hu
    rw [hu] at hiss
    cases hiss
  have hneS : T.aS ≠ a := Nat.ne_of_lt (Nat.lt_of_lt_of_le (Array.getElem?_eq_some_iff.mp hcS0).1 hnew)
  obtain ⟨iM, hffM⟩ := Y.msg
  obtain ⟨tyC, dC, hdC, hdnC⟩ := Cond.laysAt hf1 hk Y.cause (hw (.lays td_E Bundle.tN "cause" "Ljava/lang/Throwable;") (by simp [td_own, Bundle.ownAtomsX]))
  obtain ⟨tyS, dS, hdS, hdnS⟩ := Cond.laysAt hf1 hk Y.stack (hw (.lays td_E Bundle.tN "stackTrace" Bundle.steD) (by simp [td_own, Bundle.ownAtomsX]))
  obtain ⟨tyP, dP, hdP, hdnP⟩ := Cond.laysAt hf1 hk Y.supp (hw (.lays td_E Bundle.tN "suppressedExceptions" Bundle.listD) (by simp [td_own, Bundle.ownAtomsX]))
  obtain ⟨tyM, dM, hdM, hdnM⟩ := Cond.laysAt hf1 hk hffM (hw (.lays td_E Bundle.tN "detailMessage" "Ljava/lang/String;") (by simp [td_own, Bundle.ownAtomsX]))
  obtain ⟨tyB, dB, hdB, hdnB⟩ := Cond.laysAt hf1 hk hffB (hw (.lays td_E Bundle.tN "backtrace" "Ljava/lang/Object;") (by simp [td_own, Bundle.ownAtomsX]))
  have bC := Cond.laysApart hdB hdC hdnB hdnC (by rw [hnB, Y.causeName]; decide)
  have bS := Cond.laysApart hdB hdS hdnB hdnS (by rw [hnB, Y.stackName]; decide)
  have bP := Cond.laysApart hdB hdP hdnB hdnP (by rw [hnB, Y.suppName]; decide)
  have hskip : SkipFacts T e.platform s (fun u => u) u0 ((preparedCellV T.toThrowableT (freshCell P1.m.cls kX) a u0 sen).withEntry V.cur) :=
    ⟨{ ci198 := k198, i198 := i198, fBack := fB }, ⟨hk198, hg198, ha198, hsB⟩, by
      have := fresh_default (c := P1.m.cls) tyB
      rw [htB] at this
      simpa [preparedCellV, Cell.setSlot, Cell.withEntry, Array.getElem?_setIfInBounds, bC, bS, bP, bC.symm, bS.symm, bP.symm, defaultValue] using this, fun _ _ => rfl⟩
  obtain ⟨tm, mC, cdC, kC, vm₁, hnC, -, -, -, -, -, -, -, hW₁, st1⟩ := Steps.initColdS (tb := p.tables) (e := e) (below := below) (s := s) (U := V) X.here hexec X.warmed hpl hown (t := Bundle.initS td_E) rfl rfl (Bundle.fit_spec fitX).2
    (hw (.methodLink RX11 153 (Bundle.initS td_E)) (by simp [td_own, Bundle.ownAtomsX])) (h (.instanceMethod (Bundle.initS td_E)) (by simp [td_own, Bundle.ownAtomsX, Bundle.chainSAtomsX, Bundle.passSAtoms])) (bytes := td_rx) (maxL := 2) (h (.code (Bundle.initS td_E) td_rx 2 none) (by simp [td_own, Bundle.ownAtomsX, Bundle.chainSAtomsX, Bundle.passSAtoms]))
    (f := g) hg (a := a) (msg := msg) (rest := .ref a :: rest) hstack hd6
  cases Option.some.inj (hnC.symm.trans hP1m)
  have X₁ := X.noted hW₁
  obtain ⟨vm₂, X₂, st2⟩ := X₁.ctorMessageOffV hexec (g := { g with stack := .ref a :: rest }) hg hsize T L Z LZ M LM (P1 :: Ps)
    (fun P hP => by rcases List.mem_cons.mp hP with rfl | hP; exact L1; exact hL P hP) ⟨hlink1, hlink⟩ (u0 := u0) (sen := sen) (self := a) hmsg (cell := freshCell P1.m.cls kX) (cellS := cS)
    hcell (fun _ => by simp) (by simp) rfl rfl hsel0 hselF hcS hneS hknS (by rw [hkeep _ (List.not_mem_nil)]; exact hu0) (by rw [hkeep _ (List.not_mem_nil)]; exact hsen)
    (Takes.of_laid hk hord tyC (by rw [Y.causeType]; rfl)) (Takes.of_laid hk hord tyS (by rw [Y.stackType]; exact fits_refV_array _ u0)) (Takes.of_laid hk hord tyP (by rw [Y.suppType]; exact fits_refV_object _ sen))
    (Takes.of_laid hk hord tyM (by rw [Y.msgType]; exact fits_refV_object _ ⟨msg, hmsg⟩)) Y.objLocals hskip htr [] hd6
    (by simp only [List.length_cons, hlen2]; omega) (by simp only [List.length_cons, hlen2]; exact hRl)
  obtain ⟨hwalk, hrun, hended, hWU, hsame⟩ := X₂.athrowLeaves hexec (g := { g with stack := .ref a :: rest, pc := g.pc + 3 }) hg hlocked hentered hout (a := a) (rest := rest) rfl hd9 hlocks
  have hlt : a < ((V.setVm vm₁).setVm vm₂).heap.size := (Array.getElem?_eq_some_iff.mp hcell).1
  have hU := heapAt_setCell_self (s := (V.setVm vm₁).setVm vm₂) (plainBareV T.toThrowableT (freshCell P1.m.cls kX) a u0 sen msg) hlt
  refine ⟨_, st1 _ (fun acts => ?_), hrun, hended, hWU, hsame.weaken (fun y hy hlt' => ?_) (Nat.le_refl _) (Nat.le_refl _), _, hU, rfl, rfl⟩
  · rw [doInvoke_state]
    exact st2 _ hwalk
  · rcases List.mem_append.mp hy with h1 | h1
    · exact h1
    · exfalso
      have hb : y.base = a := by
        simp only [List.mem_cons, List.not_mem_nil, or_false] at h1
        rcases h1 with rfl | rfl | rfl | rfl | rfl <;> rfl
      rw [hb] at hlt'
      exact Nat.not_lt.mpr hnew hlt'
end TDC
section TDT
variable {p : Program} {l : Launch} {e : Env} {R : Room} {s : State} {m : MethodId} {args : Array Value} {below : List Frame} {meth : Method} {c : Code} {H : Heap} {locs : List Loc} {cells slots : Nat} {free : Addr → Prop} {ls : Array Slot} {rest : List Value} {Qc : Array Value → State → Outcome → State → Prop} {XC : String → State → State → Prop}
/-- the printed row vx_throwS, for this exception -/
theorem td_throw {cc : ByteArray} {pc : Nat} (hexec : p.tables.exec = Jvm.exec) (hb : c.code = cc) (hl : l.stackTraces = false) {mc ms sa : Nat} {A : Nat → Prop}
    (hown : s.vm.findClass RX11 = some m.cls) (hk : (Cond.classLink RX11 149 td_E).before args s = true) (hini : (Cond.initialized td_E).before args s = true) (hstr : vk_R RX11 151 td_tx sa s) (hat : ∀ w ∈ td_own.filter vx_no, w.before args s = true)
    (hgood : ∀ w ∈ Cond.classLink RX11 149 td_E :: Cond.initialized td_E :: td_own.filter vx_no, vx_ot w = true)
    (hU : vx_Zq Bundle.tN "UNASSIGNED_STACK" Bundle.steD A s s.heap) (hN : vx_Zq Bundle.tN "SUPPRESSED_SENTINEL" Bundle.listD A s s.heap) (hS : va_S A s.heap H locs) (hsize : ls.size = c.maxLocals)
    (d0 : decode cc pc = .ok (.new 149, 3)) (d3 : decode cc (pc + 3) = .ok (.dup, 1)) (d4 : decode cc (pc + 4) = .ok (.ldc 151, 2)) (d6 : decode cc (pc + 6) = .ok (.invokespecial 153, 3)) (d9 : decode cc (pc + 9) = .ok (.athrow, 1))
    (hout : ∀ x ∈ c.exceptionTable.toList, covers x (pc + 9) = false)
    (hRframes : 5 < R.frames) (hRlocals : (rest.map fun v => v.category).sum + 82 ≤ R.locals) (hRcells : cells + 1 ≤ R.cells) (hRslots : slots + 6 ≤ R.slots) (hlocks : meth.locks = false)
    (hx : ∀ t : State, s.vm.Alike t.vm → H.size ≤ t.heap.size → (∀ q : Nat, q < H.size → t.heap[q]? = H[q]?) → XC td_E s t)
    (hf : ∀ z ∈ locs, free z.base) (hc : cells + 1 ≤ mc) (hs : slots + 6 ≤ ms) :
    W p l e R s m args below meth c H locs cells slots (vx_MQ below Qc XC args s mc ms free) (F0 m pc ls rest) := by
  intro T hT X
  have htr : e.platform.stackTraces = false := (show e.platform.stackTraces = l.stackTraces by rw [X.admits.platform]).trans hl
  have Y := vx_rebase X (R' := { frames := R.frames, locals := R.locals, cells := 1, slots := 6 }) (Nat.le_refl _) (Nat.le_refl _) hRcells hRslots
  obtain ⟨s', hA⟩ : ∃ z, z = (T.setVm s.vm).setFrames (.invoking m args :: below) := ⟨_, rfl⟩
  rw [← hA] at Y
  have hvm : s'.vm = s.vm := by rw [hA]; rfl
  have hhp : s'.heap = H := by rw [hA]; exact hT
  have hW0 : s.WarmedH s'.vm := by rw [hvm]; exact State.WarmedH.refl s
  have hat' : ∀ w ∈ td_own.filter vx_no, w.before args s' = true := fun w hw => vx_ot_at hW0 hvm.symm (hgood w (List.mem_cons_of_mem _ (List.mem_cons_of_mem _ hw))) (hat w hw)
  have hk' : (Cond.classLink RX11 149 td_E).before args s' = true := vx_ot_at hW0 hvm.symm (hgood _ List.mem_cons_self) hk
  have hini' : (Cond.initialized td_E).before args s' = true := vx_ot_at hW0 hvm.symm (hgood _ (List.mem_cons_of_mem _ List.mem_cons_self)) hini
  have hU' : vx_Zq Bundle.tN "UNASSIGNED_STACK" Bundle.steD A s' s'.heap := by rw [hhp]; exact vx_Zq.moved hW0.alike (hU.kept hS.2.1)
  have hN' : vx_Zq Bundle.tN "SUPPRESSED_SENTINEL" Bundle.listD A s' s'.heap := by rw [hhp]; exact vx_Zq.moved hW0.alike (hN.kept hS.2.1)
  have h : ∀ w ∈ td_own, w.before args s' = true := vx_own hat' (vx_isRefq hU'.1) (vx_isRefq hN'.1) hU'.2.word hN'.2.word
  have hown' : s'.vm.findClass RX11 = some m.cls := by rw [hvm]; exact hown
  have hins : (Cond.instantiable td_E 6).before args s' = true := h _ (by simp [td_own, Bundle.ownAtomsX])
  obtain ⟨vm₁, cX, kX, hfX, hkX, -, -, X₁, st1⟩ := Y.newCold hexec (own := RX11) (C := td_E) (index := 149) (n := 6) hown' hk' hins hini'
    (g := F0 m pc ls rest) rfl (by rw [hb]; exact d0) (Nat.le_refl _) (Nat.le_refl _)
  generalize hT1 : (T.setVm vm₁).pushCell { cls := cX, slots := kX.instanceTypes.map defaultValue, vm := .none } = T1 at X₁ st1
  have hcat : (Value.ref T.heap.size).category = 1 := rfl
  have hcellA : T1.heap[T.heap.size]? = some (freshCell cX kX) := by rw [← hT1]; exact State.heap_pushCell_size _ _
  have d3' : decode c.code (pc + 3) = .ok (.dup, 1) := by rw [hb]; exact d3
  have d4' : decode c.code (pc + 4) = .ok (.ldc 151, 2) := by rw [hb]; exact d4
  have hstr' : vk_R RX11 151 td_tx sa s' := vk_R.warm hW0 hstr
  obtain ⟨U, hsteps, hrun, hend, hW, hsame, ce, hce, hccls, hcvm⟩ := td_ctor X₁ hexec htr hown' h hfX hkX hcellA (by rw [hhp, hT]; exact Nat.le_refl _) (msg := .ref sa) rfl
    (g := { method := m, pc := pc + 6, locals := ls, stack := .ref sa :: .ref T.heap.size :: .ref T.heap.size :: rest, locked := none }) rfl hsize rfl rfl (rest := rest) rfl
    (by rw [hb]; exact d6) (by rw [hb]; exact d9) hout hRframes (by show 2 * 0 + _ + 81 ≤ _; simp only [List.map_cons, List.sum_cons, hcat]; omega) hlocks
  obtain ⟨f1, f2⟩ := vx_frame hsame
  rw [hhp] at f1 f2
  have hWs : s.WarmedH U.vm := State.WarmedH.trans hW0 hW
  have hcl : s.vm.findClass td_E = some ce.cls := by rw [hccls, ← hvm]; exact hfX
  have hall : s.sameButNew ({ U with vm := s.vm } : State) locs mc ms := by
    subst hA
    obtain ⟨e1, e2⟩ := hsame
    rw [State.setFrames_setFrames] at e1
    have h2 : (T.setVm s.vm).sameButNew ({ U with vm := s.vm } : State) [] (0 + 1) (0 + 6) := ⟨e1, e2⟩
    have h3 := X.same.trans h2
    rw [List.append_nil] at h3
    exact h3.mono hc hs
  refine ⟨U, ?_, .threw T.heap.size, hrun, hend, Or.inr ⟨T.heap.size, rfl, td_E, ce, locs, hx U hWs.alike f1 (fun q hq => f2 q hq (fun z hz => nomatch hz)), hce, hcvm, hcl, hWs, hall, hf⟩⟩
  refine st1 _ ?_
  show Steps p.tables e below (T1.setTop { method := m, pc := pc + 3, locals := ls, stack := .ref T.heap.size :: rest, locked := none }) _
  jvm_step X₁.here [X₁.here.top, hexec, d3', Value.category]
  exact X₁.ldcString hexec (own := RX11) (text := td_tx) (index := 151) (a := sa) hown' hstr'.1 hstr'.2
    (g := { method := m, pc := pc + 4, locals := ls, stack := .ref T.heap.size :: .ref T.heap.size :: rest, locked := none }) rfl d4' _ hsteps
end TDT
end
section
/-! ===== the law's calls by contracts with the widest entry ===== -/
theorem lw_RR {G : mj_G} {o t n : Nat} {f : Nat → Int} (ho : G o = (t, 0)) (h0 : t ≠ 0) (h1 : t ≠ 1) (h50 : t ≠ 50) : ab_RR (n, f, 1, fun _ => some o) G [(t, 0)] := ⟨rfl, fun i q h => by
  cases i with
  | zero =>
    cases h
    exact Or.inr (Or.inr (Or.inr ⟨h0, h1, h50, o, rfl, ho⟩))
  | succ i => cases h⟩
def lw_ii (p : Option (ab_X ⊕ (Unit ⊕ (Nat × Nat)))) : Bool := match p with
  | some (.inl _) => true
  | _ => false
theorem lw_r {w : ab_wd} {G : mj_G} {po : ab_po} {r : Option mj_V} {M : mj_M} (h : lw_ii po.1 = true) (hp : ab_ph w G po r M) : ∃ z, r = some (.inl z) := by
  obtain ⟨p, ms⟩ := po
  rcases p with _ | X | l
  · cases h
  · obtain ⟨⟨z, e, -⟩, -⟩ := hp
    exact ⟨z, e⟩
  · cases h
abbrev lw_yy : ab_S := (.negSucc 2147483647, .ofNat 2147483647, [])
theorem lw_c0 {c : ab_co} {t o dd : Nat} {G : mj_G} {M : mj_M} {Q : mj_P} (hok : ab_ok c) (hp : ab_p c = ([], [(t, 0)], [], [some (.inr (.inr 0))])) (hd : ab_h c ≤ dd) (ho : G o = (t, 0)) (h0 : t ≠ 0) (h1 : t ≠ 1) (h50 : t ≠ 50) (hr : (ab_o c).all (fun po => lw_ii po.1) = true) (hI : ab_Inv G M) (hQ : ∀ z M', ab_Inv G M' → ab_frm (ab_w c) G M M' → Q (some (.inl z)) G M') : mj_R mj_tab (dd + 1) (ab_y c) [.inr (.inr (some o))] G M Q := by
  refine hok dd hd G M (0, hn_g [], 1, fun _ => some o) _ Q (by rw [hp]; exact hn_Y0) (by rw [hp]; exact lw_RR ho h0 h1 h50) (by rw [hp]; exact fun e he => by cases he) (by rw [hp]; exact ⟨_, _, rfl, ⟨Nat.zero_lt_one, rfl⟩, rfl⟩) hI (fun r M' i f ⟨po, hpo, h⟩ => ?_)
  obtain ⟨z, rfl⟩ := lw_r (List.all_eq_true.mp hr po hpo) h
  exact hQ z M' i f
theorem lw_c1 {c : ab_co} {t o dd : Nat} {z1 : Int} {G : mj_G} {M : mj_M} {Q : mj_P} (hok : ab_ok c) (hp : ab_p c = ([lw_yy], [(t, 0)], [], [some (.inr (.inr 0)), some (.inl (.inr (0, 1, .ofNat 0)))])) (hd : ab_h c ≤ dd) (ho : G o = (t, 0)) (h0 : t ≠ 0) (h1 : t ≠ 1) (h50 : t ≠ 50) (hr : (ab_o c).all (fun po => lw_ii po.1) = true) (hI : ab_Inv G M) (hz1 : mj_in z1) (hQ : ∀ z M', ab_Inv G M' → ab_frm (ab_w c) G M M' → Q (some (.inl z)) G M') : mj_R mj_tab (dd + 1) (ab_y c) [.inr (.inr (some o)), .inl z1] G M Q := by
  refine hok dd hd G M (1, hn_g [z1], 1, fun _ => some o) _ Q (by rw [hp]; exact hn_Y1 (hn_ii hz1)) (by rw [hp]; exact lw_RR ho h0 h1 h50) (by rw [hp]; exact fun e he => by cases he) (by rw [hp]; exact ⟨_, _, rfl, ⟨Nat.zero_lt_one, rfl⟩, _, _, rfl, ⟨_, rfl, hn_I (Nat.le_of_ble_eq_true rfl) rfl⟩, rfl⟩) hI (fun r M' i f ⟨po, hpo, h⟩ => ?_)
  obtain ⟨z, rfl⟩ := lw_r (List.all_eq_true.mp hr po hpo) h
  exact hQ z M' i f
theorem lw_c2 {c : ab_co} {t o dd : Nat} {z1 z2 : Int} {G : mj_G} {M : mj_M} {Q : mj_P} (hok : ab_ok c) (hp : ab_p c = ([lw_yy, lw_yy], [(t, 0)], [], [some (.inr (.inr 0)), some (.inl (.inr (0, 1, .ofNat 0))), some (.inl (.inr (1, 1, .ofNat 0)))])) (hd : ab_h c ≤ dd) (ho : G o = (t, 0)) (h0 : t ≠ 0) (h1 : t ≠ 1) (h50 : t ≠ 50) (hr : (ab_o c).all (fun po => lw_ii po.1) = true) (hI : ab_Inv G M) (hz1 : mj_in z1) (hz2 : mj_in z2) (hQ : ∀ z M', ab_Inv G M' → ab_frm (ab_w c) G M M' → Q (some (.inl z)) G M') : mj_R mj_tab (dd + 1) (ab_y c) [.inr (.inr (some o)), .inl z1, .inl z2] G M Q := by
  refine hok dd hd G M (2, hn_g [z1, z2], 1, fun _ => some o) _ Q (by rw [hp]; exact hn_Y2 (hn_ii hz1) (hn_ii hz2)) (by rw [hp]; exact lw_RR ho h0 h1 h50) (by rw [hp]; exact fun e he => by cases he) (by rw [hp]; exact ⟨_, _, rfl, ⟨Nat.zero_lt_one, rfl⟩, _, _, rfl, ⟨_, rfl, hn_I (Nat.le_of_ble_eq_true rfl) rfl⟩, _, _, rfl, ⟨_, rfl, hn_I (Nat.le_of_ble_eq_true rfl) rfl⟩, rfl⟩) hI (fun r M' i f ⟨po, hpo, h⟩ => ?_)
  obtain ⟨z, rfl⟩ := lw_r (List.all_eq_true.mp hr po hpo) h
  exact hQ z M' i f
theorem lw_Y3 {z z2 z3 : Int} {q : Nat × (Nat → Option Nat)} (h : mj_in z) (h2 : mj_in z2) (h3 : mj_in z3) : ab_RY (3, hn_g [z, z2, z3], q) [lw_yy, lw_yy, lw_yy] := hn_Y (zs := [z, z2, z3]) rfl (fun i lo hi r e => by
  cases i with
  | zero => cases e; exact ⟨rfl, hn_ii h⟩
  | succ i => cases i with
    | zero => cases e; exact ⟨rfl, hn_ii h2⟩
    | succ i => cases i with
      | zero => cases e; exact ⟨rfl, hn_ii h3⟩
      | succ i => cases e)
theorem lw_c3 {c : ab_co} {t o dd : Nat} {z1 z2 z3 : Int} {G : mj_G} {M : mj_M} {Q : mj_P} (hok : ab_ok c) (hp : ab_p c = ([lw_yy, lw_yy, lw_yy], [(t, 0)], [], [some (.inr (.inr 0)), some (.inl (.inr (0, 1, .ofNat 0))), some (.inl (.inr (1, 1, .ofNat 0))), some (.inl (.inr (2, 1, .ofNat 0)))])) (hd : ab_h c ≤ dd) (ho : G o = (t, 0)) (h0 : t ≠ 0) (h1 : t ≠ 1) (h50 : t ≠ 50) (hr : (ab_o c).all (fun po => lw_ii po.1) = true) (hI : ab_Inv G M) (hz1 : mj_in z1) (hz2 : mj_in z2) (hz3 : mj_in z3) (hQ : ∀ z M', ab_Inv G M' → ab_frm (ab_w c) G M M' → Q (some (.inl z)) G M') : mj_R mj_tab (dd + 1) (ab_y c) [.inr (.inr (some o)), .inl z1, .inl z2, .inl z3] G M Q := by
  refine hok dd hd G M (3, hn_g [z1, z2, z3], 1, fun _ => some o) _ Q (by rw [hp]; exact lw_Y3 hz1 hz2 hz3) (by rw [hp]; exact lw_RR ho h0 h1 h50) (by rw [hp]; exact fun e he => by cases he) (by rw [hp]; exact ⟨_, _, rfl, ⟨Nat.zero_lt_one, rfl⟩, _, _, rfl, ⟨_, rfl, hn_I (Nat.le_of_ble_eq_true rfl) rfl⟩, _, _, rfl, ⟨_, rfl, hn_I (Nat.le_of_ble_eq_true rfl) rfl⟩, _, _, rfl, ⟨_, rfl, hn_I (Nat.le_of_ble_eq_true rfl) rfl⟩, rfl⟩) hI (fun r M' i f ⟨po, hpo, h⟩ => ?_)
  obtain ⟨z, rfl⟩ := lw_r (List.all_eq_true.mp hr po hpo) h
  exact hQ z M' i f
/-! what the law's loop keeps: both objects, the tape, the reference's codes -/
def lw_V (G : mj_G) (M : mj_M) (x m tp s kp : Nat) : Prop := ab_Inv G M ∧ (G x = (1011, 0) ∧ G m = (1012, 0) ∧ G tp = (1008, 0) ∧ G s = (51100, 537) ∧ G kp = (70100, 1076)) ∧ (M.2.2 x 0 = some tp ∧ M.2.2 m 6 = some s ∧ M.2.2 m 59 = some kp) ∧ hn_F M s 356 ∧ hn_F M kp 356 ∧ hn_F M kp 894
def lw_ck (W : List (Nat × Nat × Nat)) : Bool := W.all (fun q => !(Nat.beq q.1 1011 && Nat.beq q.2.1 0) && (!(Nat.beq q.1 1012 && (Nat.ble q.2.1 6 && Nat.ble 6 q.2.2)) && (!(Nat.beq q.1 1012 && (Nat.ble q.2.1 59 && Nat.ble 59 q.2.2)) && (!(Nat.beq q.1 51100 && Nat.ble 356 q.2.2) && !(Nat.beq q.1 70100)))))
def lw_sz (W : List (Nat × Nat × Nat)) : Bool := W.all (fun q => !(Nat.beq q.1 1008 && (Nat.ble q.2.1 1 && Nat.ble 1 q.2.2)) && !(Nat.beq q.1 1012 && (Nat.ble q.2.1 2 && Nat.ble 2 q.2.2)))
theorem lw_not {a : Bool} (h : (!a) = true) : a ≠ true := fun e => by rw [e] at h; cases h
theorem lw_V.fr {W : List (Nat × Nat × Nat)} {G : mj_G} {M M' : mj_M} {x m tp s kp : Nat} (hV : lw_V G M x m tp s kp) (hI : ab_Inv G M') (f : ab_frm W G M M') (hc : lw_ck W = true) : lw_V G M' x m tp s kp := by
  obtain ⟨-, ⟨g1, g2, g3, g4, g5⟩, ⟨r1, r2, r3⟩, f1, f2, f3⟩ := hV
  have ck : ∀ q ∈ W, ¬ (q.1 = 1011 ∧ q.2.1 = 0) ∧ ¬ (q.1 = 1012 ∧ q.2.1 ≤ 6 ∧ 6 ≤ q.2.2) ∧ ¬ (q.1 = 1012 ∧ q.2.1 ≤ 59 ∧ 59 ≤ q.2.2) ∧ ¬ (q.1 = 51100 ∧ 356 ≤ q.2.2) ∧ q.1 ≠ 70100 := fun q hq => by
    have h := List.all_eq_true.mp hc q hq
    obtain ⟨h1, h⟩ := sx_nd h
    obtain ⟨h2, h⟩ := sx_nd h
    obtain ⟨h3, h⟩ := sx_nd h
    obtain ⟨h4, h5⟩ := sx_nd h
    refine ⟨fun e => lw_not h1 ?_, fun e => lw_not h2 ?_, fun e => lw_not h3 ?_, fun e => lw_not h4 ?_, fun e => lw_not h5 ?_⟩
    · rw [e.1, e.2]; rfl
    · rw [e.1, Nat.ble_eq_true_of_le e.2.1, Nat.ble_eq_true_of_le e.2.2]; rfl
    · rw [e.1, Nat.ble_eq_true_of_le e.2.1, Nat.ble_eq_true_of_le e.2.2]; rfl
    · rw [e.1, Nat.ble_eq_true_of_le e.2]; rfl
    · rw [e]; rfl
  refine ⟨hI, ⟨g1, g2, g3, g4, g5⟩, ⟨?_, ?_, ?_⟩, ?_, ?_, ?_⟩
  · rw [(f x 0 (by rw [g1]; rintro ⟨q, hq, q1, q2, q3⟩; exact (ck q hq).1 ⟨q1, by omega⟩)).2]; exact r1
  · rw [(f m 6 (by rw [g2]; rintro ⟨q, hq, q1, q2, q3⟩; exact (ck q hq).2.1 ⟨q1, q2, q3⟩)).2]; exact r2
  · rw [(f m 59 (by rw [g2]; rintro ⟨q, hq, q1, q2, q3⟩; exact (ck q hq).2.2.1 ⟨q1, q2, q3⟩)).2]; exact r3
  · exact f1.cg (fun k hk => (f s k (by rw [g4]; rintro ⟨q, hq, q1, q2, q3⟩; exact (ck q hq).2.2.2.1 ⟨q1, by omega⟩)).1)
  · exact f2.cg (fun k hk => (f kp k (by rw [g5]; rintro ⟨q, hq, q1, q2, q3⟩; exact (ck q hq).2.2.2.2 q1)).1)
  · exact f3.cg (fun k hk => (f kp k (by rw [g5]; rintro ⟨q, hq, q1, q2, q3⟩; exact (ck q hq).2.2.2.2 q1)).1)
theorem lw_V.sz {W : List (Nat × Nat × Nat)} {G : mj_G} {M M' : mj_M} {x m tp s kp : Nat} (hV : lw_V G M x m tp s kp) (f : ab_frm W G M M') (hc : lw_sz W = true) : M'.1 tp 1 = M.1 tp 1 ∧ M'.1 m 2 = M.1 m 2 := by
  obtain ⟨-, ⟨g1, g2, g3, g4, g5⟩, -⟩ := hV
  have ck : ∀ q ∈ W, ¬ (q.1 = 1008 ∧ q.2.1 ≤ 1 ∧ 1 ≤ q.2.2) ∧ ¬ (q.1 = 1012 ∧ q.2.1 ≤ 2 ∧ 2 ≤ q.2.2) := fun q hq => by
    have h := List.all_eq_true.mp hc q hq
    obtain ⟨h1, h2⟩ := sx_nd h
    refine ⟨fun e => lw_not h1 ?_, fun e => lw_not h2 ?_⟩
    · rw [e.1, Nat.ble_eq_true_of_le e.2.1, Nat.ble_eq_true_of_le e.2.2]; rfl
    · rw [e.1, Nat.ble_eq_true_of_le e.2.1, Nat.ble_eq_true_of_le e.2.2]; rfl
  exact ⟨(f tp 1 (by rw [g3]; rintro ⟨q, hq, q1, q2, q3⟩; exact (ck q hq).1 ⟨q1, q2, q3⟩)).1, (f m 2 (by rw [g2]; rintro ⟨q, hq, q1, q2, q3⟩; exact (ck q hq).2 ⟨q1, q2, q3⟩)).1⟩
end
section
/-! ===== the law's calls that leave the loop's invariant and the tape's size alone ===== -/
theorem lc_X11_begin {d x m tp s kp : Nat} {G : mj_G} {M : mj_M} {Q : mj_P} (hV : lw_V G M x m tp s kp) (hQ : ∀ z M', lw_V G M' x m tp s kp → (M'.1 tp 1 = M.1 tp 1 ∧ M'.1 m 2 = M.1 m 2) → ab_frm (ab_w cd_45) G M M' → Q (some (.inl z)) G M') : mj_R mj_tab (d + 31) 110 [.inr (.inr (some x))] G M Q :=
  lw_c0 (c := cd_45) (dd := d + 30) (show ab_ok cd_45 from ab_all_ok 223 (Nat.le_refl _) 52 (by decide)) rfl (Nat.le_trans (by decide : 1 ≤ 30) (Nat.le_add_left 30 d)) hV.2.1.1 (by decide) (by decide) (by decide) (by decide +kernel) hV.1 (fun z M' i f => hQ z M' (hV.fr i f (by decide +kernel)) (hV.sz f (by decide +kernel)) f)
theorem lc_X11_bid {d x m tp s kp : Nat} {z1 z2 : Int} {G : mj_G} {M : mj_M} {Q : mj_P} (hV : lw_V G M x m tp s kp) (hz1 : mj_in z1) (hz2 : mj_in z2) (hQ : ∀ z M', lw_V G M' x m tp s kp → (M'.1 tp 1 = M.1 tp 1 ∧ M'.1 m 2 = M.1 m 2) → ab_frm (ab_w cd_46) G M M' → Q (some (.inl z)) G M') : mj_R mj_tab (d + 31) 111 [.inr (.inr (some x)), .inl z1, .inl z2] G M Q :=
  lw_c2 (c := cd_46) (dd := d + 30) (show ab_ok cd_46 from ab_all_ok 223 (Nat.le_refl _) 53 (by decide)) rfl (Nat.le_trans (by decide : 1 ≤ 30) (Nat.le_add_left 30 d)) hV.2.1.1 (by decide) (by decide) (by decide) (by decide +kernel) hV.1 hz1 hz2 (fun z M' i f => hQ z M' (hV.fr i f (by decide +kernel)) (hV.sz f (by decide +kernel)) f)
theorem lc_X11_bidsOf {d x m tp s kp : Nat} {z1 : Int} {G : mj_G} {M : mj_M} {Q : mj_P} (hV : lw_V G M x m tp s kp) (hz1 : mj_in z1) (hQ : ∀ z M', lw_V G M' x m tp s kp → (M'.1 tp 1 = M.1 tp 1 ∧ M'.1 m 2 = M.1 m 2) → ab_frm (ab_w cd_47) G M M' → Q (some (.inl z)) G M') : mj_R mj_tab (d + 31) 112 [.inr (.inr (some x)), .inl z1] G M Q :=
  lw_c1 (c := cd_47) (dd := d + 30) (show ab_ok cd_47 from ab_all_ok 223 (Nat.le_refl _) 54 (by decide)) rfl (Nat.le_trans (by decide : 1 ≤ 30) (Nat.le_add_left 30 d)) hV.2.1.1 (by decide) (by decide) (by decide) (by decide +kernel) hV.1 hz1 (fun z M' i f => hQ z M' (hV.fr i f (by decide +kernel)) (hV.sz f (by decide +kernel)) f)
theorem lc_X11_byteAt {d x m tp s kp : Nat} {z1 : Int} {G : mj_G} {M : mj_M} {Q : mj_P} (hV : lw_V G M x m tp s kp) (hz1 : mj_in z1) (hQ : ∀ z M', lw_V G M' x m tp s kp → (M'.1 tp 1 = M.1 tp 1 ∧ M'.1 m 2 = M.1 m 2) → ab_frm (ab_w cd_10) G M M' → Q (some (.inl z)) G M') : mj_R mj_tab (d + 31) 113 [.inr (.inr (some x)), .inl z1] G M Q :=
  lw_c1 (c := cd_10) (dd := d + 30) (show ab_ok cd_10 from ab_all_ok 223 (Nat.le_refl _) 13 (by decide)) rfl (Nat.le_trans (by decide : 0 ≤ 30) (Nat.le_add_left 30 d)) hV.2.1.1 (by decide) (by decide) (by decide) (by decide +kernel) hV.1 hz1 (fun z M' i f => hQ z M' (hV.fr i f (by decide +kernel)) (hV.sz f (by decide +kernel)) f)
theorem lc_X11_cheapest {d x m tp s kp : Nat} {G : mj_G} {M : mj_M} {Q : mj_P} (hV : lw_V G M x m tp s kp) (hQ : ∀ z M', lw_V G M' x m tp s kp → (M'.1 tp 1 = M.1 tp 1 ∧ M'.1 m 2 = M.1 m 2) → ab_frm (ab_w cd_197) G M M' → Q (some (.inl z)) G M') : mj_R mj_tab (d + 31) 114 [.inr (.inr (some x))] G M Q :=
  lw_c0 (c := cd_197) (dd := d + 30) (show ab_ok cd_197 from ab_all_ok 223 (Nat.le_refl _) 206 (by decide)) rfl (Nat.le_trans (by decide : 14 ≤ 30) (Nat.le_add_left 30 d)) hV.2.1.1 (by decide) (by decide) (by decide) (by decide +kernel) hV.1 (fun z M' i f => hQ z M' (hV.fr i f (by decide +kernel)) (hV.sz f (by decide +kernel)) f)
theorem lc_X11_contract {d x m tp s kp : Nat} {z1 z2 : Int} {G : mj_G} {M : mj_M} {Q : mj_P} (hV : lw_V G M x m tp s kp) (hz1 : mj_in z1) (hz2 : mj_in z2) (hQ : ∀ z M', lw_V G M' x m tp s kp → (M'.1 tp 1 = M.1 tp 1 ∧ M'.1 m 2 = M.1 m 2) → ab_frm (ab_w cd_48) G M M' → Q (some (.inl z)) G M') : mj_R mj_tab (d + 31) 116 [.inr (.inr (some x)), .inl z1, .inl z2] G M Q :=
  lw_c2 (c := cd_48) (dd := d + 30) (show ab_ok cd_48 from ab_all_ok 223 (Nat.le_refl _) 55 (by decide)) rfl (Nat.le_trans (by decide : 1 ≤ 30) (Nat.le_add_left 30 d)) hV.2.1.1 (by decide) (by decide) (by decide) (by decide +kernel) hV.1 hz1 hz2 (fun z M' i f => hQ z M' (hV.fr i f (by decide +kernel)) (hV.sz f (by decide +kernel)) f)
theorem lc_X11_count {d x m tp s kp : Nat} {z1 : Int} {G : mj_G} {M : mj_M} {Q : mj_P} (hV : lw_V G M x m tp s kp) (hz1 : mj_in z1) (hQ : ∀ z M', lw_V G M' x m tp s kp → (M'.1 tp 1 = M.1 tp 1 ∧ M'.1 m 2 = M.1 m 2) → ab_frm (ab_w cd_11) G M M' → Q (some (.inl z)) G M') : mj_R mj_tab (d + 31) 118 [.inr (.inr (some x)), .inl z1] G M Q :=
  lw_c1 (c := cd_11) (dd := d + 30) (show ab_ok cd_11 from ab_all_ok 223 (Nat.le_refl _) 14 (by decide)) rfl (Nat.le_trans (by decide : 0 ≤ 30) (Nat.le_add_left 30 d)) hV.2.1.1 (by decide) (by decide) (by decide) (by decide +kernel) hV.1 hz1 (fun z M' i f => hQ z M' (hV.fr i f (by decide +kernel)) (hV.sz f (by decide +kernel)) f)
theorem lc_X11_drawn {d x m tp s kp : Nat} {z1 : Int} {G : mj_G} {M : mj_M} {Q : mj_P} (hV : lw_V G M x m tp s kp) (hz1 : mj_in z1) (hQ : ∀ z M', lw_V G M' x m tp s kp → (M'.1 tp 1 = M.1 tp 1 ∧ M'.1 m 2 = M.1 m 2) → ab_frm (ab_w cd_151) G M M' → Q (some (.inl z)) G M') : mj_R mj_tab (d + 31) 119 [.inr (.inr (some x)), .inl z1] G M Q :=
  lw_c1 (c := cd_151) (dd := d + 30) (show ab_ok cd_151 from ab_all_ok 223 (Nat.le_refl _) 160 (by decide)) rfl (Nat.le_trans (by decide : 4 ≤ 30) (Nat.le_add_left 30 d)) hV.2.1.1 (by decide) (by decide) (by decide) (by decide +kernel) hV.1 hz1 (fun z M' i f => hQ z M' (hV.fr i f (by decide +kernel)) (hV.sz f (by decide +kernel)) f)
theorem lc_X11_droughts {d x m tp s kp : Nat} {G : mj_G} {M : mj_M} {Q : mj_P} (hV : lw_V G M x m tp s kp) (hQ : ∀ z M', lw_V G M' x m tp s kp → (M'.1 tp 1 = M.1 tp 1 ∧ M'.1 m 2 = M.1 m 2) → ab_frm (ab_w cd_12) G M M' → Q (some (.inl z)) G M') : mj_R mj_tab (d + 31) 120 [.inr (.inr (some x))] G M Q :=
  lw_c0 (c := cd_12) (dd := d + 30) (show ab_ok cd_12 from ab_all_ok 223 (Nat.le_refl _) 15 (by decide)) rfl (Nat.le_trans (by decide : 0 ≤ 30) (Nat.le_add_left 30 d)) hV.2.1.1 (by decide) (by decide) (by decide) (by decide +kernel) hV.1 (fun z M' i f => hQ z M' (hV.fr i f (by decide +kernel)) (hV.sz f (by decide +kernel)) f)
theorem lc_X11_enough {d x m tp s kp : Nat} {z1 : Int} {G : mj_G} {M : mj_M} {Q : mj_P} (hV : lw_V G M x m tp s kp) (hz1 : mj_in z1) (hQ : ∀ z M', lw_V G M' x m tp s kp → (M'.1 tp 1 = M.1 tp 1 ∧ M'.1 m 2 = M.1 m 2) → ab_frm (ab_w cd_110) G M M' → Q (some (.inl z)) G M') : mj_R mj_tab (d + 31) 122 [.inr (.inr (some x)), .inl z1] G M Q :=
  lw_c1 (c := cd_110) (dd := d + 30) (show ab_ok cd_110 from ab_all_ok 223 (Nat.le_refl _) 118 (by decide)) rfl (Nat.le_trans (by decide : 2 ≤ 30) (Nat.le_add_left 30 d)) hV.2.1.1 (by decide) (by decide) (by decide) (by decide +kernel) hV.1 hz1 (fun z M' i f => hQ z M' (hV.fr i f (by decide +kernel)) (hV.sz f (by decide +kernel)) f)
theorem lc_X11_fault {d x m tp s kp : Nat} {G : mj_G} {M : mj_M} {Q : mj_P} (hV : lw_V G M x m tp s kp) (hQ : ∀ z M', lw_V G M' x m tp s kp → (M'.1 tp 1 = M.1 tp 1 ∧ M'.1 m 2 = M.1 m 2) → ab_frm (ab_w cd_14) G M M' → Q (some (.inl z)) G M') : mj_R mj_tab (d + 31) 123 [.inr (.inr (some x))] G M Q :=
  lw_c0 (c := cd_14) (dd := d + 30) (show ab_ok cd_14 from ab_all_ok 223 (Nat.le_refl _) 17 (by decide)) rfl (Nat.le_trans (by decide : 0 ≤ 30) (Nat.le_add_left 30 d)) hV.2.1.1 (by decide) (by decide) (by decide) (by decide +kernel) hV.1 (fun z M' i f => hQ z M' (hV.fr i f (by decide +kernel)) (hV.sz f (by decide +kernel)) f)
theorem lc_X11_greatest {d x m tp s kp : Nat} {z1 : Int} {G : mj_G} {M : mj_M} {Q : mj_P} (hV : lw_V G M x m tp s kp) (hz1 : mj_in z1) (hQ : ∀ z M', lw_V G M' x m tp s kp → (M'.1 tp 1 = M.1 tp 1 ∧ M'.1 m 2 = M.1 m 2) → ab_frm (ab_w cd_50) G M M' → Q (some (.inl z)) G M') : mj_R mj_tab (d + 31) 125 [.inr (.inr (some x)), .inl z1] G M Q :=
  lw_c1 (c := cd_50) (dd := d + 30) (show ab_ok cd_50 from ab_all_ok 223 (Nat.le_refl _) 57 (by decide)) rfl (Nat.le_trans (by decide : 1 ≤ 30) (Nat.le_add_left 30 d)) hV.2.1.1 (by decide) (by decide) (by decide) (by decide +kernel) hV.1 hz1 (fun z M' i f => hQ z M' (hV.fr i f (by decide +kernel)) (hV.sz f (by decide +kernel)) f)
theorem lc_X11_has {d x m tp s kp : Nat} {z1 : Int} {G : mj_G} {M : mj_M} {Q : mj_P} (hV : lw_V G M x m tp s kp) (hz1 : mj_in z1) (hQ : ∀ z M', lw_V G M' x m tp s kp → (M'.1 tp 1 = M.1 tp 1 ∧ M'.1 m 2 = M.1 m 2) → ab_frm (ab_w cd_15) G M M' → Q (some (.inl z)) G M') : mj_R mj_tab (d + 31) 126 [.inr (.inr (some x)), .inl z1] G M Q :=
  lw_c1 (c := cd_15) (dd := d + 30) (show ab_ok cd_15 from ab_all_ok 223 (Nat.le_refl _) 18 (by decide)) rfl (Nat.le_trans (by decide : 0 ≤ 30) (Nat.le_add_left 30 d)) hV.2.1.1 (by decide) (by decide) (by decide) (by decide +kernel) hV.1 hz1 (fun z M' i f => hQ z M' (hV.fr i f (by decide +kernel)) (hV.sz f (by decide +kernel)) f)
theorem lc_X11_image {d x m tp s kp : Nat} {z1 : Int} {G : mj_G} {M : mj_M} {Q : mj_P} (hV : lw_V G M x m tp s kp) (hz1 : mj_in z1) (hQ : ∀ z M', lw_V G M' x m tp s kp → (M'.1 tp 1 = M.1 tp 1 ∧ M'.1 m 2 = M.1 m 2) → ab_frm (ab_w cd_111) G M M' → Q (some (.inl z)) G M') : mj_R mj_tab (d + 31) 127 [.inr (.inr (some x)), .inl z1] G M Q :=
  lw_c1 (c := cd_111) (dd := d + 30) (show ab_ok cd_111 from ab_all_ok 223 (Nat.le_refl _) 119 (by decide)) rfl (Nat.le_trans (by decide : 2 ≤ 30) (Nat.le_add_left 30 d)) hV.2.1.1 (by decide) (by decide) (by decide) (by decide +kernel) hV.1 hz1 (fun z M' i f => hQ z M' (hV.fr i f (by decide +kernel)) (hV.sz f (by decide +kernel)) f)
theorem lc_X11_leak {d x m tp s kp : Nat} {z1 z2 : Int} {G : mj_G} {M : mj_M} {Q : mj_P} (hV : lw_V G M x m tp s kp) (hz1 : mj_in z1) (hz2 : mj_in z2) (hQ : ∀ z M', lw_V G M' x m tp s kp → (M'.1 tp 1 = M.1 tp 1 ∧ M'.1 m 2 = M.1 m 2) → ab_frm (ab_w cd_16) G M M' → Q (some (.inl z)) G M') : mj_R mj_tab (d + 31) 131 [.inr (.inr (some x)), .inl z1, .inl z2] G M Q :=
  lw_c2 (c := cd_16) (dd := d + 30) (show ab_ok cd_16 from ab_all_ok 223 (Nat.le_refl _) 19 (by decide)) rfl (Nat.le_trans (by decide : 0 ≤ 30) (Nat.le_add_left 30 d)) hV.2.1.1 (by decide) (by decide) (by decide) (by decide +kernel) hV.1 hz1 hz2 (fun z M' i f => hQ z M' (hV.fr i f (by decide +kernel)) (hV.sz f (by decide +kernel)) f)
theorem lc_X11_let {d x m tp s kp : Nat} {z1 z2 : Int} {G : mj_G} {M : mj_M} {Q : mj_P} (hV : lw_V G M x m tp s kp) (hz1 : mj_in z1) (hz2 : mj_in z2) (hQ : ∀ z M', lw_V G M' x m tp s kp → (M'.1 tp 1 = M.1 tp 1 ∧ M'.1 m 2 = M.1 m 2) → ab_frm (ab_w cd_51) G M M' → Q (some (.inl z)) G M') : mj_R mj_tab (d + 31) 133 [.inr (.inr (some x)), .inl z1, .inl z2] G M Q :=
  lw_c2 (c := cd_51) (dd := d + 30) (show ab_ok cd_51 from ab_all_ok 223 (Nat.le_refl _) 58 (by decide)) rfl (Nat.le_trans (by decide : 1 ≤ 30) (Nat.le_add_left 30 d)) hV.2.1.1 (by decide) (by decide) (by decide) (by decide +kernel) hV.1 hz1 hz2 (fun z M' i f => hQ z M' (hV.fr i f (by decide +kernel)) (hV.sz f (by decide +kernel)) f)
theorem lc_X11_must {d x m tp s kp : Nat} {z1 z2 : Int} {G : mj_G} {M : mj_M} {Q : mj_P} (hV : lw_V G M x m tp s kp) (hz1 : mj_in z1) (hz2 : mj_in z2) (hQ : ∀ z M', lw_V G M' x m tp s kp → (M'.1 tp 1 = M.1 tp 1 ∧ M'.1 m 2 = M.1 m 2) → ab_frm (ab_w cd_152) G M M' → Q (some (.inl z)) G M') : mj_R mj_tab (d + 31) 135 [.inr (.inr (some x)), .inl z1, .inl z2] G M Q :=
  lw_c2 (c := cd_152) (dd := d + 30) (show ab_ok cd_152 from ab_all_ok 223 (Nat.le_refl _) 161 (by decide)) rfl (Nat.le_trans (by decide : 4 ≤ 30) (Nat.le_add_left 30 d)) hV.2.1.1 (by decide) (by decide) (by decide) (by decide +kernel) hV.1 hz1 hz2 (fun z M' i f => hQ z M' (hV.fr i f (by decide +kernel)) (hV.sz f (by decide +kernel)) f)
theorem lc_X11_offer {d x m tp s kp : Nat} {z1 z2 z3 : Int} {G : mj_G} {M : mj_M} {Q : mj_P} (hV : lw_V G M x m tp s kp) (hz1 : mj_in z1) (hz2 : mj_in z2) (hz3 : mj_in z3) (hQ : ∀ z M', lw_V G M' x m tp s kp → (M'.1 tp 1 = M.1 tp 1 ∧ M'.1 m 2 = M.1 m 2) → ab_frm (ab_w cd_53) G M M' → Q (some (.inl z)) G M') : mj_R mj_tab (d + 31) 136 [.inr (.inr (some x)), .inl z1, .inl z2, .inl z3] G M Q :=
  lw_c3 (c := cd_53) (dd := d + 30) (show ab_ok cd_53 from ab_all_ok 223 (Nat.le_refl _) 60 (by decide)) rfl (Nat.le_trans (by decide : 1 ≤ 30) (Nat.le_add_left 30 d)) hV.2.1.1 (by decide) (by decide) (by decide) (by decide +kernel) hV.1 hz1 hz2 hz3 (fun z M' i f => hQ z M' (hV.fr i f (by decide +kernel)) (hV.sz f (by decide +kernel)) f)
theorem lc_X11_on {d x m tp s kp : Nat} {z1 : Int} {G : mj_G} {M : mj_M} {Q : mj_P} (hV : lw_V G M x m tp s kp) (hz1 : mj_in z1) (hQ : ∀ z M', lw_V G M' x m tp s kp → (M'.1 tp 1 = M.1 tp 1 ∧ M'.1 m 2 = M.1 m 2) → ab_frm (ab_w cd_153) G M M' → Q (some (.inl z)) G M') : mj_R mj_tab (d + 31) 137 [.inr (.inr (some x)), .inl z1] G M Q :=
  lw_c1 (c := cd_153) (dd := d + 30) (show ab_ok cd_153 from ab_all_ok 223 (Nat.le_refl _) 162 (by decide)) rfl (Nat.le_trans (by decide : 4 ≤ 30) (Nat.le_add_left 30 d)) hV.2.1.1 (by decide) (by decide) (by decide) (by decide +kernel) hV.1 hz1 (fun z M' i f => hQ z M' (hV.fr i f (by decide +kernel)) (hV.sz f (by decide +kernel)) f)
theorem lc_X11_plan {d x m tp s kp : Nat} {z1 : Int} {G : mj_G} {M : mj_M} {Q : mj_P} (hV : lw_V G M x m tp s kp) (hz1 : mj_in z1) (hQ : ∀ z M', lw_V G M' x m tp s kp → (M'.1 tp 1 = M.1 tp 1 ∧ M'.1 m 2 = M.1 m 2) → ab_frm (ab_w cd_54) G M M' → Q (some (.inl z)) G M') : mj_R mj_tab (d + 31) 139 [.inr (.inr (some x)), .inl z1] G M Q :=
  lw_c1 (c := cd_54) (dd := d + 30) (show ab_ok cd_54 from ab_all_ok 223 (Nat.le_refl _) 61 (by decide)) rfl (Nat.le_trans (by decide : 1 ≤ 30) (Nat.le_add_left 30 d)) hV.2.1.1 (by decide) (by decide) (by decide) (by decide +kernel) hV.1 hz1 (fun z M' i f => hQ z M' (hV.fr i f (by decide +kernel)) (hV.sz f (by decide +kernel)) f)
theorem lc_X11_price {d x m tp s kp : Nat} {z1 : Int} {G : mj_G} {M : mj_M} {Q : mj_P} (hV : lw_V G M x m tp s kp) (hz1 : mj_in z1) (hQ : ∀ z M', lw_V G M' x m tp s kp → (M'.1 tp 1 = M.1 tp 1 ∧ M'.1 m 2 = M.1 m 2) → ab_frm (ab_w cd_55) G M M' → Q (some (.inl z)) G M') : mj_R mj_tab (d + 31) 140 [.inr (.inr (some x)), .inl z1] G M Q :=
  lw_c1 (c := cd_55) (dd := d + 30) (show ab_ok cd_55 from ab_all_ok 223 (Nat.le_refl _) 62 (by decide)) rfl (Nat.le_trans (by decide : 1 ≤ 30) (Nat.le_add_left 30 d)) hV.2.1.1 (by decide) (by decide) (by decide) (by decide +kernel) hV.1 hz1 (fun z M' i f => hQ z M' (hV.fr i f (by decide +kernel)) (hV.sz f (by decide +kernel)) f)
theorem lc_X11_restore {d x m tp s kp : Nat} {z1 : Int} {G : mj_G} {M : mj_M} {Q : mj_P} (hV : lw_V G M x m tp s kp) (hz1 : mj_in z1) (hQ : ∀ z M', lw_V G M' x m tp s kp → (M'.1 tp 1 = M.1 tp 1 ∧ M'.1 m 2 = M.1 m 2) → ab_frm (ab_w cd_112) G M M' → Q (some (.inl z)) G M') : mj_R mj_tab (d + 31) 144 [.inr (.inr (some x)), .inl z1] G M Q :=
  lw_c1 (c := cd_112) (dd := d + 30) (show ab_ok cd_112 from ab_all_ok 223 (Nat.le_refl _) 120 (by decide)) rfl (Nat.le_trans (by decide : 2 ≤ 30) (Nat.le_add_left 30 d)) hV.2.1.1 (by decide) (by decide) (by decide) (by decide +kernel) hV.1 hz1 (fun z M' i f => hQ z M' (hV.fr i f (by decide +kernel)) (hV.sz f (by decide +kernel)) f)
theorem lc_X11_rounds {d x m tp s kp : Nat} {z1 : Int} {G : mj_G} {M : mj_M} {Q : mj_P} (hV : lw_V G M x m tp s kp) (hz1 : mj_in z1) (hQ : ∀ z M', lw_V G M' x m tp s kp → (M'.1 tp 1 = M.1 tp 1 ∧ M'.1 m 2 = M.1 m 2) → ab_frm (ab_w cd_140) G M M' → Q (some (.inl z)) G M') : mj_R mj_tab (d + 31) 145 [.inr (.inr (some x)), .inl z1] G M Q :=
  lw_c1 (c := cd_140) (dd := d + 30) (show ab_ok cd_140 from ab_all_ok 223 (Nat.le_refl _) 149 (by decide)) rfl (Nat.le_trans (by decide : 3 ≤ 30) (Nat.le_add_left 30 d)) hV.2.1.1 (by decide) (by decide) (by decide) (by decide +kernel) hV.1 hz1 (fun z M' i f => hQ z M' (hV.fr i f (by decide +kernel)) (hV.sz f (by decide +kernel)) f)
theorem lc_X11_said {d x m tp s kp : Nat} {z1 : Int} {G : mj_G} {M : mj_M} {Q : mj_P} (hV : lw_V G M x m tp s kp) (hz1 : mj_in z1) (hQ : ∀ z M', lw_V G M' x m tp s kp → (M'.1 tp 1 = M.1 tp 1 ∧ M'.1 m 2 = M.1 m 2) → ab_frm (ab_w cd_141) G M M' → Q (some (.inl z)) G M') : mj_R mj_tab (d + 31) 146 [.inr (.inr (some x)), .inl z1] G M Q :=
  lw_c1 (c := cd_141) (dd := d + 30) (show ab_ok cd_141 from ab_all_ok 223 (Nat.le_refl _) 150 (by decide)) rfl (Nat.le_trans (by decide : 3 ≤ 30) (Nat.le_add_left 30 d)) hV.2.1.1 (by decide) (by decide) (by decide) (by decide +kernel) hV.1 hz1 (fun z M' i f => hQ z M' (hV.fr i f (by decide +kernel)) (hV.sz f (by decide +kernel)) f)
theorem lc_X11_shores {d x m tp s kp : Nat} {z1 z2 z3 : Int} {G : mj_G} {M : mj_M} {Q : mj_P} (hV : lw_V G M x m tp s kp) (hz1 : mj_in z1) (hz2 : mj_in z2) (hz3 : mj_in z3) (hQ : ∀ z M', lw_V G M' x m tp s kp → (M'.1 tp 1 = M.1 tp 1 ∧ M'.1 m 2 = M.1 m 2) → ab_frm (ab_w cd_154) G M M' → Q (some (.inl z)) G M') : mj_R mj_tab (d + 31) 148 [.inr (.inr (some x)), .inl z1, .inl z2, .inl z3] G M Q :=
  lw_c3 (c := cd_154) (dd := d + 30) (show ab_ok cd_154 from ab_all_ok 223 (Nat.le_refl _) 163 (by decide)) rfl (Nat.le_trans (by decide : 4 ≤ 30) (Nat.le_add_left 30 d)) hV.2.1.1 (by decide) (by decide) (by decide) (by decide +kernel) hV.1 hz1 hz2 hz3 (fun z M' i f => hQ z M' (hV.fr i f (by decide +kernel)) (hV.sz f (by decide +kernel)) f)
theorem lc_X11_shoresOf {d x m tp s kp : Nat} {G : mj_G} {M : mj_M} {Q : mj_P} (hV : lw_V G M x m tp s kp) (hQ : ∀ z M', lw_V G M' x m tp s kp → (M'.1 tp 1 = M.1 tp 1 ∧ M'.1 m 2 = M.1 m 2) → ab_frm (ab_w cd_167) G M M' → Q (some (.inl z)) G M') : mj_R mj_tab (d + 31) 149 [.inr (.inr (some x))] G M Q :=
  lw_c0 (c := cd_167) (dd := d + 30) (show ab_ok cd_167 from ab_all_ok 223 (Nat.le_refl _) 176 (by decide)) rfl (Nat.le_trans (by decide : 5 ≤ 30) (Nat.le_add_left 30 d)) hV.2.1.1 (by decide) (by decide) (by decide) (by decide +kernel) hV.1 (fun z M' i f => hQ z M' (hV.fr i f (by decide +kernel)) (hV.sz f (by decide +kernel)) f)
theorem lc_X11_take {d x m tp s kp : Nat} {G : mj_G} {M : mj_M} {Q : mj_P} (hV : lw_V G M x m tp s kp) (hQ : ∀ z M', lw_V G M' x m tp s kp → (M'.1 tp 1 = M.1 tp 1 ∧ M'.1 m 2 = M.1 m 2) → ab_frm (ab_w cd_57) G M M' → Q (some (.inl z)) G M') : mj_R mj_tab (d + 31) 150 [.inr (.inr (some x))] G M Q :=
  lw_c0 (c := cd_57) (dd := d + 30) (show ab_ok cd_57 from ab_all_ok 223 (Nat.le_refl _) 64 (by decide)) rfl (Nat.le_trans (by decide : 1 ≤ 30) (Nat.le_add_left 30 d)) hV.2.1.1 (by decide) (by decide) (by decide) (by decide +kernel) hV.1 (fun z M' i f => hQ z M' (hV.fr i f (by decide +kernel)) (hV.sz f (by decide +kernel)) f)
theorem lc_X11_thirsty {d x m tp s kp : Nat} {G : mj_G} {M : mj_M} {Q : mj_P} (hV : lw_V G M x m tp s kp) (hQ : ∀ z M', lw_V G M' x m tp s kp → (M'.1 tp 1 = M.1 tp 1 ∧ M'.1 m 2 = M.1 m 2) → ab_frm (ab_w cd_168) G M M' → Q (some (.inl z)) G M') : mj_R mj_tab (d + 31) 151 [.inr (.inr (some x))] G M Q :=
  lw_c0 (c := cd_168) (dd := d + 30) (show ab_ok cd_168 from ab_all_ok 223 (Nat.le_refl _) 177 (by decide)) rfl (Nat.le_trans (by decide : 5 ≤ 30) (Nat.le_add_left 30 d)) hV.2.1.1 (by decide) (by decide) (by decide) (by decide +kernel) hV.1 (fun z M' i f => hQ z M' (hV.fr i f (by decide +kernel)) (hV.sz f (by decide +kernel)) f)
theorem lc_X11_town {d x m tp s kp : Nat} {z1 z2 : Int} {G : mj_G} {M : mj_M} {Q : mj_P} (hV : lw_V G M x m tp s kp) (hz1 : mj_in z1) (hz2 : mj_in z2) (hQ : ∀ z M', lw_V G M' x m tp s kp → (M'.1 tp 1 = M.1 tp 1 ∧ M'.1 m 2 = M.1 m 2) → ab_frm (ab_w cd_58) G M M' → Q (some (.inl z)) G M') : mj_R mj_tab (d + 31) 152 [.inr (.inr (some x)), .inl z1, .inl z2] G M Q :=
  lw_c2 (c := cd_58) (dd := d + 30) (show ab_ok cd_58 from ab_all_ok 223 (Nat.le_refl _) 65 (by decide)) rfl (Nat.le_trans (by decide : 1 ≤ 30) (Nat.le_add_left 30 d)) hV.2.1.1 (by decide) (by decide) (by decide) (by decide +kernel) hV.1 hz1 hz2 (fun z M' i f => hQ z M' (hV.fr i f (by decide +kernel)) (hV.sz f (by decide +kernel)) f)
theorem lc_X11_undo {d x m tp s kp : Nat} {G : mj_G} {M : mj_M} {Q : mj_P} (hV : lw_V G M x m tp s kp) (hQ : ∀ z M', lw_V G M' x m tp s kp → (M'.1 tp 1 = M.1 tp 1 ∧ M'.1 m 2 = M.1 m 2) → ab_frm (ab_w cd_113) G M M' → Q (some (.inl z)) G M') : mj_R mj_tab (d + 31) 154 [.inr (.inr (some x))] G M Q :=
  lw_c0 (c := cd_113) (dd := d + 30) (show ab_ok cd_113 from ab_all_ok 223 (Nat.le_refl _) 121 (by decide)) rfl (Nat.le_trans (by decide : 2 ≤ 30) (Nat.le_add_left 30 d)) hV.2.1.1 (by decide) (by decide) (by decide) (by decide +kernel) hV.1 (fun z M' i f => hQ z M' (hV.fr i f (by decide +kernel)) (hV.sz f (by decide +kernel)) f)
theorem lc_X11_water {d x m tp s kp : Nat} {z1 : Int} {G : mj_G} {M : mj_M} {Q : mj_P} (hV : lw_V G M x m tp s kp) (hz1 : mj_in z1) (hQ : ∀ z M', lw_V G M' x m tp s kp → (M'.1 tp 1 = M.1 tp 1 ∧ M'.1 m 2 = M.1 m 2) → ab_frm (ab_w cd_59) G M M' → Q (some (.inl z)) G M') : mj_R mj_tab (d + 31) 155 [.inr (.inr (some x)), .inl z1] G M Q :=
  lw_c1 (c := cd_59) (dd := d + 30) (show ab_ok cd_59 from ab_all_ok 223 (Nat.le_refl _) 66 (by decide)) rfl (Nat.le_trans (by decide : 1 ≤ 30) (Nat.le_add_left 30 d)) hV.2.1.1 (by decide) (by decide) (by decide) (by decide +kernel) hV.1 hz1 (fun z M' i f => hQ z M' (hV.fr i f (by decide +kernel)) (hV.sz f (by decide +kernel)) f)
theorem lc_X11_wettest {d x m tp s kp : Nat} {z1 : Int} {G : mj_G} {M : mj_M} {Q : mj_P} (hV : lw_V G M x m tp s kp) (hz1 : mj_in z1) (hQ : ∀ z M', lw_V G M' x m tp s kp → (M'.1 tp 1 = M.1 tp 1 ∧ M'.1 m 2 = M.1 m 2) → ab_frm (ab_w cd_60) G M M' → Q (some (.inl z)) G M') : mj_R mj_tab (d + 31) 156 [.inr (.inr (some x)), .inl z1] G M Q :=
  lw_c1 (c := cd_60) (dd := d + 30) (show ab_ok cd_60 from ab_all_ok 223 (Nat.le_refl _) 67 (by decide)) rfl (Nat.le_trans (by decide : 1 ≤ 30) (Nat.le_add_left 30 d)) hV.2.1.1 (by decide) (by decide) (by decide) (by decide +kernel) hV.1 hz1 (fun z M' i f => hQ z M' (hV.fr i f (by decide +kernel)) (hV.sz f (by decide +kernel)) f)
theorem lc_X11_worth {d x m tp s kp : Nat} {z1 : Int} {G : mj_G} {M : mj_M} {Q : mj_P} (hV : lw_V G M x m tp s kp) (hz1 : mj_in z1) (hQ : ∀ z M', lw_V G M' x m tp s kp → (M'.1 tp 1 = M.1 tp 1 ∧ M'.1 m 2 = M.1 m 2) → ab_frm (ab_w cd_169) G M M' → Q (some (.inl z)) G M') : mj_R mj_tab (d + 31) 157 [.inr (.inr (some x)), .inl z1] G M Q :=
  lw_c1 (c := cd_169) (dd := d + 30) (show ab_ok cd_169 from ab_all_ok 223 (Nat.le_refl _) 178 (by decide)) rfl (Nat.le_trans (by decide : 5 ≤ 30) (Nat.le_add_left 30 d)) hV.2.1.1 (by decide) (by decide) (by decide) (by decide +kernel) hV.1 hz1 (fun z M' i f => hQ z M' (hV.fr i f (by decide +kernel)) (hV.sz f (by decide +kernel)) f)
theorem lc_X11_write {d x m tp s kp : Nat} {G : mj_G} {M : mj_M} {Q : mj_P} (hV : lw_V G M x m tp s kp) (hQ : ∀ z M', lw_V G M' x m tp s kp → (M'.1 tp 1 = M.1 tp 1 ∧ M'.1 m 2 = M.1 m 2) → ab_frm (ab_w cd_114) G M M' → Q (some (.inl z)) G M') : mj_R mj_tab (d + 31) 158 [.inr (.inr (some x))] G M Q :=
  lw_c0 (c := cd_114) (dd := d + 30) (show ab_ok cd_114 from ab_all_ok 223 (Nat.le_refl _) 122 (by decide)) rfl (Nat.le_trans (by decide : 2 ≤ 30) (Nat.le_add_left 30 d)) hV.2.1.1 (by decide) (by decide) (by decide) (by decide +kernel) hV.1 (fun z M' i f => hQ z M' (hV.fr i f (by decide +kernel)) (hV.sz f (by decide +kernel)) f)
theorem lc_X11_year {d x m tp s kp : Nat} {z1 : Int} {G : mj_G} {M : mj_M} {Q : mj_P} (hV : lw_V G M x m tp s kp) (hz1 : mj_in z1) (hQ : ∀ z M', lw_V G M' x m tp s kp → (M'.1 tp 1 = M.1 tp 1 ∧ M'.1 m 2 = M.1 m 2) → ab_frm (ab_w cd_115) G M M' → Q (some (.inl z)) G M') : mj_R mj_tab (d + 31) 159 [.inr (.inr (some x)), .inl z1] G M Q :=
  lw_c1 (c := cd_115) (dd := d + 30) (show ab_ok cd_115 from ab_all_ok 223 (Nat.le_refl _) 123 (by decide)) rfl (Nat.le_trans (by decide : 2 ≤ 30) (Nat.le_add_left 30 d)) hV.2.1.1 (by decide) (by decide) (by decide) (by decide +kernel) hV.1 hz1 (fun z M' i f => hQ z M' (hV.fr i f (by decide +kernel)) (hV.sz f (by decide +kernel)) f)
theorem lc_X12_begin {d x m tp s kp : Nat} {G : mj_G} {M : mj_M} {Q : mj_P} (hV : lw_V G M x m tp s kp) (hQ : ∀ z M', lw_V G M' x m tp s kp → (M'.1 tp 1 = M.1 tp 1 ∧ M'.1 m 2 = M.1 m 2) → ab_frm (ab_w cd_116) G M M' → Q (some (.inl z)) G M') : mj_R mj_tab (d + 31) 162 [.inr (.inr (some m))] G M Q :=
  lw_c0 (c := cd_116) (dd := d + 30) (show ab_ok cd_116 from ab_all_ok 223 (Nat.le_refl _) 124 (by decide)) rfl (Nat.le_trans (by decide : 2 ≤ 30) (Nat.le_add_left 30 d)) hV.2.1.2.1 (by decide) (by decide) (by decide) (by decide +kernel) hV.1 (fun z M' i f => hQ z M' (hV.fr i f (by decide +kernel)) (hV.sz f (by decide +kernel)) f)
theorem lc_X12_bid {d x m tp s kp : Nat} {z1 z2 : Int} {G : mj_G} {M : mj_M} {Q : mj_P} (hV : lw_V G M x m tp s kp) (hz1 : mj_in z1) (hz2 : mj_in z2) (hQ : ∀ z M', lw_V G M' x m tp s kp → (M'.1 tp 1 = M.1 tp 1 ∧ M'.1 m 2 = M.1 m 2) → ab_frm (ab_w cd_117) G M M' → Q (some (.inl z)) G M') : mj_R mj_tab (d + 31) 165 [.inr (.inr (some m)), .inl z1, .inl z2] G M Q :=
  lw_c2 (c := cd_117) (dd := d + 30) (show ab_ok cd_117 from ab_all_ok 223 (Nat.le_refl _) 125 (by decide)) rfl (Nat.le_trans (by decide : 2 ≤ 30) (Nat.le_add_left 30 d)) hV.2.1.2.1 (by decide) (by decide) (by decide) (by decide +kernel) hV.1 hz1 hz2 (fun z M' i f => hQ z M' (hV.fr i f (by decide +kernel)) (hV.sz f (by decide +kernel)) f)
theorem lc_X12_bidsOf {d x m tp s kp : Nat} {z1 : Int} {G : mj_G} {M : mj_M} {Q : mj_P} (hV : lw_V G M x m tp s kp) (hz1 : mj_in z1) (hQ : ∀ z M', lw_V G M' x m tp s kp → (M'.1 tp 1 = M.1 tp 1 ∧ M'.1 m 2 = M.1 m 2) → ab_frm (ab_w cd_118) G M M' → Q (some (.inl z)) G M') : mj_R mj_tab (d + 31) 168 [.inr (.inr (some m)), .inl z1] G M Q :=
  lw_c1 (c := cd_118) (dd := d + 30) (show ab_ok cd_118 from ab_all_ok 223 (Nat.le_refl _) 126 (by decide)) rfl (Nat.le_trans (by decide : 2 ≤ 30) (Nat.le_add_left 30 d)) hV.2.1.2.1 (by decide) (by decide) (by decide) (by decide +kernel) hV.1 hz1 (fun z M' i f => hQ z M' (hV.fr i f (by decide +kernel)) (hV.sz f (by decide +kernel)) f)
theorem lc_X12_byteAt {d x m tp s kp : Nat} {z1 : Int} {G : mj_G} {M : mj_M} {Q : mj_P} (hV : lw_V G M x m tp s kp) (hz1 : mj_in z1) (hQ : ∀ z M', lw_V G M' x m tp s kp → (M'.1 tp 1 = M.1 tp 1 ∧ M'.1 m 2 = M.1 m 2) → ab_frm (ab_w cd_62) G M M' → Q (some (.inl z)) G M') : mj_R mj_tab (d + 31) 170 [.inr (.inr (some m)), .inl z1] G M Q :=
  lw_c1 (c := cd_62) (dd := d + 30) (show ab_ok cd_62 from ab_all_ok 223 (Nat.le_refl _) 69 (by decide)) rfl (Nat.le_trans (by decide : 1 ≤ 30) (Nat.le_add_left 30 d)) hV.2.1.2.1 (by decide) (by decide) (by decide) (by decide +kernel) hV.1 hz1 (fun z M' i f => hQ z M' (hV.fr i f (by decide +kernel)) (hV.sz f (by decide +kernel)) f)
theorem lc_X12_cheapest {d x m tp s kp : Nat} {G : mj_G} {M : mj_M} {Q : mj_P} (hV : lw_V G M x m tp s kp) (hQ : ∀ z M', lw_V G M' x m tp s kp → (M'.1 tp 1 = M.1 tp 1 ∧ M'.1 m 2 = M.1 m 2) → ab_frm (ab_w cd_142) G M M' → Q (some (.inl z)) G M') : mj_R mj_tab (d + 31) 173 [.inr (.inr (some m))] G M Q :=
  lw_c0 (c := cd_142) (dd := d + 30) (show ab_ok cd_142 from ab_all_ok 223 (Nat.le_refl _) 151 (by decide)) rfl (Nat.le_trans (by decide : 3 ≤ 30) (Nat.le_add_left 30 d)) hV.2.1.2.1 (by decide) (by decide) (by decide) (by decide +kernel) hV.1 (fun z M' i f => hQ z M' (hV.fr i f (by decide +kernel)) (hV.sz f (by decide +kernel)) f)
theorem lc_X12_contract {d x m tp s kp : Nat} {z1 z2 : Int} {G : mj_G} {M : mj_M} {Q : mj_P} (hV : lw_V G M x m tp s kp) (hz1 : mj_in z1) (hz2 : mj_in z2) (hQ : ∀ z M', lw_V G M' x m tp s kp → (M'.1 tp 1 = M.1 tp 1 ∧ M'.1 m 2 = M.1 m 2) → ab_frm (ab_w cd_120) G M M' → Q (some (.inl z)) G M') : mj_R mj_tab (d + 31) 176 [.inr (.inr (some m)), .inl z1, .inl z2] G M Q :=
  lw_c2 (c := cd_120) (dd := d + 30) (show ab_ok cd_120 from ab_all_ok 223 (Nat.le_refl _) 128 (by decide)) rfl (Nat.le_trans (by decide : 2 ≤ 30) (Nat.le_add_left 30 d)) hV.2.1.2.1 (by decide) (by decide) (by decide) (by decide +kernel) hV.1 hz1 hz2 (fun z M' i f => hQ z M' (hV.fr i f (by decide +kernel)) (hV.sz f (by decide +kernel)) f)
theorem lc_X12_count {d x m tp s kp : Nat} {z1 : Int} {G : mj_G} {M : mj_M} {Q : mj_P} (hV : lw_V G M x m tp s kp) (hz1 : mj_in z1) (hQ : ∀ z M', lw_V G M' x m tp s kp → (M'.1 tp 1 = M.1 tp 1 ∧ M'.1 m 2 = M.1 m 2) → ab_frm (ab_w cd_64) G M M' → Q (some (.inl z)) G M') : mj_R mj_tab (d + 31) 179 [.inr (.inr (some m)), .inl z1] G M Q :=
  lw_c1 (c := cd_64) (dd := d + 30) (show ab_ok cd_64 from ab_all_ok 223 (Nat.le_refl _) 71 (by decide)) rfl (Nat.le_trans (by decide : 1 ≤ 30) (Nat.le_add_left 30 d)) hV.2.1.2.1 (by decide) (by decide) (by decide) (by decide +kernel) hV.1 hz1 (fun z M' i f => hQ z M' (hV.fr i f (by decide +kernel)) (hV.sz f (by decide +kernel)) f)
theorem lc_X12_drawn {d x m tp s kp : Nat} {z1 : Int} {G : mj_G} {M : mj_M} {Q : mj_P} (hV : lw_V G M x m tp s kp) (hz1 : mj_in z1) (hQ : ∀ z M', lw_V G M' x m tp s kp → (M'.1 tp 1 = M.1 tp 1 ∧ M'.1 m 2 = M.1 m 2) → ab_frm (ab_w cd_170) G M M' → Q (some (.inl z)) G M') : mj_R mj_tab (d + 31) 182 [.inr (.inr (some m)), .inl z1] G M Q :=
  lw_c1 (c := cd_170) (dd := d + 30) (show ab_ok cd_170 from ab_all_ok 223 (Nat.le_refl _) 179 (by decide)) rfl (Nat.le_trans (by decide : 5 ≤ 30) (Nat.le_add_left 30 d)) hV.2.1.2.1 (by decide) (by decide) (by decide) (by decide +kernel) hV.1 hz1 (fun z M' i f => hQ z M' (hV.fr i f (by decide +kernel)) (hV.sz f (by decide +kernel)) f)
theorem lc_X12_droughts {d x m tp s kp : Nat} {G : mj_G} {M : mj_M} {Q : mj_P} (hV : lw_V G M x m tp s kp) (hQ : ∀ z M', lw_V G M' x m tp s kp → (M'.1 tp 1 = M.1 tp 1 ∧ M'.1 m 2 = M.1 m 2) → ab_frm (ab_w cd_18) G M M' → Q (some (.inl z)) G M') : mj_R mj_tab (d + 31) 183 [.inr (.inr (some m))] G M Q :=
  lw_c0 (c := cd_18) (dd := d + 30) (show ab_ok cd_18 from ab_all_ok 223 (Nat.le_refl _) 21 (by decide)) rfl (Nat.le_trans (by decide : 0 ≤ 30) (Nat.le_add_left 30 d)) hV.2.1.2.1 (by decide) (by decide) (by decide) (by decide +kernel) hV.1 (fun z M' i f => hQ z M' (hV.fr i f (by decide +kernel)) (hV.sz f (by decide +kernel)) f)
theorem lc_X12_enough {d x m tp s kp : Nat} {z1 : Int} {G : mj_G} {M : mj_M} {Q : mj_P} (hV : lw_V G M x m tp s kp) (hz1 : mj_in z1) (hQ : ∀ z M', lw_V G M' x m tp s kp → (M'.1 tp 1 = M.1 tp 1 ∧ M'.1 m 2 = M.1 m 2) → ab_frm (ab_w cd_121) G M M' → Q (some (.inl z)) G M') : mj_R mj_tab (d + 31) 185 [.inr (.inr (some m)), .inl z1] G M Q :=
  lw_c1 (c := cd_121) (dd := d + 30) (show ab_ok cd_121 from ab_all_ok 223 (Nat.le_refl _) 129 (by decide)) rfl (Nat.le_trans (by decide : 2 ≤ 30) (Nat.le_add_left 30 d)) hV.2.1.2.1 (by decide) (by decide) (by decide) (by decide +kernel) hV.1 hz1 (fun z M' i f => hQ z M' (hV.fr i f (by decide +kernel)) (hV.sz f (by decide +kernel)) f)
theorem lc_X12_fault {d x m tp s kp : Nat} {G : mj_G} {M : mj_M} {Q : mj_P} (hV : lw_V G M x m tp s kp) (hQ : ∀ z M', lw_V G M' x m tp s kp → (M'.1 tp 1 = M.1 tp 1 ∧ M'.1 m 2 = M.1 m 2) → ab_frm (ab_w cd_20) G M M' → Q (some (.inl z)) G M') : mj_R mj_tab (d + 31) 186 [.inr (.inr (some m))] G M Q :=
  lw_c0 (c := cd_20) (dd := d + 30) (show ab_ok cd_20 from ab_all_ok 223 (Nat.le_refl _) 23 (by decide)) rfl (Nat.le_trans (by decide : 0 ≤ 30) (Nat.le_add_left 30 d)) hV.2.1.2.1 (by decide) (by decide) (by decide) (by decide +kernel) hV.1 (fun z M' i f => hQ z M' (hV.fr i f (by decide +kernel)) (hV.sz f (by decide +kernel)) f)
theorem lc_X12_greatest {d x m tp s kp : Nat} {z1 : Int} {G : mj_G} {M : mj_M} {Q : mj_P} (hV : lw_V G M x m tp s kp) (hz1 : mj_in z1) (hQ : ∀ z M', lw_V G M' x m tp s kp → (M'.1 tp 1 = M.1 tp 1 ∧ M'.1 m 2 = M.1 m 2) → ab_frm (ab_w cd_122) G M M' → Q (some (.inl z)) G M') : mj_R mj_tab (d + 31) 192 [.inr (.inr (some m)), .inl z1] G M Q :=
  lw_c1 (c := cd_122) (dd := d + 30) (show ab_ok cd_122 from ab_all_ok 223 (Nat.le_refl _) 130 (by decide)) rfl (Nat.le_trans (by decide : 2 ≤ 30) (Nat.le_add_left 30 d)) hV.2.1.2.1 (by decide) (by decide) (by decide) (by decide +kernel) hV.1 hz1 (fun z M' i f => hQ z M' (hV.fr i f (by decide +kernel)) (hV.sz f (by decide +kernel)) f)
theorem lc_X12_has {d x m tp s kp : Nat} {z1 : Int} {G : mj_G} {M : mj_M} {Q : mj_P} (hV : lw_V G M x m tp s kp) (hz1 : mj_in z1) (hQ : ∀ z M', lw_V G M' x m tp s kp → (M'.1 tp 1 = M.1 tp 1 ∧ M'.1 m 2 = M.1 m 2) → ab_frm (ab_w cd_66) G M M' → Q (some (.inl z)) G M') : mj_R mj_tab (d + 31) 193 [.inr (.inr (some m)), .inl z1] G M Q :=
  lw_c1 (c := cd_66) (dd := d + 30) (show ab_ok cd_66 from ab_all_ok 223 (Nat.le_refl _) 73 (by decide)) rfl (Nat.le_trans (by decide : 1 ≤ 30) (Nat.le_add_left 30 d)) hV.2.1.2.1 (by decide) (by decide) (by decide) (by decide +kernel) hV.1 hz1 (fun z M' i f => hQ z M' (hV.fr i f (by decide +kernel)) (hV.sz f (by decide +kernel)) f)
theorem lc_X12_leak {d x m tp s kp : Nat} {z1 z2 : Int} {G : mj_G} {M : mj_M} {Q : mj_P} (hV : lw_V G M x m tp s kp) (hz1 : mj_in z1) (hz2 : mj_in z2) (hQ : ∀ z M', lw_V G M' x m tp s kp → (M'.1 tp 1 = M.1 tp 1 ∧ M'.1 m 2 = M.1 m 2) → ab_frm (ab_w cd_67) G M M' → Q (some (.inl z)) G M') : mj_R mj_tab (d + 31) 209 [.inr (.inr (some m)), .inl z1, .inl z2] G M Q :=
  lw_c2 (c := cd_67) (dd := d + 30) (show ab_ok cd_67 from ab_all_ok 223 (Nat.le_refl _) 74 (by decide)) rfl (Nat.le_trans (by decide : 1 ≤ 30) (Nat.le_add_left 30 d)) hV.2.1.2.1 (by decide) (by decide) (by decide) (by decide +kernel) hV.1 hz1 hz2 (fun z M' i f => hQ z M' (hV.fr i f (by decide +kernel)) (hV.sz f (by decide +kernel)) f)
theorem lc_X12_let {d x m tp s kp : Nat} {z1 z2 : Int} {G : mj_G} {M : mj_M} {Q : mj_P} (hV : lw_V G M x m tp s kp) (hz1 : mj_in z1) (hz2 : mj_in z2) (hQ : ∀ z M', lw_V G M' x m tp s kp → (M'.1 tp 1 = M.1 tp 1 ∧ M'.1 m 2 = M.1 m 2) → ab_frm (ab_w cd_68) G M M' → Q (some (.inl z)) G M') : mj_R mj_tab (d + 31) 211 [.inr (.inr (some m)), .inl z1, .inl z2] G M Q :=
  lw_c2 (c := cd_68) (dd := d + 30) (show ab_ok cd_68 from ab_all_ok 223 (Nat.le_refl _) 75 (by decide)) rfl (Nat.le_trans (by decide : 1 ≤ 30) (Nat.le_add_left 30 d)) hV.2.1.2.1 (by decide) (by decide) (by decide) (by decide +kernel) hV.1 hz1 hz2 (fun z M' i f => hQ z M' (hV.fr i f (by decide +kernel)) (hV.sz f (by decide +kernel)) f)
theorem lc_X12_must {d x m tp s kp : Nat} {z1 z2 : Int} {G : mj_G} {M : mj_M} {Q : mj_P} (hV : lw_V G M x m tp s kp) (hz1 : mj_in z1) (hz2 : mj_in z2) (hQ : ∀ z M', lw_V G M' x m tp s kp → (M'.1 tp 1 = M.1 tp 1 ∧ M'.1 m 2 = M.1 m 2) → ab_frm (ab_w cd_157) G M M' → Q (some (.inl z)) G M') : mj_R mj_tab (d + 31) 215 [.inr (.inr (some m)), .inl z1, .inl z2] G M Q :=
  lw_c2 (c := cd_157) (dd := d + 30) (show ab_ok cd_157 from ab_all_ok 223 (Nat.le_refl _) 166 (by decide)) rfl (Nat.le_trans (by decide : 4 ≤ 30) (Nat.le_add_left 30 d)) hV.2.1.2.1 (by decide) (by decide) (by decide) (by decide +kernel) hV.1 hz1 hz2 (fun z M' i f => hQ z M' (hV.fr i f (by decide +kernel)) (hV.sz f (by decide +kernel)) f)
theorem lc_X12_offer {d x m tp s kp : Nat} {z1 z2 z3 : Int} {G : mj_G} {M : mj_M} {Q : mj_P} (hV : lw_V G M x m tp s kp) (hz1 : mj_in z1) (hz2 : mj_in z2) (hz3 : mj_in z3) (hQ : ∀ z M', lw_V G M' x m tp s kp → (M'.1 tp 1 = M.1 tp 1 ∧ M'.1 m 2 = M.1 m 2) → ab_frm (ab_w cd_124) G M M' → Q (some (.inl z)) G M') : mj_R mj_tab (d + 31) 220 [.inr (.inr (some m)), .inl z1, .inl z2, .inl z3] G M Q :=
  lw_c3 (c := cd_124) (dd := d + 30) (show ab_ok cd_124 from ab_all_ok 223 (Nat.le_refl _) 132 (by decide)) rfl (Nat.le_trans (by decide : 2 ≤ 30) (Nat.le_add_left 30 d)) hV.2.1.2.1 (by decide) (by decide) (by decide) (by decide +kernel) hV.1 hz1 hz2 hz3 (fun z M' i f => hQ z M' (hV.fr i f (by decide +kernel)) (hV.sz f (by decide +kernel)) f)
theorem lc_X12_on {d x m tp s kp : Nat} {z1 : Int} {G : mj_G} {M : mj_M} {Q : mj_P} (hV : lw_V G M x m tp s kp) (hz1 : mj_in z1) (hQ : ∀ z M', lw_V G M' x m tp s kp → (M'.1 tp 1 = M.1 tp 1 ∧ M'.1 m 2 = M.1 m 2) → ab_frm (ab_w cd_158) G M M' → Q (some (.inl z)) G M') : mj_R mj_tab (d + 31) 221 [.inr (.inr (some m)), .inl z1] G M Q :=
  lw_c1 (c := cd_158) (dd := d + 30) (show ab_ok cd_158 from ab_all_ok 223 (Nat.le_refl _) 167 (by decide)) rfl (Nat.le_trans (by decide : 4 ≤ 30) (Nat.le_add_left 30 d)) hV.2.1.2.1 (by decide) (by decide) (by decide) (by decide +kernel) hV.1 hz1 (fun z M' i f => hQ z M' (hV.fr i f (by decide +kernel)) (hV.sz f (by decide +kernel)) f)
theorem lc_X12_plan {d x m tp s kp : Nat} {z1 : Int} {G : mj_G} {M : mj_M} {Q : mj_P} (hV : lw_V G M x m tp s kp) (hz1 : mj_in z1) (hQ : ∀ z M', lw_V G M' x m tp s kp → (M'.1 tp 1 = M.1 tp 1 ∧ M'.1 m 2 = M.1 m 2) → ab_frm (ab_w cd_125) G M M' → Q (some (.inl z)) G M') : mj_R mj_tab (d + 31) 227 [.inr (.inr (some m)), .inl z1] G M Q :=
  lw_c1 (c := cd_125) (dd := d + 30) (show ab_ok cd_125 from ab_all_ok 223 (Nat.le_refl _) 133 (by decide)) rfl (Nat.le_trans (by decide : 2 ≤ 30) (Nat.le_add_left 30 d)) hV.2.1.2.1 (by decide) (by decide) (by decide) (by decide +kernel) hV.1 hz1 (fun z M' i f => hQ z M' (hV.fr i f (by decide +kernel)) (hV.sz f (by decide +kernel)) f)
theorem lc_X12_price {d x m tp s kp : Nat} {z1 : Int} {G : mj_G} {M : mj_M} {Q : mj_P} (hV : lw_V G M x m tp s kp) (hz1 : mj_in z1) (hQ : ∀ z M', lw_V G M' x m tp s kp → (M'.1 tp 1 = M.1 tp 1 ∧ M'.1 m 2 = M.1 m 2) → ab_frm (ab_w cd_126) G M M' → Q (some (.inl z)) G M') : mj_R mj_tab (d + 31) 228 [.inr (.inr (some m)), .inl z1] G M Q :=
  lw_c1 (c := cd_126) (dd := d + 30) (show ab_ok cd_126 from ab_all_ok 223 (Nat.le_refl _) 134 (by decide)) rfl (Nat.le_trans (by decide : 2 ≤ 30) (Nat.le_add_left 30 d)) hV.2.1.2.1 (by decide) (by decide) (by decide) (by decide +kernel) hV.1 hz1 (fun z M' i f => hQ z M' (hV.fr i f (by decide +kernel)) (hV.sz f (by decide +kernel)) f)
theorem lc_X12_rounds {d x m tp s kp : Nat} {z1 : Int} {G : mj_G} {M : mj_M} {Q : mj_P} (hV : lw_V G M x m tp s kp) (hz1 : mj_in z1) (hQ : ∀ z M', lw_V G M' x m tp s kp → (M'.1 tp 1 = M.1 tp 1 ∧ M'.1 m 2 = M.1 m 2) → ab_frm (ab_w cd_95) G M M' → Q (some (.inl z)) G M') : mj_R mj_tab (d + 31) 236 [.inr (.inr (some m)), .inl z1] G M Q :=
  lw_c1 (c := cd_95) (dd := d + 30) (show ab_ok cd_95 from ab_all_ok 223 (Nat.le_refl _) 102 (by decide)) rfl (Nat.le_trans (by decide : 1 ≤ 30) (Nat.le_add_left 30 d)) hV.2.1.2.1 (by decide) (by decide) (by decide) (by decide +kernel) hV.1 hz1 (fun z M' i f => hQ z M' (hV.fr i f (by decide +kernel)) (hV.sz f (by decide +kernel)) f)
theorem lc_X12_shores {d x m tp s kp : Nat} {z1 z2 z3 : Int} {G : mj_G} {M : mj_M} {Q : mj_P} (hV : lw_V G M x m tp s kp) (hz1 : mj_in z1) (hz2 : mj_in z2) (hz3 : mj_in z3) (hQ : ∀ z M', lw_V G M' x m tp s kp → (M'.1 tp 1 = M.1 tp 1 ∧ M'.1 m 2 = M.1 m 2) → ab_frm (ab_w cd_173) G M M' → Q (some (.inl z)) G M') : mj_R mj_tab (d + 31) 240 [.inr (.inr (some m)), .inl z1, .inl z2, .inl z3] G M Q :=
  lw_c3 (c := cd_173) (dd := d + 30) (show ab_ok cd_173 from ab_all_ok 223 (Nat.le_refl _) 182 (by decide)) rfl (Nat.le_trans (by decide : 5 ≤ 30) (Nat.le_add_left 30 d)) hV.2.1.2.1 (by decide) (by decide) (by decide) (by decide +kernel) hV.1 hz1 hz2 hz3 (fun z M' i f => hQ z M' (hV.fr i f (by decide +kernel)) (hV.sz f (by decide +kernel)) f)
theorem lc_X12_shoresOf {d x m tp s kp : Nat} {G : mj_G} {M : mj_M} {Q : mj_P} (hV : lw_V G M x m tp s kp) (hQ : ∀ z M', lw_V G M' x m tp s kp → (M'.1 tp 1 = M.1 tp 1 ∧ M'.1 m 2 = M.1 m 2) → ab_frm (ab_w cd_174) G M M' → Q (some (.inl z)) G M') : mj_R mj_tab (d + 31) 241 [.inr (.inr (some m))] G M Q :=
  lw_c0 (c := cd_174) (dd := d + 30) (show ab_ok cd_174 from ab_all_ok 223 (Nat.le_refl _) 183 (by decide)) rfl (Nat.le_trans (by decide : 5 ≤ 30) (Nat.le_add_left 30 d)) hV.2.1.2.1 (by decide) (by decide) (by decide) (by decide +kernel) hV.1 (fun z M' i f => hQ z M' (hV.fr i f (by decide +kernel)) (hV.sz f (by decide +kernel)) f)
theorem lc_X12_take {d x m tp s kp : Nat} {G : mj_G} {M : mj_M} {Q : mj_P} (hV : lw_V G M x m tp s kp) (hQ : ∀ z M', lw_V G M' x m tp s kp → (M'.1 tp 1 = M.1 tp 1 ∧ M'.1 m 2 = M.1 m 2) → ab_frm (ab_w cd_96) G M M' → Q (some (.inl z)) G M') : mj_R mj_tab (d + 31) 244 [.inr (.inr (some m))] G M Q :=
  lw_c0 (c := cd_96) (dd := d + 30) (show ab_ok cd_96 from ab_all_ok 223 (Nat.le_refl _) 103 (by decide)) rfl (Nat.le_trans (by decide : 1 ≤ 30) (Nat.le_add_left 30 d)) hV.2.1.2.1 (by decide) (by decide) (by decide) (by decide +kernel) hV.1 (fun z M' i f => hQ z M' (hV.fr i f (by decide +kernel)) (hV.sz f (by decide +kernel)) f)
theorem lc_X12_thirsty {d x m tp s kp : Nat} {G : mj_G} {M : mj_M} {Q : mj_P} (hV : lw_V G M x m tp s kp) (hQ : ∀ z M', lw_V G M' x m tp s kp → (M'.1 tp 1 = M.1 tp 1 ∧ M'.1 m 2 = M.1 m 2) → ab_frm (ab_w cd_175) G M M' → Q (some (.inl z)) G M') : mj_R mj_tab (d + 31) 248 [.inr (.inr (some m))] G M Q :=
  lw_c0 (c := cd_175) (dd := d + 30) (show ab_ok cd_175 from ab_all_ok 223 (Nat.le_refl _) 184 (by decide)) rfl (Nat.le_trans (by decide : 5 ≤ 30) (Nat.le_add_left 30 d)) hV.2.1.2.1 (by decide) (by decide) (by decide) (by decide +kernel) hV.1 (fun z M' i f => hQ z M' (hV.fr i f (by decide +kernel)) (hV.sz f (by decide +kernel)) f)
theorem lc_X12_told {d x m tp s kp : Nat} {z1 z2 : Int} {G : mj_G} {M : mj_M} {Q : mj_P} (hV : lw_V G M x m tp s kp) (hz1 : mj_in z1) (hz2 : mj_in z2) (hQ : ∀ z M', lw_V G M' x m tp s kp → (M'.1 tp 1 = M.1 tp 1 ∧ M'.1 m 2 = M.1 m 2) → ab_frm (ab_w cd_128) G M M' → Q (some (.inl z)) G M') : mj_R mj_tab (d + 31) 250 [.inr (.inr (some m)), .inl z1, .inl z2] G M Q :=
  lw_c2 (c := cd_128) (dd := d + 30) (show ab_ok cd_128 from ab_all_ok 223 (Nat.le_refl _) 136 (by decide)) rfl (Nat.le_trans (by decide : 2 ≤ 30) (Nat.le_add_left 30 d)) hV.2.1.2.1 (by decide) (by decide) (by decide) (by decide +kernel) hV.1 hz1 hz2 (fun z M' i f => hQ z M' (hV.fr i f (by decide +kernel)) (hV.sz f (by decide +kernel)) f)
theorem lc_X12_town {d x m tp s kp : Nat} {z1 z2 : Int} {G : mj_G} {M : mj_M} {Q : mj_P} (hV : lw_V G M x m tp s kp) (hz1 : mj_in z1) (hz2 : mj_in z2) (hQ : ∀ z M', lw_V G M' x m tp s kp → (M'.1 tp 1 = M.1 tp 1 ∧ M'.1 m 2 = M.1 m 2) → ab_frm (ab_w cd_129) G M M' → Q (some (.inl z)) G M') : mj_R mj_tab (d + 31) 252 [.inr (.inr (some m)), .inl z1, .inl z2] G M Q :=
  lw_c2 (c := cd_129) (dd := d + 30) (show ab_ok cd_129 from ab_all_ok 223 (Nat.le_refl _) 137 (by decide)) rfl (Nat.le_trans (by decide : 2 ≤ 30) (Nat.le_add_left 30 d)) hV.2.1.2.1 (by decide) (by decide) (by decide) (by decide +kernel) hV.1 hz1 hz2 (fun z M' i f => hQ z M' (hV.fr i f (by decide +kernel)) (hV.sz f (by decide +kernel)) f)
theorem lc_X12_undo {d x m tp s kp : Nat} {G : mj_G} {M : mj_M} {Q : mj_P} (hV : lw_V G M x m tp s kp) (hQ : ∀ z M', lw_V G M' x m tp s kp → (M'.1 tp 1 = M.1 tp 1 ∧ M'.1 m 2 = M.1 m 2) → ab_frm (ab_w cd_26) G M M' → Q (some (.inl z)) G M') : mj_R mj_tab (d + 31) 253 [.inr (.inr (some m))] G M Q :=
  lw_c0 (c := cd_26) (dd := d + 30) (show ab_ok cd_26 from ab_all_ok 223 (Nat.le_refl _) 29 (by decide)) rfl (Nat.le_trans (by decide : 0 ≤ 30) (Nat.le_add_left 30 d)) hV.2.1.2.1 (by decide) (by decide) (by decide) (by decide +kernel) hV.1 (fun z M' i f => hQ z M' (hV.fr i f (by decide +kernel)) (hV.sz f (by decide +kernel)) f)
theorem lc_X12_water {d x m tp s kp : Nat} {z1 : Int} {G : mj_G} {M : mj_M} {Q : mj_P} (hV : lw_V G M x m tp s kp) (hz1 : mj_in z1) (hQ : ∀ z M', lw_V G M' x m tp s kp → (M'.1 tp 1 = M.1 tp 1 ∧ M'.1 m 2 = M.1 m 2) → ab_frm (ab_w cd_130) G M M' → Q (some (.inl z)) G M') : mj_R mj_tab (d + 31) 256 [.inr (.inr (some m)), .inl z1] G M Q :=
  lw_c1 (c := cd_130) (dd := d + 30) (show ab_ok cd_130 from ab_all_ok 223 (Nat.le_refl _) 138 (by decide)) rfl (Nat.le_trans (by decide : 2 ≤ 30) (Nat.le_add_left 30 d)) hV.2.1.2.1 (by decide) (by decide) (by decide) (by decide +kernel) hV.1 hz1 (fun z M' i f => hQ z M' (hV.fr i f (by decide +kernel)) (hV.sz f (by decide +kernel)) f)
theorem lc_X12_wettest {d x m tp s kp : Nat} {z1 : Int} {G : mj_G} {M : mj_M} {Q : mj_P} (hV : lw_V G M x m tp s kp) (hz1 : mj_in z1) (hQ : ∀ z M', lw_V G M' x m tp s kp → (M'.1 tp 1 = M.1 tp 1 ∧ M'.1 m 2 = M.1 m 2) → ab_frm (ab_w cd_131) G M M' → Q (some (.inl z)) G M') : mj_R mj_tab (d + 31) 257 [.inr (.inr (some m)), .inl z1] G M Q :=
  lw_c1 (c := cd_131) (dd := d + 30) (show ab_ok cd_131 from ab_all_ok 223 (Nat.le_refl _) 139 (by decide)) rfl (Nat.le_trans (by decide : 2 ≤ 30) (Nat.le_add_left 30 d)) hV.2.1.2.1 (by decide) (by decide) (by decide) (by decide +kernel) hV.1 hz1 (fun z M' i f => hQ z M' (hV.fr i f (by decide +kernel)) (hV.sz f (by decide +kernel)) f)
theorem lc_X12_worth {d x m tp s kp : Nat} {z1 : Int} {G : mj_G} {M : mj_M} {Q : mj_P} (hV : lw_V G M x m tp s kp) (hz1 : mj_in z1) (hQ : ∀ z M', lw_V G M' x m tp s kp → (M'.1 tp 1 = M.1 tp 1 ∧ M'.1 m 2 = M.1 m 2) → ab_frm (ab_w cd_176) G M M' → Q (some (.inl z)) G M') : mj_R mj_tab (d + 31) 259 [.inr (.inr (some m)), .inl z1] G M Q :=
  lw_c1 (c := cd_176) (dd := d + 30) (show ab_ok cd_176 from ab_all_ok 223 (Nat.le_refl _) 185 (by decide)) rfl (Nat.le_trans (by decide : 5 ≤ 30) (Nat.le_add_left 30 d)) hV.2.1.2.1 (by decide) (by decide) (by decide) (by decide +kernel) hV.1 hz1 (fun z M' i f => hQ z M' (hV.fr i f (by decide +kernel)) (hV.sz f (by decide +kernel)) f)
theorem lc_X12_write {d x m tp s kp : Nat} {G : mj_G} {M : mj_M} {Q : mj_P} (hV : lw_V G M x m tp s kp) (hQ : ∀ z M', lw_V G M' x m tp s kp → (M'.1 tp 1 = M.1 tp 1 ∧ M'.1 m 2 = M.1 m 2) → ab_frm (ab_w cd_132) G M M' → Q (some (.inl z)) G M') : mj_R mj_tab (d + 31) 260 [.inr (.inr (some m))] G M Q := by
  have hm : G m = (1012, 0) := hV.2.1.2.1
  have hr : (ab_o cd_132).all (fun po => lw_ii po.1) = true := by decide +kernel
  refine (show ab_ok cd_132 from ab_all_ok 223 (Nat.le_refl _) 140 (by decide)) (d + 30) (Nat.le_trans (by decide : 2 ≤ 30) (Nat.le_add_left 30 d)) G M (1, hn_g [M.1 m 51], 1, fun _ => some m) _ Q (hn_Y1 (by have := hV.1.1 m 51; rw [hm] at this; exact this)) (hn_RR hm) (fun e he => ?_) ⟨_, _, rfl, ⟨Nat.zero_lt_one, rfl⟩, rfl⟩ hV.1 (fun r M' i f ⟨po, hpo, h⟩ => ?_)
  · cases he with
    | head => exact ⟨Nat.zero_lt_one, m, 51, rfl, rfl, by decide, hn_I (Nat.le_of_ble_eq_true rfl) rfl⟩
    | tail _ he => cases he
  · obtain ⟨z, rfl⟩ := lw_r (List.all_eq_true.mp hr po hpo) h
    exact hQ z M' (hV.fr i f (by decide +kernel)) (hV.sz f (by decide +kernel)) f
theorem lc_X12_year {d x m tp s kp : Nat} {z1 : Int} {G : mj_G} {M : mj_M} {Q : mj_P} (hV : lw_V G M x m tp s kp) (hz1 : mj_in z1) (hQ : ∀ z M', lw_V G M' x m tp s kp → (M'.1 tp 1 = M.1 tp 1 ∧ M'.1 m 2 = M.1 m 2) → ab_frm (ab_w cd_102) G M M' → Q (some (.inl z)) G M') : mj_R mj_tab (d + 31) 261 [.inr (.inr (some m)), .inl z1] G M Q :=
  lw_c1 (c := cd_102) (dd := d + 30) (show ab_ok cd_102 from ab_all_ok 223 (Nat.le_refl _) 109 (by decide)) rfl (Nat.le_trans (by decide : 1 ≤ 30) (Nat.le_add_left 30 d)) hV.2.1.2.1 (by decide) (by decide) (by decide) (by decide +kernel) hV.1 hz1 (fun z M' i f => hQ z M' (hV.fr i f (by decide +kernel)) (hV.sz f (by decide +kernel)) f)
end
section
/-! ===== calls of the class that empty the tape ===== -/
def lw_w2 (x tp : Nat) (i : Nat) : Option Nat := if i = 0 then some x else some tp
theorem lw_R2 {G : mj_G} {x tp n : Nat} {f : Nat → Int} (hx : G x = (1011, 0)) (ht : G tp = (1008, 0)) : ab_RR (n, f, 2, lw_w2 x tp) G [(1011, 0), (1008, 0)] := ⟨rfl, fun i q h => by
  cases i with
  | zero =>
    cases h
    exact Or.inr (Or.inr (Or.inr ⟨by decide, by decide, by decide, x, rfl, hx⟩))
  | succ i => cases i with
    | zero =>
      cases h
      exact Or.inr (Or.inr (Or.inr ⟨by decide, by decide, by decide, tp, rfl, ht⟩))
    | succ i => cases h⟩
/-- its post: an int, and the tape's size is 0 -/
def lw_zp (po : ab_po) : Bool := match po with
  | (some (.inl _), [(1, 1, .inl (.ofNat 0))]) => true
  | _ => false
theorem lw_z {c : ab_co} {x m tp s kp dd : Nat} {G : mj_G} {M : mj_M} {Q : mj_P} (hok : ab_ok c) (hp : ab_p c = ([(.ofNat 0, .ofNat 940, [])], [(1011, 0), (1008, 0)], [(0, 0, .inr (.inr 1)), (1, 1, .inl (.inr (0, 1, .ofNat 0)))], [some (.inr (.inr 0))])) (hd : ab_h c ≤ dd) (hr : (ab_o c).all lw_zp = true) (hV : lw_V G M x m tp s kp) (hw : lw_ck (ab_w c) = true) (h2 : (ab_w c).all (fun q => !(Nat.beq q.1 1012)) = true) (hQ : ∀ z M', lw_V G M' x m tp s kp → M'.1 tp 1 = 0 → M'.1 m 2 = M.1 m 2 → ab_frm (ab_w c) G M M' → Q (some (.inl z)) G M') : mj_R mj_tab (dd + 1) (ab_y c) [.inr (.inr (some x))] G M Q := by
  obtain ⟨hI, ⟨g1, g2, g3, g4, g5⟩, ⟨r1, r2, r3⟩, -⟩ := id hV
  refine hok dd hd G M (1, hn_g [M.1 tp 1], 2, lw_w2 x tp) _ Q (by rw [hp]; exact hn_Y1 (by have := hI.1 tp 1; rw [g3] at this; exact this)) (by rw [hp]; exact lw_R2 g1 g3) (by
    rw [hp]
    intro e he
    cases he with
    | head => exact ⟨Nat.le_of_ble_eq_true rfl, x, 0, rfl, rfl, by decide, Nat.le_of_ble_eq_true rfl, r1⟩
    | tail _ he => cases he with
      | head => exact ⟨Nat.le_of_ble_eq_true rfl, tp, 1, rfl, rfl, by decide, hn_I (Nat.le_of_ble_eq_true rfl) rfl⟩
      | tail _ he => cases he) (by rw [hp]; exact ⟨_, _, rfl, ⟨Nat.le_of_ble_eq_true rfl, rfl⟩, rfl⟩) hI (fun r M' i f ⟨po, hpo, h⟩ => ?_)
  have hz := List.all_eq_true.mp hr po hpo
  unfold lw_zp at hz
  split at hz
  · obtain ⟨⟨z, rfl, -⟩, hm⟩ := h
    obtain ⟨a, ha, hx⟩ := hm _ (List.Mem.head _)
    cases ha
    exact hQ z M' (hV.fr i f hw) hx (f m 2 (by rw [g2]; exact hn_nt h2)).1 f
  · cases hz
theorem lc_X11_plain {d x m tp s kp : Nat} {G : mj_G} {M : mj_M} {Q : mj_P} (hV : lw_V G M x m tp s kp) (hQ : ∀ z M', lw_V G M' x m tp s kp → M'.1 tp 1 = 0 → M'.1 m 2 = M.1 m 2 → ab_frm (ab_w cx_X11_plain_z) G M M' → Q (some (.inl z)) G M') : mj_R mj_tab (d + 31) 138 [.inr (.inr (some x))] G M Q := lw_z (c := cx_X11_plain_z) (dd := d + 30) xo_X11_plain_z rfl (Nat.le_trans (by decide +kernel : ab_h cx_X11_plain_z ≤ 30) (Nat.le_add_left 30 d)) (by decide +kernel) hV (by decide +kernel) (by decide +kernel) hQ
theorem lc_X11_contracts {d x m tp s kp : Nat} {G : mj_G} {M : mj_M} {Q : mj_P} (hV : lw_V G M x m tp s kp) (hQ : ∀ z M', lw_V G M' x m tp s kp → M'.1 tp 1 = 0 → M'.1 m 2 = M.1 m 2 → ab_frm (ab_w cx_X11_contracts_z) G M M' → Q (some (.inl z)) G M') : mj_R mj_tab (d + 31) 117 [.inr (.inr (some x))] G M Q := lw_z (c := cx_X11_contracts_z) (dd := d + 30) xo_X11_contracts_z rfl (Nat.le_trans (by decide +kernel : ab_h cx_X11_contracts_z ≤ 30) (Nat.le_add_left 30 d)) (by decide +kernel) hV (by decide +kernel) (by decide +kernel) hQ
theorem lc_X11_sentence {d x m tp s kp : Nat} {G : mj_G} {M : mj_M} {Q : mj_P} (hV : lw_V G M x m tp s kp) (hQ : ∀ z M', lw_V G M' x m tp s kp → M'.1 tp 1 = 0 → M'.1 m 2 = M.1 m 2 → ab_frm (ab_w cx_X11_sentence_z) G M M' → Q (some (.inl z)) G M') : mj_R mj_tab (d + 31) 147 [.inr (.inr (some x))] G M Q := lw_z (c := cx_X11_sentence_z) (dd := d + 30) xo_X11_sentence_z rfl (Nat.le_trans (by decide +kernel : ab_h cx_X11_sentence_z ≤ 30) (Nat.le_add_left 30 d)) (by decide +kernel) hV (by decide +kernel) (by decide +kernel) hQ
theorem lc_X11_leaks {d x m tp s kp : Nat} {G : mj_G} {M : mj_M} {Q : mj_P} (hV : lw_V G M x m tp s kp) (hQ : ∀ z M', lw_V G M' x m tp s kp → M'.1 tp 1 = 0 → M'.1 m 2 = M.1 m 2 → ab_frm (ab_w cx_X11_leaks_z) G M M' → Q (some (.inl z)) G M') : mj_R mj_tab (d + 31) 132 [.inr (.inr (some x))] G M Q := lw_z (c := cx_X11_leaks_z) (dd := d + 30) xo_X11_leaks_z rfl (Nat.le_trans (by decide +kernel : ab_h cx_X11_leaks_z ≤ 30) (Nat.le_add_left 30 d)) (by decide +kernel) hV (by decide +kernel) (by decide +kernel) hQ
end
section
/-! ===== calls of the reference that empty its tape ===== -/
def lw_mp (po : ab_po) : Bool := match po with
  | (some (.inl _), [(0, 2, .inl (.ofNat 0))]) => true
  | _ => false
theorem lw_m {c : ab_co} {x m tp s kp dd : Nat} {G : mj_G} {M : mj_M} {Q : mj_P} (hok : ab_ok c) (hp : ab_p c = ([(.ofNat 0, .ofNat 940, [])], [(1012, 0)], [(0, 2, .inl (.inr (0, 1, .ofNat 0)))], [some (.inr (.inr 0))])) (hd : ab_h c ≤ dd) (hr : (ab_o c).all lw_mp = true) (hV : lw_V G M x m tp s kp) (hw : lw_ck (ab_w c) = true) (h2 : (ab_w c).all (fun q => !(Nat.beq q.1 1008)) = true) (hQ : ∀ z M', lw_V G M' x m tp s kp → M'.1 m 2 = 0 → M'.1 tp 1 = M.1 tp 1 → ab_frm (ab_w c) G M M' → Q (some (.inl z)) G M') : mj_R mj_tab (dd + 1) (ab_y c) [.inr (.inr (some m))] G M Q := by
  obtain ⟨hI, ⟨g1, g2, g3, g4, g5⟩, ⟨r1, r2, r3⟩, -⟩ := id hV
  refine hok dd hd G M (1, hn_g [M.1 m 2], 1, fun _ => some m) _ Q (by rw [hp]; exact hn_Y1 (by have := hI.1 m 2; rw [g2] at this; exact this)) (by rw [hp]; exact hn_RR g2) (by
    rw [hp]
    intro e he
    cases he with
    | head => exact ⟨Nat.le_of_ble_eq_true rfl, m, 2, rfl, rfl, by decide, hn_I (Nat.le_of_ble_eq_true rfl) rfl⟩
    | tail _ he => cases he) (by rw [hp]; exact ⟨_, _, rfl, ⟨Nat.le_of_ble_eq_true rfl, rfl⟩, rfl⟩) hI (fun r M' i f ⟨po, hpo, h⟩ => ?_)
  have hz := List.all_eq_true.mp hr po hpo
  unfold lw_mp at hz
  split at hz
  · obtain ⟨⟨z, rfl, -⟩, hm⟩ := h
    obtain ⟨a, ha, hx⟩ := hm _ (List.Mem.head _)
    cases ha
    exact hQ z M' (hV.fr i f hw) hx (f tp 1 (by rw [g3]; exact hn_nt h2)).1 f
  · cases hz
theorem lc_X12_contracts {d x m tp s kp : Nat} {G : mj_G} {M : mj_M} {Q : mj_P} (hV : lw_V G M x m tp s kp) (hQ : ∀ z M', lw_V G M' x m tp s kp → M'.1 m 2 = 0 → M'.1 tp 1 = M.1 tp 1 → ab_frm (ab_w cx_X12_contracts_z) G M M' → Q (some (.inl z)) G M') : mj_R mj_tab (d + 31) 177 [.inr (.inr (some m))] G M Q := lw_m (c := cx_X12_contracts_z) (dd := d + 30) xo_X12_contracts_z rfl (Nat.le_trans (by decide +kernel : ab_h cx_X12_contracts_z ≤ 30) (Nat.le_add_left 30 d)) (by decide +kernel) hV (by decide +kernel) (by decide +kernel) hQ
theorem lc_X12_leaks {d x m tp s kp : Nat} {G : mj_G} {M : mj_M} {Q : mj_P} (hV : lw_V G M x m tp s kp) (hQ : ∀ z M', lw_V G M' x m tp s kp → M'.1 m 2 = 0 → M'.1 tp 1 = M.1 tp 1 → ab_frm (ab_w cx_X12_leaks_z) G M M' → Q (some (.inl z)) G M') : mj_R mj_tab (d + 31) 210 [.inr (.inr (some m))] G M Q := lw_m (c := cx_X12_leaks_z) (dd := d + 30) xo_X12_leaks_z rfl (Nat.le_trans (by decide +kernel : ab_h cx_X12_leaks_z ≤ 30) (Nat.le_add_left 30 d)) (by decide +kernel) hV (by decide +kernel) (by decide +kernel) hQ
end
section
/-! ===== the reference's plain, sentence, said keep the loop's invariant ===== -/
def lw_ck2 (W : List (Nat × Nat × Nat)) : Bool := W.all (fun q => !(Nat.beq q.1 1011) && (!(Nat.beq q.1 1012 && (Nat.ble q.2.1 6 && Nat.ble 6 q.2.2)) && (!(Nat.beq q.1 1012 && (Nat.ble q.2.1 59 && Nat.ble 59 q.2.2)) && (!(Nat.beq q.1 1008) && !(Nat.beq q.1 70100)))))
theorem lw_V.fs {W : List (Nat × Nat × Nat)} {G : mj_G} {M M' : mj_M} {x m tp s kp : Nat} (hV : lw_V G M x m tp s kp) (hI : ab_Inv G M') (f : ab_frm W G M M') (hc : lw_ck2 W = true) (hF : hn_F M' s 356) : lw_V G M' x m tp s kp ∧ M'.1 tp 1 = M.1 tp 1 := by
  obtain ⟨-, ⟨g1, g2, g3, g4, g5⟩, ⟨r1, r2, r3⟩, f1, f2, f3⟩ := hV
  have ck : ∀ q ∈ W, q.1 ≠ 1011 ∧ ¬ (q.1 = 1012 ∧ q.2.1 ≤ 6 ∧ 6 ≤ q.2.2) ∧ ¬ (q.1 = 1012 ∧ q.2.1 ≤ 59 ∧ 59 ≤ q.2.2) ∧ q.1 ≠ 1008 ∧ q.1 ≠ 70100 := fun q hq => by
    have h := List.all_eq_true.mp hc q hq
    obtain ⟨h1, h⟩ := sx_nd h
    obtain ⟨h2, h⟩ := sx_nd h
    obtain ⟨h3, h⟩ := sx_nd h
    obtain ⟨h4, h5⟩ := sx_nd h
    refine ⟨fun e => lw_not h1 ?_, fun e => lw_not h2 ?_, fun e => lw_not h3 ?_, fun e => lw_not h4 ?_, fun e => lw_not h5 ?_⟩
    · rw [e]; rfl
    · rw [e.1, Nat.ble_eq_true_of_le e.2.1, Nat.ble_eq_true_of_le e.2.2]; rfl
    · rw [e.1, Nat.ble_eq_true_of_le e.2.1, Nat.ble_eq_true_of_le e.2.2]; rfl
    · rw [e]; rfl
    · rw [e]; rfl
  refine ⟨⟨hI, ⟨g1, g2, g3, g4, g5⟩, ⟨?_, ?_, ?_⟩, hF, ?_, ?_⟩, ?_⟩
  · rw [(f x 0 (by rw [g1]; rintro ⟨q, hq, q1, q2, q3⟩; exact (ck q hq).1 q1)).2]; exact r1
  · rw [(f m 6 (by rw [g2]; rintro ⟨q, hq, q1, q2, q3⟩; exact (ck q hq).2.1 ⟨q1, q2, q3⟩)).2]; exact r2
  · rw [(f m 59 (by rw [g2]; rintro ⟨q, hq, q1, q2, q3⟩; exact (ck q hq).2.2.1 ⟨q1, q2, q3⟩)).2]; exact r3
  · exact f2.cg (fun k hk => (f kp k (by rw [g5]; rintro ⟨q, hq, q1, q2, q3⟩; exact (ck q hq).2.2.2.2 q1)).1)
  · exact f3.cg (fun k hk => (f kp k (by rw [g5]; rintro ⟨q, hq, q1, q2, q3⟩; exact (ck q hq).2.2.2.2 q1)).1)
  · exact (f tp 1 (by rw [g3]; rintro ⟨q, hq, q1, q2, q3⟩; exact (ck q hq).2.2.2.1 q1)).1
theorem lc_X12_plain {d x m tp s kp : Nat} {G : mj_G} {M : mj_M} {Q : mj_P} (hV : lw_V G M x m tp s kp) (hQ : ∀ z M', lw_V G M' x m tp s kp → M'.1 m 2 = 0 → M'.1 tp 1 = M.1 tp 1 → ab_frm hn_WP G M M' → Q (some (.inl z)) G M') : mj_R mj_tab (d + 31) 226 [.inr (.inr (some m))] G M Q :=
  r_plain (d := d + 25) hV.2.1.2.1 hV.2.1.2.2.2.1 hV.2.2.1.2.1 hV.1 hV.2.2.2.1 (fun z M' i f e2 hF => hQ z M' (hV.fs i f (by decide +kernel) hF).1 e2 (hV.fs i f (by decide +kernel) hF).2 f)
theorem lc_X12_sentence {d x m tp s kp : Nat} {G : mj_G} {M : mj_M} {Q : mj_P} (hV : lw_V G M x m tp s kp) (hQ : ∀ z M', lw_V G M' x m tp s kp → M'.1 m 2 = 0 → M'.1 tp 1 = M.1 tp 1 → ab_frm hn_WX G M M' → Q (some (.inl z)) G M') : mj_R mj_tab (d + 31) 239 [.inr (.inr (some m))] G M Q :=
  r_sentence (d := d + 27) hV.2.1.2.1 hV.2.1.2.2.2.1 hV.2.2.1.2.1 hV.1 hV.2.2.2.1 (fun z M' i hX => hQ z M' (hV.fs i hX.1 (by decide +kernel) hX.2.2.1).1 hX.2.1 (hV.fs i hX.1 (by decide +kernel) hX.2.2.1).2 hX.1)
theorem lc_X12_said {d x m tp s kp : Nat} {z1 : Int} {G : mj_G} {M : mj_M} {Q : mj_P} (hV : lw_V G M x m tp s kp) (hQ : ∀ z M', lw_V G M' x m tp s kp → (M'.1 tp 1 = M.1 tp 1 ∧ M'.1 m 2 = M.1 m 2) → ab_frm hn_WD G M M' → Q (some (.inl z)) G M') : mj_R mj_tab (d + 31) 238 [.inr (.inr (some m)), .inl z1] G M Q :=
  r_said (d := d + 27) hV.2.1.2.1 hV.2.1.2.2.2.1 hV.2.2.1.2.1 hV.1 hV.2.2.2.1 (fun z M' i f => hQ z M' (hV.fr i f (by decide +kernel)) (hV.sz f (by decide +kernel)) f)
end
section
/-! ===== the reference's image and restore keep the loop's invariant ===== -/
theorem hn_F.mv {M M' : mj_M} {a a' p p' : Nat} (h : hn_F M a p) (hc : M.1 a p ≤ 45) (e : ∀ j, j ≤ 135 → M'.1 a' (p' + j) = M.1 a (p + j)) : hn_F M' a' p' := by
  obtain ⟨c, n, h1, h2⟩ := h
  refine ⟨c, n, (e 0 (by decide)).trans h1, h2.cg (fun j hj => ?_)⟩
  have q := e (1 + 3 * j) (by omega)
  rw [← Nat.add_assoc, ← Nat.add_assoc] at q
  exact q.symm
theorem lw_45 {G : mj_G} {M : mj_M} {s : Nat} (hI : ab_Inv G M) (hs : G s = (51100, 537)) : M.1 s 356 ≤ 45 := by
  have := (hI.1 s 356).2
  rw [hs] at this
  exact this
theorem lw_45k {G : mj_G} {M : mj_M} {kp k : Nat} (hI : ab_Inv G M) (hk : G kp = (70100, 1076)) (h : k ≤ 1) : M.1 kp (538 * k + 356) ≤ 45 := by
  have := (hI.1 kp (538 * k + 356)).2
  rw [hk] at this
  have this : M.1 kp (538 * k + 356) ≤ (ab_rg 70100 (538 * k + 356)).2 := this
  rw [hn_rk h (by decide)] at this
  exact this
theorem lc_X12_image {d x m tp s kp ik : Nat} {z1 : Int} {G : mj_G} {M : mj_M} {Q : mj_P} (hV : lw_V G M x m tp s kp) (hik : G ik = (72102, 2)) (h61 : M.2.2 m 61 = some ik) (hQ : ∀ z M', lw_V G M' x m tp s kp → (M'.1 tp 1 = M.1 tp 1 ∧ M'.1 m 2 = M.1 m 2) → ab_frm hn_WI G M M' → ((¬ (0 ≤ z1 ∧ z1 ≤ 1) ∧ z = 0 ∧ ∀ q, M'.1 ik q = M.1 ik q) ∨ (0 ≤ z1 ∧ z1 ≤ 1 ∧ z = 1 ∧ M'.1 ik z1.toNat = 1 ∧ ∀ q, q ≠ z1.toNat → M'.1 ik q = M.1 ik q)) → Q (some (.inl z)) G M') : mj_R mj_tab (d + 31) 195 [.inr (.inr (some m)), .inl z1] G M Q := by
  obtain ⟨hI, ⟨g1, g2, g3, g4, g5⟩, ⟨r1, r2, r3⟩, f1, f2, f3⟩ := id hV
  refine r_image (d := d + 29) g2 g4 g5 hik r2 r3 h61 hI (fun c0 => ?_) (fun k M' ek hk i e22 f h1 h2 k1 k2 => ?_)
  · have f0 : ab_frm [(1012, 0, 0)] G M (mj_p0 M m 0 0) := hn_f0 ab_frm.rf ⟨(1012, 0, 0), by decide, by rw [g2], by decide, by decide⟩
    exact hQ 0 _ (hV.fr (hI.p0 (by rw [g2]; exact ⟨by decide, by decide⟩)) f0 (by decide)) (hV.sz f0 (by decide)) (hn_up f0 (by decide)) (Or.inl ⟨c0, rfl, fun q => hn_n (Or.inl (hn_ne hik g2 (by decide)))⟩)
  · refine hQ 1 M' ⟨i, ⟨g1, g2, g3, g4, g5⟩, ⟨by rw [e22]; exact r1, by rw [e22]; exact r2, by rw [e22]; exact r3⟩, f1.cg (fun q _ => (f s q (by rw [g4]; exact hn_nt (by decide))).1), ?_, ?_⟩ (hV.sz f (by decide)) f (Or.inr ⟨by omega, by omega, rfl, by rw [ek]; exact k1, fun q hq => k2 q (fun e => hq (by rw [ek, e]; rfl))⟩)
    · by_cases e : k = 0
      · subst e
        exact f1.mv (lw_45 hI g4) (fun j hj => by have := h1 (356 + j) (by omega); rw [Nat.mul_zero, Nat.zero_add] at this; exact this)
      · exact f2.mv (lw_45k (k := 0) hI g5 (by decide)) (fun j hj => h2 (356 + j) (by omega))
    · by_cases e : k = 0
      · subst e
        exact f3.mv (lw_45k (k := 1) hI g5 (by decide)) (fun j hj => h2 (894 + j) (by omega))
      · have e1 : k = 1 := by omega
        subst e1
        exact f1.mv (lw_45 hI g4) (fun j hj => by have := h1 (356 + j) (by omega); rw [show 538 * 1 + (356 + j) = 894 + j by omega] at this; exact this)
theorem lc_X12_restore {d x m tp s kp ik : Nat} {z1 : Int} {G : mj_G} {M : mj_M} {Q : mj_P} (hV : lw_V G M x m tp s kp) (hik : G ik = (72102, 2)) (h61 : M.2.2 m 61 = some ik) (hQ : ∀ z M', lw_V G M' x m tp s kp → (M'.1 tp 1 = M.1 tp 1 ∧ M'.1 m 2 = M.1 m 2) → ab_frm hn_WR G M M' → (((¬ (0 ≤ z1 ∧ z1 ≤ 1) ∨ M.1 ik z1.toNat = 0) ∧ z = 0) ∨ (0 ≤ z1 ∧ z1 ≤ 1 ∧ M.1 ik z1.toNat ≠ 0 ∧ z = 1)) → Q (some (.inl z)) G M') : mj_R mj_tab (d + 31) 235 [.inr (.inr (some m)), .inl z1] G M Q := by
  obtain ⟨hI, ⟨g1, g2, g3, g4, g5⟩, ⟨r1, r2, r3⟩, f1, f2, f3⟩ := id hV
  refine r_restore (d := d + 29) g2 g4 g5 hik r2 r3 h61 hI (fun c0 => ?_) (fun k M' ek hk k0 i e22 f h1 => ?_)
  · have f0 : ab_frm [(1012, 0, 0)] G M (mj_p0 M m 0 0) := hn_f0 ab_frm.rf ⟨(1012, 0, 0), by decide, by rw [g2], by decide, by decide⟩
    exact hQ 0 _ (hV.fr (hI.p0 (by rw [g2]; exact ⟨by decide, by decide⟩)) f0 (by decide)) (hV.sz f0 (by decide)) (hn_up f0 (by decide)) (Or.inl ⟨c0.imp id (fun ⟨k, e1, e2, e3⟩ => by rw [e1]; exact e3), rfl⟩)
  · have hF : hn_F M' s 356 := by
      by_cases e : k = 0
      · subst e
        exact f2.mv (lw_45k (k := 0) hI g5 (by decide)) (fun j hj => by have := h1 (356 + j) (by omega); rw [Nat.mul_zero, Nat.zero_add] at this; exact this)
      · have e1 : k = 1 := by omega
        subst e1
        exact f3.mv (lw_45k (k := 1) hI g5 (by decide)) (fun j hj => by have := h1 (356 + j) (by omega); rw [show 538 * 1 + (356 + j) = 894 + j by omega] at this; exact this)
    exact hQ 1 M' (hV.fs i f (by decide) hF).1 (hV.sz f (by decide)) f (Or.inr ⟨by omega, by omega, by rw [ek]; exact k0, rfl⟩)
end
