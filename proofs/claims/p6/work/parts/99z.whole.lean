/-! THE CLAIM OUT OF ONE WALK OF THE LAW'S BODY. Your part is whole_start (and what it stands on); all else here is the same for every law, but numbers. -/
def R_law : String := "RentRiverLaw"
def lw_P (b : Addr) (xs : List Int32) (args : Array Value) (s : State) : Prop := args = #[.ref b] ∧ s.IntsAt b xs ∧ xs.length ≤ 3072 ∧ (Jvm.Cond.and given_1 narrow_1).before args s = true
def lw_Q (_ : Array Value) (s : State) (o : Outcome) (t : State) : Prop := o = .returned (some (.int 1)) ∧ Framed s o t [] 601024 7293034
def lw_Z (below : List Frame) (a : Array Value) (s : State) : State → Prop := fun t => ∃ o, t.status = .running ∧ Ended t below o ∧ lw_Q a s o t
/-- the law's own end, with 1 on the stack, nothing written that was there before, its room as the claim has it -/
theorem lw_ret {p : Program} {l : Launch} {e : Env} {s : State} {m : MethodId} {below : List Frame} {meth : Method} {c : Code} {b : Nat} (hx : p.tables.exec = Jvm.exec) (hb : c.code = code) (hr : meth.sig.returnType = ret) (hlocks : meth.locks = false) {pc : Nat} {H : Heap} {ls : Array Slot} (hdg : decode code pc = .ok (.ireturn, 1)) : W p l e room_1 s m #[Value.ref b] below meth c H [] 601024 7293034 (lw_Z below #[Value.ref b] s) (F0 m pc ls [.int 1]) := by
  intro T hT X
  obtain ⟨fs, hret, hrun, hended, hW, hframe⟩ := X.leave (v := some (.int 1)) (hlocks := hlocks) (fun h => by rw [hr] at h; cases h)
  have hmeth' : T.vm.method? m = some meth := X.method'
  refine ⟨T.setFrames fs, ?_, .returned (some (.int 1)), hrun, hended, rfl, ⟨_, rfl⟩, hW, hframe⟩
  jvm_step X.here [X.here.top, hx, hb, hdg, hmeth', hr, ret, narrow_b1]
  (try refine ⟨rfl, ?_⟩); (try refine ⟨rfl, ?_⟩)
  first | (intro acts; rw [hret _ acts rfl rfl rfl]) | rw [hret _ _ rfl rfl rfl]
  exact Steps.refl _
/-- what holds at the law's entry: the machine, the code, the tables' words (any of lw_tbl by 'hts w (by decide +kernel)'), the script of L ints xs at the cell b, what the Statement gives of the start (any of its parts by flat_of_before) -/
def lw_At (p : Program) (s : State) (m : MethodId) (meth : Method) (c : Code) (b L : Nat) (xs : Nat → Int32) : Prop :=
  p.tables.exec = Jvm.exec ∧ c.code = code ∧ meth.sig.returnType = ret ∧ c.maxLocals = 7 ∧ s.vm.findClass R_law = some m.cls ∧ (∀ w ∈ lw_tbl, w.before #[Value.ref b] s = true) ∧ va_X b L xs s s.heap ∧ b < s.heap.size ∧ meth.locks = false ∧ (Jvm.Cond.and given_1 narrow_1).before #[Value.ref b] s = true
/-- from the entry, for every script of at most 3072 ints, the law comes to its end with true -/
theorem whole_start {p : Program} {e : Env} {s : State} {m : MethodId} {below : List Frame} {meth : Method} {c : Code} (l : Launch) (hlt : l.stackTraces = false) {b L : Nat} {xs : Nat → Int32} (hL : L ≤ 3072) (C0 : lw_At p s m meth c b L xs) : W p l e room_1 s m #[Value.ref b] below meth c s.heap [] 0 0 (lw_Z below #[Value.ref b] s) (entryFrame m ([Value.ref b] : List Value).toArray 7) := by
  obtain ⟨hx, hcb, hret, hml, hown, hts, hX, hbl, hlocks, hgv⟩ := C0
  obtain ⟨ad, al, hEW, ⟨cell, ca1, ca2, ca3, ca4, ca5, ca6⟩, hadl, hinj, hwc, cella, ka1, ka2⟩ := lx_W hts hgv
  obtain ⟨D, dA, hK, hd1, hd2⟩ := lx_K hts ad al
  obtain ⟨sa, hS4⟩ := lx_S hts hgv
  have hcls : cell.cls = dA 5 := Option.some.inj (ca4.symm.trans ((hK.2.1 5 (by decide)).1 : s.vm.findClass "[LRentRiver$Word;" = some (dA 5)))
  have hap : lx_ap b al ad := by
    obtain ⟨scr, s1, ⟨-, k1, k2, comp1, k3⟩, s3, s4, s5⟩ := id hX
    refine ⟨fun q => ?_, fun k hk q => ?_, fun k hk q => ?_, hinj⟩
    · obtain ⟨-, k4, k5, comp2, k6⟩ := ka2
      rw [← q, s1] at ka1
      have := Option.some.inj ka1
      subst this
      have := Option.some.inj (k2.symm.trans k5)
      subst this
      rw [k3] at k6
      cases k6
    · obtain ⟨cl, w1, w2, i, w, w3⟩ := hwc k hk
      rw [← q, s1] at w1
      have := Option.some.inj w1
      subst this
      have hi : i < L := by rw [← s4]; exact (Array.getElem?_eq_some_iff.mp w3).1
      rw [s5 i hi] at w3
      cases w3
    · obtain ⟨cl, w1, w2, -⟩ := hwc k hk
      rw [← q, ca1] at w1
      have := Option.some.inj w1
      subst this
      have := lx_fc ca4 w2
      exact absurd this (by decide)
  have X : mj_X p l e room_1 s m #[Value.ref b] below meth c RL cL_law (some .boolean) D dA s.heap.size 7 3000 60000 lx_Q :=
    ⟨⟨hx, hcb, hml, hret, hown⟩, fun w hw => hts w (mj_tb_good w hw).1, hlocks, hK, ⟨Nat.le_refl _, hEW dA hd1 hd2⟩, by decide, by decide, by decide, by decide⟩
  have hBb : ¬ s.heap.size ≤ b := by omega
  have g := mj_snd X (T := mj_tab) (C := mj_R mj_tab 40) (full := mj_law) (ini := false) (d := 40) (fun q => by cases q) ⟨by decide, by decide⟩ mj_w_arr mj_w_oi mj_w_oc mj_w_lib (fun y => mj_cm_of (mj_all y)) (fun y av G M Q h => mj_met mj_all 40 y av G M Q h) (fun i x hx => law_ck hx)
  have row : ∀ {i : Nat} {x : mj_E} {rest : List mj_E}, x :: rest = mj_law.drop i → mj_law[i]? = some x ∧ rest = mj_law.drop (i + 1) := fun {i x rest} h => by
    have h1 : (mj_law.drop i)[0]? = some x := by rw [← h]; rfl
    rw [List.getElem?_drop] at h1
    have h2 : (mj_law.drop i).drop 1 = rest := by rw [← h]; rfl
    rw [List.drop_drop] at h2
    exact ⟨h1, by rw [← h2, Nat.add_comm]⟩
  have at_ : ∀ {i : Nat} {x : mj_E}, mj_law[i]? = some x → mj_pc mj_law i = x.2.1 := fun {i x} h => by unfold mj_pc; rw [h]
  have nx : ∀ {i : Nat} {x : mj_E}, mj_law[i]? = some x → mj_ends x.1 = false → decode cL_law x.2.1 = .ok (x.1, mj_lx x) ∧ mj_pc mj_law (i + 1) = x.2.1 + mj_lx x := fun {i x} h he => by
    have hck := law_ck h
    unfold mj_cb at hck
    rw [Bool.and_eq_true, Bool.and_eq_true] at hck
    obtain ⟨⟨h1, h2⟩, -⟩ := hck
    rw [he, Bool.false_or] at h2
    exact ⟨of_decide_eq_true h1, of_decide_eq_true h2⟩
  have hz : lv_Z (fun rest L st G M cb sb => ∀ i, rest = mj_law.drop i → mj_J X (mj_pc mj_law i) L st G M cb sb) b L (fun k => (xs k).toInt) := by
    refine ⟨g, ?_, ?_, ?_⟩
    · intro pc aux im rest L' st G M cb sb z h0 h1 kk i hi
      obtain ⟨r1, r2⟩ := row hi
      obtain ⟨d1, d2⟩ := nx r1 rfl
      rw [at_ r1]
      have kk2 := kk (i + 1) r2
      rw [d2] at kk2
      exact lx_iald X hX hbl hBb h0 h1 d1 kk2
    · intro pc aux im rest L' st G M cb sb kk i hi
      obtain ⟨r1, r2⟩ := row hi
      obtain ⟨d1, d2⟩ := nx r1 rfl
      rw [at_ r1]
      have kk2 := kk (i + 1) r2
      rw [d2] at kk2
      exact lx_alen X hX hbl hBb hL d1 kk2
    · intro k pc im rest L' st G M cb sb a q0 p0 p1 hI ha hq0 h8 h1 h2 kk i hi
      obtain ⟨r1, r2⟩ := row hi
      obtain ⟨d1, d2⟩ := nx r1 rfl
      have hk : k = 38 := by
        have := List.all_eq_true.mp law_td _ (List.mem_of_getElem? r1)
        exact sx_beq this
      rw [hk] at d1
      rw [at_ r1]
      obtain ⟨b0, c0, tl, hp⟩ := td_Pre.of hI ha
      refine lx_told X hlt hS4 ⟨by decide, by decide⟩ d1 hp hq0 h8 h1 h2 (fun z M' hpt e1 e2 e3 => ?_)
      have kk2 := kk b0 c0 tl z M' hp hpt e1 e2 e3 (i + 1) r2
      rw [d2] at kk2
      exact kk2
  have hE : sz_E (sz_e b dA) (fun rest L st G M cb sb => ∀ i, rest = mj_law.drop i → mj_J X (mj_pc mj_law i) L st G M cb sb) := by
    intro w h L1 L' rest G M cb sb h0 hr hR hL1 k1 k2 hc1 hc2 i hi
    have hi13 : i = 13 := by
      rw [hi, List.length_drop, law_len] at hr
      omega
    subst hi13
    intro H locs ls cells slots hH hS hLO hst hc hs
    obtain ⟨⟨v5, v6, eL⟩, hn, hV, ⟨z1, z2⟩, hO, hK0, hk0⟩ := sz_head hR h0 hL1 k1 k2 hH.2.1.2
    obtain ⟨h6, hby⟩ := sz_head2 hR k2
    obtain ⟨hA9, hB9, hN9, hG9⟩ := sz_head3 hR k2
    obtain ⟨h9a, h9b, h9c⟩ := sz_head6 hR k2
    have J := lp_loop hz (fun k => mj_rng (xs k)) hL hO 512 0 (sz_M w h G M) v5 v6 cb sb (Int.le_refl 0) (by decide) (by omega) (by omega) (by omega) ⟨⟨⟨hV, z1.trans z2.symm⟩, h6, hby⟩, hK0, fun k hk => (hk0 k hk).1.trans (hk0 k hk).2.symm, ⟨hA9, hB9, 30, 75, hN9, h9a, fun k hk h0 => absurd (hk0 k hk).1 h0⟩, ⟨h9b, fun k hk h0 => absurd (hk0 k hk).2 h0⟩, h9c⟩ 13 rfl
    rw [eL] at hLO
    exact J H locs ls cells slots (sz_mjH hH h0 hn) hS hLO hst hc hs
  have hj := sz_ex_s (q := sz_e b dA) 2374 _ _ _ _ _ _ _ _ _ _ sz_go (0, fun _ => 0, 26, sz_e b dA) (mj_en [.inr (.inr (some b))] 7) [] (lx_G b al ad) (lx_M al ad) lx_Q (fun rest L st G M cb sb => ∀ i, rest = mj_law.drop i → mj_J X (mj_pc mj_law i) L st G M cb sb) ⟨g, fun _ => hE⟩
    ⟨_, _, rfl, ⟨some b, rfl, (show 0 < 26 by decide), rfl⟩, sx_rep_s 6⟩ rfl ⟨fun _ _ => rfl, Nat.le_refl _, fun _ _ => rfl⟩ (lx_RH hap hd1 hd2) ⟨rfl, fun i q hq => by cases hq⟩ 0 rfl
  rw [law_p0] at hj
  have hls := lv_entry ((([.inr (.inr (some b))] : List mj_V)).map mj_val) (n := 7) (show 1 ≤ 7 by decide)
  have hw := hj s.heap [] _ 0 0 (lx_H hap hbl hadl hd1 hd2 ca1 ca2 ca3 hcls ca5 ca6) va_S.rf ⟨by rw [mj_en_asc]; exact hls, mj_en_len _ _ (show 1 ≤ 7 by decide), fun j v hv => mj_en_ok _ _ j v (fun w hw => by rcases List.mem_cons.mp hw with rfl | hw; exact trivial; cases hw) hv⟩ (fun v hv => by cases hv) (by decide) (by decide)
  have he : entryFrame m ([Value.ref b] : List Value).toArray 7 = F0 m 0 ((lg_sl ((([.inr (.inr (some b))] : List mj_V)).map mj_val) ++ List.replicate (7 - (lg_sl ((([.inr (.inr (some b))] : List mj_V)).map mj_val)).length) Slot.unset).toArray) [] := lg_entry_eq m [Value.ref b] 7
  rw [he]
  intro T hT XS
  obtain ⟨t, a1, o, b1, b2, ⟨r, G', M', ho, rfl, -, -, -, -⟩, Ls, ⟨f1, f2, f3⟩, hfree⟩ := hw T hT XS
  refine ⟨t, a1, o, b1, b2, ho, f1, f2, f3.weaken (fun y hy hlt' => ?_) (by decide) (by decide)⟩
  exact absurd hlt' (Nat.not_lt.mpr (hfree y hy))
set_option maxHeartbeats 4000000 in
theorem lw_walk (l : Launch) (hlt : l.stackTraces = false) (b : Addr) (xs : List Int32) : MetFree l x (headSpec (Jvm.Cond.code x code maxLocals ret :: tables_1) room_1) (lw_P b xs) (fun _ _ _ _ _ => True) lw_Q := by
  refine MetFree.of_bodyS (code := code) (maxLocals := maxLocals) (ret := ret) (by decide) ?_ ?_
  · intro args s m h hn
    obtain ⟨meth, c, h1, h2, h3, h4, h5, h6, -, -⟩ := Cond.code_spec hn (atoms_spec (ws := Jvm.Cond.code x code maxLocals ret :: tables_1) h _ List.mem_cons_self)
    exact ⟨meth, c, h1, h2, h3, h4, h5, h6⟩
  · intro p e s m args below meth c s₁ B hml0 hP _
    obtain ⟨rfl, hx, hbd, hgv⟩ := hP
    obtain ⟨scr, harrAt, hlist, hof, hsmall⟩ := hx
    obtain ⟨hcb, hkn, -, -⟩ := State.arrayAt?_spec harrAt
    have hown : s.vm.findClass R_law = some m.cls := findClass_of_methodNamed B.named
    have hts0 : ∀ c ∈ (Jvm.Cond.code x code maxLocals ret :: tables_1), c.before #[Value.ref b] s = true := atoms_spec (ws := Jvm.Cond.code x code maxLocals ret :: tables_1) B.pre
    have hts : ∀ w ∈ lw_tbl, w.before #[Value.ref b] s = true := k2_hts_sels lw_privs (fun w hw => hts0 w (List.mem_cons_of_mem _ hw)) lw_privs_ok
    have hml : c.maxLocals = 7 := B.maxLocals_eq (hts0 _ List.mem_cons_self)
    have X₀ : Stand p l e room_1 s m #[Value.ref b] below meth c s₁ [] 0 0 := Stand.of_body B
    have hh0 : s₁.heap = s.heap := by rw [B.state]; rfl
    have hsz : scr.slots.size = xs.length := by rw [← Array.length_toList, hlist, List.length_map]
    have hval : ∀ j : Nat, j < xs.length → scr.slots[j]? = some (.int (xs.getD j 0)) := fun j hj => by
      rw [← Array.getElem?_toList, hlist]
      simp [hj]
    have hbl : b < s.heap.size := (Array.getElem?_eq_some_iff.mp hcb).1
    have hX : va_X b xs.length (fun j => xs.getD j 0) s s.heap := ⟨scr, hcb, hof, hkn, hsz, hval⟩
    have K : W p l e room_1 s m #[Value.ref b] below meth c s₁.heap [] 0 0 (lw_Z below #[Value.ref b] s) (entryFrame m ([Value.ref b] : List Value).toArray 7) := by
      rw [hh0]
      exact whole_start l hlt hbd ⟨B.exec, B.bytes, B.returns, hml, hown, hts, hX, hbl, B.notSynchronized, hgv⟩
    obtain ⟨t, a1, o, b1, b2, b3⟩ := K s₁ rfl X₀
    exact ⟨t, o, a1, b1, b2, b3⟩
theorem lw_pre_spec {args : Array Value} {s : State} (h : (Jvm.Cond.and given_1 narrow_1).before args s = true) (hr : rest_1_c.before args s = true) : ∃ (b : Addr) (xs : List Int32), lw_P b xs args s := by
  have hs := flat_of_before _ h
  have hq := flat_of_before _ hr
  have hc : (Cond.count 1).before args s = true := hs _ (by decide +kernel)
  have harr : (Cond.arrayOf (.arg 0) .int).before args s = true := hs _ (by decide +kernel)
  have hle : (Cond.le (.length (.arg 0)) (.int 3072)).before args s = true := hs _ (by decide +kernel)
  have hlen : (Cond.isInt (.length (.arg 0))).before args s = true := hq _ (by decide +kernel)
  have hall : (Cond.all (.arg 0) (.isInt (.elem (.arg 0) (.index 0)))).before args s = true := hq _ (by decide +kernel)
  obtain ⟨b, xs, hb, hx⟩ := State.ints_of_pre rfl harr hlen hall
  have hsm : xs.length < 2 ^ 31 := hx.choose_spec.2.2.2
  have hev : (Term.length (.arg 0)).eval args s none [] s = some (.int xs.length.toInt32) := hx.length_eval hb
  have hv := Cond.le_ints hev (show (Term.int 3072).eval args s none [] s = some (.int 3072) from rfl)
  have hd : xs.length.toInt32 ≤ 3072 := by
    simpa [Cond.before, Cond.holds, hv] using hle
  have hN : xs.length ≤ 3072 := (Int32.ofNat_le_ofNat hsm (by decide)).mp (show Int32.ofNat xs.length ≤ Int32.ofNat 3072 from hd)
  exact ⟨b, xs, Cond.one_arg hc (show args[0]? = some (.ref b) from hb), hx, hN, h⟩
theorem lw_comes (l : Launch) (hlt : l.stackTraces = false) : Comes l x (Jvm.Cond.code x code maxLocals ret :: tables_1) room_1 (fun tb e args s => Calls_1 tb e args s ∧ rest_1 tb e args s ∧ Pre_1 tb e args s)
    (fun _ _ args s o t => lw_Q args s o t) := by
  intro p e ha hc hk s m args below hf hfit hheap happ hpre
  obtain ⟨b, xs, hP⟩ := lw_pre_spec hpre.2.2 hpre.2.1
  obtain ⟨k, o, h1, h2, h3, hQ⟩ := lw_walk l hlt b xs p e ha hc hk s m args below hf ((Spec.applies_iff_loose hf).mp happ).1 hP trivial
  exact ⟨k, o, h1, h2, h3, hQ⟩
theorem lw_frame {s t : State} {o : Outcome} {args : Array Value} (h : Framed s o t [] 601024 7293034) :
    Framed s o t (fieldLocs frame_1_writes args s ++ arrayLocs frame_1_arrays args s ++ staticLocs frame_1_statics s) 601024 7293034 := h
theorem lw_limb (L : Cond) (hL : ∀ (args : Array Value) (s t : State), L.after args s (.returned (some (.int 1))) t = true) :
    ArmFor flags0 classFile x code maxLocals ret World_1 tables_1 room_1 Calls_1 rest_1 Pre_1
      (fun tb e a s o t => postC L tb e a s o t ∧ Framed s o t (fieldLocs frame_1_writes a s ++ arrayLocs frame_1_arrays a s ++ staticLocs frame_1_statics s) 601024 7293034) := by
  intro l hfl _ _ p e ha hc hk s m args below hf hfit hheap happ hpre
  have hlt : l.stackTraces = false := by unfold Launch.stackTraces; rw [hfl]; decide
  obtain ⟨k, o, h1, h2, h3, rfl, hF⟩ := lw_comes l hlt p e ha hc hk s m args below hf hfit hheap happ hpre
  exact ⟨k, _, h1, h2, h3, hL args s _, lw_frame hF⟩
theorem i_vc : Claimed_1_1 ∧ Claimed_1_2 := ⟨lw_limb limb_1_1 (fun args s t => by simp [limb_1_1, Cond.after, Cond.holds, Cond.value]), lw_limb limb_1_2 (fun args s t => Cond.after_iff.mpr (by
  first | (rw [show limb_1_2 = Cond.eq .result (.int 1) from rfl, Cond.eq_ints (x := 1) (y := 1) rfl rfl]; simp; done) | (simp [limb_1_2, Cond.value, Term.eval]; done)))⟩
