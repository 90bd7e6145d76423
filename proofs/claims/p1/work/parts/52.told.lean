/-! ===== told of a fresh object throws, and the law's told answers 1 ===== -/
def td_ng : List Cond := (td_own.filter vx_no).filter (fun w => !goodWord w)
def td_S (B sa : Nat) (U : State) : Prop := vk_R RX11 151 td_tx sa U ∧ vx_Zq Bundle.tN "UNASSIGNED_STACK" Bundle.steD (fun q => B ≤ q) U U.heap ∧ vx_Zq Bundle.tN "SUPPRESSED_SENTINEL" Bundle.listD (fun q => B ≤ q) U U.heap ∧ va_Nw (.castable td_E td_E) U ∧ ∀ w ∈ td_ng, va_Nw w U
theorem td_w0 : ∀ w ∈ (td_own.filter vx_no).filter goodWord, w ∈ lw_tbl := by decide +kernel
theorem td_w1 : ∀ w ∈ (td_own.filter vx_no).filter goodWord, w ∈ mj_tb := fun w hw => List.mem_filter.mpr ⟨td_w0 w hw, (List.mem_filter.mp hw).2⟩
def td_cd (w : Cond) : Bool := match w with
  | .castable _ _ => true
  | .declares _ => true
  | _ => false
theorem td_ngc : ∀ w ∈ td_ng, td_cd w = true := by decide +kernel
theorem td_ng_in : ∀ w ∈ td_ng, w ∈ lw_tbl ∨ w = Cond.castable td_E td_E := by decide +kernel
theorem td_cd_on {w : Cond} (h : td_cd w = true) : w.onTables = true := by
  cases w <;> first | rfl | cases h
theorem td_cd_warm {w : Cond} {s U : State} (h : td_cd w = true) (hW : s.WarmedH U.vm) (hZ : va_Nw w s) : va_Nw w U := by
  cases w <;> first | exact va_Nw.warmC hW hZ | exact va_Nw.warmD hW hZ | cases h
theorem td_w2 : ∀ w ∈ Cond.classLink RX11 149 td_E :: Cond.initialized td_E :: td_own.filter vx_no, vx_ot w = true := by decide +kernel
theorem td_w3 : Cond.classLink RX11 149 td_E ∈ mj_tb ∧ Cond.initialized td_E ∈ mj_tb ∧ Cond.classLink RL 13 td_E ∈ mj_tb := by decide +kernel
theorem td_w4 : Cond.methodLink RX11 145 yX11_isTown ∈ mj_tb ∧ Cond.instanceMethod yX11_isTown ∈ mj_tb ∧ Cond.selects RX11 yX11_isTown yX11_isTown ∈ mj_tb ∧ Cond.initialized RX11 ∈ mj_tb ∧ Cond.code yX11_isTown cX11_isTown 2 (some .boolean) ∈ mj_tb := by decide +kernel
theorem td_w5 : Cond.methodLink RL 7 yX11_told ∈ mj_tb ∧ Cond.instanceMethod yX11_told ∈ mj_tb ∧ Cond.selects RX11 yX11_told yX11_told ∈ mj_tb ∧ Cond.code yX11_told cX11_told 3 (some .int) ∈ mj_tb := by decide +kernel
theorem td_w6 : Cond.methodLink RL 38 yL_told ∈ mj_tb ∧ Cond.static yL_told ∈ mj_tb ∧ Cond.initialized RL ∈ mj_tb ∧ Cond.codeWith yL_told cL_told 5 (some .int) [(0, 10, 13, 13)] ∈ mj_tb := by decide +kernel
def td_Pre (G : mj_G) (M : mj_M) (a : Nat) : Prop := ∃ b c t1 t2 t3 n1 n2 n3, G a = (t1, n1) ∧ t1 % 1000 = 11 ∧ M.2.2 a 1 = some b ∧ G b = (t2, n2) ∧ t2 % 1000 = 7 ∧ M.2.2 b 0 = some c ∧ G c = (t3, n3) ∧ t3 % 1000 = 4 ∧ M.1 c 4 = 0
theorem r_isTown {d a : Nat} {p0 : Int} {G : mj_G} {M : mj_M} {Q : mj_P} (hp : td_Pre G M a) (h : Q (some (.inl 0)) G M) : mj_R mj_tab (d + 1) n_X11_isTown [.inr (.inr (some a)), .inl p0] G M Q := by
  obtain ⟨b, c, t1, t2, t3, n1, n2, n3, g1, e1, m1, g2, e2, m2, g3, e3, m3⟩ := hp
  refine ⟨Nat.le_refl 2, mj_W.run (mj_R_mo _ _) 20 ?_⟩
  refine And.intro (fun c1 => ?_) (fun c1 => ?_)
  · exact ⟨rfl, fun _ => Or.inl rfl, h⟩
  · refine And.intro (List.cons_ne_nil _ _) ⟨t1, n1, g1, e1, fun b' hb => ?_, fun hb => ?_⟩
    · cases m1.symm.trans hb
      refine And.intro (List.cons_ne_nil _ _) ⟨t2, n2, g2, e2, fun c' hc => ?_, fun hc => ?_⟩
      · cases m2.symm.trans hc
        refine And.intro (List.cons_ne_nil _ _) ⟨t3, n3, g3, e3, ?_⟩
        refine And.intro (fun c2 => ?_) (fun c2 => ?_)
        · exact ⟨rfl, fun _ => Or.inl rfl, h⟩
        · exfalso
          have c1 : ¬ p0 < 0 := c1
          have c2 : ¬ M.1 c 4 ≤ p0 := c2
          rw [m3] at c2
          omega
      · cases m2.symm.trans hc
    · cases m1.symm.trans hb
theorem mj_H.grow {D : va_G} {dA : Nat → ClassId} {B : Nat} {G : mj_G} {M : mj_M} {H H' : Heap} (h : mj_H D dA B G M H) (h1 : H.size ≤ H'.size) (h2 : ∀ q : Nat, q < H.size → H'[q]? = H[q]?) : mj_H D dA B G M H' := by
  refine ⟨h.1, fun x hx => h.2.1 x (by omega), fun x t n hx ht => ?_⟩
  have hlt : x < H.size := by
    rcases Nat.lt_or_ge x H.size with q | q
    · exact q
    · have := h.2.1 x q
      rw [hx] at this
      exact absurd (Prod.mk.inj this).1 ht
  obtain ⟨g0, g1, g2⟩ := h.2.2 x t n hx ht
  exact ⟨g0, fun ci r e1 e2 => (g1 ci r e1 e2).kept (h2 x hlt), fun j e => by rw [h2 x hlt]; exact g2 j e⟩
def td_Pc (D : va_G) (dA : Nat → ClassId) (B sa : Nat) (av : List mj_V) (G : mj_G) (M : mj_M) : Array Value → State → Prop := va_Pc (av.map mj_val) (fun U => (mj_H D dA B G M U.heap ∧ mj_K D dA U ∧ (∀ v ∈ av, mj_ok v) ∧ B ≤ U.heap.size) ∧ td_S B sa U)
theorem td_blind {D : va_G} {dA : Nat → ClassId} {B sa : Nat} {av : List mj_V} {G : mj_G} {M : mj_M} : FrameBlind (td_Pc D dA B sa av G M) := by
  intro a U g mk q
  obtain ⟨q0, ⟨q1, q2, q3, q4⟩, q5, q6, q7, q8, q9⟩ := q
  exact ⟨q0, ⟨q1, mj_K.moved (u := U) (U := U.calling g mk a) (Vm.Alike.refl U.vm) q2, q3, q4⟩, vk_R.same (u := U) rfl q5, vx_Zq.moved (u := U) (Vm.Alike.refl U.vm) q6, vx_Zq.moved (u := U) (Vm.Alike.refl U.vm) q7, va_Nw.same rfl (u := U) rfl q8, fun w hw => va_Nw.same (td_cd_on (td_ngc w hw)) (u := U) rfl (q9 w hw)⟩
theorem td_S.kept {B sa : Nat} {s U : State} {H : Heap} {locs : List Loc} (h : td_S B sa s) (hS : va_S (fun q => B ≤ q) s.heap H locs) (hU : U.heap = H) (hW : s.WarmedH U.vm) : td_S B sa U :=
  ⟨vk_R.warm hW h.1, by rw [hU]; exact vx_Zq.moved hW.alike (h.2.1.kept hS.2.1), by rw [hU]; exact vx_Zq.moved hW.alike (h.2.2.1.kept hS.2.1), va_Nw.warmC hW h.2.2.2.1, fun w hw => td_cd_warm (td_ngc w hw) hW (h.2.2.2.2 w hw)⟩
def td_X (D : va_G) (dA : Nat → ClassId) (B : Nat) (G : mj_G) (M : mj_M) : String → State → State → Prop := fun E st t => E = td_E ∧ mj_H D dA B G M t.heap ∧ mj_K D dA t ∧ va_F (fun q => B ≤ q) st t
theorem td_obj {D : va_G} {dA : Nat → ClassId} {B : Nat} {G : mj_G} {M : mj_M} {s : State} {H : Heap} {a ci t n : Nat} {r : vw_C} (hH : mj_H D dA B G M H) (hK : mj_K D dA s) (hG : G a = (t, n)) (ht : t % 1000 = ci + 1) (hr : vwCl[ci]? = some r) : ∃ cellB : Cell, H[a]? = some cellB ∧ cellB.vm.isStatics = false ∧ s.vm.findClass r.1 = some cellB.cls := by
  obtain ⟨-, g1, -⟩ := hH.2.2 a t n hG (mj_ne ht)
  obtain ⟨cell, q1, q2, q3, q4⟩ := g1 ci r ht hr
  obtain ⟨hSl, hfc, -⟩ := id (hK.1 ci r hr)
  exact ⟨cell, q1, by rw [q3]; rfl, by rw [q2]; exact hfc⟩
set_option maxHeartbeats 2000000 in
theorem td_x {l : Launch} (hl : l.stackTraces = false) {D : va_G} {dA : Nat → ClassId} {B sa a : Nat} {p0 p1 : Int} {G : mj_G} {M : mj_M} (hp : td_Pre G M a) : vx_Met l yX11_told (.code yX11_told cX11_told 3 (some .int) :: mj_tb) (mj_rm 9 (1, 6)) (td_Pc D dA B sa [.inr (.inr (some a)), .inl p0, .inl p1] G M) (fun _ _ _ _ => False) (td_X D dA B G M) 1 6 (fun q => B ≤ q) := by
  refine vx_ofW (cc := cX11_told) (maxL := 3) (ret := some .int) (by decide) rfl ?_
  intro p e s m args below meth c s₁ Bd hml hnx hv
  obtain ⟨rfl, ⟨hH, hK, hok, hB⟩, hstr, hU, hN, hcs, hng⟩ := hv
  have hts := atoms_spec (ws := Cond.code yX11_told cX11_told 3 (some .int) :: mj_tb) Bd.pre
  have htb : ∀ w ∈ mj_tb, w.before _ s = true := fun w hw => hts w (List.mem_cons_of_mem _ hw)
  have hown : s.vm.findClass RX11 = some m.cls := findClass_of_methodNamed Bd.named
  rw [lg_entry_eq]
  have hls := lv_entry ((([.inr (.inr (some a)), .inl p0, .inl p1] : List mj_V)).map mj_val) (n := 3) (Nat.le_refl 3)
  generalize ((lg_sl ((([.inr (.inr (some a)), .inl p0, .inl p1] : List mj_V)).map mj_val) ++ List.replicate (3 - (lg_sl ((([.inr (.inr (some a)), .inl p0, .inl p1] : List mj_V)).map mj_val)).length) Slot.unset).toArray) = ls at hls ⊢
  have h0 : ls[0]? = some (.val (.ref a)) := lv_at hls 0 rfl
  have h1 : ls[1]? = some (.val (.int (Int32.ofInt p0))) := lv_at hls 1 rfl
  refine lv_aload_n (k := 0) Bd.exec Bd.bytes (by decide +kernel) rfl h0 ?_
  refine lv_iload_n (k := 1) Bd.exec Bd.bytes (by decide +kernel) rfl h1 ?_
  have hgood : GoodIn mj_tb (wsV RX11 145 RX11 yX11_isTown (.code yX11_isTown cX11_isTown 2 (some .boolean) :: mj_tb)) := mj_good fun w hw => by
    simp only [wsV, List.cons_append, List.nil_append, List.mem_cons] at hw
    rcases hw with rfl | rfl | rfl | rfl | rfl | hw
    · exact td_w4.1
    · exact td_w4.2.1
    · exact td_w4.2.2.1
    · exact td_w4.2.2.2.1
    · exact td_w4.2.2.2.2
    · exact hw
  obtain ⟨b, c0, t1, t2, t3, n1, n2, n3, g1, e1, m1, g2, e2, m2, g3, e3, m3⟩ := id hp
  have hM : Met l yX11_isTown (.code yX11_isTown cX11_isTown 2 (some .boolean) :: mj_tb) (mj_rm 2 (0, 0)) (mj_Pc D dA B [.inr (.inr (some a)), .inl p0] G M) (mj_Q D dA B (fun r G' M' => r = some (.inl 0) ∧ G' = G ∧ M' = M)) 0 0 (fun q => B ≤ q) := mj_met mj_all 2 n_X11_isTown _ G M _ (r_isTown hp ⟨rfl, rfl, rfl⟩)
  have hr := va_runV (R := (mj_rm 9 (1, 6))) (As := [Value.int (Int32.ofInt p0)]) (rest := []) (b := a) (H := s.heap) (locs := []) (cells := 0) (slots := 0) (g := F0 m 2 ls [Value.int (Int32.ofInt p0), Value.ref a]) (below := below) (meth := meth) (e := e) ⟨Bd.exec, Bd.bytes, hml, hown, htb⟩ hM
    (cwV 1 htb hgood rfl rfl rfl ⟨rfl, by decide, by decide, by decide⟩ ⟨by decide, by decide⟩) ⟨mj_blind, td_obj (ci := 10) hH hK g1 e1 rfl, fun U hU hW => ⟨rfl, by rw [hU]; exact hH, mj_K.moved hW.alike hK, fun v hv => hok v (by rcases List.mem_cons.mp hv with rfl | hv <;> simp_all), by rw [hU]; exact hB⟩⟩ rfl rfl hls.1 rfl (Nat.zero_le 8) (show decode cX11_told 2 = .ok (.invokevirtual 145, 3) from by decide +kernel) ⟨by decide, by decide⟩
  intro T hT XS
  obtain ⟨v, st₀, t, T', L', h00, X', hL', x1, x2, ⟨r, G', M', hv, ⟨rfl, rfl, rfl⟩, hok', hH', hK', hz, hk⟩, stp⟩ := hr T hT XS
  obtain rfl : v = some (.int 0) := Outcome.returned.inj hv
  rw [h00] at hz hk
  have hS' : va_S (fun q => B ≤ q) s.heap T'.heap ([] ++ L') := ⟨by rw [x1]; exact hz, fun q h1 h2 => by rw [x1]; exact hk q h1 h2, fun q hq => by
      rcases List.mem_append.mp hq with h | h
      · cases h
      · exact hL' q h⟩
  have hH9 : mj_H D dA B G' M' T'.heap := by rw [x1]; exact hH'
  have K : W p l e (mj_rm 9 (1, 6)) s m (List.map mj_val [.inr (.inr (some a)), .inl p0, .inl p1]).toArray below meth c T'.heap ([] ++ L') (0 + 0) (0 + 0) (vx_MQ below (fun _ _ _ _ => False) (td_X D dA B G' M') (List.map mj_val [.inr (.inr (some a)), .inl p0, .inl p1]).toArray s 1 6 (fun q => B ≤ q)) (F0 m 5 ls [.int 0]) := by
    refine lv_if_eq (tgt := 18) Bd.exec Bd.bytes (off := 13) (by decide +kernel) (by decide) (fun _ => ?_) (fun q => absurd rfl q)
    refine td_throw (sa := sa) (A := fun q => B ≤ q) Bd.exec Bd.bytes hl hown (htb _ td_w3.1) (htb _ td_w3.2.1) hstr (vx_hat (B := td_ng) (fun w hw => htb w (td_w1 w hw)) (fun w hw => hw) (fun w hw => va_Nw.use (td_cd_on (td_ngc w hw)) (hng w hw))) td_w2 hU hN hS' (hls.1.trans hml.symm) (by decide +kernel) (by decide +kernel) (by decide +kernel) (by decide +kernel) (by decide +kernel)
      (fun x hx => (hnx x hx).elim) (by decide) (by decide) (by decide) (by decide) Bd.notSynchronized (fun t hal h1 h2 => ⟨rfl, hH9.grow h1 h2, mj_K.moved hal hK, Nat.le_trans hS'.1 h1, fun q q1 q2 => by rw [h2 q (Nat.lt_of_lt_of_le q1 hS'.1)]; exact hS'.2.1 q q1 q2⟩) hS'.2.2 (by decide) (by decide)
  obtain ⟨t2, a1, b1⟩ := K T' rfl X'
  exact ⟨t2, stp t2 a1, b1⟩
theorem td_cov : covers { startPc := 0, endPc := 10, handlerPc := 13, catchType := 13 } 5 = true := by decide
set_option maxHeartbeats 2000000 in
theorem td_l {l : Launch} (hl : l.stackTraces = false) {D : va_G} {dA : Nat → ClassId} {B sa a : Nat} {p0 p1 : Int} {o : Option Nat} {G : mj_G} {M : mj_M} (hp : td_Pre G M a) : Met l yL_told (.codeWith yL_told cL_told 5 (some .int) [(0, 10, 13, 13)] :: mj_tb) (mj_rm 12 (4, 64)) (td_Pc D dA B sa [.inr (.inr (some a)), .inl p0, .inl p1, .inr (.inr o)] G M) (mj_Q D dA B (fun r G' M' => r = some (.inl 1) ∧ G' = G ∧ M' = M)) 4 64 (fun q => B ≤ q) := by
  refine va_MetW (cc := cL_told) (maxL := 5) (ret := some .int) (hh := [(0, 10, 13, 13)]) (by decide) rfl ?_
  intro p e s m args below meth c s₁ Bd hml hv
  obtain ⟨rfl, ⟨hH, hK, hok, hB⟩, hS4⟩ := hv
  have hts := atoms_spec (ws := Cond.codeWith yL_told cL_told 5 (some .int) [(0, 10, 13, 13)] :: mj_tb) Bd.pre
  have htb : ∀ w ∈ mj_tb, w.before _ s = true := fun w hw => hts w (List.mem_cons_of_mem _ hw)
  have htab : c.exceptionTable.toList = tableOf [(0, 10, 13, 13)] := vx_table (x := yL_told) Bd (hts _ List.mem_cons_self)
  have hown : s.vm.findClass RL = some m.cls := findClass_of_methodNamed Bd.named
  rw [lg_entry_eq]
  have hlen : (lg_sl ((([.inr (.inr (some a)), .inl p0, .inl p1, .inr (.inr o)] : List mj_V)).map mj_val)).length ≤ 5 := by rw [mj_wd_eq]; show 4 ≤ 5; decide
  have hls := lv_entry ((([.inr (.inr (some a)), .inl p0, .inl p1, .inr (.inr o)] : List mj_V)).map mj_val) (n := 5) hlen
  generalize ((lg_sl ((([.inr (.inr (some a)), .inl p0, .inl p1, .inr (.inr o)] : List mj_V)).map mj_val) ++ List.replicate (5 - (lg_sl ((([.inr (.inr (some a)), .inl p0, .inl p1, .inr (.inr o)] : List mj_V)).map mj_val)).length) Slot.unset).toArray) = ls at hls ⊢
  have h0 : ls[0]? = some (.val (.ref a)) := lv_at hls 0 rfl
  have h1 : ls[1]? = some (.val (.int (Int32.ofInt p0))) := lv_at hls 1 rfl
  have h2 : ls[2]? = some (.val (.int (Int32.ofInt p1))) := lv_at hls 2 rfl
  have h3 : ls[3]? = some (.val (va_rf o)) := by
    cases o with
    | none => exact lv_at hls 3 rfl
    | some q => exact lv_at hls 3 rfl
  have first : W p l e (mj_rm 12 (4, 64)) s m (List.map mj_val [.inr (.inr (some a)), .inl p0, .inl p1, .inr (.inr o)]).toArray below meth c s.heap [] 0 0 (MQ below (mj_Q D dA B (fun r G' M' => r = some (.inl 1) ∧ G' = G ∧ M' = M)) (List.map mj_val [.inr (.inr (some a)), .inl p0, .inl p1, .inr (.inr o)]).toArray s 4 64 (fun q => B ≤ q)) (F0 m 1 ls [va_rf o]) := by
    refine lv_iconst (n := 0) Bd.exec Bd.bytes (by decide +kernel) rfl ?_
    refine lv_aload_n (k := 0) Bd.exec Bd.bytes (by decide +kernel) rfl h0 ?_
    refine lv_iload_n (k := 1) Bd.exec Bd.bytes (by decide +kernel) rfl h1 ?_
    refine lv_iload_n (k := 2) Bd.exec Bd.bytes (by decide +kernel) rfl h2 ?_
    have hgood : GoodIn mj_tb (wsV RL 7 RX11 yX11_told (.code yX11_told cX11_told 3 (some .int) :: mj_tb)) := mj_good fun w hw => by
      simp only [wsV, List.cons_append, List.nil_append, List.mem_cons] at hw
      rcases hw with rfl | rfl | rfl | rfl | rfl | hw
      · exact td_w5.1
      · exact td_w5.2.1
      · exact td_w5.2.2.1
      · exact td_w4.2.2.2.1
      · exact td_w5.2.2.2
      · exact hw
    obtain ⟨b, c0, t1, t2, t3, n1, n2, n3, g1, e1, m1, g2, e2, m2, g3, e3, m3⟩ := id hp
    have hcat : ∀ o : Option Nat, (va_rf o).category = 1 := fun o => by cases o <;> rfl
    have hr := vx_runV (R := (mj_rm 12 (4, 64))) (As := [Value.int (Int32.ofInt p0), Value.int (Int32.ofInt p1)]) (rest := [Value.int 0, va_rf o]) (b := a) (H := s.heap) (locs := []) (cells := 0) (slots := 0) (g := F0 m 5 ls [Value.int (Int32.ofInt p1), Value.int (Int32.ofInt p0), Value.ref a, Value.int 0, va_rf o]) (below := below) (meth := meth) (e := e) ⟨Bd.exec, Bd.bytes, hml, hown, htb⟩ (td_x (D := D) (dA := dA) (B := B) (sa := sa) (p0 := p0) (p1 := p1) hl hp)
      (cwV 2 htb hgood rfl rfl rfl ⟨rfl, by decide, by decide, by decide⟩ ⟨by decide, by decide⟩) ⟨td_blind, td_obj (ci := 10) hH hK g1 e1 rfl, fun U hU hW => ⟨rfl, ⟨by rw [hU]; exact hH, mj_K.moved hW.alike hK, fun v hv => hok v (by
        simp only [List.mem_cons, List.not_mem_nil, or_false] at hv ⊢
        rcases hv with h | h | h <;> simp [h]), by rw [hU]; exact hB⟩, hS4.kept va_S.rf hU hW⟩⟩ rfl rfl hls.1 rfl (by show 2 * 0 + (1 + ((va_rf o).category + 0)) ≤ 8; rw [hcat]; decide) (show decode cL_told 5 = .ok (.invokevirtual 7, 3) from by decide +kernel) ⟨by decide, by decide⟩
    intro T hT XS
    rcases hr T hT XS with ⟨v, st₀, t, T', L', h00, X', hL', x1, x2, hq, stp⟩ | ⟨q, st₀, t, T', L', E, ce, h00, X', hL', x1, x2, hq, hce, hcv, hcl, stp⟩
    · exact hq.elim
    · obtain ⟨rfl, hH', hK', hz, hk⟩ := hq
      rw [h00] at hz hk
      have hS' : va_S (fun q => B ≤ q) s.heap T'.heap ([] ++ L') := ⟨by rw [x1]; exact hz, fun q h1 h2 => by rw [x1]; exact hk q h1 h2, fun q hq => by
          rcases List.mem_append.mp hq with h | h
          · cases h
          · exact hL' q h⟩
      have hH9 : mj_H D dA B G M T'.heap := by rw [x1]; exact hH'
      have K : W p l e (mj_rm 12 (4, 64)) s m (List.map mj_val [.inr (.inr (some a)), .inl p0, .inl p1, .inr (.inr o)]).toArray below meth c T'.heap ([] ++ L') (0 + 1) (0 + 6) (MQ below (mj_Q D dA B (fun r G' M' => r = some (.inl 1) ∧ G' = G ∧ M' = M)) (List.map mj_val [.inr (.inr (some a)), .inl p0, .inl p1, .inr (.inr o)]).toArray s 4 64 (fun q => B ≤ q)) (F0 m 13 ls [.ref q]) := by
        refine lv_astore (i := 4) Bd.exec Bd.bytes (by decide +kernel) hls (by decide) rfl (fun ls' _ => ?_)
        refine lv_iconst (n := 1) Bd.exec Bd.bytes (by decide +kernel) rfl ?_
        refine W.widen (k := 4) (n := 64) (by decide) (by decide) ?_
        exact W.iret Bd.exec Bd.bytes Bd.returns (fun t9 ht9 hW9 => ⟨some (.inl 1), G, M, rfl, ⟨rfl, rfl, rfl⟩, (fun v hv => by cases hv; exact ⟨by decide, by decide⟩), by rw [ht9]; exact hH9, mj_K.moved hW9.alike hK, hS'.F ht9⟩) hS'.2.2 (by decide +kernel) Bd.notSynchronized
      have hcw := vx_catch (own := RL) (name := td_E) (E := td_E) (ce := ce) (q := q) (pc := 5) (rest := [Value.int 0, va_rf o]) (ls := ls) hown [] { startPc := 0, endPc := 10, handlerPc := 13, catchType := 13 } [] (by rw [htab]; rfl) (fun z hz => by cases hz) td_cov (by decide) (htb _ td_w3.2.2) (va_Nw.use rfl hS4.2.2.2.1) (by rw [x1]; exact hce) hcv hcl K
      obtain ⟨t2, a1, b1⟩ := hcw T' rfl X'
      exact ⟨t2, stp.trans a1, b1⟩
  cases o with
  | none => exact lv_aload_nN (k := 3) Bd.exec Bd.bytes (by decide +kernel) rfl h3 first
  | some q => exact lv_aload_n (k := 3) Bd.exec Bd.bytes (by decide +kernel) rfl h3 first
