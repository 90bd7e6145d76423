/-! ===== told: what the class tells, or that it throws; the law's told ===== -/
def td_ng : List Cond := (td_own.filter vx_no).filter (fun w => !goodWord w)
def td_S (B sa : Nat) (U : State) : Prop := vk_R RX11 151 td_tx sa U ∧ vx_Zq Bundle.tN "UNASSIGNED_STACK" Bundle.steD (fun q => B ≤ q) U U.heap ∧ vx_Zq Bundle.tN "SUPPRESSED_SENTINEL" Bundle.listD (fun q => B ≤ q) U U.heap ∧ va_Nw (.castable td_E td_E) U ∧ ∀ w ∈ td_ng, va_Nw w U
theorem td_w0 : ∀ w ∈ (td_own.filter vx_no).filter goodWord, w ∈ lw_tbl := by decide +kernel
theorem td_w1 : ∀ w ∈ (td_own.filter vx_no).filter goodWord, w ∈ mj_tb := fun w hw => List.mem_filter.mpr ⟨td_w0 w hw, (List.mem_filter.mp hw).2⟩
def td_cd (w : Cond) : Bool := match w with
  | .castable _ _ => true
  | .declares _ => true
  | _ => false
theorem td_ngc : ∀ w ∈ td_ng, td_cd w = true := by decide +kernel
theorem td_ng_in : ∀ w ∈ td_ng, w ∈ lw_tbl ∨ w = Cond.castable td_E td_E := by decide +kernel
theorem td_cd_on {w : Cond} (h : td_cd w = true) : w.onTables = true := by
  cases w <;> first | rfl | cases h
theorem td_cd_warm {w : Cond} {s U : State} (h : td_cd w = true) (hW : s.WarmedH U.vm) (hZ : va_Nw w s) : va_Nw w U := by
  cases w <;> first | exact va_Nw.warmC hW hZ | exact va_Nw.warmD hW hZ | cases h
theorem td_w2 : ∀ w ∈ Cond.classLink RX11 149 td_E :: Cond.initialized td_E :: td_own.filter vx_no, vx_ot w = true := by decide +kernel
theorem td_w3 : Cond.classLink RX11 149 td_E ∈ mj_tb ∧ Cond.initialized td_E ∈ mj_tb ∧ Cond.classLink RL 13 td_E ∈ mj_tb := by decide +kernel
theorem td_w4 : Cond.methodLink RX11 145 yX11_isTown ∈ mj_tb ∧ Cond.instanceMethod yX11_isTown ∈ mj_tb ∧ Cond.selects RX11 yX11_isTown yX11_isTown ∈ mj_tb ∧ Cond.initialized RX11 ∈ mj_tb ∧ Cond.code yX11_isTown cX11_isTown 2 (some .boolean) ∈ mj_tb := by decide +kernel
theorem td_w5 : Cond.methodLink RL 7 yX11_told ∈ mj_tb ∧ Cond.instanceMethod yX11_told ∈ mj_tb ∧ Cond.selects RX11 yX11_told yX11_told ∈ mj_tb ∧ Cond.code yX11_told cX11_told 3 (some .int) ∈ mj_tb := by decide +kernel
theorem td_w6 : Cond.methodLink RL 38 yL_told ∈ mj_tb ∧ Cond.static yL_told ∈ mj_tb ∧ Cond.initialized RL ∈ mj_tb ∧ Cond.codeWith yL_told cL_told 5 (some .int) [(0, 10, 13, 13)] ∈ mj_tb := by decide +kernel
theorem hg_r {ci fk t n : Nat} {l : List Nat} {m b : Nat} {st : List mj_V} {G : mj_G} {M : mj_M} {k : List mj_V → Prop} {A : Prop} (hl : l ≠ []) (hh : mj_hd l = ci) (h49 : ci ≠ 49) (hf : mj_h1 l = fk) (hso : mj_so ci fk = 2) (hm : G m = (t, n)) (ht : t % 1000 = ci + 1) (hv : M.2.2 m fk = some b) (hk : k (.inr (.inr (some b)) :: st)) : l ≠ [] ∧ mj_br (mj_hd l = 49) A (mj_get (mj_hd l) (mj_h1 l) (.inr (.inr (some m)) :: st) G M k) := by
  subst hf
  refine ⟨hl, fun e => absurd (hh.symm.trans e) h49, fun _ => ?_⟩
  rw [hh]
  refine ⟨t, n, hm, ht, ?_⟩
  rw [hso]
  refine ⟨fun b' hb => ?_, fun hb => ?_⟩
  · cases hv.symm.trans hb
    exact hk
  · cases hv.symm.trans hb
theorem hg_i {ci fk t n : Nat} {l : List Nat} {m : Nat} {st : List mj_V} {G : mj_G} {M : mj_M} {k : List mj_V → Prop} {A : Prop} {v : Int} (hl : l ≠ []) (hh : mj_hd l = ci) (h49 : ci ≠ 49) (hf : mj_h1 l = fk) (hso : mj_so ci fk = 0) (hm : G m = (t, n)) (ht : t % 1000 = ci + 1) (hv : M.1 m fk = v) (hk : k (.inl v :: st)) : l ≠ [] ∧ mj_br (mj_hd l = 49) A (mj_get (mj_hd l) (mj_h1 l) (.inr (.inr (some m)) :: st) G M k) := by
  subst hf hv
  refine ⟨hl, fun e => absurd (hh.symm.trans e) h49, fun _ => ?_⟩
  rw [hh]
  refine ⟨t, n, hm, ht, ?_⟩
  rw [hso]
  exact hk
/-- what told reads of the object -/
def td_Pre (G : mj_G) (M : mj_M) (a b c tl : Nat) : Prop := G a = (1011, 0) ∧ M.2.2 a 1 = some b ∧ G b = (1007, 0) ∧ M.2.2 b 0 = some c ∧ G c = (1004, 0) ∧ M.1 c 4 ≤ 8 ∧ M.2.2 c 1 = some tl ∧ G tl = (25104, 8) ∧ ∀ k, k < 8 → ∃ r, M.2.2 tl k = some r ∧ G r = (26100, 9)
theorem td_Pre.of {G : mj_G} {M : mj_M} {a : Nat} (hI : ab_Inv G M) (hx : G a = (1011, 0)) : ∃ b c tl, td_Pre G M a b c tl := by
  obtain ⟨b, b1, b2⟩ := ab_rt_a (hI.2.1 a 1 (1007, 0) (by rw [hx]; rfl) (fun q => absurd q (by rw [hx]; decide))) (by decide) (by decide) (by decide)
  obtain ⟨c, c1, c2⟩ := ab_rt_a (hI.2.1 b 0 (1004, 0) (by rw [b2]; rfl) (fun q => absurd q (by rw [b2]; decide))) (by decide) (by decide) (by decide)
  obtain ⟨tl, d1, d2⟩ := ab_rt_a (hI.2.1 c 1 (25104, 8) (by rw [c2]; rfl) (fun q => absurd q (by rw [c2]; decide))) (by decide) (by decide) (by decide)
  refine ⟨b, c, tl, hx, b1, b2, c1, c2, ?_, d1, d2, fun k hk => ?_⟩
  · have := (hI.1 c 4).2
    rw [c2] at this
    exact this
  · exact ab_rt_a (hI.2.1 tl k (26100, 9) (by rw [d2]; rfl) (fun _ => by rw [d2]; exact hk)) (by decide) (by decide) (by decide)
theorem r_isTown {d a b c tl : Nat} {p0 : Int} {G : mj_G} {M : mj_M} {Q : mj_P} (hp : td_Pre G M a b c tl) (h0 : p0 < 0 ∨ M.1 c 4 ≤ p0 → Q (some (.inl 0)) G M) (h1 : 0 ≤ p0 → p0 < M.1 c 4 → Q (some (.inl 1)) G M) : mj_R mj_tab (d + 1) n_X11_isTown [.inr (.inr (some a)), .inl p0] G M Q := by
  obtain ⟨g1, m1, g2, m2, g3, -⟩ := hp
  refine ⟨Nat.le_refl 2, mj_W.run (mj_R_mo _ _) 20 ?_⟩
  refine And.intro (fun c1 => ?_) (fun c1 => ?_)
  · exact ⟨rfl, fun _ => Or.inl rfl, h0 (Or.inl c1)⟩
  · have c1 : ¬ p0 < 0 := c1
    refine hg_r (ci := 10) (fk := 1) (List.cons_ne_nil _ _) rfl (by decide) rfl rfl g1 rfl m1 ?_
    refine hg_r (ci := 6) (fk := 0) (List.cons_ne_nil _ _) rfl (by decide) rfl rfl g2 rfl m2 ?_
    refine hg_i (ci := 3) (fk := 4) (List.cons_ne_nil _ _) rfl (by decide) rfl rfl g3 rfl rfl ?_
    refine And.intro (fun c2 => ?_) (fun c2 => ?_)
    · exact ⟨rfl, fun _ => Or.inl rfl, h0 (Or.inr c2)⟩
    · have c2 : ¬ M.1 c 4 ≤ p0 := c2
      exact ⟨rfl, fun _ => Or.inr rfl, h1 (by omega) (by omega)⟩
theorem mj_H.grow {D : va_G} {dA : Nat → ClassId} {B : Nat} {G : mj_G} {M : mj_M} {H H' : Heap} (h : mj_H D dA B G M H) (h1 : H.size ≤ H'.size) (h2 : ∀ q : Nat, q < H.size → H'[q]? = H[q]?) : mj_H D dA B G M H' := by
  refine ⟨h.1, ⟨fun x hx => h.2.1.1 x (by omega), h.2.1.2⟩, fun x t n hx ht => ?_⟩
  have hlt : x < H.size := by
    rcases Nat.lt_or_ge x H.size with q | q
    · exact q
    · have := h.2.1.1 x q
      rw [hx] at this
      exact absurd (Prod.mk.inj this).1 ht
  obtain ⟨g0, g1, g2⟩ := h.2.2 x t n hx ht
  exact ⟨g0, fun ci r e1 e2 => (g1 ci r e1 e2).kept (h2 x hlt), fun j e => by rw [h2 x hlt]; exact g2 j e⟩
def td_Pc (D : va_G) (dA : Nat → ClassId) (B sa : Nat) (av : List mj_V) (G : mj_G) (M : mj_M) : Array Value → State → Prop := va_Pc (av.map mj_val) (fun U => (mj_H D dA B G M U.heap ∧ mj_K D dA U ∧ (∀ v ∈ av, mj_ok v) ∧ (B ≤ U.heap.size ∧ mj_EW dA B U U.heap)) ∧ td_S B sa U)
theorem td_blind {D : va_G} {dA : Nat → ClassId} {B sa : Nat} {av : List mj_V} {G : mj_G} {M : mj_M} : FrameBlind (td_Pc D dA B sa av G M) := by
  intro a U g mk q
  obtain ⟨q0, ⟨q1, q2, q3, q4⟩, q5, q6, q7, q8, q9⟩ := q
  exact ⟨q0, ⟨q1, mj_K.moved (u := U) (U := U.calling g mk a) (Vm.Alike.refl U.vm) q2, q3, q4.1, q4.2.1.moved (u := U) (U := U.calling g mk a) (Vm.Alike.refl U.vm), q4.2.2.1.moved (u := U) (U := U.calling g mk a) (Vm.Alike.refl U.vm), q4.2.2.2.moved (u := U) (U := U.calling g mk a) (Vm.Alike.refl U.vm)⟩, vk_R.same (u := U) rfl q5, vx_Zq.moved (u := U) (Vm.Alike.refl U.vm) q6, vx_Zq.moved (u := U) (Vm.Alike.refl U.vm) q7, va_Nw.same rfl (u := U) rfl q8, fun w hw => va_Nw.same (td_cd_on (td_ngc w hw)) (u := U) rfl (q9 w hw)⟩
theorem td_S.kept {B sa : Nat} {s U : State} {H : Heap} {locs : List Loc} (h : td_S B sa s) (hS : va_S (fun q => B ≤ q) s.heap H locs) (hU : U.heap = H) (hW : s.WarmedH U.vm) : td_S B sa U :=
  ⟨vk_R.warm hW h.1, by rw [hU]; exact vx_Zq.moved hW.alike (h.2.1.kept hS.2.1), by rw [hU]; exact vx_Zq.moved hW.alike (h.2.2.1.kept hS.2.1), va_Nw.warmC hW h.2.2.2.1, fun w hw => td_cd_warm (td_ngc w hw) hW (h.2.2.2.2 w hw)⟩
/-- there is none such; what is told -/
def td_no (M : mj_M) (c0 : Nat) (p0 p1 : Int) : Prop := p0 < 0 ∨ M.1 c0 4 ≤ p0 ∨ p1 < 0 ∨ 9 ≤ p1
def td_is (M : mj_M) (c0 : Nat) (p0 p1 : Int) : Prop := 0 ≤ p0 ∧ p0 < M.1 c0 4 ∧ 0 ≤ p1 ∧ p1 < 9
def td_va (M : mj_M) (tl : Nat) (p0 p1 : Int) : Int := M.1 ((M.2.2 tl p0.toNat).getD 0) p1.toNat
def td_X (D : va_G) (dA : Nat → ClassId) (B : Nat) (c0 : Nat) (p0 p1 : Int) (G : mj_G) (M : mj_M) : String → State → State → Prop := fun E st t => E = td_E ∧ td_no M c0 p0 p1 ∧ mj_H D dA B G M t.heap ∧ mj_K D dA t ∧ va_F (fun q => B ≤ q) st t
theorem td_obj {D : va_G} {dA : Nat → ClassId} {B : Nat} {G : mj_G} {M : mj_M} {s : State} {H : Heap} {a ci t n : Nat} {r : vw_C} (hH : mj_H D dA B G M H) (hK : mj_K D dA s) (hG : G a = (t, n)) (ht : t % 1000 = ci + 1) (hr : vwCl[ci]? = some r) : ∃ cellB : Cell, H[a]? = some cellB ∧ cellB.vm.isStatics = false ∧ s.vm.findClass r.1 = some cellB.cls := by
  obtain ⟨-, g1, -⟩ := hH.2.2 a t n hG (mj_ne ht)
  obtain ⟨cell, q1, q2, q3, q4⟩ := g1 ci r ht hr
  obtain ⟨hSl, hfc, -⟩ := id (hK.1 ci r hr)
  exact ⟨cell, q1, by rw [q3]; rfl, by rw [q2]; exact hfc⟩
theorem td_w7 : Cond.fieldLink RX11 19 (TX11 1).1 (TX11 1).2.1 (TX11 1).2.2.1 ∈ mj_tb ∧ Cond.fieldLink RX11 94 (TX6 0).1 (TX6 0).2.1 (TX6 0).2.2.1 ∈ mj_tb ∧ Cond.fieldLink RX11 156 (TX3 1).1 (TX3 1).2.1 (TX3 1).2.2.1 ∈ mj_tb := by decide +kernel
abbrev td_Qv (c0 tl : Nat) (p0 p1 : Int) (G : mj_G) (M : mj_M) : mj_P := fun r G' M' => (r = some (.inl (td_va M tl p0 p1)) ∧ td_is M c0 p0 p1) ∧ G' = G ∧ M' = M
section TDV
variable {p : Program} {l : Launch} {e : Env} {R : Room} {s : State} {m : MethodId} {args : Array Value} {below : List Frame} {meth : Method} {c : Code} {D : va_G} {dA : Nat → ClassId} {B nL mc ms : Nat} {Q : mj_P}
/-- the end of told that tells -/
theorem td_v (X : mj_X p l e R s m args below meth c RX11 cX11_told (some .int) D dA B nL mc ms Q) {a b c0 tl : Nat} {p0 p1 : Int} {G : mj_G} {M : mj_M} {L : mj_L} {cb sb : Nat} (hp : td_Pre G M a b c0 tl) (h0 : mj_nt L 0 = some (.inr (.inr (some a)))) (h1 : mj_nt L 1 = some (.inl p0)) (h2 : mj_nt L 2 = some (.inl p1)) (q0 : 0 ≤ p0) (q1 : p0 < M.1 c0 4) (q2 : 0 ≤ p1) (q3 : p1 < 9) (hQ : ∀ z, z = td_va M tl p0 p1 → Q (some (.inl z)) G M) : mj_J X 28 L [] G M cb sb := by
  obtain ⟨g1, m1, g2, m2, g3, m8, m3, g4, m4⟩ := hp
  have q8 : p0 < 8 := by omega
  obtain ⟨r, r1, r2⟩ := m4 p0.toNat (by omega)
  refine mj_o_aload_n X (k := 0) (by decide +kernel) h0 ?_
  refine mj_o_get X (i := 19) (ci := 10) (fk := 1) (v := .inr (.inr (some b))) (r := (RX11, TX11, 14)) (by decide +kernel) rfl (by decide) mj_lay10 td_w7.1 g1 rfl (fun _ => ⟨?_, trivial⟩) ?_
  · show _ = va_rf (M.2.2 a 1); rw [m1]; rfl
  refine mj_o_get X (i := 94) (ci := 6) (fk := 0) (v := .inr (.inr (some c0))) (r := (RX6, TX6, 4)) (by decide +kernel) rfl (by decide) mj_lay6 td_w7.2.1 g2 rfl (fun _ => ⟨?_, trivial⟩) ?_
  · show _ = va_rf (M.2.2 b 0); rw [m2]; rfl
  refine mj_o_get X (i := 156) (ci := 3) (fk := 1) (v := .inr (.inr (some tl))) (r := (RX3, TX3, 15)) (by decide +kernel) rfl (by decide) mj_lay3 td_w7.2.2 g3 rfl (fun _ => ⟨?_, trivial⟩) ?_
  · show _ = va_rf (M.2.2 c0 1); rw [m3]; rfl
  refine mj_o_iload_n X (k := 1) (by decide +kernel) h1 ?_
  refine mj_o_aaload X (j := 4) (by decide +kernel) g4 rfl (by decide) rfl rfl q0 q8 ⟨fun b' hb => ?_, fun hb => ?_⟩
  · cases r1.symm.trans hb
    refine mj_o_iload_n X (k := 2) (by decide +kernel) h2 ?_
    refine mj_o_iaload X (by decide +kernel) r2 rfl q2 q3 ?_
    exact mj_o_ireturn X (by decide +kernel) (Or.inl rfl) (hQ _ (by unfold td_va; rw [r1]; rfl))
  · cases r1.symm.trans hb
end TDV
set_option maxHeartbeats 2000000 in
theorem td_x {l : Launch} (hl : l.stackTraces = false) {D : va_G} {dA : Nat → ClassId} {B sa a b c0 tl : Nat} {p0 p1 : Int} {G : mj_G} {M : mj_M} (hp : td_Pre G M a b c0 tl) : vx_Met l yX11_told (.code yX11_told cX11_told 3 (some .int) :: mj_tb) (mj_rm 9 (1, 6)) (td_Pc D dA B sa [.inr (.inr (some a)), .inl p0, .inl p1] G M) (mj_Q D dA B (td_Qv c0 tl p0 p1 G M)) (td_X D dA B c0 p0 p1 G M) 1 6 (fun q => B ≤ q) := by
  refine vx_ofW (cc := cX11_told) (maxL := 3) (ret := some .int) (by decide) rfl ?_
  intro p e s m args below meth c s₁ Bd hml hnx hv
  obtain ⟨rfl, ⟨hH, hK, hok, hB⟩, hstr, hU, hN, hcs, hng⟩ := hv
  have hts := atoms_spec (ws := Cond.code yX11_told cX11_told 3 (some .int) :: mj_tb) Bd.pre
  have htb : ∀ w ∈ mj_tb, w.before _ s = true := fun w hw => hts w (List.mem_cons_of_mem _ hw)
  have hown : s.vm.findClass RX11 = some m.cls := findClass_of_methodNamed Bd.named
  rw [lg_entry_eq]
  have hls := lv_entry ((([.inr (.inr (some a)), .inl p0, .inl p1] : List mj_V)).map mj_val) (n := 3) (Nat.le_refl 3)
  generalize ((lg_sl ((([.inr (.inr (some a)), .inl p0, .inl p1] : List mj_V)).map mj_val) ++ List.replicate (3 - (lg_sl ((([.inr (.inr (some a)), .inl p0, .inl p1] : List mj_V)).map mj_val)).length) Slot.unset).toArray) = ls at hls ⊢
  have h0 : ls[0]? = some (.val (.ref a)) := lv_at hls 0 rfl
  have h1 : ls[1]? = some (.val (.int (Int32.ofInt p0))) := lv_at hls 1 rfl
  have h2 : ls[2]? = some (.val (.int (Int32.ofInt p1))) := lv_at hls 2 rfl
  refine lv_aload_n (k := 0) Bd.exec Bd.bytes (by decide +kernel) rfl h0 ?_
  refine lv_iload_n (k := 1) Bd.exec Bd.bytes (by decide +kernel) rfl h1 ?_
  have hgood : GoodIn mj_tb (wsV RX11 145 RX11 yX11_isTown (.code yX11_isTown cX11_isTown 2 (some .boolean) :: mj_tb)) := mj_good fun w hw => by
    simp only [wsV, List.cons_append, List.nil_append, List.mem_cons] at hw
    rcases hw with rfl | rfl | rfl | rfl | rfl | hw
    · exact td_w4.1
    · exact td_w4.2.1
    · exact td_w4.2.2.1
    · exact td_w4.2.2.2.1
    · exact td_w4.2.2.2.2
    · exact hw
  have hM : Met l yX11_isTown (.code yX11_isTown cX11_isTown 2 (some .boolean) :: mj_tb) (mj_rm 2 (0, 0)) (mj_Pc D dA B [.inr (.inr (some a)), .inl p0] G M) (mj_Q D dA B (fun r G' M' => ((r = some (.inl 0) ∧ (p0 < 0 ∨ M.1 c0 4 ≤ p0)) ∨ (r = some (.inl 1) ∧ 0 ≤ p0 ∧ p0 < M.1 c0 4)) ∧ G' = G ∧ M' = M)) 0 0 (fun q => B ≤ q) := mj_met mj_all 2 n_X11_isTown _ G M _ (r_isTown hp (fun h => ⟨Or.inl ⟨rfl, h⟩, rfl, rfl⟩) (fun h h' => ⟨Or.inr ⟨rfl, h, h'⟩, rfl, rfl⟩))
  have hr := va_runV (R := (mj_rm 9 (1, 6))) (As := [Value.int (Int32.ofInt p0)]) (rest := []) (b := a) (H := s.heap) (locs := []) (cells := 0) (slots := 0) (g := F0 m 2 ls [Value.int (Int32.ofInt p0), Value.ref a]) (below := below) (meth := meth) (e := e) ⟨Bd.exec, Bd.bytes, hml, hown, htb⟩ hM
    (cwV 1 htb hgood rfl rfl rfl ⟨rfl, by decide, by decide, by decide⟩ ⟨by decide, by decide⟩) ⟨mj_blind, td_obj (ci := 10) hH hK hp.1 rfl rfl, fun U hU hW => ⟨rfl, by rw [hU]; exact hH, mj_K.moved hW.alike hK, fun v hv => hok v (by rcases List.mem_cons.mp hv with rfl | hv <;> simp_all), by rw [hU]; exact hB.1, hB.2.go va_S.rf hU hW.alike⟩⟩ rfl rfl hls.1 rfl (Nat.zero_le 8) (show decode cX11_told 2 = .ok (.invokevirtual 145, 3) from by decide +kernel) ⟨by decide, by decide⟩
  intro T hT XS
  obtain ⟨v, st₀, t, T', L', h00, X', hL', x1, x2, ⟨r, G', M', hv, ⟨hcase, rfl, rfl⟩, hok', hH', hK', hz, hk⟩, stp⟩ := hr T hT XS
  obtain rfl : v = r.map mj_val := Outcome.returned.inj hv
  rw [h00] at hz hk
  have hS' : va_S (fun q => B ≤ q) s.heap T'.heap ([] ++ L') := ⟨by rw [x1]; exact hz, fun q h1 h2 => by rw [x1]; exact hk q h1 h2, fun q hq => by
      rcases List.mem_append.mp hq with h | h
      · cases h
      · exact hL' q h⟩
  have hH9 : mj_H D dA B G' M' T'.heap := by rw [x1]; exact hH'
  have thr : td_no M' c0 p0 p1 → W p l e (mj_rm 9 (1, 6)) s m (List.map mj_val [.inr (.inr (some a)), .inl p0, .inl p1]).toArray below meth c T'.heap ([] ++ L') (0 + 0) (0 + 0) (vx_MQ below (mj_Q D dA B (td_Qv c0 tl p0 p1 G' M')) (td_X D dA B c0 p0 p1 G' M') (List.map mj_val [.inr (.inr (some a)), .inl p0, .inl p1]).toArray s 1 6 (fun q => B ≤ q)) (F0 m 18 ls []) := fun hno =>
    td_throw (sa := sa) (A := fun q => B ≤ q) Bd.exec Bd.bytes hl hown (htb _ td_w3.1) (htb _ td_w3.2.1) hstr (vx_hat (B := td_ng) (fun w hw => htb w (td_w1 w hw)) (fun w hw => hw) (fun w hw => va_Nw.use (td_cd_on (td_ngc w hw)) (hng w hw))) td_w2 hU hN hS' (hls.1.trans hml.symm) (by decide +kernel) (by decide +kernel) (by decide +kernel) (by decide +kernel) (by decide +kernel)
      (fun x hx => (hnx x hx).elim) (by decide) (by decide) (by decide) (by decide) Bd.notSynchronized (fun t hal h1 h2 => ⟨rfl, hno, hH9.grow h1 h2, mj_K.moved hal hK, Nat.le_trans hS'.1 h1, fun q q1 q2 => by rw [h2 q (Nat.lt_of_lt_of_le q1 hS'.1)]; exact hS'.2.1 q q1 q2⟩) hS'.2.2 (by decide) (by decide)
  have hp1 : mj_in p1 := hok (.inl p1) (by simp)
  have K : W p l e (mj_rm 9 (1, 6)) s m (List.map mj_val [.inr (.inr (some a)), .inl p0, .inl p1]).toArray below meth c T'.heap ([] ++ L') (0 + 0) (0 + 0) (vx_MQ below (mj_Q D dA B (td_Qv c0 tl p0 p1 G' M')) (td_X D dA B c0 p0 p1 G' M') (List.map mj_val [.inr (.inr (some a)), .inl p0, .inl p1]).toArray s 1 6 (fun q => B ≤ q)) (F0 m 5 ls ((r.map mj_val).toList ++ [])) := by
    rcases hcase with ⟨rfl, hb⟩ | ⟨rfl, k0, k1⟩
    · exact lv_if_eq (tgt := 18) Bd.exec Bd.bytes (off := 13) (by decide +kernel) (by decide) (fun _ => thr (hb.elim Or.inl (fun q => Or.inr (Or.inl q)))) (fun q => absurd rfl q)
    · refine lv_if_eq (tgt := 18) Bd.exec Bd.bytes (off := 13) (by decide +kernel) (by decide) (fun q => absurd q (by decide)) (fun _ => ?_)
      refine lv_iload_n (k := 2) Bd.exec Bd.bytes (by decide +kernel) rfl h2 ?_
      refine lv_if_lt (tgt := 18) Bd.exec Bd.bytes (off := 9) (by decide +kernel) (by decide) (fun q => thr (Or.inr (Or.inr (Or.inl ((mj_lt hp1 (y := 0) ⟨by decide, by decide⟩).mp q))))) (fun c1 => ?_)
      have c1 : ¬ p1 < 0 := fun q => c1 ((mj_lt hp1 (y := 0) ⟨by decide, by decide⟩).mpr q)
      refine lv_iload_n (k := 2) Bd.exec Bd.bytes (by decide +kernel) rfl h2 ?_
      refine lv_bipush (n := 9) (v := Int32.ofInt 9) Bd.exec Bd.bytes (by decide +kernel) (by decide) ?_
      refine lv_icmp_lt (tgt := 28) Bd.exec Bd.bytes (off := 13) (by decide +kernel) (by decide) (fun c2 => ?_) (fun q => thr (Or.inr (Or.inr (Or.inr (Int.not_lt.mp (fun h => q ((mj_lt hp1 (y := 9) ⟨by decide, by decide⟩).mpr h)))))))
      have c2 : p1 < 9 := (mj_lt hp1 (y := 9) ⟨by decide, by decide⟩).mp c2
      have X : mj_X p l e (mj_rm 9 (1, 6)) s m (List.map mj_val [.inr (.inr (some a)), .inl p0, .inl p1]).toArray below meth c RX11 cX11_told (some .int) D dA B 3 1 6 (td_Qv c0 tl p0 p1 G' M') :=
        ⟨⟨Bd.exec, Bd.bytes, hml, Bd.returns, hown⟩, htb, Bd.notSynchronized, hK, hB, by decide, by decide, by decide, by decide⟩
      exact vx_ret (td_v X (L := mj_en [.inr (.inr (some a)), .inl p0, .inl p1] 3) (cb := 0) (sb := 0) hp rfl rfl rfl k0 k1 (by omega) c2 (fun z ez => ⟨⟨by rw [ez], k0, k1, by omega, c2⟩, rfl, rfl⟩) T'.heap ([] ++ L') ls (0 + 0) (0 + 0) hH9 hS' ⟨by rw [mj_en_asc]; exact hls, rfl, fun j v hj => mj_en_ok _ _ j v hok hj⟩ (fun v hv => by cases hv) (by decide) (by decide))
  obtain ⟨t2, a1, b1⟩ := K T' rfl X'
  exact ⟨t2, stp t2 a1, b1⟩
