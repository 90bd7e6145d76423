/-! ===== the law at its entry: what is known of the state; told and the script in the law's frame ===== -/
theorem lx_w1 : Cond.instantiable RX0 19 ∈ mj_tb ∧ Cond.instantiable RX1 4 ∈ mj_tb ∧ Cond.instantiable RX2 8 ∈ mj_tb ∧ Cond.instantiable RX3 15 ∈ mj_tb ∧ Cond.instantiable RX4 4 ∈ mj_tb ∧ Cond.instantiable RX5 6 ∈ mj_tb := by decide +kernel
theorem lx_w2 : Cond.instantiable RX6 4 ∈ mj_tb ∧ Cond.instantiable RX7 12 ∈ mj_tb ∧ Cond.instantiable RX8 4 ∈ mj_tb ∧ Cond.instantiable RX10 15 ∈ mj_tb ∧ Cond.instantiable RX11 14 ∈ mj_tb ∧ Cond.instantiable RX12 62 ∈ mj_tb := by decide +kernel
theorem lx_w3 : Cond.arrayClass .int ∈ lw_tbl ∧ Cond.arrayClass .byte ∈ lw_tbl ∧ Cond.arrayClass .boolean ∈ lw_tbl ∧ Cond.arrayClass .long ∈ lw_tbl ∧ Cond.arrayOver (.array .int) ∈ lw_tbl ∧ Cond.arrayOver (.object "RentRiver$Word") ∈ lw_tbl ∧ Cond.arrayOver (.object "RentRiver$State") ∈ lw_tbl := by decide +kernel
theorem lx_K {s : State} {args : Array Value} (hts : ∀ w ∈ lw_tbl, w.before args s = true) : ∃ (D : va_G) (dA : Nat → ClassId), mj_K D dA s := by
  have htb : ∀ w ∈ mj_tb, w.before args s = true := fun w hw => hts w (mj_tb_good w hw).1
  have k : ∀ ci : Nat, ∃ y : ClassId × (Nat → Nat), ∀ q : vw_C, vwCl[ci]? = some q → u_Kn s q.1 q.2.1 q.2.2 y.1 y.2 := by
    have one : ∀ {C : String} {T : u_T} {N n : Nat} (ci : Nat), vwCl[ci]? = some (C, T, N) → (∀ w ∈ u_ws C T N, w ∈ mj_tb) → Cond.instantiable C n ∈ mj_tb → ∃ y : ClassId × (Nat → Nat), ∀ q : vw_C, vwCl[ci]? = some q → u_Kn s q.1 q.2.1 q.2.2 y.1 y.2 := fun {C T N n} ci h1 h2 h3 => by
      obtain ⟨cC, iS, hk⟩ := u_known htb h2 (htb _ h3)
      refine ⟨(cC, iS), fun q hq => ?_⟩
      obtain rfl : (C, T, N) = q := Option.some.inj (h1.symm.trans hq)
      exact hk
    intro ci
    match ci with
    | 0 => exact one 0 rfl mj_lay0 lx_w1.1
    | 1 => exact one 1 rfl mj_lay1 lx_w1.2.1
    | 2 => exact one 2 rfl mj_lay2 lx_w1.2.2.1
    | 3 => exact one 3 rfl mj_lay3 lx_w1.2.2.2.1
    | 4 => exact one 4 rfl mj_lay4 lx_w1.2.2.2.2.1
    | 5 => exact one 5 rfl mj_lay5 lx_w1.2.2.2.2.2
    | 6 => exact one 6 rfl mj_lay6 lx_w2.1
    | 7 => exact one 7 rfl mj_lay7 lx_w2.2.1
    | 8 => exact one 8 rfl mj_lay8 lx_w2.2.2.1
    | 9 => exact one 9 rfl mj_lay9 lx_w2.2.2.2.1
    | 10 => exact one 10 rfl mj_lay10 lx_w2.2.2.2.2.1
    | 11 => exact one 11 rfl mj_lay11 lx_w2.2.2.2.2.2
    | n + 12 => exact ⟨(0, fun _ => 0), fun q hq => by cases hq⟩
  have a : ∀ j : Nat, ∃ c : ClassId, (j < 7 → s.vm.findClass ("[" ++ (mj_at j).toString) = some c ∧ ArrOfT s c (mj_at j)) ∧ (j = 5 ∨ j = 6 → va_RA s c (.object (mj_cn j))) := by
    have one : ∀ (j : Nat), j < 4 → (Cond.arrayClass (mj_at j)).before args s = true → ∃ c : ClassId, (j < 7 → s.vm.findClass ("[" ++ (mj_at j).toString) = some c ∧ ArrOfT s c (mj_at j)) ∧ (j = 5 ∨ j = 6 → va_RA s c (.object (mj_cn j))) := fun j hj h => by
      obtain ⟨c, k, comp, h1, h2, h3⟩ := Cond.arrayClass_spec h
      exact ⟨c, fun _ => ⟨h1, fun n z => ⟨(fun k h => by cases h), k, h2, comp, h3⟩⟩, fun q => by omega⟩
    have obj : ∀ (j : Nat) (C : String), mj_at j = .object C → mj_cn j = C → (Cond.arrayOver (.object C)).before args s = true → ∃ c : ClassId, (j < 7 → s.vm.findClass ("[" ++ (mj_at j).toString) = some c ∧ ArrOfT s c (mj_at j)) ∧ (j = 5 ∨ j = 6 → va_RA s c (.object (mj_cn j))) := fun j C e1 e2 h => by
      obtain ⟨comp, c, k, h1, -, h3, h4, h5⟩ := Cond.arrayOver_spec h
      rw [e1, e2]
      exact ⟨c, fun _ => ⟨h5, fun n z => ⟨(fun k h => by cases h), k, h3, comp, h4⟩⟩, fun _ => ⟨k, comp, h3, h4, h1, h5⟩⟩
    intro j
    match j with
    | 0 => exact one 0 (by decide) (hts _ lx_w3.1)
    | 1 => exact one 1 (by decide) (hts _ lx_w3.2.1)
    | 2 => exact one 2 (by decide) (hts _ lx_w3.2.2.1)
    | 3 => exact one 3 (by decide) (hts _ lx_w3.2.2.2.1)
    | 4 =>
      obtain ⟨comp, c, k, h1, -, h3, h4, h5⟩ := arrayOverA_spec (hts _ lx_w3.2.2.2.2.1)
      exact ⟨c, fun _ => ⟨h5, fun n z => ⟨(fun k h => by cases h), k, h3, comp, h4⟩⟩, fun q => by omega⟩
    | 5 => exact obj 5 "RentRiver$Word" rfl rfl (hts _ lx_w3.2.2.2.2.2.1)
    | 6 => exact obj 6 "RentRiver$State" rfl rfl (hts _ lx_w3.2.2.2.2.2.2)
    | n + 7 => exact ⟨0, fun q => by omega, fun q => by omega⟩
  obtain ⟨f, hf⟩ := Classical.axiomOfChoice k
  obtain ⟨g, hg⟩ := Classical.axiomOfChoice a
  refine ⟨(fun ci => (f ci).1, fun ci => (f ci).2), g, fun ci q hq => hf ci q hq, fun j hj => (hg j).1 hj, hts _ lx_w3.2.2.2.2.1, fun j hj => ⟨?_, (hg j).2 hj⟩⟩
  rcases hj with rfl | rfl
  · exact va_AO.of (hts _ lx_w3.2.2.2.2.2.1)
  · exact va_AO.of (hts _ lx_w3.2.2.2.2.2.2)
theorem lx_w4 : Cond.stringRef RX11 151 td_tx ∈ lw_tbl ∧ Cond.laysStatic Bundle.tN "UNASSIGNED_STACK" Bundle.steD ∈ lw_tbl ∧ Cond.laysStatic Bundle.tN "SUPPRESSED_SENTINEL" Bundle.listD ∈ lw_tbl ∧ Cond.initialized Bundle.tN ∈ lw_tbl ∧ Cond.castable td_E td_E ∈ lw_tbl := by decide +kernel
set_option maxRecDepth 100000 in
theorem lx_g1 : Cond.isRef (.static Bundle.tN "UNASSIGNED_STACK" Bundle.steD) ∈ flatC (Jvm.Cond.and given_1 narrow_1) ∧ Cond.isRef (.static Bundle.tN "SUPPRESSED_SENTINEL" Bundle.listD) ∈ flatC (Jvm.Cond.and given_1 narrow_1) ∧ Cond.exactly (.string RX11 151) "java/lang/String" ∈ flatC (Jvm.Cond.and given_1 narrow_1) := by decide +kernel
theorem lx_S {s : State} {args : Array Value} (hts : ∀ w ∈ lw_tbl, w.before args s = true) (hg : (Jvm.Cond.and given_1 narrow_1).before args s = true) : ∃ sa, td_S s.heap.size sa s := by
  have hf := flat_of_before _ hg
  obtain ⟨sa, -, -, -, ha, -⟩ := Cond.exactly_spec (hf _ lx_g1.2.2)
  have hA : ∀ q : Nat, q < s.heap.size → ¬ s.heap.size ≤ q := fun q h => by omega
  refine ⟨sa, vk_R.of (hts _ lx_w4.1) ha, vx_Zqof (hts _ lx_w4.2.1) (hts _ lx_w4.2.2.2.1) (hf _ lx_g1.1) hA, vx_Zqof (hts _ lx_w4.2.2.1) (hts _ lx_w4.2.2.2.1) (hf _ lx_g1.2.1) hA, va_Nw.of rfl (hts _ lx_w4.2.2.2.2), fun w hw => va_Nw.of (A := args) (td_cd_on (td_ngc w hw)) ?_⟩
  rcases td_ng_in w hw with h | h
  · exact hts w h
  · rw [h]; exact hts _ lx_w4.2.2.2.2
section LX
variable {p : Program} {l : Launch} {e : Env} {R : Room} {s : State} {m : MethodId} {args : Array Value} {below : List Frame} {meth : Method} {c : Code} {ret : Option FieldType} {D : va_G} {dA : Nat → ClassId} {B nL mc ms : Nat} {Q : mj_P}
variable {pc : Nat} {L : mj_L} {st : List mj_V} {G : mj_G} {M : mj_M} {cb sb : Nat}
theorem lx_told (X : mj_X p l e R s m args below meth c RL cL_law ret D dA B nL mc ms Q) {sa a : Nat} {p0 p1 : Int} {o : Option Nat} (hl : l.stackTraces = false) (hS4 : td_S B sa s) (hR : 13 ≤ R.frames ∧ 1400 ≤ R.locals) (hd : decode cL_law pc = .ok (.invokestatic 38, 3)) (hp : td_Pre G M a) (h8 : mj_cat st ≤ 8) (h1 : 4 ≤ cb) (h2 : 64 ≤ sb)
    (kk : mj_J X (pc + 3) L (.inl 1 :: st) G M (cb - 4) (sb - 64)) : mj_J X pc L (.inr (.inr o) :: .inl p1 :: .inl p0 :: .inr (.inr (some a)) :: st) G M cb sb := by
  intro H locs ls cells slots hH hS hL hst hc hs
  have hm1 : mc ≤ R.cells := X.2.2.2.2.2.2.2.1
  have hm2 : ms ≤ R.slots := X.2.2.2.2.2.2.2.2
  have hst' : ∀ v ∈ st, mj_ok v := mj_tl (mj_tl (mj_tl (mj_tl hst)))
  have hA : ∀ v ∈ ([.inr (.inr (some a)), .inl p0, .inl p1, .inr (.inr o)] : List mj_V), mj_ok v := fun v hv => hst v (by
    simp only [List.mem_cons, List.not_mem_nil, or_false] at hv ⊢
    rcases hv with h | h | h | h <;> simp [h])
  have hgood : GoodIn mj_tb (va_wsS RL 38 yL_told (.codeWith yL_told cL_told 5 (some .int) [(0, 10, 13, 13)] :: mj_tb)) := mj_good fun w hw => by
    simp only [va_wsS, List.cons_append, List.nil_append, List.mem_cons] at hw
    rcases hw with rfl | rfl | rfl | rfl | hw
    · exact td_w6.1
    · exact td_w6.2.1
    · exact td_w6.2.2.1
    · exact td_w6.2.2.2
    · exact hw
  refine mj_after X (vx_runSW (hh := [(0, 10, 13, 13)]) (bytes := cL_told) (maxL := 5) (ret := some .int) (As := ([.inr (.inr (some a)), .inl p0, .inl p1, .inr (.inr o)] : List mj_V).map mj_val) (rest := st.map mj_val) ⟨X.1.1, X.1.2.1, X.1.2.2.1, X.1.2.2.2.2, X.2.1⟩ (td_l (D := D) (dA := dA) (B := B) (sa := sa) (p0 := p0) (p1 := p1) (o := o) hl hp) (vx_cwSW 4 X.2.1 hgood rfl rfl rfl ⟨by decide, by decide, by decide⟩ ⟨hR.1, by show 8 + (5 + 11) + (100 * 12 + 100) ≤ _; have := hR.2; omega⟩)
    ⟨td_blind, fun U hU hW => ⟨rfl, ⟨by rw [hU]; exact hH, mj_K.moved hW.alike X.2.2.2.1, hA, by rw [hU]; exact Nat.le_trans X.2.2.2.2.1 hS.1⟩, hS4.kept hS hU hW⟩⟩ rfl rfl hL.1.1 rfl (by rw [mj_cat_eq]; show 2 * 0 + mj_cat st ≤ 8; omega) hd ⟨by omega, by omega⟩) hS hL hst' hc hs h1 h2 (fun r G' M' hq => ?_)
  obtain ⟨rfl, rfl, rfl⟩ := hq
  exact kk
theorem lx_iald {own : String} {cc : ByteArray} (X : mj_X p l e R s m args below meth c own cc ret D dA B nL mc ms Q) {b n : Nat} {xs : Nat → Int32} (hX : va_X b n xs s s.heap) (hb : b < s.heap.size) (hB : ¬ B ≤ b) {z : Int} (h0 : 0 ≤ z) (h1 : z < n) (hd : decode cc pc = .ok (.iaload, 1)) (kk : mj_J X (pc + 1) L (.inl (xs z.toNat).toInt :: st) G M cb sb) : mj_J X pc L (.inl z :: .inr (.inr (some b)) :: st) G M cb sb := by
  intro H locs ls cells slots hH hS hL hst hc hs
  have hz : mj_in z := mj_head hst
  have g := kk H locs ls cells slots hH hS hL (mj_cons (mj_tl (mj_tl hst)) (mj_rng _)) hc hs
  refine va_sld X.1.1 X.1.2.1 hX hb hB hS (i := Int32.ofInt z) (fun q => ?_) hd ?_
  · rcases q with q | q
    · exact mj_nn hz h0 q
    · rw [mj_nat hz] at q; omega
  · rw [mj_nat hz, ← mj_it (xs z.toNat)]
    exact g
theorem lx_alen {own : String} {cc : ByteArray} (X : mj_X p l e R s m args below meth c own cc ret D dA B nL mc ms Q) {b n : Nat} {xs : Nat → Int32} (hX : va_X b n xs s s.heap) (hb : b < s.heap.size) (hB : ¬ B ≤ b) (hn : n ≤ 6) (hd : decode cc pc = .ok (.arraylength, 1)) (kk : mj_J X (pc + 1) L (.inl (n : Int) :: st) G M cb sb) : mj_J X pc L (.inr (.inr (some b)) :: st) G M cb sb := by
  intro H locs ls cells slots hH hS hL hst hc hs
  exact va_slen X.1.1 X.1.2.1 hX hb hB hS hd (kk H locs ls cells slots hH hS hL (mj_cons (mj_tl hst) ⟨by omega, by omega⟩) hc hs)
end LX
