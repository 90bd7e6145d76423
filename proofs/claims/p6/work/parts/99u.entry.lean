/-! ===== the law at its entry: what is known of the state; told and the script in the law's frame ===== -/
theorem lx_w1 : Cond.instantiable RX0 19 ∈ mj_tb ∧ Cond.instantiable RX1 4 ∈ mj_tb ∧ Cond.instantiable RX2 8 ∈ mj_tb ∧ Cond.instantiable RX3 15 ∈ mj_tb ∧ Cond.instantiable RX4 4 ∈ mj_tb ∧ Cond.instantiable RX5 6 ∈ mj_tb := by decide +kernel
theorem lx_w2 : Cond.instantiable RX6 4 ∈ mj_tb ∧ Cond.instantiable RX7 12 ∈ mj_tb ∧ Cond.instantiable RX8 4 ∈ mj_tb ∧ Cond.instantiable RX10 15 ∈ mj_tb ∧ Cond.instantiable RX11 14 ∈ mj_tb ∧ Cond.instantiable RX12 62 ∈ mj_tb := by decide +kernel
theorem lx_w3 : Cond.arrayClass .int ∈ lw_tbl ∧ Cond.arrayClass .byte ∈ lw_tbl ∧ Cond.arrayClass .boolean ∈ lw_tbl ∧ Cond.arrayClass .long ∈ lw_tbl ∧ Cond.arrayOver (.array .int) ∈ lw_tbl ∧ Cond.arrayOver (.object "RentRiver$Word") ∈ lw_tbl ∧ Cond.arrayOver (.object "RentRiver$State") ∈ lw_tbl := by decide +kernel
theorem lx_K {s : State} {args : Array Value} (hts : ∀ w ∈ lw_tbl, w.before args s = true) (ad : Nat → Nat) (al : Nat) : ∃ (D : va_G) (dA : Nat → ClassId), mj_K D dA s ∧ (∀ k, dA (100 + k) = ad k) ∧ dA 99 = al := by
  have htb : ∀ w ∈ mj_tb, w.before args s = true := fun w hw => hts w (mj_tb_good w hw).1
  have k : ∀ ci : Nat, ∃ y : ClassId × (Nat → Nat), ∀ q : vw_C, vwCl[ci]? = some q → u_Kn s q.1 q.2.1 q.2.2 y.1 y.2 := by
    have one : ∀ {C : String} {T : u_T} {N n : Nat} (ci : Nat), vwCl[ci]? = some (C, T, N) → (∀ w ∈ u_ws C T N, w ∈ mj_tb) → Cond.instantiable C n ∈ mj_tb → ∃ y : ClassId × (Nat → Nat), ∀ q : vw_C, vwCl[ci]? = some q → u_Kn s q.1 q.2.1 q.2.2 y.1 y.2 := fun {C T N n} ci h1 h2 h3 => by
      obtain ⟨cC, iS, hk⟩ := u_known htb h2 (htb _ h3)
      refine ⟨(cC, iS), fun q hq => ?_⟩
      obtain rfl : (C, T, N) = q := Option.some.inj (h1.symm.trans hq)
      exact hk
    intro ci
    match ci with
    | 0 => exact one 0 rfl mj_lay0 lx_w1.1
    | 1 => exact one 1 rfl mj_lay1 lx_w1.2.1
    | 2 => exact one 2 rfl mj_lay2 lx_w1.2.2.1
    | 3 => exact one 3 rfl mj_lay3 lx_w1.2.2.2.1
    | 4 => exact one 4 rfl mj_lay4 lx_w1.2.2.2.2.1
    | 5 => exact one 5 rfl mj_lay5 lx_w1.2.2.2.2.2
    | 6 => exact one 6 rfl mj_lay6 lx_w2.1
    | 7 => exact one 7 rfl mj_lay7 lx_w2.2.1
    | 8 => exact one 8 rfl mj_lay8 lx_w2.2.2.1
    | 9 => exact one 9 rfl mj_lay9 lx_w2.2.2.2.1
    | 10 => exact one 10 rfl mj_lay10 lx_w2.2.2.2.2.1
    | 11 => exact one 11 rfl mj_lay11 lx_w2.2.2.2.2.2
    | n + 12 => exact ⟨(0, fun _ => 0), fun q hq => by cases hq⟩
  have a : ∀ j : Nat, ∃ c : ClassId, (j < 7 → s.vm.findClass ("[" ++ (mj_at j).toString) = some c ∧ ArrOfT s c (mj_at j)) ∧ (j = 5 ∨ j = 6 → va_RA s c (.object (mj_cn j))) := by
    have one : ∀ (j : Nat), j < 4 → (Cond.arrayClass (mj_at j)).before args s = true → ∃ c : ClassId, (j < 7 → s.vm.findClass ("[" ++ (mj_at j).toString) = some c ∧ ArrOfT s c (mj_at j)) ∧ (j = 5 ∨ j = 6 → va_RA s c (.object (mj_cn j))) := fun j hj h => by
      obtain ⟨c, k, comp, h1, h2, h3⟩ := Cond.arrayClass_spec h
      exact ⟨c, fun _ => ⟨h1, fun n z => ⟨(fun k h => by cases h), k, h2, comp, h3⟩⟩, fun q => by omega⟩
    have obj : ∀ (j : Nat) (C : String), mj_at j = .object C → mj_cn j = C → (Cond.arrayOver (.object C)).before args s = true → ∃ c : ClassId, (j < 7 → s.vm.findClass ("[" ++ (mj_at j).toString) = some c ∧ ArrOfT s c (mj_at j)) ∧ (j = 5 ∨ j = 6 → va_RA s c (.object (mj_cn j))) := fun j C e1 e2 h => by
      obtain ⟨comp, c, k, h1, -, h3, h4, h5⟩ := Cond.arrayOver_spec h
      rw [e1, e2]
      exact ⟨c, fun _ => ⟨h5, fun n z => ⟨(fun k h => by cases h), k, h3, comp, h4⟩⟩, fun _ => ⟨k, comp, h3, h4, h1, h5⟩⟩
    intro j
    match j with
    | 0 => exact one 0 (by decide) (hts _ lx_w3.1)
    | 1 => exact one 1 (by decide) (hts _ lx_w3.2.1)
    | 2 => exact one 2 (by decide) (hts _ lx_w3.2.2.1)
    | 3 => exact one 3 (by decide) (hts _ lx_w3.2.2.2.1)
    | 4 =>
      obtain ⟨comp, c, k, h1, -, h3, h4, h5⟩ := arrayOverA_spec (hts _ lx_w3.2.2.2.2.1)
      exact ⟨c, fun _ => ⟨h5, fun n z => ⟨(fun k h => by cases h), k, h3, comp, h4⟩⟩, fun q => by omega⟩
    | 5 => exact obj 5 "RentRiver$Word" rfl rfl (hts _ lx_w3.2.2.2.2.2.1)
    | 6 => exact obj 6 "RentRiver$State" rfl rfl (hts _ lx_w3.2.2.2.2.2.2)
    | n + 7 => exact ⟨0, fun q => by omega, fun q => by omega⟩
  obtain ⟨f, hf⟩ := Classical.axiomOfChoice k
  obtain ⟨g, hg⟩ := Classical.axiomOfChoice a
  have e : ∀ j : Nat, j < 7 → (fun j => if j < 7 then g j else if j = 99 then al else ad (j - 100)) j = g j := fun j hj => if_pos hj
  refine ⟨(fun ci => (f ci).1, fun ci => (f ci).2), (fun j => if j < 7 then g j else if j = 99 then al else ad (j - 100)), ⟨fun ci q hq => hf ci q hq, fun j hj => by rw [e j hj]; exact (hg j).1 hj, hts _ lx_w3.2.2.2.2.1, fun j hj => ⟨?_, by rw [e j (by omega)]; exact (hg j).2 hj⟩⟩, fun k => ?_, rfl⟩
  rotate_left
  · show (if 100 + k < 7 then g (100 + k) else if 100 + k = 99 then al else ad (100 + k - 100)) = ad k
    rw [if_neg (by omega), if_neg (by omega), Nat.add_sub_cancel_left]
  rcases hj with rfl | rfl
  · exact va_AO.of (hts _ lx_w3.2.2.2.2.2.1)
  · exact va_AO.of (hts _ lx_w3.2.2.2.2.2.2)
theorem lx_w4 : Cond.stringRef RX11 151 td_tx ∈ lw_tbl ∧ Cond.laysStatic Bundle.tN "UNASSIGNED_STACK" Bundle.steD ∈ lw_tbl ∧ Cond.laysStatic Bundle.tN "SUPPRESSED_SENTINEL" Bundle.listD ∈ lw_tbl ∧ Cond.initialized Bundle.tN ∈ lw_tbl ∧ Cond.castable td_E td_E ∈ lw_tbl := by decide +kernel
set_option maxRecDepth 100000 in
theorem lx_g1 : Cond.isRef (.static Bundle.tN "UNASSIGNED_STACK" Bundle.steD) ∈ flatC (Jvm.Cond.and given_1 narrow_1) ∧ Cond.isRef (.static Bundle.tN "SUPPRESSED_SENTINEL" Bundle.listD) ∈ flatC (Jvm.Cond.and given_1 narrow_1) ∧ Cond.exactly (.string RX11 151) "java/lang/String" ∈ flatC (Jvm.Cond.and given_1 narrow_1) := by decide +kernel
theorem lx_S {s : State} {args : Array Value} (hts : ∀ w ∈ lw_tbl, w.before args s = true) (hg : (Jvm.Cond.and given_1 narrow_1).before args s = true) : ∃ sa, td_S s.heap.size sa s := by
  have hf := flat_of_before _ hg
  obtain ⟨sa, -, -, -, ha, -⟩ := Cond.exactly_spec (hf _ lx_g1.2.2)
  have hA : ∀ q : Nat, q < s.heap.size → ¬ s.heap.size ≤ q := fun q h => by omega
  refine ⟨sa, vk_R.of (hts _ lx_w4.1) ha, vx_Zqof (hts _ lx_w4.2.1) (hts _ lx_w4.2.2.2.1) (hf _ lx_g1.1) hA, vx_Zqof (hts _ lx_w4.2.2.1) (hts _ lx_w4.2.2.2.1) (hf _ lx_g1.2.1) hA, va_Nw.of rfl (hts _ lx_w4.2.2.2.2), fun w hw => va_Nw.of (A := args) (td_cd_on (td_ngc w hw)) ?_⟩
  rcases td_ng_in w hw with h | h
  · exact hts w h
  · rw [h]; exact hts _ lx_w4.2.2.2.2
def lx_wn (i : Nat) : String := mj_wn.getD i ""
abbrev lx_D : String := "LRentRiver$Word;"
abbrev lx_al : Term := .static RX9 "ALL" "[LRentRiver$Word;"
def lx_sc (i : Nat) : Term := .static RX9 (mj_wn.getD i "") lx_D
theorem lx_all {p : Nat → Bool} {n : Nat} (h : (List.range n).all p = true) {i : Nat} (hi : i < n) : p i = true := List.all_eq_true.mp h i (List.mem_range.mpr hi)
abbrev lx_F : List Cond := flatC (Jvm.Cond.and given_1 narrow_1)
set_option maxRecDepth 100000 in
theorem lx_e1 : ((List.range 24).all fun i => decide (Cond.laysStatic RX9 (mj_wn.getD i "") lx_D ∈ lw_tbl)) = true := by decide +kernel
theorem lx_e2 : Cond.initialized RX9 ∈ lw_tbl ∧ Cond.laysStatic RX9 "ALL" "[LRentRiver$Word;" ∈ lw_tbl := by decide +kernel
set_option maxRecDepth 100000 in
theorem lx_e3 : ((List.range 24).all fun i => decide (Cond.exactly (.static RX9 (mj_wn.getD i "") lx_D) RX9 ∈ lx_F)) = true := by decide +kernel
set_option maxRecDepth 100000 in
theorem lx_e4 : ((List.range 24).all fun i => decide (Cond.eq (.field (.static RX9 (mj_wn.getD i "") lx_D) RX9 "what" "I") (.int ((mj_ww.map Int32.ofInt).getD i 0)) ∈ lx_F)) = true := by decide +kernel
set_option maxRecDepth 100000 in
theorem lx_e5 : ((List.range 24).all fun i => decide (Cond.eq (.field (.static RX9 (mj_wn.getD i "") lx_D) RX9 "code" "J") (.long (mj_wc.getD i 0)) ∈ lx_F)) = true := by decide +kernel
set_option maxRecDepth 100000 in
theorem lx_e6 : ((List.range 24).all fun i => decide (Cond.eq (.field (.static RX9 (mj_wn.getD i "") lx_D) "java/lang/Enum" "ordinal" "I") (.int (Int32.ofNat i)) ∈ lx_F)) = true := by decide +kernel
theorem lx_ne {args : Array Value} {s : State} {t u : Term} {a b : Nat} (ht : t.eval args s none [] s = some (.ref a)) (hu : u.eval args s none [] s = some (.ref b)) (h : a ≠ b) : (Cond.not (.eq t u)).before args s = true := by
  simp [Cond.before, Cond.holds, Cond.value, ht, hu, h]
theorem lx_d6 {args : Array Value} {s : State} (hf : ∀ c ∈ lx_F, c.before args s = true) {i j : Nat} (hi : i < 24) (hj : j < 24) (hij : i ≠ j) : (Cond.not (.eq (.static RX9 (mj_wn.getD i "") lx_D) (.static RX9 (mj_wn.getD j "") lx_D))).before args s = true := by
  obtain ⟨a, -, -, -, a1, -⟩ := Cond.exactly_spec (hf _ (of_decide_eq_true (lx_all lx_e3 hi)))
  obtain ⟨b, -, -, -, b1, -⟩ := Cond.exactly_spec (hf _ (of_decide_eq_true (lx_all lx_e3 hj)))
  refine lx_ne a1 b1 (fun e => hij ?_)
  have h1 := va_eqt (hf _ (of_decide_eq_true (lx_all lx_e6 hi)))
  have h2 := va_eqt (hf _ (of_decide_eq_true (lx_all lx_e6 hj)))
  rw [va_fe a1] at h1
  rw [va_fe b1, ← e, h1] at h2
  have h3 : Int32.ofNat i = Int32.ofNat j := Value.int.inj (Option.some.inj h2)
  have h6 : ∀ i j : Fin 24, Int32.ofNat i.val = Int32.ofNat j.val → i = j := by decide +kernel
  exact congrArg Fin.val (h6 ⟨i, hi⟩ ⟨j, hj⟩ h3)
set_option maxRecDepth 100000 in
theorem lx_e7 : ((List.range 24).all fun i => decide (Cond.eq (.elem lx_al (.int (Int32.ofNat i))) (.static RX9 (mj_wn.getD i "") lx_D) ∈ lx_F)) = true := by decide +kernel
set_option maxRecDepth 100000 in
theorem lx_e8 : Cond.arrayOf lx_al (.object "RentRiver$Word") ∈ lx_F ∧ Cond.eq (.length lx_al) (.int 24) ∈ lx_F ∧ Cond.exactly lx_al "[LRentRiver$Word;" ∈ lx_F := by decide +kernel
/-- the words and the list of all, as the start has them -/
theorem lx_W {s : State} {args : Array Value} (hts : ∀ w ∈ lw_tbl, w.before args s = true) (hg : (Jvm.Cond.and given_1 narrow_1).before args s = true) : ∃ (ad : Nat → Nat) (al : Nat), (∀ dA : Nat → ClassId, (∀ k, dA (100 + k) = ad k) → dA 99 = al → mj_EW dA s.heap.size s s.heap) ∧ (∃ cell : Cell, s.heap[al]? = some cell ∧ (∀ k, cell.vm ≠ .statics k) ∧ cell.vm ≠ .unknown ∧ s.vm.findClass "[LRentRiver$Word;" = some cell.cls ∧ (24 ≤ cell.slots.size ∧ cell.slots.size.toInt32 = Int32.ofNat 24) ∧ ∀ k, k < 24 → cell.slots[k]? = some (.ref (ad k))) ∧ (∀ k, k < 24 → ad k < s.heap.size) ∧ (∀ i j, i < 24 → j < 24 → ad i = ad j → i = j) ∧ (∀ k, k < 24 → ∃ cell : Cell, s.heap[ad k]? = some cell ∧ s.vm.findClass RX9 = some cell.cls ∧ ∃ (i : Nat) (w : Int64), cell.slots[i]? = some (.long w)) ∧ (∃ cell : Cell, s.heap[al]? = some cell ∧ s.isArrayOf cell (.object "RentRiver$Word")) := by
  have hf := flat_of_before _ hg
  have hA : ∀ q : Nat, q < s.heap.size → ¬ s.heap.size ≤ q := fun q h => by omega
  obtain ⟨ad, hE, hev⟩ := va_Enof2 (args := args) (s := s) (E := RX9) (d := lx_D) (nm := mj_wn) (F := [(RX9, "what", "I", mj_ww.map Int32.ofInt)]) (A := fun q => s.heap.size ≤ q)
    (fun i hi => hts _ (of_decide_eq_true (lx_all lx_e1 hi))) (hts _ lx_e2.1) (fun i hi => hf _ (of_decide_eq_true (lx_all lx_e3 hi)))
    (fun q hq i hi => by
      rcases List.mem_cons.mp hq with rfl | hq
      · exact hf _ (of_decide_eq_true (lx_all lx_e4 hi))
      · cases hq)
    (fun i j hi hj hij => by
      rcases Nat.lt_or_ge i j with q | q
      · exact Or.inl (lx_d6 hf hi hj hij)
      · exact Or.inl (lx_d6 hf hi hj hij)) hA
  have hEf : va_Ef 24 RX9 "code" "J" (fun k => .long (mj_wc.getD k 0)) ad (fun q => s.heap.size ≤ q) s s.heap := va_Efof (E := RX9) (d0 := lx_D) (nm := mj_wn) (tm := fun i => .long (mj_wc.getD i 0)) hev (fun i hi => hf _ (of_decide_eq_true (lx_all lx_e5 hi))) (fun i hi => rfl) hA
  have hlen : (Term.length lx_al).eval args s none [] s = some (.int (Int32.ofNat 24)) := va_eqv (hf _ lx_e8.2.1) rfl
  obtain ⟨al, hal, cell, c1, c2, c3, c4, c5, c6, c7⟩ := va_Tof (args := args) (s := s) (tm := lx_al) (ty := .object "RentRiver$Word") (N := 24) (f := fun k => .ref (ad k)) (A := fun q => s.heap.size ≤ q) (by decide) (hf _ lx_e8.1) hlen (fun j hj => va_eqv (hf _ (of_decide_eq_true (lx_all lx_e7 hj))) (hev j hj)) hA
  obtain ⟨a2, c, cell2, k, q1, q2, q3, q4, q5, q6, -⟩ := Cond.exactly_spec (hf _ lx_e8.2.2)
  have ea : a2 = al := by
    have := q1.symm.trans hal
    cases this
    rfl
  rw [ea, c1] at q3
  have ec : cell = cell2 := Option.some.inj q3
  refine ⟨ad, al, fun dA e1 e2 => ?_, ⟨cell, c1, c2.1, c3, by rw [ec, q6]; exact q2, ⟨c4, c5⟩, c6⟩, fun k hk => ?_, fun i j hi hj => hE.2 i j hi hj, fun k hk => ?_, cell, c1, c2⟩
  · have e3 : (fun k => dA (100 + k)) = ad := funext e1
    unfold mj_EW
    rw [e3, e2]
    exact ⟨hE, hEf, va_Zref (hts _ lx_e2.2) (hts _ lx_e2.1) hal hA⟩
  · obtain ⟨cl, g1, -⟩ := (hE.1 k hk).2.1
    exact (Array.getElem?_eq_some_iff.mp g1).1
  · obtain ⟨cl, g1, g2, g3, -⟩ := (hE.1 k hk).2.1
    obtain ⟨cf, kf, fi, f, cl2, f1, f2, f3, f4, f5, -⟩ := hEf k hk
    rw [g1] at f3
    have e := Option.some.inj f3
    subst e
    exact ⟨cl, g1, g3, f.slot, _, f5⟩
theorem lx_fc {vm : Vm} {a b : String} {c : ClassId} (h1 : vm.findClass a = some c) (h2 : vm.findClass b = some c) : a = b := by
  obtain ⟨l1, p1, -⟩ := Array.findIdx?_eq_some_iff_getElem.mp h1
  obtain ⟨l2, p2, -⟩ := Array.findIdx?_eq_some_iff_getElem.mp h2
  simp only [Bool.and_eq_true, beq_iff_eq] at p1 p2
  rw [← p1.1.1.1, ← p2.1.1.1]
section LX
variable {p : Program} {l : Launch} {e : Env} {R : Room} {s : State} {m : MethodId} {args : Array Value} {below : List Frame} {meth : Method} {c : Code} {ret : Option FieldType} {D : va_G} {dA : Nat → ClassId} {B nL mc ms : Nat} {Q : mj_P}
variable {pc : Nat} {L : mj_L} {st : List mj_V} {G : mj_G} {M : mj_M} {cb sb : Nat}
theorem lx_told (X : mj_X p l e R s m args below meth c RL cL_law ret D dA B nL mc ms Q) {sa a b0 c0 tl q0 : Nat} {p0 p1 : Int} (hl : l.stackTraces = false) (hS4 : td_S B sa s) (hR : 13 ≤ R.frames ∧ 1400 ≤ R.locals) (hd : decode cL_law pc = .ok (.invokestatic 38, 3)) (hp : td_Pre G M a b0 c0 tl) (hq0 : G q0 = (90103, 1)) (h8 : mj_cat st ≤ 8) (h1 : 4 ≤ cb) (h2 : 64 ≤ sb)
    (kk : ∀ z M', td_R M c0 tl q0 p0 p1 z M' → M'.1 = M.1 → M'.2.2 = M.2.2 → (∀ y k, (G y).1 = 55103 → M'.2.1 y k = M.2.1 y k) → mj_J X (pc + 3) L (.inl z :: st) G M' (cb - 4) (sb - 64)) : mj_J X pc L (.inr (.inr (some q0)) :: .inl p1 :: .inl p0 :: .inr (.inr (some a)) :: st) G M cb sb := by
  intro H locs ls cells slots hH hS hL hst hc hs
  have hm1 : mc ≤ R.cells := X.2.2.2.2.2.2.2.1
  have hm2 : ms ≤ R.slots := X.2.2.2.2.2.2.2.2
  have hst' : ∀ v ∈ st, mj_ok v := mj_tl (mj_tl (mj_tl (mj_tl hst)))
  have hA : ∀ v ∈ ([.inr (.inr (some a)), .inl p0, .inl p1, .inr (.inr (some q0))] : List mj_V), mj_ok v := fun v hv => hst v (by
    simp only [List.mem_cons, List.not_mem_nil, or_false] at hv ⊢
    rcases hv with h | h | h | h <;> simp [h])
  have hgood : GoodIn mj_tb (va_wsS RL 38 yL_told (.codeWith yL_told cL_told 5 (some .int) [(0, 10, 13, 13)] :: mj_tb)) := mj_good fun w hw => by
    simp only [va_wsS, List.cons_append, List.nil_append, List.mem_cons] at hw
    rcases hw with rfl | rfl | rfl | rfl | hw
    · exact td_w6.1
    · exact td_w6.2.1
    · exact td_w6.2.2.1
    · exact td_w6.2.2.2
    · exact hw
  refine mj_after X (vx_runSW (hh := [(0, 10, 13, 13)]) (bytes := cL_told) (maxL := 5) (ret := some .int) (As := ([.inr (.inr (some a)), .inl p0, .inl p1, .inr (.inr (some q0))] : List mj_V).map mj_val) (rest := st.map mj_val) ⟨X.1.1, X.1.2.1, X.1.2.2.1, X.1.2.2.2.2, X.2.1⟩ (td_l (D := D) (dA := dA) (B := B) (sa := sa) (p0 := p0) (p1 := p1) (q0 := q0) hl hp hq0) (vx_cwSW 4 X.2.1 hgood rfl rfl rfl ⟨by decide, by decide, by decide⟩ ⟨hR.1, by show 8 + (5 + 11) + (100 * 12 + 100) ≤ _; have := hR.2; omega⟩)
    ⟨td_blind, fun U hU hW => ⟨rfl, ⟨by rw [hU]; exact hH, mj_K.moved hW.alike X.2.2.2.1, hA, by rw [hU]; exact Nat.le_trans X.2.2.2.2.1.1 hS.1, X.2.2.2.2.1.2.go hS hU hW.alike⟩, hS4.kept hS hU hW⟩⟩ rfl rfl hL.1.1 rfl (by rw [mj_cat_eq]; show 2 * 0 + mj_cat st ≤ 8; omega) hd ⟨by omega, by omega⟩) hS hL hst' hc hs h1 h2 (fun r G' M' hq => ?_)
  obtain ⟨⟨z, rfl, hz⟩, rfl, e1, e2, e3⟩ := hq
  exact kk z M' hz e1 e2 e3
theorem lx_iald {own : String} {cc : ByteArray} (X : mj_X p l e R s m args below meth c own cc ret D dA B nL mc ms Q) {b n : Nat} {xs : Nat → Int32} (hX : va_X b n xs s s.heap) (hb : b < s.heap.size) (hB : ¬ B ≤ b) {z : Int} (h0 : 0 ≤ z) (h1 : z < n) (hd : decode cc pc = .ok (.iaload, 1)) (kk : mj_J X (pc + 1) L (.inl (xs z.toNat).toInt :: st) G M cb sb) : mj_J X pc L (.inl z :: .inr (.inr (some b)) :: st) G M cb sb := by
  intro H locs ls cells slots hH hS hL hst hc hs
  have hz : mj_in z := mj_head hst
  have g := kk H locs ls cells slots hH hS hL (mj_cons (mj_tl (mj_tl hst)) (mj_rng _)) hc hs
  refine va_sld X.1.1 X.1.2.1 hX hb hB hS (i := Int32.ofInt z) (fun q => ?_) hd ?_
  · rcases q with q | q
    · exact mj_nn hz h0 q
    · rw [mj_nat hz] at q; omega
  · rw [mj_nat hz, ← mj_it (xs z.toNat)]
    exact g
theorem lx_alen {own : String} {cc : ByteArray} (X : mj_X p l e R s m args below meth c own cc ret D dA B nL mc ms Q) {b n : Nat} {xs : Nat → Int32} (hX : va_X b n xs s s.heap) (hb : b < s.heap.size) (hB : ¬ B ≤ b) (hn : n ≤ 3072) (hd : decode cc pc = .ok (.arraylength, 1)) (kk : mj_J X (pc + 1) L (.inl (n : Int) :: st) G M cb sb) : mj_J X pc L (.inr (.inr (some b)) :: st) G M cb sb := by
  intro H locs ls cells slots hH hS hL hst hc hs
  exact va_slen X.1.1 X.1.2.1 hX hb hB hS hd (kk H locs ls cells slots hH hS hL (mj_cons (mj_tl hst) ⟨by omega, by omega⟩) hc hs)
end LX
