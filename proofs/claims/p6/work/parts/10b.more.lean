/-! ===== arrays of references, switches, Math and the copying of arrays ===== -/
theorem mj_at_o {j : Nat} (h : j = 5 ∨ j = 6) : mj_at j = .object (mj_cn j) := by rcases h with rfl | rfl <;> rfl
theorem mj_as_o {j : Nat} (h : j = 5 ∨ j = 6) : mj_as j = 2 := by rcases h with rfl | rfl <;> rfl
theorem mj_asg (vm : Vm) (c : ClassId) : vm.assignable c c = true := by
  have h : ∀ n, vm.assignableAux (n + 1) c c = true := fun n => by
    unfold Vm.assignableAux
    simp
  exact h 255
section MJB
variable {p : Program} {l : Launch} {e : Env} {R : Room} {s : State} {m : MethodId} {args : Array Value} {below : List Frame} {meth : Method} {c : Code} {own : String} {cc : ByteArray} {ret : Option FieldType} {D : va_G} {dA : Nat → ClassId} {B nL mc ms : Nat} {Q : mj_P}
variable {pc : Nat} {L : mj_L} {st : List mj_V} {G : mj_G} {M : mj_M} {cb sb : Nat}
theorem mj_o_anew (X : mj_X p l e R s m args below meth c own cc ret D dA B nL mc ms Q) {i j t : Nat} {z : Int} (hd : decode cc pc = .ok (.anewarray i, 3)) (hj : j = 5 ∨ j = 6) (hw : Cond.classLink own i (mj_cn j) ∈ mj_tb) (ht : t % 1000 = 100 + j) (h0 : 0 ≤ z) (h9 : z ≤ 100000) (h1 : 1 ≤ cb) (h2 : z.toNat ≤ sb)
    (kk : ∀ a, (∀ x, a ≤ x → G x = (0, 0)) → mj_J X (pc + 3) L (.inr (.inr (some a)) :: st) (mj_g G a t z.toNat) (mj_z M a) (cb - 1) (sb - z.toNat)) : mj_J X pc L (.inl z :: st) G M cb sb := by
  intro H locs ls cells slots hH hS hL hst hc hs
  have hz : mj_in z := mj_head hst
  have hm1 : mc ≤ R.cells := X.2.2.2.2.2.2.2.1
  have hm2 : ms ≤ R.slots := X.2.2.2.2.2.2.2.2
  refine W.anew X.1.1 X.1.2.1 X.1.2.2.2.2 (X.2.1 _ hw) ((X.2.2.2.1.2.2.2 j hj).1.use) rfl hd rfl (mj_nn hz h0) (by rw [mj_nat hz]; omega) (by omega) (by rw [mj_nat hz]; omega) (fun cA kA comp f1 f2 f3 f4 => ?_)
  have f1 : s.vm.findClass ("[" ++ (mj_at j).toString) = some cA := by rw [mj_at_o hj]; exact f1
  have hcA : cA = dA j := Option.some.inj (f1.symm.trans (X.2.2.2.1.2.1 j (by omega)).1)
  subst hcA
  rw [mj_nat hz, arrV_new]
  refine kk H.size hH.2.1.1 _ locs ls (cells + 1) (slots + z.toNat) (hH.push1 (Nat.le_trans X.2.2.2.2.1.1 hS.1) (by simp) (fun q hq => by simp [Array.getElem?_push, Nat.ne_of_lt hq]) ?_ (by omega) ?_) (mj_S_up hS (by simp) (fun q hq => by simp [Array.getElem?_push, Nat.ne_of_lt hq])) hL (mj_cons (mj_tl hst) trivial) (by omega) (by omega)
  · intro ci r e1 e2
    exact (mj_cl100 e1 ht e2).elim
  · intro j' e1
    have e3 : j' = j := by omega
    subst e3
    rw [Array.getElem?_push, if_pos rfl]
    congr 2
    funext k
    have := mj_sv_z0 (M := M) (a := H.size) (j := k) (mj_at j') (by rw [mj_at_o hj]; constructor <;> (intro q; cases q))
    rw [show mj_as j' = mj_fs (mj_at j') from rfl, this, mj_at_o hj]
    rfl
theorem mj_o_aastore (X : mj_X p l e R s m args below meth c own cc ret D dA B nL mc ms Q) {a t n j : Nat} {i : Int} {z : Option Nat} (hd : decode cc pc = .ok (.aastore, 1)) (hj : j = 5 ∨ j = 6) (hG : G a = (t, n)) (ht : t % 1000 = 100 + j) (hw9 : t < 900000) (h0 : 0 ≤ i) (h1 : i < n) (hb : ∀ b, z = some b → (j = 6 ∧ ∃ t' n', G b = (t', n') ∧ t' % 1000 = 7) ∨ (j = 5 ∧ ∃ t' n', G b = (t', n') ∧ t' % 1000 = 50))
    (kk : mj_J X (pc + 1) L st G (mj_p2 M a i.toNat z) cb sb) : mj_J X pc L (.inr (.inr z) :: .inl i :: .inr (.inr (some a)) :: st) G M cb sb := by
  intro H locs ls cells slots hH hS hL hst hc hs
  have hi : mj_in i := mj_head (mj_tl hst)
  obtain ⟨hB, q1, q2⟩ := mj_arr X (by omega) hH hG ht (Or.inl hw9)
  have go : ∀ H' : Heap, H'[a]? = some ((arrV (dA j) n (fun k => mj_sv (mj_as j) M a k)).setSlot i.toNat (mj_val (.inr (.inr z)))) → H'.size = H.size → (∀ q, q ≠ a → H'[q]? = H[q]?) → W p l e R s m args below meth c H' (locs ++ [⟨a, i.toNat⟩]) cells slots (MQ below (mj_Q D dA B Q) args s mc ms (fun q => B ≤ q)) (F0 m (pc + 1) ls (st.map mj_val)) := by
    intro H' w1 w2 w3
    exact kk H' _ ls cells slots (hH.ast (v := .inr (.inr z)) hG ht (by rw [mj_as_o hj]; exact mj_u2 hH.1) w1 w2 w3) (hS.put w2 w3 (hB hw9)) hL (mj_tl (mj_tl (mj_tl hst))) hc hs
  cases z with
  | none =>
    rw [mj_at_o hj] at q2
    refine va_WaastN X.1.1 X.1.2.1 q1 q2 (fun q => by cases q) (by rw [arrV_size]; exact mj_idx hi h0 h1) rfl rfl hd (fun H' w1 w2 w3 => ?_)
    rw [mj_nat hi] at w1 ⊢
    exact go H' w1 w2 w3
  | some b =>
    rcases hb b rfl with ⟨rfl, t', n', hGb, htb⟩ | ⟨rfl, t', n', hGb, htb⟩
    rotate_left
    · obtain ⟨kw, hkw, -, rfl⟩ := hH.2.1.2.2.1 b t' n' hGb htb
      obtain ⟨cellV, c1, c3, c2⟩ := va_recvE X.2.2.2.2.1.2.1 (i := kw) hkw hS
      obtain ⟨kA, comp, k1, k2, k3, -⟩ := (X.2.2.2.1.2.2.2 5 (Or.inl rfl)).2
      have hcomp : comp = cellV.cls := Option.some.inj (k3.symm.trans c2)
      subst hcomp
      obtain ⟨kC, hkC, -⟩ := Vm.findClass_spec c2
      refine W.aast X.1.1 X.1.2.1 q1 (fun q h => by cases h) (fun h => by cases h) k1 k2 rfl hkC ⟨mj_nn hi h0, by rw [arrV_size, mj_nat hi]; omega⟩ c1 (fun q h => by rw [h] at c3; cases c3) hkC (mj_asg _ _) rfl rfl hd (fun H' w1 w2 w3 => ?_)
      rw [mj_nat hi] at w1 ⊢
      exact go H' w1 w2 w3
    obtain ⟨-, g1, -⟩ := hH.2.2 b t' n' hGb (mj_ne (k := 6) htb)
    obtain ⟨cellV, c1, c2, c3, -⟩ := g1 6 (RX6, TX6, 4) htb rfl
    have hcls := (X.2.2.2.1.1 6 (RX6, TX6, 4) rfl).2
    obtain ⟨kA, comp, k1, k2, k3, -⟩ := (X.2.2.2.1.2.2.2 6 (Or.inr rfl)).2
    have hcomp : comp = D.1 6 := Option.some.inj (k3.symm.trans hcls.1)
    subst hcomp
    obtain ⟨kC, hkC, -⟩ := hcls.2
    refine W.aast X.1.1 X.1.2.1 q1 (fun q h => by cases h) (fun h => by cases h) k1 k2 rfl hkC ⟨mj_nn hi h0, by rw [arrV_size, mj_nat hi]; omega⟩ c1 (fun q h => by rw [c3] at h; cases h) (by rw [c2]; exact hkC) (by rw [c2]; exact va_assign hcls) rfl rfl hd (fun H' w1 w2 w3 => ?_)
    rw [mj_nat hi] at w1 ⊢
    exact go H' w1 w2 w3
theorem mj_o_switch (X : mj_X p l e R s m args below meth c own cc ret D dA B nL mc ms Q) {df lo hi : Int} {offs : Array Int} {len tg : Nat} {tgs : List Nat} {z : Int} {pcs : Nat → Nat} (hd : decode cc pc = .ok (.tableswitch df lo hi offs, len)) (h0 : (pc : Int) + df = (pcs tg : Int)) (hn : (tgs.length : Int) = hi - lo + 1) (ho : ∀ (k t : Nat), tgs[k]? = some t → ∃ o, offs[k]? = some o ∧ (pc : Int) + o = (pcs t : Int))
    (kd : z < lo ∨ hi < z → mj_J X (pcs tg) L st G M cb sb) (ks : ∀ (k t : Nat), tgs[k]? = some t → z = lo + k → mj_J X (pcs t) L st G M cb sb) : mj_J X pc L (.inl z :: st) G M cb sb := by
  intro H locs ls cells slots hH hS hL hst hc hs
  have hz : mj_in z := mj_head hst
  have ez := mj_ti hz
  by_cases hq : z < lo ∨ hi < z
  · exact lv_tableOut X.1.1 X.1.2.1 hd (by rw [ez]; exact hq) h0 (kd hq H locs ls cells slots hH hS hL (mj_tl hst) hc hs)
  · have hlt : (z - lo).toNat < tgs.length := by omega
    obtain ⟨o, o1, o2⟩ := ho (z - lo).toNat tgs[(z - lo).toNat] (List.getElem?_eq_getElem hlt)
    exact lv_tableIn X.1.1 X.1.2.1 hd (by rw [ez]; omega) (by rw [ez]; omega) (by rw [ez]; exact o1) o2 (ks _ _ (List.getElem?_eq_getElem hlt) (by omega) H locs ls cells slots hH hS hL (mj_tl hst) hc hs)
theorem mj_o_max (X : mj_X p l e R s m args below meth c own cc ret D dA B nL mc ms Q) {i : Nat} {x y : Int} (hd : decode cc pc = .ok (.invokestatic i, 3)) (hw1 : Cond.methodLink own i Lib.Math.max.name ∈ mj_tb) (hw2 : Cond.static Lib.Math.max.name ∈ mj_tb) (hw3 : Cond.initialized "java/lang/Math" ∈ mj_tb) (hw4 : Cond.code Lib.Math.max.name Lib.Math.max.code 2 (some .int) ∈ mj_tb) (h8 : mj_cat st ≤ 8)
    (kk : ∀ z, (x < y → z = y) → (¬ x < y → z = x) → mj_J X (pc + 3) L (.inl z :: st) G M cb sb) : mj_J X pc L (.inl y :: .inl x :: st) G M cb sb := by
  intro H locs ls cells slots hH hS hL hst hc hs
  have hy : mj_in y := mj_head hst
  have hx : mj_in x := mj_head (mj_tl hst)
  have hm : 1 ≤ R.frames ∧ 100 ≤ R.locals ∧ mc ≤ R.cells ∧ ms ≤ R.slots := X.2.2.2.2.2
  refine va_mmax X.1.1 X.1.2.1 (X.1.2.2.1.trans hL.1.1.symm) X.1.2.2.2.2 (X.2.1 _ hw1) (X.2.1 _ hw2) (X.2.1 _ hw3) (X.2.1 _ hw4) hm.1 (by rw [mj_cat_eq]; omega) (by omega) (by omega) hd ?_
  by_cases q : x < y
  · rw [if_pos ((mj_lt hx hy).mpr q)]
    exact kk y (fun _ => rfl) (fun z => absurd q z) H locs ls cells slots hH hS hL (mj_cons (mj_tl (mj_tl hst)) hy) hc hs
  · rw [if_neg (fun z => q ((mj_lt hx hy).mp z))]
    exact kk x (fun z => absurd z q) (fun _ => rfl) H locs ls cells slots hH hS hL (mj_cons (mj_tl (mj_tl hst)) hx) hc hs
theorem mj_o_min (X : mj_X p l e R s m args below meth c own cc ret D dA B nL mc ms Q) {i : Nat} {x y : Int} (hd : decode cc pc = .ok (.invokestatic i, 3)) (hw1 : Cond.methodLink own i Lib.Math.min.name ∈ mj_tb) (hw2 : Cond.static Lib.Math.min.name ∈ mj_tb) (hw3 : Cond.initialized "java/lang/Math" ∈ mj_tb) (hw4 : Cond.code Lib.Math.min.name Lib.Math.min.code 2 (some .int) ∈ mj_tb) (h8 : mj_cat st ≤ 8)
    (kk : ∀ z, (y < x → z = y) → (¬ y < x → z = x) → mj_J X (pc + 3) L (.inl z :: st) G M cb sb) : mj_J X pc L (.inl y :: .inl x :: st) G M cb sb := by
  intro H locs ls cells slots hH hS hL hst hc hs
  have hy : mj_in y := mj_head hst
  have hx : mj_in x := mj_head (mj_tl hst)
  have hm : 1 ≤ R.frames ∧ 100 ≤ R.locals ∧ mc ≤ R.cells ∧ ms ≤ R.slots := X.2.2.2.2.2
  refine va_mmin X.1.1 X.1.2.1 (X.1.2.2.1.trans hL.1.1.symm) X.1.2.2.2.2 (X.2.1 _ hw1) (X.2.1 _ hw2) (X.2.1 _ hw3) (X.2.1 _ hw4) hm.1 (by rw [mj_cat_eq]; omega) (by omega) (by omega) hd ?_
  by_cases q : y < x
  · rw [if_pos ((mj_lt hy hx).mpr q)]
    exact kk y (fun _ => rfl) (fun z => absurd q z) H locs ls cells slots hH hS hL (mj_cons (mj_tl (mj_tl hst)) hy) hc hs
  · rw [if_neg (fun z => q ((mj_lt hy hx).mp z))]
    exact kk x (fun z => absurd z q) (fun _ => rfl) H locs ls cells slots hH hS hL (mj_cons (mj_tl (mj_tl hst)) hx) hc hs
theorem mj_o_abs (X : mj_X p l e R s m args below meth c own cc ret D dA B nL mc ms Q) {i : Nat} {x : Int} (hd : decode cc pc = .ok (.invokestatic i, 3)) (hw1 : Cond.methodLink own i Lib.Math.abs.name ∈ mj_tb) (hw2 : Cond.static Lib.Math.abs.name ∈ mj_tb) (hw3 : Cond.initialized "java/lang/Math" ∈ mj_tb) (hw4 : Cond.code Lib.Math.abs.name Lib.Math.abs.code 1 (some .int) ∈ mj_tb) (h8 : mj_cat st ≤ 8)
    (kk : ∀ z, mj_in z → (0 ≤ x → z = x) → (x < 0 → x ≠ -2147483648 → z = -x) → mj_J X (pc + 3) L (.inl z :: st) G M cb sb) : mj_J X pc L (.inl x :: st) G M cb sb := by
  intro H locs ls cells slots hH hS hL hst hc hs
  have hx : mj_in x := mj_head hst
  have hm : 1 ≤ R.frames ∧ 100 ≤ R.locals ∧ mc ≤ R.cells ∧ ms ≤ R.slots := X.2.2.2.2.2
  have h0 : mj_in 0 := ⟨by decide, by decide⟩
  refine va_mabs X.1.1 X.1.2.1 (X.1.2.2.1.trans hL.1.1.symm) X.1.2.2.2.2 (X.2.1 _ hw1) (X.2.1 _ hw2) (X.2.1 _ hw3) (X.2.1 _ hw4) hm.1 (by rw [mj_cat_eq]; omega) (by omega) (by omega) hd ?_
  by_cases q : 0 ≤ x
  · rw [if_pos (show (0 : Int32) ≤ Int32.ofInt x from (mj_le h0 hx).mpr q)]
    exact kk x hx (fun _ => rfl) (fun z => absurd z (by omega)) H locs ls cells slots hH hS hL (mj_cons (mj_tl hst) hx) hc hs
  · rw [if_neg (show ¬ (0 : Int32) ≤ Int32.ofInt x from fun z => q ((mj_le h0 hx).mp z))]
    have e1 : (0 : Int32) - Int32.ofInt x = Int32.ofInt (0 - x) := (Int32.ofInt_sub 0 x).symm
    have g := kk _ (mj_rng ((0 : Int32) - Int32.ofInt x)) (fun z => absurd z q) (fun h1 h2 => by
      rw [e1, mj_ti (show mj_in (0 - x) from ⟨by have := hx.2; omega, by have := hx.1; omega⟩)]; omega) H locs ls cells slots hH hS hL (mj_cons (mj_tl hst) (mj_rng _)) hc hs
    simp only [List.map_cons, mj_val, mj_it] at g
    exact g
theorem mj_sv_cp0 {so : Nat} {M : mj_M} {a b sp dp n x j : Nat} (h : x ≠ b) : mj_sv so (mj_cp0 M a b sp dp n) x j = mj_sv so M x j := by
  unfold mj_sv mj_cp0
  dsimp only
  rw [if_neg (fun q => h q.1)]
theorem mj_sv_cp1 {so : Nat} {M : mj_M} {a b sp dp n x j : Nat} (h : x ≠ b) : mj_sv so (mj_cp1 M a b sp dp n) x j = mj_sv so M x j := by
  unfold mj_sv mj_cp1
  dsimp only
  rw [if_neg (fun q => h q.1)]
theorem mj_cp0_at {M : mj_M} {a b sp dp n k : Nat} : mj_sv 0 (mj_cp0 M a b sp dp n) b k = if dp ≤ k ∧ k < dp + n then mj_sv 0 M a (sp + (k - dp)) else mj_sv 0 M b k := by
  unfold mj_sv mj_cp0
  dsimp only
  by_cases h : dp ≤ k ∧ k < dp + n
  · rw [if_pos ⟨rfl, h⟩, if_pos h]; rfl
  · rw [if_neg (fun q => h q.2), if_neg h]
theorem mj_o_copy0 (X : mj_X p l e R s m args below meth c own cc ret D dA B nL mc ms Q) {i a b ta na tb nb : Nat} {sp dp n : Int} (hd : decode cc pc = .ok (.invokestatic i, 3)) (hw1 : Cond.methodLink own i arraycopyName ∈ mj_tb) (hw2 : Cond.native arraycopyName ∈ mj_tb) (hw3 : Cond.static arraycopyName ∈ mj_tb) (hw4 : Cond.initialized "java/lang/System" ∈ mj_tb) (h8 : mj_cat st ≤ 8)
    (hGa : G a = (ta, na)) (hta : ta % 1000 = 100 + 0) (hGb : G b = (tb, nb)) (htb : tb % 1000 = 100 + 0) (hw9 : tb < 900000) (h1 : 0 ≤ sp) (h2 : 0 ≤ dp) (h3 : 0 ≤ n) (h4 : sp + n ≤ na) (h5 : dp + n ≤ nb)
    (kk : mj_J X (pc + 3) L st G (mj_cp0 M a b sp.toNat dp.toNat n.toNat) cb sb) : mj_J X pc L (.inl n :: .inl dp :: .inr (.inr (some b)) :: .inl sp :: .inr (.inr (some a)) :: st) G M cb sb := by
  intro H locs ls cells slots hH hS hL hst hc hs
  have hn : mj_in n := mj_head hst
  have hdp : mj_in dp := mj_head (mj_tl hst)
  have hsp : mj_in sp := mj_head (mj_tl (mj_tl (mj_tl hst)))
  have hm : 1 ≤ R.frames ∧ 100 ≤ R.locals ∧ mc ≤ R.cells ∧ ms ≤ R.slots := X.2.2.2.2.2
  obtain ⟨-, qa1, qa2⟩ := mj_arr X (by decide) hH hGa hta (Or.inr (by decide))
  obtain ⟨hB, qb1, qb2⟩ := mj_arr X (by decide) hH hGb htb (Or.inr (by decide))
  obtain ⟨-, k0, hk0, cm0, hkk0⟩ := qa2
  obtain ⟨-, k1, hk1, cm1, hkk1⟩ := qb2
  have en := mj_nat hn
  have ed := mj_nat hdp
  have es := mj_nat hsp
  have e5 : nativeFrameWords "java/lang/System" "arraycopy" 5 ≤ 50 := by decide
  intro T hT XS
  obtain ⟨vm', X', step⟩ := XS.arraycopy X.1.1 X.1.2.2.2.2 (X.2.1 _ hw1) (X.2.1 _ hw2) (X.2.1 _ hw3) (X.2.1 _ hw4) (src := a) (dst := b) (cs := arrV (dA 0) na (fun k => mj_sv (mj_as 0) M a k)) (cd := arrV (dA 0) nb (fun k => mj_sv (mj_as 0) M b k)) (srcPos := Int32.ofInt sp) (destPos := Int32.ofInt dp) (n := Int32.ofInt n) (by rw [hT]; exact qa1) (by rw [hT]; exact qb1)
    (fun _ h => by cases h) (fun _ h => by cases h) (fun h => by cases h) (fun h => by cases h) hk0 hk1 hkk0 hkk1 (by simp [mj_at, refKind]) (mj_nn hsp h1) (mj_nn hdp h2) (mj_nn hn h3)
    (by rw [mj_ti hsp, mj_ti hn, arrV_size]; omega) (by rw [mj_ti hdp, mj_ti hn, arrV_size]; omega)
    (fun vm₁ _ i hi => by
      have e : (arrV (dA 0) na (fun k => mj_sv (mj_as 0) M a k)).slots.getD ((Int32.ofInt sp).toNatClampNeg + i) .null = mj_sv (mj_as 0) M a ((Int32.ofInt sp).toNatClampNeg + i) := by
        rw [Array.getD_eq_getD_getElem?, arrV_read _ _ (by rw [es]; rw [en] at hi; omega)]
        rfl
      refine ⟨?_, ?_⟩
      · rw [e]; rfl
      · rw [e]; exact trivial)
    (g := F0 m pc ls (.int (Int32.ofInt n) :: .int (Int32.ofInt dp) :: .ref b :: .int (Int32.ofInt sp) :: .ref a :: st.map mj_val)) rfl (hL.1.1.trans X.1.2.2.1.symm) (rest := st.map mj_val) rfl (by rw [X.1.2.1]; exact hd) hm.1 (by rw [mj_cat_eq]; show 2 * 0 + _ + _ ≤ _; omega)
  have ec : copied (arrV (dA 0) na (fun k => mj_sv (mj_as 0) M a k)) (arrV (dA 0) nb (fun k => mj_sv (mj_as 0) M b k)) (Int32.ofInt sp) (Int32.ofInt dp) (Int32.ofInt n) = arrV (dA 0) nb (fun k => mj_sv (mj_as 0) (mj_cp0 M a b sp.toNat dp.toNat n.toNat) b k) := by
    refine (va_copied (fun z : Value => z) (dA 0) (dA 0) (fun k => mj_sv (mj_as 0) M a k) (fun k => mj_sv (mj_as 0) M b k) (by rw [es, en]; omega)).trans ?_
    congr 1
    funext k
    rw [es, ed, en]
    exact mj_cp0_at.symm
  rw [ec] at X' step
  have hlt : b < H.size := (Array.getElem?_eq_some_iff.mp qb1).1
  generalize hcell : arrV (dA 0) nb (fun k => mj_sv (mj_as 0) (mj_cp0 M a b sp.toNat dp.toNat n.toNat) b k) = cell at X' step
  have hheap : ((T.setVm vm').setCell b cell).heap = H.setIfInBounds b cell := by rw [← hT]; rfl
  have oq : ∀ q : Nat, q ≠ b → (H.setIfInBounds b cell)[q]? = H[q]? := fun q hq => by simp [Array.getElem?_setIfInBounds, Ne.symm hq]
  have hH' : mj_H D dA B G (mj_cp0 M a b sp.toNat dp.toNat n.toNat) (H.setIfInBounds b cell) := by
    refine hH.set hGb (by simp) oq (fun x j => ?_) (fun so x j hx => mj_sv_cp0 hx) (fun ci r e1 e2 => (mj_cl100 e1 htb e2).elim) (fun j e1 => ?_)
    · unfold mj_cp0
      dsimp only
      split
      · exact hH.1 _ _
      · exact hH.1 _ _
    · have e3 : j = 0 := by omega
      subst e3
      rw [hcell]
      simp [Array.getElem?_setIfInBounds, hlt]
  obtain ⟨t, a1, b1⟩ := kk _ _ ls cells slots hH' ⟨by simp; exact hS.1, fun q g1 g2 => by
      rw [oq q (fun e => g2 (by rw [e]; exact hB hw9))]
      exact hS.2.1 q g1 g2, fun q hq => by
      rcases List.mem_append.mp hq with h | h
      · exact hS.2.2 q h
      · obtain ⟨z, -, hz⟩ := List.mem_map.mp h
        rw [← hz]
        exact hB hw9⟩ hL (mj_tl (mj_tl (mj_tl (mj_tl (mj_tl hst))))) hc hs _ hheap X'
  exact ⟨t, step t a1, b1⟩
theorem mj_cp1_at {M : mj_M} {a b sp dp n k : Nat} : mj_sv 1 (mj_cp1 M a b sp dp n) b k = if dp ≤ k ∧ k < dp + n then mj_sv 1 M a (sp + (k - dp)) else mj_sv 1 M b k := by
  unfold mj_sv mj_cp1
  dsimp only
  by_cases h : dp ≤ k ∧ k < dp + n
  · rw [if_pos ⟨rfl, h⟩, if_pos h]; rfl
  · rw [if_neg (fun q => h q.2), if_neg h]
theorem mj_o_copy1 (X : mj_X p l e R s m args below meth c own cc ret D dA B nL mc ms Q) {i a b ta na tb nb : Nat} {sp dp n : Int} (hd : decode cc pc = .ok (.invokestatic i, 3)) (hw1 : Cond.methodLink own i arraycopyName ∈ mj_tb) (hw2 : Cond.native arraycopyName ∈ mj_tb) (hw3 : Cond.static arraycopyName ∈ mj_tb) (hw4 : Cond.initialized "java/lang/System" ∈ mj_tb) (h8 : mj_cat st ≤ 8)
    (hGa : G a = (ta, na)) (hta : ta % 1000 = 100 + 3) (hGb : G b = (tb, nb)) (htb : tb % 1000 = 100 + 3) (hw9 : tb < 900000) (h1 : 0 ≤ sp) (h2 : 0 ≤ dp) (h3 : 0 ≤ n) (h4 : sp + n ≤ na) (h5 : dp + n ≤ nb)
    (kk : mj_J X (pc + 3) L st G (mj_cp1 M a b sp.toNat dp.toNat n.toNat) cb sb) : mj_J X pc L (.inl n :: .inl dp :: .inr (.inr (some b)) :: .inl sp :: .inr (.inr (some a)) :: st) G M cb sb := by
  intro H locs ls cells slots hH hS hL hst hc hs
  have hn : mj_in n := mj_head hst
  have hdp : mj_in dp := mj_head (mj_tl hst)
  have hsp : mj_in sp := mj_head (mj_tl (mj_tl (mj_tl hst)))
  have hm : 1 ≤ R.frames ∧ 100 ≤ R.locals ∧ mc ≤ R.cells ∧ ms ≤ R.slots := X.2.2.2.2.2
  obtain ⟨-, qa1, qa2⟩ := mj_arr X (by decide) hH hGa hta (Or.inr (by decide))
  obtain ⟨hB, qb1, qb2⟩ := mj_arr X (by decide) hH hGb htb (Or.inr (by decide))
  obtain ⟨-, k0, hk0, cm0, hkk0⟩ := qa2
  obtain ⟨-, k1, hk1, cm1, hkk1⟩ := qb2
  have en := mj_nat hn
  have ed := mj_nat hdp
  have es := mj_nat hsp
  have e5 : nativeFrameWords "java/lang/System" "arraycopy" 5 ≤ 50 := by decide
  intro T hT XS
  obtain ⟨vm', X', step⟩ := XS.arraycopy X.1.1 X.1.2.2.2.2 (X.2.1 _ hw1) (X.2.1 _ hw2) (X.2.1 _ hw3) (X.2.1 _ hw4) (src := a) (dst := b) (cs := arrV (dA 3) na (fun k => mj_sv (mj_as 3) M a k)) (cd := arrV (dA 3) nb (fun k => mj_sv (mj_as 3) M b k)) (srcPos := Int32.ofInt sp) (destPos := Int32.ofInt dp) (n := Int32.ofInt n) (by rw [hT]; exact qa1) (by rw [hT]; exact qb1)
    (fun _ h => by cases h) (fun _ h => by cases h) (fun h => by cases h) (fun h => by cases h) hk0 hk1 hkk0 hkk1 (by simp [mj_at, refKind]) (mj_nn hsp h1) (mj_nn hdp h2) (mj_nn hn h3)
    (by rw [mj_ti hsp, mj_ti hn, arrV_size]; omega) (by rw [mj_ti hdp, mj_ti hn, arrV_size]; omega)
    (fun vm₁ _ i hi => by
      have e : (arrV (dA 3) na (fun k => mj_sv (mj_as 3) M a k)).slots.getD ((Int32.ofInt sp).toNatClampNeg + i) .null = mj_sv (mj_as 3) M a ((Int32.ofInt sp).toNatClampNeg + i) := by
        rw [Array.getD_eq_getD_getElem?, arrV_read _ _ (by rw [es]; rw [en] at hi; omega)]
        rfl
      refine ⟨?_, ?_⟩
      · rw [e]; rfl
      · rw [e]; exact trivial)
    (g := F0 m pc ls (.int (Int32.ofInt n) :: .int (Int32.ofInt dp) :: .ref b :: .int (Int32.ofInt sp) :: .ref a :: st.map mj_val)) rfl (hL.1.1.trans X.1.2.2.1.symm) (rest := st.map mj_val) rfl (by rw [X.1.2.1]; exact hd) hm.1 (by rw [mj_cat_eq]; show 2 * 0 + _ + _ ≤ _; omega)
  have ec : copied (arrV (dA 3) na (fun k => mj_sv (mj_as 3) M a k)) (arrV (dA 3) nb (fun k => mj_sv (mj_as 3) M b k)) (Int32.ofInt sp) (Int32.ofInt dp) (Int32.ofInt n) = arrV (dA 3) nb (fun k => mj_sv (mj_as 3) (mj_cp1 M a b sp.toNat dp.toNat n.toNat) b k) := by
    refine (va_copied (fun z : Value => z) (dA 3) (dA 3) (fun k => mj_sv (mj_as 3) M a k) (fun k => mj_sv (mj_as 3) M b k) (by rw [es, en]; omega)).trans ?_
    congr 1
    funext k
    rw [es, ed, en]
    exact mj_cp1_at.symm
  rw [ec] at X' step
  have hlt : b < H.size := (Array.getElem?_eq_some_iff.mp qb1).1
  generalize hcell : arrV (dA 3) nb (fun k => mj_sv (mj_as 3) (mj_cp1 M a b sp.toNat dp.toNat n.toNat) b k) = cell at X' step
  have hheap : ((T.setVm vm').setCell b cell).heap = H.setIfInBounds b cell := by rw [← hT]; rfl
  have oq : ∀ q : Nat, q ≠ b → (H.setIfInBounds b cell)[q]? = H[q]? := fun q hq => by simp [Array.getElem?_setIfInBounds, Ne.symm hq]
  have hH' : mj_H D dA B G (mj_cp1 M a b sp.toNat dp.toNat n.toNat) (H.setIfInBounds b cell) := by
    refine hH.set hGb (by simp) oq (fun x j => ?_) (fun so x j hx => mj_sv_cp1 hx) (fun ci r e1 e2 => (mj_cl100 e1 htb e2).elim) (fun j e1 => ?_)
    · exact hH.1 x j
    · have e3 : j = 3 := by omega
      subst e3
      rw [hcell]
      simp [Array.getElem?_setIfInBounds, hlt]
  obtain ⟨t, a1, b1⟩ := kk _ _ ls cells slots hH' ⟨by simp; exact hS.1, fun q g1 g2 => by
      rw [oq q (fun e => g2 (by rw [e]; exact hB hw9))]
      exact hS.2.1 q g1 g2, fun q hq => by
      rcases List.mem_append.mp hq with h | h
      · exact hS.2.2 q h
      · obtain ⟨z, -, hz⟩ := List.mem_map.mp h
        rw [← hz]
        exact hB hw9⟩ hL (mj_tl (mj_tl (mj_tl (mj_tl (mj_tl hst))))) hc hs _ hheap X'
  exact ⟨t, step t a1, b1⟩
end MJB
