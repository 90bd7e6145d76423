/-! ===== new int[n][k] ===== -/
theorem mj_outer (c : ClassId) (N h0 : Nat) : ∀ i : Nat, Jvm.Free.Multi.outerC c N h0 i = arrV c N (fun j => va_rf (if j < i then some (h0 + 1 + j) else none))
  | 0 => by
    show ({ cls := c, slots := Array.replicate N .null, vm := .none } : Cell) = _
    rw [arrV_new]
    refine congrArg (arrV c N) (funext fun j => ?_)
    simp [va_rf]
  | i + 1 => by
    show (Jvm.Free.Multi.outerC c N h0 i).setSlot i (.ref (h0 + 1 + i)) = _
    rw [mj_outer c N h0 i, arrV_store]
    refine congrArg (arrV c N) (funext fun j => ?_)
    by_cases e : j = i
    · subst e
      simp [updV, va_rf]
    · by_cases h : j < i
      · simp [updV, e, h, Nat.lt_succ_of_lt h]
      · simp [updV, e, h, show ¬ j < i + 1 by omega]
theorem mj_sv_zz {so : Nat} {M : mj_M} {a n x j : Nat} (h : ¬ (a ≤ x ∧ x ≤ a + n)) : mj_sv so (mj_zz M a n) x j = mj_sv so M x j := by
  unfold mj_sv mj_zz
  dsimp only
  rw [if_neg h, if_neg h, if_neg (fun q => h ⟨by omega, by omega⟩), if_neg h]
theorem mj_o_mna {p : Program} {l : Launch} {e : Env} {R : Room} {s : State} {m : MethodId} {args : Array Value} {below : List Frame} {meth : Method} {c : Code} {own : String} {cc : ByteArray} {ret : Option FieldType} {D : va_G} {dA : Nat → ClassId} {B nL mc ms : Nat} {Q : mj_P}
    {pc : Nat} {L : mj_L} {st : List mj_V} {G : mj_G} {M : mj_M} {cb sb : Nat} (X : mj_X p l e R s m args below meth c own cc ret D dA B nL mc ms Q) {i t t2 : Nat} {z y : Int} (hd : decode cc pc = .ok (.multianewarray i 2, 4))
    (hw1 : Cond.classLink own i ("[" ++ (FieldType.array .int).toString) ∈ mj_tb) (hw3 : Cond.arrayClass .int ∈ mj_tb) (ht : t % 1000 = 104) (ht2 : t2 % 1000 = 100) (h0 : 0 ≤ z) (h9 : z ≤ 1000) (y0 : 0 ≤ y) (y9 : y ≤ 1000) (h1 : 1 + y.toNat ≤ cb) (h2 : y.toNat + y.toNat * z.toNat ≤ sb)
    (kk : ∀ a, (∀ x, a ≤ x → G x = (0, 0)) → mj_J X (pc + 4) L (.inr (.inr (some a)) :: st) (mj_gg G a t y.toNat t2 z.toNat) (mj_zz M a y.toNat) (cb - (1 + y.toNat)) (sb - (y.toNat + y.toNat * z.toNat))) : mj_J X pc L (.inl z :: .inl y :: st) G M cb sb := by
  intro H locs ls cells slots hH hS hL hst hc hs
  have hz : mj_in z := mj_head hst
  have hy : mj_in y := mj_head (mj_tl hst)
  have hm1 : mc ≤ R.cells := X.2.2.2.2.2.2.2.1
  have hm2 : ms ≤ R.slots := X.2.2.2.2.2.2.2.2
  intro T hT Xs
  have ez := mj_nat hz
  have ey := mj_nat hy
  obtain ⟨vm₁, cA, comp, -, fA, fC, -, -, X', step⟩ := Xs.multianewarray2F (ty := .int) X.1.1 X.1.2.2.2.2 (X.2.1 _ hw1) X.2.2.2.1.2.2.1 (X.2.1 _ hw3) (g := F0 m pc ls (.int (Int32.ofInt z) :: .int (Int32.ofInt y) :: st.map mj_val)) rfl (by rw [X.1.2.1]; exact hd) rfl (mj_nn hy y0) (mj_nn hz h0)
    (by rw [ey]; omega) (by rw [ez]; simp only [componentBytes]; omega) (by rw [ez]; omega) rfl rfl (by rw [ey]; omega) (by rw [ey, ez]; omega)
  rw [ey, ez] at X' step
  obtain rfl : cA = dA 4 := Option.some.inj (fA.symm.trans (X.2.2.2.1.2.1 4 (by decide)).1)
  obtain rfl : comp = dA 0 := Option.some.inj (fC.symm.trans (X.2.2.2.1.2.1 0 (by decide)).1)
  have hTh : (T.setVm vm₁).heap = H := hT
  obtain ⟨f1, f2, -, -⟩ := Jvm.Free.Multi.fill_facts (T.setVm vm₁) (dA 4) (dA 0) y.toNat z.toNat (defaultValue .int) y.toNat
  have hold : ∀ x : Nat, x < H.size → (Jvm.Free.Multi.fill (T.setVm vm₁) (dA 4) (dA 0) y.toNat z.toNat (defaultValue .int) y.toNat).heap[x]? = H[x]? := fun x hx => by
    have := Jvm.Free.Multi.fill_old (T.setVm vm₁) (dA 4) (dA 0) y.toNat z.toNat (defaultValue .int) (a := x) (by rw [hTh]; exact hx) y.toNat
    rw [hTh] at this
    exact this
  have hrow : ∀ j : Nat, j < y.toNat → (Jvm.Free.Multi.fill (T.setVm vm₁) (dA 4) (dA 0) y.toNat z.toNat (defaultValue .int) y.toNat).heap[H.size + 1 + j]? = some (arrV (dA 0) z.toNat (fun _ => .int 0)) := fun j hj => by
    have := Jvm.Free.Multi.fill_inner (T.setVm vm₁) (dA 4) (dA 0) y.toNat z.toNat (defaultValue .int) y.toNat j hj
    rw [hTh] at this
    rw [this]
    exact congrArg some (arrV_new _ _ _)
  rw [hTh] at f1 f2
  rw [mj_outer] at f2
  generalize Jvm.Free.Multi.fill (T.setVm vm₁) (dA 4) (dA 0) y.toNat z.toNat (defaultValue .int) y.toNat = F at X' step f1 f2 hold hrow
  have hB : B ≤ H.size := Nat.le_trans X.2.2.2.2.1.1 hS.1
  have hH' : mj_H D dA B (mj_gg G H.size t y.toNat t2 z.toNat) (mj_zz M H.size y.toNat) F.heap := by
    refine ⟨fun a k => ?_, ?_, fun x t' n' hx ht' => ?_⟩
    · unfold mj_zz
      dsimp only
      split
      · exact ⟨by decide, by decide⟩
      · exact hH.1 a k
    · refine ⟨fun x hx => ?_, hH.2.1.2.add (N := H.size) hH.2.1.1 (fun x hx => ?_) (fun x t' n' hx hx2 => ?_)⟩
      · unfold mj_gg
        rw [if_neg (by omega), if_neg (by omega)]
        exact hH.2.1.1 x (by omega)
      · unfold mj_gg
        rw [if_neg (by omega), if_neg (by omega)]
      · unfold mj_gg at hx2
        split at hx2
        · rw [← (Prod.mk.inj hx2).1, ht]; decide
        · split at hx2
          · rw [← (Prod.mk.inj hx2).1, ht2]; decide
          · rw [hH.2.1.1 x hx] at hx2; rw [← (Prod.mk.inj hx2).1]; decide
    · unfold mj_gg at hx
      split at hx
      · rename_i hxa
        subst hxa
        obtain ⟨rfl, rfl⟩ := Prod.mk.inj hx
        refine ⟨fun _ => hB, fun ci r e1 e2 => (mj_cl100 e1 (show t % 1000 = 100 + 4 from ht) e2).elim, fun j e1 => ?_⟩
        have e3 : j = 4 := by omega
        subst e3
        refine Or.inl ?_
        rw [f2]
        refine congrArg (fun f => some (arrV (dA 4) y.toNat f)) (funext fun k => ?_)
        simp [mj_sv, mj_as, mj_at, mj_fs, mj_zz]
      · split at hx
        · rename_i hxa hxb
          obtain ⟨rfl, rfl⟩ := Prod.mk.inj hx
          refine ⟨fun _ => by omega, fun ci r e1 e2 => (mj_cl100 e1 (show t2 % 1000 = 100 + 0 from ht2) e2).elim, fun j e1 => ?_⟩
          have e3 : j = 0 := by omega
          subst e3
          have := hrow (x - (H.size + 1)) (by omega)
          rw [show H.size + 1 + (x - (H.size + 1)) = x by omega] at this
          rw [this]
          refine Or.inl ?_
          refine congrArg (fun f => some (arrV (dA 0) z.toNat f)) (funext fun k => ?_)
          have hc : H.size ≤ x ∧ x ≤ H.size + y.toNat := ⟨by omega, by omega⟩
          simp only [mj_sv, mj_as, mj_at, mj_fs, mj_zz, if_pos hc]
          rfl
        · rename_i hxa hxb
          have hlt : x < H.size := by
            rcases Nat.lt_or_ge x H.size with q | q
            · exact q
            · have := hH.2.1.1 x q
              rw [hx] at this
              exact absurd (Prod.mk.inj this).1 ht'
          obtain ⟨hB', g1, g2⟩ := hH.2.2 x t' n' hx ht'
          refine ⟨hB', fun ci r e1 e2 => ((g1 ci r e1 e2).kept (hold x hlt)).to (fun k _ => (mj_sv_zz (by omega)).symm), fun j e1 => (g2 j e1).cg (hold x hlt) (fun k _ => (mj_sv_zz (by omega)).symm)⟩
  obtain ⟨tt, a1, b1⟩ := kk H.size hH.2.1.1 F.heap locs ls (cells + 1 + y.toNat) (slots + y.toNat + y.toNat * z.toNat) hH' (mj_S_up hS (by omega) hold) hL (mj_cons (mj_tl (mj_tl hst)) trivial) (by omega) (by omega) F rfl X'
  refine ⟨tt, step tt ?_, b1⟩
  have e9 : T.heap.size = H.size := by rw [hT]
  rw [e9]
  exact a1
