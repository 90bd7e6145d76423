/-! ===== new cells, calls ===== -/
theorem mj_good {ws : List Cond} (h : ∀ w ∈ ws, w ∈ mj_tb) : GoodIn mj_tb ws := fun w hw => ⟨h w hw, (mj_tb_good w (h w hw)).2⟩
theorem mj_sv_z {so : Nat} {M : mj_M} {a x j : Nat} (h : x ≠ a) : mj_sv so (mj_z M a) x j = mj_sv so M x j := by
  unfold mj_sv mj_z
  dsimp only
  rw [if_neg h, if_neg h, if_neg h]
theorem mj_sv_z0 {M : mj_M} {a j : Nat} (ty : FieldType) (h : ty ≠ .float ∧ ty ≠ .double) : mj_sv (mj_fs ty) (mj_z M a) a j = defaultValue ty := by
  unfold mj_sv mj_z
  cases ty <;> simp [mj_fs, defaultValue, va_rf] at h ⊢
theorem mj_H.push1 {D : va_G} {dA : Nat → ClassId} {B : Nat} {G : mj_G} {M : mj_M} {H H' : Heap} {t n : Nat} (h : mj_H D dA B G M H) (hB : B ≤ H.size) (w2 : H'.size = H.size + 1) (w3 : ∀ q : Nat, q < H.size → H'[q]? = H[q]?)
    (h1 : ∀ (ci : Nat) (r : vw_C), t % 1000 = ci + 1 → vwCl[ci]? = some r → t_OB H.size (D.1 ci) r.2.2 (D.2 ci) H' (fun k => mj_sv (mj_so ci k) (mj_z M H.size) H.size k))
    (h50 : t % 1000 ≠ 50) (h2 : ∀ j : Nat, t % 1000 = 100 + j → H'[H.size]? = some (arrV (dA j) n (fun k => mj_sv (mj_as j) (mj_z M H.size) H.size k))) : mj_H D dA B (mj_g G H.size t n) (mj_z M H.size) H' := by
  refine ⟨fun a k => ?_, ?_, fun x t' n' hx ht => ?_⟩
  · unfold mj_z
    dsimp only
    split
    · exact ⟨by decide, by decide⟩
    · exact h.1 a k
  · refine ⟨fun x hx => ?_, h.2.1.2.add (N := H.size) h.2.1.1 (fun x hx => if_neg (by omega)) (fun x t' n' hx hx2 => ?_)⟩
    · unfold mj_g
      rw [if_neg (by omega)]
      exact h.2.1.1 x (by omega)
    · unfold mj_g at hx2
      split at hx2
      · rw [← (Prod.mk.inj hx2).1]; exact h50
      · rw [h.2.1.1 x hx] at hx2; rw [← (Prod.mk.inj hx2).1]; decide
  · unfold mj_g at hx
    split at hx
    · rename_i hxa
      subst hxa
      obtain ⟨rfl, rfl⟩ := Prod.mk.inj hx
      exact ⟨fun _ => hB, h1, fun j e => Or.inl (h2 j e)⟩
    · rename_i hxa
      have hlt : x < H.size := by
        rcases Nat.lt_or_ge x H.size with q | q
        · exact q
        · have := h.2.1.1 x q
          rw [hx] at this
          exact absurd (Prod.mk.inj this).1 ht
      obtain ⟨hB', g1, g2⟩ := h.2.2 x t' n' hx ht
      refine ⟨hB', fun ci r e1 e2 => ((g1 ci r e1 e2).kept (w3 x hlt)).to (fun k _ => (mj_sv_z hxa).symm), fun j e1 => (g2 j e1).cg (w3 x hlt) (fun k _ => (mj_sv_z hxa).symm)⟩
theorem mj_S_up {A : Nat → Prop} {H0 H H' : Heap} {locs : List Loc} (hS : va_S A H0 H locs) (w2 : H.size ≤ H'.size) (w3 : ∀ q : Nat, q < H.size → H'[q]? = H[q]?) : va_S A H0 H' locs :=
  ⟨Nat.le_trans hS.1 w2, fun q h1 h2 => by rw [w3 q (Nat.lt_of_lt_of_le h1 hS.1)]; exact hS.2.1 q h1 h2, hS.2.2⟩
def mj_Pc (D : va_G) (dA : Nat → ClassId) (B : Nat) (av : List mj_V) (G : mj_G) (M : mj_M) : Array Value → State → Prop := va_Pc (av.map mj_val) (fun U => mj_H D dA B G M U.heap ∧ mj_K D dA U ∧ (∀ v ∈ av, mj_ok v) ∧ (B ≤ U.heap.size ∧ mj_EW dA B U U.heap))
def mj_rm (d : Nat) (q : Nat × Nat) : Room := { frames := d, cells := q.1, slots := q.2, locals := 100 * d + 100 }
theorem mj_blind {D : va_G} {dA : Nat → ClassId} {B : Nat} {av : List mj_V} {G : mj_G} {M : mj_M} : FrameBlind (mj_Pc D dA B av G M) := by
  intro a U g mk q
  obtain ⟨q0, q1, q2, q3, q4⟩ := q
  exact ⟨q0, q1, mj_K.moved (u := U) (U := U.calling g mk a) (Vm.Alike.refl U.vm) q2, q3, q4.1, q4.2.1.moved (u := U) (U := U.calling g mk a) (Vm.Alike.refl U.vm), q4.2.2.1.moved (u := U) (U := U.calling g mk a) (Vm.Alike.refl U.vm), q4.2.2.2.moved (u := U) (U := U.calling g mk a) (Vm.Alike.refl U.vm)⟩
theorem mj_map_ret (r : Option mj_V) (st : List mj_V) : (r.map mj_val).toList ++ st.map mj_val = (mj_ret r st).map mj_val := by
  cases r <;> rfl
theorem mj_cat_eq : ∀ st : List mj_V, ((st.map mj_val).map fun v => v.category).sum = mj_cat st
  | [] => rfl
  | v :: t => by
    have ih := mj_cat_eq t
    rcases v with z | w | r
    · simp only [List.map_cons, List.sum_cons, ih]; rfl
    · simp only [List.map_cons, List.sum_cons, ih]; rfl
    · cases r <;> (simp only [List.map_cons, List.sum_cons, ih]; rfl)
section MJC
variable {p : Program} {l : Launch} {e : Env} {R : Room} {s : State} {m : MethodId} {args : Array Value} {below : List Frame} {meth : Method} {c : Code} {own : String} {cc : ByteArray} {ret : Option FieldType} {D : va_G} {dA : Nat → ClassId} {B nL mc ms : Nat} {Q : mj_P}
variable {pc : Nat} {L : mj_L} {st : List mj_V} {G : mj_G} {M : mj_M} {cb sb : Nat}
theorem mj_o_new (X : mj_X p l e R s m args below meth c own cc ret D dA B nL mc ms Q) {i ci N t : Nat} {r : vw_C} (hd : decode cc pc = .ok (.new i, 3)) (hr : vwCl[ci]? = some r) (hlay : ∀ w ∈ u_ws r.1 r.2.1 r.2.2, w ∈ mj_tb) (hty : ∀ k, k < r.2.2 → parseFieldDescriptor (r.2.1 k).2.2.1 = some (mj_ty ci k)) (hnf : ∀ k, k < r.2.2 → mj_ty ci k ≠ .float ∧ mj_ty ci k ≠ .double)
    (hw1 : Cond.classLink own i r.1 ∈ mj_tb) (hw2 : Cond.instantiable r.1 N ∈ mj_tb) (hw3 : Cond.initialized r.1 ∈ mj_tb) (ht : t % 1000 = ci + 1) (h1 : 1 ≤ cb) (h2 : N ≤ sb)
    (kk : ∀ a, (∀ x, a ≤ x → G x = (0, 0)) → mj_J X (pc + 3) L (.inr (.inr (some a)) :: st) (mj_g G a t 0) (mj_z M a) (cb - 1) (sb - N)) : mj_J X pc L st G M cb sb := by
  intro H locs ls cells slots hH hS hL hst hc hs
  obtain ⟨hSl, hfc, -⟩ := id (X.2.2.2.1.1 ci r hr)
  have hm1 : mc ≤ R.cells := X.2.2.2.2.2.2.2.1
  have hm2 : ms ≤ R.slots := X.2.2.2.2.2.2.2.2
  refine W.newcK X.1.1 X.1.2.1 X.1.2.2.2.2 (X.2.1 _ hw1) (X.2.1 _ hw2) (X.2.1 _ hw3) rfl hd (by omega) (by omega) hfc rfl (fun H' kC hkC w1 w2 w3 => ?_)
  refine kk H.size hH.2.1.1 H' locs ls (cells + 1) (slots + N) (hH.push1 (Nat.le_trans X.2.2.2.2.1.1 hS.1) w2 w3 ?_ (mj_cl50 ht hr) ?_) (mj_S_up hS (by omega) w3) hL (mj_cons hst trivial) (by omega) (by omega)
  · intro ci' r' e1 e2
    have e3 : ci' = ci := by omega
    subst e3
    obtain rfl : r' = r := Option.some.inj (e2.symm.trans hr)
    exact (u_born (mj_ty ci') X.2.1 hlay (X.2.2.2.1.1 ci' r' hr) hkC w1 hty).to (fun k hk => (mj_sv_z0 _ (hnf k hk)).symm)
  · intro j e1
    exact (mj_cl100 ht e1 hr).elim
theorem mj_o_newarray (X : mj_X p l e R s m args below meth c own cc ret D dA B nL mc ms Q) {aty : ArrayType} {j t : Nat} {z : Int} (hd : decode cc pc = .ok (.newarray aty, 2)) (hj : j < 4) (hja : newarray.typeOf aty = mj_at j) (hw : Cond.arrayClass (mj_at j) ∈ mj_tb) (ht : t % 1000 = 100 + j) (h0 : 0 ≤ z) (h9 : z ≤ 100000) (h1 : 1 ≤ cb) (h2 : z.toNat ≤ sb)
    (kk : ∀ a, (∀ x, a ≤ x → G x = (0, 0)) → mj_J X (pc + 2) L (.inr (.inr (some a)) :: st) (mj_g G a t z.toNat) (mj_z M a) (cb - 1) (sb - z.toNat)) : mj_J X pc L (.inl z :: st) G M cb sb := by
  intro H locs ls cells slots hH hS hL hst hc hs
  have hz : mj_in z := mj_head hst
  have hm1 : mc ≤ R.cells := X.2.2.2.2.2.2.2.1
  have hm2 : ms ≤ R.slots := X.2.2.2.2.2.2.2.2
  refine W.newa X.1.1 X.1.2.1 (by rw [hja]; exact X.2.1 _ hw) rfl hd rfl (mj_nn hz h0) (by rw [mj_nat hz, hja]; rcases (show j = 0 ∨ j = 1 ∨ j = 2 ∨ j = 3 by omega) with rfl | rfl | rfl | rfl <;> (simp only [mj_at, componentBytes]; omega)) (by omega) (by rw [mj_nat hz]; omega) (fun cA kA comp f1 f2 f3 => ?_)
  rw [hja] at f1
  have hcA : cA = dA j := Option.some.inj (f1.symm.trans (X.2.2.2.1.2.1 j (by omega)).1)
  subst hcA
  rw [mj_nat hz, hja, arrV_new]
  refine kk H.size hH.2.1.1 _ locs ls (cells + 1) (slots + z.toNat) (hH.push1 (Nat.le_trans X.2.2.2.2.1.1 hS.1) (by simp) (fun q hq => by simp [Array.getElem?_push, Nat.ne_of_lt hq]) ?_ (by omega) ?_) (mj_S_up hS (by simp) (fun q hq => by simp [Array.getElem?_push, Nat.ne_of_lt hq])) hL (mj_cons (mj_tl hst) trivial) (by omega) (by omega)
  · intro ci r e1 e2
    exact (mj_cl100 e1 ht e2).elim
  · intro j' e1
    have e3 : j' = j := by omega
    subst e3
    rw [Array.getElem?_push, if_pos rfl]
    congr 2
    funext k
    exact (mj_sv_z0 _ (by rcases (show j' = 0 ∨ j' = 1 ∨ j' = 2 ∨ j' = 3 by omega) with rfl | rfl | rfl | rfl <;> (constructor <;> decide))).symm
/-- behind a call -/
theorem mj_after (X : mj_X p l e R s m args below meth c own cc ret D dA B nL mc ms Q) {H : Heap} {locs : List Loc} {ls : Array Slot} {cells slots mc' ms' : Nat} {st0 : List Value} {a : Array Value} {Q2 : mj_P} (hr : va_Run p l e R s m args below meth c H locs cells slots mc' ms' (F0 m pc ls st0) (st.map mj_val) (mj_Q D dA B Q2 a) (fun q => B ≤ q))
    (hS : va_S (fun q => B ≤ q) s.heap H locs) (hL : mj_LO ls nL L) (hst : ∀ v ∈ st, mj_ok v) (hc : cells + cb ≤ mc) (hs : slots + sb ≤ ms) (h1 : mc' ≤ cb) (h2 : ms' ≤ sb) (kk : ∀ r G M, Q2 r G M → mj_J X (pc + 3) L (mj_ret r st) G M (cb - mc') (sb - ms')) :
    W p l e R s m args below meth c H locs cells slots (MQ below (mj_Q D dA B Q) args s mc ms (fun q => B ≤ q)) (F0 m pc ls st0) := by
  intro T hT XS
  obtain ⟨v, st₀, t, T', L', h0, X', hL', e1, e2, ⟨r, G', M', hv, hq, hok, hH', hK', hz, hk⟩, stp⟩ := hr T hT XS
  obtain rfl : v = r.map mj_val := Outcome.returned.inj hv
  rw [h0] at hz hk
  have hS' : va_S (fun q => B ≤ q) s.heap T'.heap (locs ++ L') := ⟨Nat.le_trans hS.1 (by rw [e1]; exact hz), fun q h1 h2 => by rw [e1, hk q (Nat.lt_of_lt_of_le h1 hS.1) h2]; exact hS.2.1 q h1 h2, fun q hq => by
      rcases List.mem_append.mp hq with h | h
      · exact hS.2.2 q h
      · exact hL' q h⟩
  have hok' : ∀ v ∈ mj_ret r st, mj_ok v := by
    cases r with
    | none => exact hst
    | some v => exact mj_cons hst (hok v rfl)
  obtain ⟨t2, a1, b1⟩ := kk r G' M' hq T'.heap (locs ++ L') ls (cells + mc') (slots + ms') (by rw [e1]; exact hH') hS' hL hok' (by omega) (by omega) T' rfl X'
  refine ⟨t2, stp t2 ?_, b1⟩
  rw [← mj_map_ret] at a1
  exact a1
theorem mj_o_callV (X : mj_X p l e R s m args below meth c own cc ret D dA B nL mc ms Q) {i a t n N ci d maxL mc' ms' : Nat} {y : MethodName} {bytes : ByteArray} {rt : Option FieldType} {As : List mj_V} {Q2 : mj_P} {r : vw_C} (hd : decode cc pc = .ok (.invokevirtual i, 3))
    (hM : Met l y (.code y bytes maxL rt :: mj_tb) (mj_rm d (mc', ms')) (mj_Pc D dA B (.inr (.inr (some a)) :: As) G M) (mj_Q D dA B Q2) mc' ms' (fun q => B ≤ q)) (hR : d + 1 ≤ R.frames ∧ 8 + (maxL + 11) + (100 * d + 100) ≤ R.locals)
    (hr : vwCl[ci]? = some r) (hy : y.cls = r.1) (hy2 : y.cls ≠ "java/lang/invoke/MethodHandle" ∧ y.cls ≠ "java/lang/invoke/VarHandle" ∧ (parseMethodDescriptor y.desc).map (fun d => d.parameters.length) = some N) (hN : As.length = N)
    (hw1 : Cond.methodLink own i y ∈ mj_tb) (hw2 : Cond.instanceMethod y ∈ mj_tb) (hw3 : Cond.selects r.1 y y ∈ mj_tb) (hw4 : Cond.initialized r.1 ∈ mj_tb) (hw5 : Cond.code y bytes maxL rt ∈ mj_tb)
    (hG : G a = (t, n)) (ht : t % 1000 = ci + 1) (h8 : mj_cat st ≤ 8) (h1 : mc' ≤ cb) (h2 : ms' ≤ sb) (kk : ∀ r G M, Q2 r G M → mj_J X (pc + 3) L (mj_ret r st) G M (cb - mc') (sb - ms')) : mj_J X pc L (As.reverse ++ .inr (.inr (some a)) :: st) G M cb sb := by
  intro H locs ls cells slots hH hS hL hst hc hs
  have hm1 : mc ≤ R.cells := X.2.2.2.2.2.2.2.1
  have hm2 : ms ≤ R.slots := X.2.2.2.2.2.2.2.2
  obtain ⟨-, g1, -⟩ := hH.2.2 a t n hG (mj_ne ht)
  obtain ⟨cell, q1, q2, q3, q4⟩ := g1 ci r ht hr
  obtain ⟨hSl, hfc, -⟩ := id (X.2.2.2.1.1 ci r hr)
  have hstA : ∀ v ∈ As, mj_ok v := fun v hv => hst v (List.mem_append_left _ (List.mem_reverse.mpr hv))
  have hst' : ∀ v ∈ st, mj_ok v := fun v hv => hst v (List.mem_append_right _ (List.mem_cons_of_mem _ hv))
  have hgood : GoodIn mj_tb (wsV own i r.1 y (.code y bytes maxL rt :: mj_tb)) := mj_good fun w hw => by
    simp only [wsV, List.cons_append, List.nil_append, List.mem_cons] at hw
    rcases hw with rfl | rfl | rfl | rfl | rfl | hw
    · exact hw1
    · exact hw2
    · exact hw3
    · exact hw4
    · exact hw5
    · exact hw
  refine mj_after X (va_runV (As := As.map mj_val) (rest := st.map mj_val) (b := a) ⟨X.1.1, X.1.2.1, X.1.2.2.1, X.1.2.2.2.2, X.2.1⟩ hM (cwV N X.2.1 hgood rfl rfl rfl ⟨hy, hy2⟩ hR) ⟨mj_blind, ⟨cell, q1, by rw [q3]; rfl, by rw [q2]; exact hfc⟩, fun U hU hW => ⟨rfl, by rw [hU]; exact hH, mj_K.moved hW.alike X.2.2.2.1, mj_cons hstA trivial, ⟨by rw [hU]; exact Nat.le_trans X.2.2.2.2.1.1 hS.1, X.2.2.2.2.1.2.go hS hU hW.alike⟩⟩⟩ rfl (by rw [List.length_map]; exact hN) hL.1.1 (by simp [List.map_append, List.map_reverse, mj_val, va_rf]) (by rw [mj_cat_eq]; show 2 * 0 + mj_cat st ≤ 8; omega) hd ⟨by omega, by omega⟩) hS hL hst' hc hs h1 h2 kk
theorem mj_o_callS (X : mj_X p l e R s m args below meth c own cc ret D dA B nL mc ms Q) {i N d maxL mc' ms' : Nat} {y : MethodName} {bytes : ByteArray} {rt : Option FieldType} {As : List mj_V} {Q2 : mj_P} (hd : decode cc pc = .ok (.invokestatic i, 3))
    (hM : Met l y (.code y bytes maxL rt :: mj_tb) (mj_rm d (mc', ms')) (mj_Pc D dA B As G M) (mj_Q D dA B Q2) mc' ms' (fun q => B ≤ q)) (hR : d + 1 ≤ R.frames ∧ 8 + (maxL + 11) + (100 * d + 100) ≤ R.locals)
    (hy2 : y.cls ≠ "java/lang/invoke/MethodHandle" ∧ y.cls ≠ "java/lang/invoke/VarHandle" ∧ (parseMethodDescriptor y.desc).map (fun d => d.parameters.length) = some N) (hN : As.length = N)
    (hw1 : Cond.methodLink own i y ∈ mj_tb) (hw2 : Cond.static y ∈ mj_tb) (hw4 : Cond.initialized y.cls ∈ mj_tb) (hw5 : Cond.code y bytes maxL rt ∈ mj_tb)
    (h8 : mj_cat st ≤ 8) (h1 : mc' ≤ cb) (h2 : ms' ≤ sb) (kk : ∀ r G M, Q2 r G M → mj_J X (pc + 3) L (mj_ret r st) G M (cb - mc') (sb - ms')) : mj_J X pc L (As.reverse ++ st) G M cb sb := by
  intro H locs ls cells slots hH hS hL hst hc hs
  have hm1 : mc ≤ R.cells := X.2.2.2.2.2.2.2.1
  have hm2 : ms ≤ R.slots := X.2.2.2.2.2.2.2.2
  have hstA : ∀ v ∈ As, mj_ok v := fun v hv => hst v (List.mem_append_left _ (List.mem_reverse.mpr hv))
  have hst' : ∀ v ∈ st, mj_ok v := fun v hv => hst v (List.mem_append_right _ hv)
  have hgood : GoodIn mj_tb (va_wsS own i y (.code y bytes maxL rt :: mj_tb)) := mj_good fun w hw => by
    simp only [va_wsS, List.cons_append, List.nil_append, List.mem_cons] at hw
    rcases hw with rfl | rfl | rfl | rfl | hw
    · exact hw1
    · exact hw2
    · exact hw4
    · exact hw5
    · exact hw
  refine mj_after X (va_runS (As := As.map mj_val) (rest := st.map mj_val) ⟨X.1.1, X.1.2.1, X.1.2.2.1, X.1.2.2.2.2, X.2.1⟩ hM (va_cwS N X.2.1 hgood rfl rfl rfl hy2 hR) ⟨mj_blind, fun U hU hW => ⟨rfl, by rw [hU]; exact hH, mj_K.moved hW.alike X.2.2.2.1, hstA, ⟨by rw [hU]; exact Nat.le_trans X.2.2.2.2.1.1 hS.1, X.2.2.2.2.1.2.go hS hU hW.alike⟩⟩⟩ rfl (by rw [List.length_map]; exact hN) hL.1.1 (by simp [List.map_append, List.map_reverse]) (by rw [mj_cat_eq]; show 2 * 0 + mj_cat st ≤ 8; omega) hd ⟨by omega, by omega⟩) hS hL hst' hc hs h1 h2 kk
theorem mj_o_callI (X : mj_X p l e R s m args below meth c own cc ret D dA B nL mc ms Q) {i a N d maxL mc' ms' : Nat} {y : MethodName} {bytes : ByteArray} {As : List mj_V} {Q2 : mj_P} (hd : decode cc pc = .ok (.invokespecial i, 3))
    (hM : Met l y (.code y bytes maxL none :: mj_tb) (mj_rm d (mc', ms')) (mj_Pc D dA B (.inr (.inr (some a)) :: As) G M) (mj_Q D dA B Q2) mc' ms' (fun q => B ≤ q)) (hR : d + 1 ≤ R.frames ∧ 8 + (maxL + 11) + (100 * d + 100) ≤ R.locals) (hn : y.name = "<init>")
    (hy2 : y.cls ≠ "java/lang/invoke/MethodHandle" ∧ y.cls ≠ "java/lang/invoke/VarHandle" ∧ (parseMethodDescriptor y.desc).map (fun d => d.parameters.length) = some N) (hN : As.length = N)
    (hw1 : Cond.methodLink own i y ∈ mj_tb) (hw2 : Cond.instanceMethod y ∈ mj_tb) (hw4 : Cond.initialized y.cls ∈ mj_tb) (hw5 : Cond.code y bytes maxL none ∈ mj_tb)
    (h8 : mj_cat st ≤ 8) (h1 : mc' ≤ cb) (h2 : ms' ≤ sb) (kk : ∀ r G M, Q2 r G M → mj_J X (pc + 3) L (mj_ret r st) G M (cb - mc') (sb - ms')) : mj_J X pc L (As.reverse ++ .inr (.inr (some a)) :: st) G M cb sb := by
  intro H locs ls cells slots hH hS hL hst hc hs
  have hm1 : mc ≤ R.cells := X.2.2.2.2.2.2.2.1
  have hm2 : ms ≤ R.slots := X.2.2.2.2.2.2.2.2
  have hstA : ∀ v ∈ As, mj_ok v := fun v hv => hst v (List.mem_append_left _ (List.mem_reverse.mpr hv))
  have hst' : ∀ v ∈ st, mj_ok v := fun v hv => hst v (List.mem_append_right _ (List.mem_cons_of_mem _ hv))
  have hgood : GoodIn mj_tb (.code y bytes maxL none :: mj_tb) := mj_good fun w hw => by
    rcases List.mem_cons.mp hw with rfl | hw
    · exact hw5
    · exact hw
  refine mj_after X (va_runI (As := As.map mj_val) (rest := st.map mj_val) (b := a) ⟨X.1.1, X.1.2.1, X.1.2.2.1, X.1.2.2.2.2, X.2.1⟩ hM (cwI N X.2.1 hgood rfl rfl rfl (X.2.1 _ hw4) (X.2.1 _ hw1) (X.2.1 _ hw2) hn hy2 hR) ⟨mj_blind, fun U hU hW => ⟨rfl, by rw [hU]; exact hH, mj_K.moved hW.alike X.2.2.2.1, mj_cons hstA trivial, ⟨by rw [hU]; exact Nat.le_trans X.2.2.2.2.1.1 hS.1, X.2.2.2.2.1.2.go hS hU hW.alike⟩⟩⟩ rfl (by rw [List.length_map]; exact hN) hL.1.1 (by simp [List.map_append, List.map_reverse, mj_val, va_rf]) (by rw [mj_cat_eq]; show 2 * 0 + mj_cat st ≤ 8; omega) hd ⟨by omega, by omega⟩) hS hL hst' hc hs h1 h2 kk
theorem mj_o_objInit (X : mj_X p l e R s m args below meth c own cc ret D dA B nL mc ms Q) {i a : Nat} (hd : decode cc pc = .ok (.invokespecial i, 3)) (hw1 : Cond.methodLink own i objectInit ∈ mj_tb) (hw2 : Cond.instanceMethod objectInit ∈ mj_tb) (hw3 : Cond.code objectInit ⟨#[0xb1]⟩ 1 none ∈ mj_tb) (h8 : mj_cat st ≤ 8)
    (kk : mj_J X (pc + 3) L st G M cb sb) : mj_J X pc L (.inr (.inr (some a)) :: st) G M cb sb := by
  intro H locs ls cells slots hH hS hL hst hc hs
  have hm1 : 1 ≤ R.frames := X.2.2.2.2.2.1
  have hm2 : 100 ≤ R.locals := X.2.2.2.2.2.2.1
  exact W.objInit X.1.1 X.1.2.1 X.1.2.2.2.2 (X.2.1 _ hw1) (X.2.1 _ hw2) (X.2.1 _ hw3) rfl (hL.1.1.trans X.1.2.2.1.symm) rfl hd hm1 (by rw [mj_cat_eq]; show 2 * 0 + mj_cat st + 12 ≤ _; omega) (kk H locs ls cells slots hH hS hL (mj_tl hst) hc hs)
end MJC
