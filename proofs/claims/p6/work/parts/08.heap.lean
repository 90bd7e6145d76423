/-! ===== fields and arrays ===== -/
/-- M' is M but for one slot, which holds v -/
def mj_u (so : Nat) (M : mj_M) (a k : Nat) (v : mj_V) (M' : mj_M) : Prop :=
  (∀ so' x j, ¬ (x = a ∧ j = k) → mj_sv so' M' x j = mj_sv so' M x j) ∧ mj_sv so M' a k = mj_val v ∧ ∀ x j, mj_in (M'.1 x j)
theorem mj_u0 {M : mj_M} {a k : Nat} {z : Int} (hM : ∀ x j, mj_in (M.1 x j)) (hz : mj_in z) : mj_u 0 M a k (.inl z) (mj_p0 M a k z) := by
  refine ⟨fun so' x j h => ?_, ?_, fun x j => ?_⟩
  · unfold mj_sv mj_p0
    dsimp only
    rw [if_neg h]
  · simp [mj_sv, mj_p0, mj_val]
  · unfold mj_p0
    dsimp only
    split
    · exact hz
    · exact hM x j
theorem mj_u1 {M : mj_M} {a k : Nat} {z : Int64} (hM : ∀ x j, mj_in (M.1 x j)) : mj_u 1 M a k (.inr (.inl z)) (mj_p1 M a k z) := by
  refine ⟨fun so' x j h => ?_, ?_, hM⟩
  · unfold mj_sv mj_p1
    dsimp only
    rw [if_neg h]
  · simp [mj_sv, mj_p1, mj_val]
theorem mj_u2 {M : mj_M} {a k : Nat} {z : Option Nat} (hM : ∀ x j, mj_in (M.1 x j)) : mj_u 2 M a k (.inr (.inr z)) (mj_p2 M a k z) := by
  refine ⟨fun so' x j h => ?_, ?_, hM⟩
  · unfold mj_sv mj_p2
    dsimp only
    rw [if_neg h]
  · simp [mj_sv, mj_p2, mj_val]
theorem mj_H.set {D : va_G} {dA : Nat → ClassId} {B : Nat} {G : mj_G} {M M' : mj_M} {H H' : Heap} {a t n : Nat} (h : mj_H D dA B G M H) (hG : G a = (t, n)) (hz : H'.size = H.size) (ho : ∀ q : Nat, q ≠ a → H'[q]? = H[q]?) (hR : ∀ x j, mj_in (M'.1 x j))
    (hM : ∀ so x j, x ≠ a → mj_sv so M' x j = mj_sv so M x j)
    (h1 : ∀ (ci : Nat) (r : vw_C), t % 1000 = ci + 1 → vwCl[ci]? = some r → t_OB a (D.1 ci) r.2.2 (D.2 ci) H' (fun k => mj_sv (mj_so ci k) M' a k))
    (h2 : ∀ j : Nat, t % 1000 = 100 + j → H'[a]? = some (arrV (dA j) n (fun k => mj_sv (mj_as j) M' a k))) : mj_H D dA B G M' H' := by
  refine ⟨hR, ⟨fun x hx => h.2.1.1 x (by rw [← hz]; exact hx), h.2.1.2⟩, fun x t' n' hx ht => ?_⟩
  obtain ⟨hB, g1, g2⟩ := h.2.2 x t' n' hx ht
  refine ⟨hB, ?_, ?_⟩
  · intro ci r e1 e2
    by_cases hxa : x = a
    · subst hxa
      obtain ⟨rfl, rfl⟩ := Prod.mk.inj (hG.symm.trans hx)
      exact h1 ci r e1 e2
    · exact ((g1 ci r e1 e2).kept (ho x hxa)).to (fun k _ => (hM _ x k hxa).symm)
  · intro j e1
    by_cases hxa : x = a
    · subst hxa
      obtain ⟨rfl, rfl⟩ := Prod.mk.inj (hG.symm.trans hx)
      exact Or.inl (h2 j e1)
    · exact (g2 j e1).cg (ho x hxa) (fun k _ => (hM _ x k hxa).symm)
theorem mj_cl100 {t ci j : Nat} {r : vw_C} (h1 : t % 1000 = ci + 1) (h2 : t % 1000 = 100 + j) (hr : vwCl[ci]? = some r) : False := by
  have := (List.getElem?_eq_some_iff.mp hr).1
  have hl : vwCl.length = 12 := rfl
  omega
theorem mj_cl50 {t ci : Nat} {r : vw_C} (h1 : t % 1000 = ci + 1) (hr : vwCl[ci]? = some r) : t % 1000 ≠ 50 := by
  have := (List.getElem?_eq_some_iff.mp hr).1
  have hl : vwCl.length = 12 := rfl
  omega
section MJH
variable {p : Program} {l : Launch} {e : Env} {R : Room} {s : State} {m : MethodId} {args : Array Value} {below : List Frame} {meth : Method} {c : Code} {own : String} {cc : ByteArray} {ret : Option FieldType} {D : va_G} {dA : Nat → ClassId} {B nL mc ms : Nat} {Q : mj_P}
variable {pc : Nat} {L : mj_L} {st : List mj_V} {G : mj_G} {M : mj_M} {cb sb : Nat}
theorem mj_ne {t k : Nat} (h : t % 1000 = k + 1) : t ≠ 0 := fun q => by rw [q] at h; simp at h
theorem mj_ne1 {t k : Nat} (h : t % 1000 = 100 + k) : t ≠ 0 := fun q => by rw [q] at h; simp at h; omega
theorem mj_o_get (X : mj_X p l e R s m args below meth c own cc ret D dA B nL mc ms Q) {i ci fk a t n : Nat} {r : vw_C} {v : mj_V} (hd : decode cc pc = .ok (.getfield i, 3)) (hr : vwCl[ci]? = some r) (hk : fk < r.2.2) (hlay : ∀ w ∈ u_ws r.1 r.2.1 r.2.2, w ∈ mj_tb) (hlink : Cond.fieldLink own i (r.2.1 fk).1 (r.2.1 fk).2.1 (r.2.1 fk).2.2.1 ∈ mj_tb)
    (hG : G a = (t, n)) (ht : t % 1000 = ci + 1) (hv : (∀ x j, mj_in (M.1 x j)) → mj_val v = mj_sv (mj_so ci fk) M a fk ∧ mj_ok v) (kk : mj_J X (pc + 3) L (v :: st) G M cb sb) : mj_J X pc L (.inr (.inr (some a)) :: st) G M cb sb := by
  intro H locs ls cells slots hH hS hL hst hc hs
  obtain ⟨-, g1, -⟩ := hH.2.2 a t n hG (mj_ne ht)
  obtain ⟨cell, q1, q2, q3, q4⟩ := g1 ci r ht hr
  obtain ⟨hSl, hfc, kC, hkC, hkind⟩ := X.2.2.2.1.1 ci r hr
  obtain ⟨cf, kf, fi, f, hi, hsl⟩ := hSl fk hk
  obtain ⟨e1, e2⟩ := hv hH.1
  refine W.getf X.1.1 X.1.2.1 X.1.2.2.2.2 (X.2.1 _ hlink) hi (u_facts hfc hkC (u_lays X.2.1 hlay hk) hi).1 q1 (by rw [q3]; exact fun h => by cases h) (v := mj_val v) (by rw [hsl, q4 fk hk, e1]) rfl rfl hd ?_
  exact kk H locs ls cells slots hH hS hL (mj_cons (mj_tl hst) e2) hc hs
theorem mj_vaK {U : State} (h : mj_K D dA U) : va_K D vwCl [] U := ⟨h.1, fun k q hq => by simp at hq⟩
theorem mj_o_put (X : mj_X p l e R s m args below meth c own cc ret D dA B nL mc ms Q) {i ci fk a t n : Nat} {r : vw_C} {v : mj_V} {M' : mj_M} {ty : Nat → FieldType} (hd : decode cc pc = .ok (.putfield i, 3)) (hr : vwCl[ci]? = some r) (hk : fk < r.2.2) (hlay : ∀ w ∈ u_ws r.1 r.2.1 r.2.2, w ∈ mj_tb) (hlink : Cond.fieldLink own i (r.2.1 fk).1 (r.2.1 fk).2.1 (r.2.1 fk).2.2.1 ∈ mj_tb)
    (hty : ∀ k, k < r.2.2 → parseFieldDescriptor (r.2.1 k).2.2.1 = some (ty k)) (hnm : ∀ x, x < r.2.2 → ∀ y, y < r.2.2 → x ≠ y → (r.2.1 x).2.1 ≠ (r.2.1 y).2.1) (hfin : (r.2.1 fk).2.2.2 = false ∨ (meth.name = "<init>" ∧ (r.2.1 fk).1 = own))
    (hG : G a = (t, n)) (ht : t % 1000 = ci + 1) (hw9 : t < 900000) (hn : narrow (ty fk) (mj_val v) = mj_val v) (hfit : fits (ty fk) (mj_val v) = true) (hu : (∀ x j, mj_in (M.1 x j)) → mj_ok v → mj_u (mj_so ci fk) M a fk v M') (kk : mj_J X (pc + 3) L st G M' cb sb) : mj_J X pc L (v :: .inr (.inr (some a)) :: st) G M cb sb := by
  intro H locs ls cells slots hH hS hL hst hc hs
  have hap := va_apart (own := own) X.2.1 hlay ty hty hnm (mj_vaK X.2.2.2.1) hr
  obtain ⟨hB, g1, -⟩ := hH.2.2 a t n hG (mj_ne ht)
  obtain ⟨cell, q1, q2, q3, q4⟩ := g1 ci r ht hr
  obtain ⟨hSl, hfc, kC, hkC, hkind⟩ := X.2.2.2.1.1 ci r hr
  obtain ⟨cf, kf, fi, f, hi, hsl⟩ := hSl fk hk
  obtain ⟨u1, u2, u3⟩ := hu hH.1 (mj_head hst)
  have hst' := (u_facts hfc hkC (u_lays X.2.1 hlay hk) hi).1
  have key : ∀ H' : Heap, H'[a]? = some (cell.setSlot f.slot (mj_val v)) → H'.size = H.size → (∀ q, q ≠ a → H'[q]? = H[q]?) → W p l e R s m args below meth c H' (locs ++ [⟨a, f.slot⟩]) cells slots (MQ below (mj_Q D dA B Q) args s mc ms (fun q => B ≤ q)) (F0 m (pc + 3) ls (st.map mj_val)) := by
    intro H' w1 w2 w3
    rw [hsl] at w1 ⊢
    refine kk H' _ ls cells slots (hH.set hG w2 w3 u3 (fun so x j hx => u1 so x j (fun q => hx q.1)) ?_ ?_) (hS.put w2 w3 (hB hw9)) hL (mj_tl (mj_tl hst)) hc hs
    · intro ci' r' e1 e2
      have e3 : ci' = ci := by omega
      subst e3
      obtain rfl : r' = r := Option.some.inj (e2.symm.trans hr)
      refine t_OB.to (V := updV (fun k => mj_sv (mj_so ci' k) M a k) fk (mj_val v)) ⟨_, w1, q2, q3, t_set q4 hap hk (mj_val v)⟩ (fun k _ => ?_)
      by_cases hkf : k = fk
      · subst hkf
        rw [u2]; simp [updV]
      · rw [u1 _ a k (fun q => hkf q.2)]; simp [updV, hkf]
    · intro j e1
      exact (mj_cl100 ht e1 hr).elim
  rcases hfin with hfin | ⟨hin2, hdecl⟩
  · have hlay1 := X.2.1 _ (hlay _ (u_in_lay hk))
    unfold u_lay at hlay1
    rw [if_neg (by rw [hfin]; decide)] at hlay1
    have h6 := u_store hfc hkC hkind hlay1 hi (hty fk hk) hn hfit
    exact W.putK X.1.1 X.1.2.1 (f := f) ⟨X.1.2.2.2.2, X.2.1 _ hlink, ⟨_, _, _, hi⟩, hst'⟩ (by rw [q2]; exact h6) q1 q3 (by rw [hsl]; exact k2_hasslot (q4 fk hk)) rfl rfl hd key
  · cases hb2 : (r.2.1 fk).2.2.2 with
    | false =>
      have hlay1 := X.2.1 _ (hlay _ (u_in_lay hk))
      unfold u_lay at hlay1
      rw [if_neg (by rw [hb2]; decide)] at hlay1
      have h6 := u_store hfc hkC hkind hlay1 hi (hty fk hk) hn hfit
      exact W.putK X.1.1 X.1.2.1 (f := f) ⟨X.1.2.2.2.2, X.2.1 _ hlink, ⟨_, _, _, hi⟩, hst'⟩ (by rw [q2]; exact h6) q1 q3 (by rw [hsl]; exact k2_hasslot (q4 fk hk)) rfl rfl hd key
    | true =>
      have hlay1 := X.2.1 _ (hlay _ (u_in_lay hk))
      unfold u_lay at hlay1
      rw [if_pos hb2] at hlay1
      have hcf : m.cls = cf := by
        obtain ⟨_, _, c', _, _, _, -, -, hf', -, -, -, hown2, -⟩ := Cond.laysFinal_spec hlay1
        have e1 : c' = cf := by have := hi.symm.trans hf'; simp at this; exact this.1.symm
        rw [hdecl] at hown2
        rw [← e1]; exact Option.some.inj (X.1.2.2.2.2.symm.trans hown2)
      have h6 := u_fits hfc hkC hkind (Or.inr hlay1) hi (hty fk hk) hn hfit
      exact W.putFinK X.1.1 X.1.2.1 X.1.2.2.2.2 (X.2.1 _ hlink) hi hst' hcf hin2 (by rw [q2]; exact h6) q1 q3 (by rw [hsl]; exact k2_hasslot (q4 fk hk)) rfl rfl hd key
theorem mj_idx {i : Int} {n : Nat} (hi : mj_in i) (h0 : 0 ≤ i) (h1 : i < n) : ¬ (Int32.ofInt i < 0 ∨ n ≤ (Int32.ofInt i).toNatClampNeg) := by
  rintro (q | q)
  · exact mj_nn hi h0 q
  · rw [mj_nat hi] at q; omega
theorem mj_arr (X : mj_X p l e R s m args below meth c own cc ret D dA B nL mc ms Q) {H : Heap} {a t n j : Nat} (hj : j < 7) (hH : mj_H D dA B G M H) (hG : G a = (t, n)) (ht : t % 1000 = 100 + j) (hx : t < 900000 ∨ j ≠ 5) : (t < 900000 → B ≤ a) ∧ H[a]? = some (arrV (dA j) n (fun k => mj_sv (mj_as j) M a k)) ∧ s.isArrayOf (arrV (dA j) n (fun k => mj_sv (mj_as j) M a k)) (mj_at j) := by
  obtain ⟨hB, -, g2⟩ := hH.2.2 a t n hG (mj_ne1 ht)
  exact ⟨hB, (g2 j ht).ex (by omega), (X.2.2.2.1.2.1 j hj).2 _ _⟩
theorem mj_arrd (X : mj_X p l e R s m args below meth c own cc ret D dA B nL mc ms Q) {H : Heap} {a t n j : Nat} (hj : j < 7) (hH : mj_H D dA B G M H) (hG : G a = (t, n)) (ht : t % 1000 = 100 + j) : ∃ cell : Cell, H[a]? = some cell ∧ s.isArrayOf cell (mj_at j) ∧ cell.vm ≠ .unknown ∧ (n ≤ cell.slots.size ∧ cell.slots.size.toInt32 = Int32.ofNat n) ∧ ∀ k, k < n → cell.slots[k]? = some (mj_sv (mj_as j) M a k) := by
  obtain ⟨hB, -, g2⟩ := hH.2.2 a t n hG (mj_ne1 ht)
  obtain ⟨cell, c1, c2, c3, c4, c5, c6⟩ := (g2 j ht).rd
  obtain ⟨-, kk, k1, comp, k2⟩ := (X.2.2.2.1.2.1 j hj).2 0 (fun _ => .null)
  exact ⟨cell, c1, ⟨c2, kk, by rw [c4]; exact k1, comp, k2⟩, c3, c5, c6⟩
theorem mj_H.ast {H H' : Heap} {a t n j k : Nat} {v : mj_V} {M' : mj_M} (hH : mj_H D dA B G M H) (hG : G a = (t, n)) (ht : t % 1000 = 100 + j) (hu : mj_u (mj_as j) M a k v M') (w1 : H'[a]? = some ((arrV (dA j) n (fun k => mj_sv (mj_as j) M a k)).setSlot k (mj_val v))) (w2 : H'.size = H.size) (w3 : ∀ q, q ≠ a → H'[q]? = H[q]?) : mj_H D dA B G M' H' := by
  obtain ⟨u1, u2, u3⟩ := hu
  refine hH.set hG w2 w3 u3 (fun so x j hx => u1 so x j (fun q => hx q.1)) ?_ ?_
  · intro ci r e1 e2
    exact (mj_cl100 e1 ht e2).elim
  · intro j' e1
    have e3 : j' = j := by omega
    subst e3
    rw [w1, arrV_store]
    congr 2
    funext q
    by_cases hq : q = k
    · subst hq
      rw [u2]; simp [updV]
    · rw [u1 _ a q (fun z => hq z.2)]; simp [updV, hq]
theorem mj_o_iaload (X : mj_X p l e R s m args below meth c own cc ret D dA B nL mc ms Q) {a t n : Nat} {i : Int} (hd : decode cc pc = .ok (.iaload, 1)) (hG : G a = (t, n)) (ht : t % 1000 = 100 + 0) (h0 : 0 ≤ i) (h1 : i < n) (kk : mj_J X (pc + 1) L (.inl (M.1 a i.toNat) :: st) G M cb sb) : mj_J X pc L (.inl i :: .inr (.inr (some a)) :: st) G M cb sb := by
  intro H locs ls cells slots hH hS hL hst hc hs
  have hi : mj_in i := mj_head hst
  obtain ⟨-, q1, q2⟩ := mj_arr X (by decide) hH hG ht (Or.inr (by decide))
  refine W.iald X.1.1 X.1.2.1 (v := mj_val (.inl (M.1 a i.toNat))) q1 q2 (fun q => by cases q) (by rw [arrV_size]; exact mj_idx hi h0 h1) (by rw [mj_nat hi, arrV_read _ _ (by omega)]; rfl) rfl rfl hd ?_
  exact kk H locs ls cells slots hH hS hL (mj_cons (mj_tl (mj_tl hst)) (hH.1 a i.toNat)) hc hs
theorem mj_o_baload (X : mj_X p l e R s m args below meth c own cc ret D dA B nL mc ms Q) {a t n : Nat} {i : Int} (hd : decode cc pc = .ok (.baload, 1)) (hG : G a = (t, n)) (ht : t % 1000 = 100 + 1) (h0 : 0 ≤ i) (h1 : i < n) (kk : mj_J X (pc + 1) L (.inl (M.1 a i.toNat) :: st) G M cb sb) : mj_J X pc L (.inl i :: .inr (.inr (some a)) :: st) G M cb sb := by
  intro H locs ls cells slots hH hS hL hst hc hs
  have hi : mj_in i := mj_head hst
  obtain ⟨-, q1, q2⟩ := mj_arr X (by decide) hH hG ht (Or.inr (by decide))
  refine W.bald X.1.1 X.1.2.1 (v := mj_val (.inl (M.1 a i.toNat))) q1 q2 (fun q => by cases q) (by rw [arrV_size]; exact mj_idx hi h0 h1) (by rw [mj_nat hi, arrV_read _ _ (by omega)]; rfl) rfl rfl hd ?_
  exact kk H locs ls cells slots hH hS hL (mj_cons (mj_tl (mj_tl hst)) (hH.1 a i.toNat)) hc hs
theorem mj_o_zaload (X : mj_X p l e R s m args below meth c own cc ret D dA B nL mc ms Q) {a t n : Nat} {i : Int} (hd : decode cc pc = .ok (.baload, 1)) (hG : G a = (t, n)) (ht : t % 1000 = 100 + 2) (h0 : 0 ≤ i) (h1 : i < n) (kk : mj_J X (pc + 1) L (.inl (M.1 a i.toNat) :: st) G M cb sb) : mj_J X pc L (.inl i :: .inr (.inr (some a)) :: st) G M cb sb := by
  intro H locs ls cells slots hH hS hL hst hc hs
  have hi : mj_in i := mj_head hst
  obtain ⟨-, q1, q2⟩ := mj_arr X (by decide) hH hG ht (Or.inr (by decide))
  refine W.zald X.1.1 X.1.2.1 (v := mj_val (.inl (M.1 a i.toNat))) q1 q2 (fun q => by cases q) (by rw [arrV_size]; exact mj_idx hi h0 h1) (by rw [mj_nat hi, arrV_read _ _ (by omega)]; rfl) rfl rfl hd ?_
  exact kk H locs ls cells slots hH hS hL (mj_cons (mj_tl (mj_tl hst)) (hH.1 a i.toNat)) hc hs
theorem mj_o_laload (X : mj_X p l e R s m args below meth c own cc ret D dA B nL mc ms Q) {a t n : Nat} {i : Int} (hd : decode cc pc = .ok (.laload, 1)) (hG : G a = (t, n)) (ht : t % 1000 = 100 + 3) (h0 : 0 ≤ i) (h1 : i < n) (kk : mj_J X (pc + 1) L (.inr (.inl (M.2.1 a i.toNat)) :: st) G M cb sb) : mj_J X pc L (.inl i :: .inr (.inr (some a)) :: st) G M cb sb := by
  intro H locs ls cells slots hH hS hL hst hc hs
  have hi : mj_in i := mj_head hst
  obtain ⟨-, q1, q2⟩ := mj_arr X (by decide) hH hG ht (Or.inr (by decide))
  refine W.lald X.1.1 X.1.2.1 (v := mj_val (.inr (.inl (M.2.1 a i.toNat)))) q1 q2 (fun q => by cases q) (by rw [arrV_size]; exact mj_idx hi h0 h1) (by rw [mj_nat hi, arrV_read _ _ (by omega)]; rfl) rfl rfl hd ?_
  exact kk H locs ls cells slots hH hS hL (mj_cons (mj_tl (mj_tl hst)) trivial) hc hs
theorem mj_o_aaload (X : mj_X p l e R s m args below meth c own cc ret D dA B nL mc ms Q) {a t n j : Nat} {i : Int} (hd : decode cc pc = .ok (.aaload, 1)) (hG : G a = (t, n)) (ht : t % 1000 = 100 + j) (hj : j < 7) (hr : (mj_at j).isReference = true) (hso : mj_as j = 2) (h0 : 0 ≤ i) (h1 : i < n) (kk : mj_rf (M.2.2 a i.toNat) fun v => mj_J X (pc + 1) L (v :: st) G M cb sb) : mj_J X pc L (.inl i :: .inr (.inr (some a)) :: st) G M cb sb := by
  intro H locs ls cells slots hH hS hL hst hc hs
  have hi : mj_in i := mj_head hst
  obtain ⟨cell, q1, q2, q3, q4, q5⟩ := mj_arrd X hj hH hG ht
  refine W.aald X.1.1 X.1.2.1 (v := mj_val (.inr (.inr (M.2.2 a i.toNat)))) q1 q2 hr q3 (fun q => mj_idx hi h0 h1 (q.imp id (fun q => Nat.le_trans q4.1 q))) (by rw [mj_nat hi, q5 _ (by omega), hso]; rfl) rfl rfl hd ?_
  cases hm : M.2.2 a i.toNat with
  | none => exact kk.2 hm H locs ls cells slots hH hS hL (mj_cons (mj_tl (mj_tl hst)) trivial) hc hs
  | some b => exact kk.1 b hm H locs ls cells slots hH hS hL (mj_cons (mj_tl (mj_tl hst)) trivial) hc hs
theorem mj_o_iastore (X : mj_X p l e R s m args below meth c own cc ret D dA B nL mc ms Q) {a t n : Nat} {i : Int} {z : Int} (hd : decode cc pc = .ok (.iastore, 1)) (hG : G a = (t, n)) (ht : t % 1000 = 100 + 0) (hw9 : t < 900000) (h0 : 0 ≤ i) (h1 : i < n) (kk : mj_J X (pc + 1) L st G (mj_p0 M a i.toNat z) cb sb) : mj_J X pc L (.inl z :: .inl i :: .inr (.inr (some a)) :: st) G M cb sb := by
  intro H locs ls cells slots hH hS hL hst hc hs
  have hi : mj_in i := mj_head (mj_tl hst)
  obtain ⟨hB, q1, q2⟩ := mj_arr X (by decide) hH hG ht (Or.inr (by decide))
  refine W.iast X.1.1 X.1.2.1 q1 q2 (fun q => by cases q) (by rw [arrV_size]; exact mj_idx hi h0 h1) rfl rfl hd (fun H' w1 w2 w3 => ?_)
  · rw [mj_nat hi] at w1 ⊢
    exact kk H' _ ls cells slots (hH.ast (v := .inl z) hG ht (mj_u0 hH.1 (mj_head hst)) w1 w2 w3) (hS.put w2 w3 (hB hw9)) hL (mj_tl (mj_tl (mj_tl hst))) hc hs
theorem mj_o_bastore (X : mj_X p l e R s m args below meth c own cc ret D dA B nL mc ms Q) {a t n : Nat} {i : Int} {z : Int} (hd : decode cc pc = .ok (.bastore, 1)) (hG : G a = (t, n)) (ht : t % 1000 = 100 + 1) (hw9 : t < 900000) (h0 : 0 ≤ i) (h1 : i < n) (kk : mj_J X (pc + 1) L st G (mj_p0 M a i.toNat (mj_nb z)) cb sb) : mj_J X pc L (.inl z :: .inl i :: .inr (.inr (some a)) :: st) G M cb sb := by
  intro H locs ls cells slots hH hS hL hst hc hs
  have hi : mj_in i := mj_head (mj_tl hst)
  obtain ⟨hB, q1, q2⟩ := mj_arr X (by decide) hH hG ht (Or.inr (by decide))
  refine W.bast X.1.1 X.1.2.1 q1 q2 (fun q => by cases q) (by rw [arrV_size]; exact mj_idx hi h0 h1) rfl rfl hd (fun H' w1 w2 w3 => ?_)
  · rw [mj_nat hi] at w1 ⊢
    have e : narrow .byte (.int (Int32.ofInt z)) = mj_val (.inl (mj_nb z)) := by
      show Value.int (Int32.ofInt z).toInt8.toInt32 = Value.int (Int32.ofInt (Int32.ofInt z).toInt8.toInt32.toInt)
      rw [mj_it]
    rw [e] at w1
    exact kk H' _ ls cells slots (hH.ast (v := .inl (mj_nb z)) hG ht (mj_u0 hH.1 (mj_rng _)) w1 w2 w3) (hS.put w2 w3 (hB hw9)) hL (mj_tl (mj_tl (mj_tl hst))) hc hs
theorem mj_o_zastore (X : mj_X p l e R s m args below meth c own cc ret D dA B nL mc ms Q) {a t n : Nat} {i : Int} {z : Int} (hd : decode cc pc = .ok (.bastore, 1)) (hG : G a = (t, n)) (ht : t % 1000 = 100 + 2) (hz : z = 0 ∨ z = 1) (hw9 : t < 900000) (h0 : 0 ≤ i) (h1 : i < n) (kk : mj_J X (pc + 1) L st G (mj_p0 M a i.toNat z) cb sb) : mj_J X pc L (.inl z :: .inl i :: .inr (.inr (some a)) :: st) G M cb sb := by
  intro H locs ls cells slots hH hS hL hst hc hs
  have hi : mj_in i := mj_head (mj_tl hst)
  obtain ⟨hB, q1, q2⟩ := mj_arr X (by decide) hH hG ht (Or.inr (by decide))
  refine W.zast X.1.1 X.1.2.1 q1 q2 (fun q => by cases q) (by rw [arrV_size]; exact mj_idx hi h0 h1) rfl rfl hd (fun H' w1 w2 w3 => ?_)
  · rw [mj_nat hi] at w1 ⊢
    have e : narrow .boolean (.int (Int32.ofInt z)) = mj_val (.inl z) := by rcases hz with rfl | rfl <;> rfl
    rw [e] at w1
    exact kk H' _ ls cells slots (hH.ast (v := .inl z) hG ht (mj_u0 hH.1 (mj_head hst)) w1 w2 w3) (hS.put w2 w3 (hB hw9)) hL (mj_tl (mj_tl (mj_tl hst))) hc hs
theorem mj_o_lastore (X : mj_X p l e R s m args below meth c own cc ret D dA B nL mc ms Q) {a t n : Nat} {i : Int} {z : Int64} (hd : decode cc pc = .ok (.lastore, 1)) (hG : G a = (t, n)) (ht : t % 1000 = 100 + 3) (hw9 : t < 900000) (h0 : 0 ≤ i) (h1 : i < n) (kk : mj_J X (pc + 1) L st G (mj_p1 M a i.toNat z) cb sb) : mj_J X pc L (.inr (.inl z) :: .inl i :: .inr (.inr (some a)) :: st) G M cb sb := by
  intro H locs ls cells slots hH hS hL hst hc hs
  have hi : mj_in i := mj_head (mj_tl hst)
  obtain ⟨hB, q1, q2⟩ := mj_arr X (by decide) hH hG ht (Or.inr (by decide))
  refine W.last X.1.1 X.1.2.1 q1 q2 (fun q => by cases q) (by rw [arrV_size]; exact mj_idx hi h0 h1) rfl rfl hd (fun H' w1 w2 w3 => ?_)
  · rw [mj_nat hi] at w1 ⊢
    exact kk H' _ ls cells slots (hH.ast (v := .inr (.inl z)) hG ht (mj_u1 hH.1) w1 w2 w3) (hS.put w2 w3 (hB hw9)) hL (mj_tl (mj_tl (mj_tl hst))) hc hs
theorem mj_o_alen (X : mj_X p l e R s m args below meth c own cc ret D dA B nL mc ms Q) {a t n j : Nat} (hd : decode cc pc = .ok (.arraylength, 1)) (hG : G a = (t, n)) (ht : t % 1000 = 100 + j) (hj : j < 7) (hn : mj_in n) (kk : mj_J X (pc + 1) L (.inl (n : Int) :: st) G M cb sb) : mj_J X pc L (.inr (.inr (some a)) :: st) G M cb sb := by
  intro H locs ls cells slots hH hS hL hst hc hs
  obtain ⟨cell, q1, q2, q3, q4, q5⟩ := mj_arrd X hj hH hG ht
  refine W.alen (n := Int32.ofInt n) X.1.1 X.1.2.1 q1 q2 (by rw [q4.2]; rfl) rfl rfl hd ?_
  exact kk H locs ls cells slots hH hS hL (mj_cons (mj_tl hst) hn) hc hs
theorem mj_fin (X : mj_X p l e R s m args below meth c own cc ret D dA B nL mc ms Q) {H : Heap} {locs : List Loc} {r : Option mj_V} (hH : mj_H D dA B G M H) (hS : va_S (fun q => B ≤ q) s.heap H locs) (hr : ∀ v, r = some v → mj_ok v) (kk : Q r G M) : ∀ t : State, t.heap = H → s.WarmedH t.vm → mj_Q D dA B Q args s (.returned (r.map mj_val)) t := by
  intro t ht hW
  exact ⟨r, G, M, rfl, kk, hr, by rw [ht]; exact hH, mj_K.moved hW.alike X.2.2.2.1, hS.F ht⟩
theorem mj_o_return (X : mj_X p l e R s m args below meth c own cc ret D dA B nL mc ms Q) (hd : decode cc pc = .ok (.return_, 1)) (hr : ret = none) (kk : Q none G M) : mj_J X pc L [] G M cb sb := by
  intro H locs ls cells slots hH hS hL hst hc hs
  refine W.widen (k := mc) (n := ms) (by omega) (by omega) ?_
  exact W.vret X.1.1 X.1.2.1 (X.1.2.2.2.1.trans hr) (mj_fin X hH hS (fun v q => by cases q) kk) hS.2.2 hd X.2.2.1
theorem mj_o_ireturn (X : mj_X p l e R s m args below meth c own cc ret D dA B nL mc ms Q) {z : Int} (hd : decode cc pc = .ok (.ireturn, 1)) (hr : ret = some .int ∨ (ret = some .boolean ∧ (z = 0 ∨ z = 1))) (kk : Q (some (.inl z)) G M) : mj_J X pc L [.inl z] G M cb sb := by
  intro H locs ls cells slots hH hS hL hst hc hs
  refine W.widen (k := mc) (n := ms) (by omega) (by omega) ?_
  have hz : mj_in z := mj_head hst
  have hq := mj_fin X hH hS (r := some (.inl z)) (fun v q => by cases q; exact hz) kk
  rcases hr with hr | ⟨hr, h2⟩
  · exact W.iret X.1.1 X.1.2.1 (X.1.2.2.2.1.trans hr) hq hS.2.2 hd X.2.2.1
  · exact W.zret X.1.1 X.1.2.1 (X.1.2.2.2.1.trans hr) (by rcases h2 with rfl | rfl <;> rfl) hq hS.2.2 hd X.2.2.1
end MJH
