/-! ===== rows that p1 had no need of: division, longs, references compared, the words ===== -/
section MJD
variable {p : Program} {l : Launch} {e : Env} {R : Room} {s : State} {m : MethodId} {args : Array Value} {below : List Frame} {meth : Method} {c : Code} {own : String} {cc : ByteArray} {ret : Option FieldType} {D : va_G} {dA : Nat → ClassId} {B nL mc ms : Nat} {Q : mj_P}
variable {pc : Nat} {L : mj_L} {st : List mj_V} {G : mj_G} {M : mj_M} {cb sb : Nat}

theorem mj_o_idiv (X : mj_X p l e R s m args below meth c own cc ret D dA B nL mc ms Q) (hd : decode cc pc = .ok (.idiv, 1)) {x y : Int} (hy : y ≠ 0) (kk : ∀ z, mj_in z → z = (Int32.ofInt x / Int32.ofInt y).toInt → mj_J X (pc + 1) L (.inl z :: st) G M cb sb) : mj_J X pc L (.inl y :: .inl x :: st) G M cb sb := by
  intro H locs ls cells slots hH hS hL hst hc hs
  have hyi : mj_in y := mj_head hst
  refine lv_idiv X.1.1 X.1.2.1 hd (fun q => hy ?_) ?_
  · exact (mj_eq hyi ⟨by decide, by decide⟩).mp q
  · have g := kk _ (mj_rng _) rfl H locs ls cells slots hH hS hL (mj_cons (mj_tl (mj_tl hst)) (mj_rng _)) hc hs
    simp only [List.map_cons, mj_val, mj_it] at g
    exact g

theorem mj_o_irem (X : mj_X p l e R s m args below meth c own cc ret D dA B nL mc ms Q) (hd : decode cc pc = .ok (.irem, 1)) {x y : Int} (hy : y ≠ 0) (kk : ∀ z, mj_in z → z = (Int32.ofInt x - Int32.ofInt x / Int32.ofInt y * Int32.ofInt y).toInt → mj_J X (pc + 1) L (.inl z :: st) G M cb sb) : mj_J X pc L (.inl y :: .inl x :: st) G M cb sb := by
  intro H locs ls cells slots hH hS hL hst hc hs
  have hyi : mj_in y := mj_head hst
  refine lv_irem X.1.1 X.1.2.1 hd (fun q => hy ?_) ?_
  · exact (mj_eq hyi ⟨by decide, by decide⟩).mp q
  · have g := kk _ (mj_rng _) rfl H locs ls cells slots hH hS hL (mj_cons (mj_tl (mj_tl hst)) (mj_rng _)) hc hs
    simp only [List.map_cons, mj_val, mj_it] at g
    exact g

theorem mj_o_lor (X : mj_X p l e R s m args below meth c own cc ret D dA B nL mc ms Q) (hd : decode cc pc = .ok (.lor, 1)) {x y : Int64} (kk : mj_J X (pc + 1) L (.inr (.inl (x ||| y)) :: st) G M cb sb) : mj_J X pc L (.inr (.inl y) :: .inr (.inl x) :: st) G M cb sb := by
  intro H locs ls cells slots hH hS hL hst hc hs
  exact lv_lor X.1.1 X.1.2.1 hd (kk H locs ls cells slots hH hS hL (mj_cons (mj_tl (mj_tl hst)) trivial) hc hs)

theorem mj_o_land (X : mj_X p l e R s m args below meth c own cc ret D dA B nL mc ms Q) (hd : decode cc pc = .ok (.land, 1)) {x y : Int64} (kk : mj_J X (pc + 1) L (.inr (.inl (x &&& y)) :: st) G M cb sb) : mj_J X pc L (.inr (.inl y) :: .inr (.inl x) :: st) G M cb sb := by
  intro H locs ls cells slots hH hS hL hst hc hs
  exact lv_land X.1.1 X.1.2.1 hd (kk H locs ls cells slots hH hS hL (mj_cons (mj_tl (mj_tl hst)) trivial) hc hs)

theorem mj_o_lshl (X : mj_X p l e R s m args below meth c own cc ret D dA B nL mc ms Q) (hd : decode cc pc = .ok (.lshl, 1)) {x : Int64} {y : Int} (kk : mj_J X (pc + 1) L (.inr (.inl (x <<< ((Int32.ofInt y).toInt64 &&& 63))) :: st) G M cb sb) : mj_J X pc L (.inl y :: .inr (.inl x) :: st) G M cb sb := by
  intro H locs ls cells slots hH hS hL hst hc hs
  exact lv_lshl X.1.1 X.1.2.1 hd rfl (kk H locs ls cells slots hH hS hL (mj_cons (mj_tl (mj_tl hst)) trivial) hc hs)

theorem mj_o_lshr (X : mj_X p l e R s m args below meth c own cc ret D dA B nL mc ms Q) (hd : decode cc pc = .ok (.lshr, 1)) {x : Int64} {y : Int} (kk : mj_J X (pc + 1) L (.inr (.inl (x >>> ((Int32.ofInt y).toInt64 &&& 63))) :: st) G M cb sb) : mj_J X pc L (.inl y :: .inr (.inl x) :: st) G M cb sb := by
  intro H locs ls cells slots hH hS hL hst hc hs
  exact lv_lshr X.1.1 X.1.2.1 hd rfl (kk H locs ls cells slots hH hS hL (mj_cons (mj_tl (mj_tl hst)) trivial) hc hs)

theorem mj_o_lcmp (X : mj_X p l e R s m args below meth c own cc ret D dA B nL mc ms Q) (hd : decode cc pc = .ok (.lcmp, 1)) {x y : Int64} (kk : ∀ z, mj_in z → z = (lg_cmp x y).toInt → mj_J X (pc + 1) L (.inl z :: st) G M cb sb) : mj_J X pc L (.inr (.inl y) :: .inr (.inl x) :: st) G M cb sb := by
  intro H locs ls cells slots hH hS hL hst hc hs
  refine W.lcmp X.1.1 X.1.2.1 hd ?_
  have g := kk _ (mj_rng _) rfl H locs ls cells slots hH hS hL (mj_cons (mj_tl (mj_tl hst)) (mj_rng _)) hc hs
  simp only [List.map_cons, mj_val, mj_it] at g
  exact g
theorem mj_o_i2l (X : mj_X p l e R s m args below meth c own cc ret D dA B nL mc ms Q) (hd : decode cc pc = .ok (.i2l, 1)) {x : Int} (kk : mj_J X (pc + 1) L (.inr (.inl (Int32.ofInt x).toInt64) :: st) G M cb sb) : mj_J X pc L (.inl x :: st) G M cb sb := by
  intro H locs ls cells slots hH hS hL hst hc hs
  exact lv_i2l X.1.1 X.1.2.1 hd rfl (kk H locs ls cells slots hH hS hL (mj_cons (mj_tl hst) trivial) hc hs)
theorem mj_o_l2i (X : mj_X p l e R s m args below meth c own cc ret D dA B nL mc ms Q) (hd : decode cc pc = .ok (.l2i, 1)) {x : Int64} (kk : ∀ z, mj_in z → z = x.toInt32.toInt → mj_J X (pc + 1) L (.inl z :: st) G M cb sb) : mj_J X pc L (.inr (.inl x) :: st) G M cb sb := by
  intro H locs ls cells slots hH hS hL hst hc hs
  refine lv_l2i X.1.1 X.1.2.1 hd rfl ?_
  have g := kk _ (mj_rng _) rfl H locs ls cells slots hH hS hL (mj_cons (mj_tl hst) (mj_rng _)) hc hs
  simp only [List.map_cons, mj_val, mj_it] at g
  exact g
theorem mj_o_ldcw (X : mj_X p l e R s m args below meth c own cc ret D dA B nL mc ms Q) {i : Nat} {z : Int} (hd : decode cc pc = .ok (.ldc_w i, 3)) (hz : mj_in z) (hw : Cond.constant own i (Int32.ofInt z) ∈ mj_tb) (kk : mj_J X (pc + 3) L (.inl z :: st) G M cb sb) : mj_J X pc L st G M cb sb := by
  intro H locs ls cells slots hH hS hL hst hc hs
  exact lv_ldcw X.1.1 X.1.2.1 X.1.2.2.2.2 (X.2.1 _ hw) hd (kk H locs ls cells slots hH hS hL (mj_cons hst hz) hc hs)

theorem mj_o_acmp_eq (X : mj_X p l e R s m args below meth c own cc ret D dA B nL mc ms Q) {off : Int} {tgt : Nat} (hd : decode cc pc = .ok (.if_acmp .eq off, 3)) (ht : (pc : Int) + off = (tgt : Int)) {z y : Option Nat} (kt : z = y → mj_J X tgt L st G M cb sb) (kf : ¬ (z = y) → mj_J X (pc + 3) L st G M cb sb) : mj_J X pc L (.inr (.inr y) :: .inr (.inr z) :: st) G M cb sb := by
  intro H locs ls cells slots hH hS hL hst hc hs
  exact lv_acmp_eq X.1.1 X.1.2.1 hd ht (fun q => kt q H locs ls cells slots hH hS hL (mj_tl (mj_tl hst)) hc hs) (fun q => kf (q) H locs ls cells slots hH hS hL (mj_tl (mj_tl hst)) hc hs)

theorem mj_o_acmp_ne (X : mj_X p l e R s m args below meth c own cc ret D dA B nL mc ms Q) {off : Int} {tgt : Nat} (hd : decode cc pc = .ok (.if_acmp .ne off, 3)) (ht : (pc : Int) + off = (tgt : Int)) {z y : Option Nat} (kt : z ≠ y → mj_J X tgt L st G M cb sb) (kf : ¬ (z ≠ y) → mj_J X (pc + 3) L st G M cb sb) : mj_J X pc L (.inr (.inr y) :: .inr (.inr z) :: st) G M cb sb := by
  intro H locs ls cells slots hH hS hL hst hc hs
  exact lv_acmp_ne X.1.1 X.1.2.1 hd ht (fun q => kt q H locs ls cells slots hH hS hL (mj_tl (mj_tl hst)) hc hs) (fun q => kf (fun h => h q) H locs ls cells slots hH hS hL (mj_tl (mj_tl hst)) hc hs)

theorem mj_ne50 {t : Nat} (h : t % 1000 = 50) : t ≠ 0 := fun q => by rw [q] at h; simp at h
theorem mj_o_gets (X : mj_X p l e R s m args below meth c own cc ret D dA B nL mc ms Q) {i k : Nat} (hk : k < 24) (hd : decode cc pc = .ok (.getstatic i, 3)) (hw : Cond.fieldLink own i RX9 (mj_wn.getD k "") "LRentRiver$Word;" ∈ mj_tb) (kk : ∀ a, G a = (900050 + 1000 * k, 0) → mj_J X (pc + 3) L (.inr (.inr (some a)) :: st) G M cb sb) : mj_J X pc L st G M cb sb := by
  intro H locs ls cells slots hH hS hL hst hc hs
  exact va_gets X.1.1 X.1.2.1 (X.2.2.2.2.1.2.1.1 k hk).1 hS X.1.2.2.2.2 (X.2.1 _ hw) (fun x h => h) hd (kk (dA (100 + k)) (hH.2.1.2.1 k hk) H locs ls cells slots hH hS hL (mj_cons hst trivial) hc hs)
theorem mj_o_getsA (X : mj_X p l e R s m args below meth c own cc ret D dA B nL mc ms Q) {i : Nat} (hd : decode cc pc = .ok (.getstatic i, 3)) (hw : Cond.fieldLink own i RX9 "ALL" "[LRentRiver$Word;" ∈ mj_tb) (kk : ∀ a, G a = (900105, 24) → mj_J X (pc + 3) L (.inr (.inr (some a)) :: st) G M cb sb) : mj_J X pc L st G M cb sb := by
  intro H locs ls cells slots hH hS hL hst hc hs
  exact va_gets X.1.1 X.1.2.1 X.2.2.2.2.1.2.2.2 hS X.1.2.2.2.2 (X.2.1 _ hw) (fun x h => h) hd (kk (dA 99) hH.2.1.2.2.2 H locs ls cells slots hH hS hL (mj_cons hst trivial) hc hs)
theorem mj_wwi : ∀ k, k < 24 → (mj_ww.map Int32.ofInt).getD k 0 = Int32.ofInt (mj_ww.getD k 0) ∧ mj_in (mj_ww.getD k 0) := by
  intro k hk
  match k, hk with
  | 0, _ => exact ⟨rfl, by decide, by decide⟩
  | 1, _ => exact ⟨rfl, by decide, by decide⟩
  | 2, _ => exact ⟨rfl, by decide, by decide⟩
  | 3, _ => exact ⟨rfl, by decide, by decide⟩
  | 4, _ => exact ⟨rfl, by decide, by decide⟩
  | 5, _ => exact ⟨rfl, by decide, by decide⟩
  | 6, _ => exact ⟨rfl, by decide, by decide⟩
  | 7, _ => exact ⟨rfl, by decide, by decide⟩
  | 8, _ => exact ⟨rfl, by decide, by decide⟩
  | 9, _ => exact ⟨rfl, by decide, by decide⟩
  | 10, _ => exact ⟨rfl, by decide, by decide⟩
  | 11, _ => exact ⟨rfl, by decide, by decide⟩
  | 12, _ => exact ⟨rfl, by decide, by decide⟩
  | 13, _ => exact ⟨rfl, by decide, by decide⟩
  | 14, _ => exact ⟨rfl, by decide, by decide⟩
  | 15, _ => exact ⟨rfl, by decide, by decide⟩
  | 16, _ => exact ⟨rfl, by decide, by decide⟩
  | 17, _ => exact ⟨rfl, by decide, by decide⟩
  | 18, _ => exact ⟨rfl, by decide, by decide⟩
  | 19, _ => exact ⟨rfl, by decide, by decide⟩
  | 20, _ => exact ⟨rfl, by decide, by decide⟩
  | 21, _ => exact ⟨rfl, by decide, by decide⟩
  | 22, _ => exact ⟨rfl, by decide, by decide⟩
  | 23, _ => exact ⟨rfl, by decide, by decide⟩
  | n + 24, h => omega
theorem mj_o_getw (X : mj_X p l e R s m args below meth c own cc ret D dA B nL mc ms Q) {i a t n : Nat} (hd : decode cc pc = .ok (.getfield i, 3)) (hw : Cond.fieldLink own i RX9 "what" "I" ∈ mj_tb) (hG : G a = (t, n)) (ht : t % 1000 = 50) (kk : mj_J X (pc + 3) L (.inl (mj_ww.getD ((t - 900050) / 1000) 0) :: st) G M cb sb) : mj_J X pc L (.inr (.inr (some a)) :: st) G M cb sb := by
  intro H locs ls cells slots hH hS hL hst hc hs
  obtain ⟨k, hk, rfl, rfl⟩ := hH.2.1.2.2.1 a t n hG ht
  have ek : (900050 + 1000 * k - 900050) / 1000 = k := by omega
  rw [ek] at kk
  have g := kk H locs ls cells slots hH hS hL (mj_cons (mj_tl hst) (mj_wwi k hk).2) hc hs
  refine va_getE X.1.1 X.1.2.1 X.2.2.2.2.1.2.1 (i := k) hk hS X.1.2.2.2.2 (q := (RX9, "what", "I", mj_ww.map Int32.ofInt)) List.mem_cons_self (X.2.1 _ hw) (fun x h => h) hd ?_
  show W _ _ _ _ _ _ _ _ _ _ _ _ _ _ _ (F0 m (pc + 3) ls (.int ((mj_ww.map Int32.ofInt).getD k 0) :: _))
  rw [(mj_wwi k hk).1]
  exact g
theorem mj_o_getc (X : mj_X p l e R s m args below meth c own cc ret D dA B nL mc ms Q) {i a t n : Nat} (hd : decode cc pc = .ok (.getfield i, 3)) (hw : Cond.fieldLink own i RX9 "code" "J" ∈ mj_tb) (hG : G a = (t, n)) (ht : t % 1000 = 50) (kk : mj_J X (pc + 3) L (.inr (.inl (mj_wc.getD ((t - 900050) / 1000) 0)) :: st) G M cb sb) : mj_J X pc L (.inr (.inr (some a)) :: st) G M cb sb := by
  intro H locs ls cells slots hH hS hL hst hc hs
  obtain ⟨k, hk, rfl, rfl⟩ := hH.2.1.2.2.1 a t n hG ht
  have ek : (900050 + 1000 * k - 900050) / 1000 = k := by omega
  rw [ek] at kk
  exact va_getX X.1.1 X.1.2.1 X.2.2.2.2.1.2.2.1 (i := k) hk hS X.1.2.2.2.2 (X.2.1 _ hw) (fun x h => h) hd (kk H locs ls cells slots hH hS hL (mj_cons (mj_tl hst) trivial) hc hs)
theorem mj_o_areturn (X : mj_X p l e R s m args below meth c own cc ret D dA B nL mc ms Q) {z : Option Nat} (hd : decode cc pc = .ok (.areturn, 1)) (hr : ret = some (.object "RentRiver$Word")) (kk : Q (some (.inr (.inr z))) G M) : mj_J X pc L [.inr (.inr z)] G M cb sb := by
  intro H locs ls cells slots hH hS hL hst hc hs
  refine W.widen (k := mc) (n := ms) (by omega) (by omega) ?_
  have hq := mj_fin X hH hS (r := some (.inr (.inr z))) (fun v q => by cases q; trivial) kk
  exact W.aret X.1.1 X.1.2.1 (X.1.2.2.2.1.trans hr) (Or.inl ⟨_, rfl⟩) (by cases z <;> simp [mj_val, va_rf]) hq hS.2.2 hd X.2.2.1

theorem mj_o_callW (X : mj_X p l e R s m args below meth c own cc ret D dA B nL mc ms Q) {i a t n N d maxL mc' ms' : Nat} {y : MethodName} {bytes : ByteArray} {rt : Option FieldType} {As : List mj_V} {Q2 : mj_P} (hd : decode cc pc = .ok (.invokevirtual i, 3))
    (hM : Met l y (.code y bytes maxL rt :: mj_tb) (mj_rm d (mc', ms')) (mj_Pc D dA B (.inr (.inr (some a)) :: As) G M) (mj_Q D dA B Q2) mc' ms' (fun q => B ≤ q)) (hR : d + 1 ≤ R.frames ∧ 8 + (maxL + 11) + (100 * d + 100) ≤ R.locals)
    (hy : y.cls = RX9) (hy2 : y.cls ≠ "java/lang/invoke/MethodHandle" ∧ y.cls ≠ "java/lang/invoke/VarHandle" ∧ (parseMethodDescriptor y.desc).map (fun d => d.parameters.length) = some N) (hN : As.length = N)
    (hw1 : Cond.methodLink own i y ∈ mj_tb) (hw2 : Cond.instanceMethod y ∈ mj_tb) (hw3 : Cond.selects RX9 y y ∈ mj_tb) (hw4 : Cond.initialized RX9 ∈ mj_tb) (hw5 : Cond.code y bytes maxL rt ∈ mj_tb)
    (hG : G a = (t, n)) (ht : t % 1000 = 50) (h8 : mj_cat st ≤ 8) (h1 : mc' ≤ cb) (h2 : ms' ≤ sb) (kk : ∀ r G M, Q2 r G M → mj_J X (pc + 3) L (mj_ret r st) G M (cb - mc') (sb - ms')) : mj_J X pc L (As.reverse ++ .inr (.inr (some a)) :: st) G M cb sb := by
  intro H locs ls cells slots hH hS hL hst hc hs
  have hm1 : mc ≤ R.cells := X.2.2.2.2.2.2.2.1
  have hm2 : ms ≤ R.slots := X.2.2.2.2.2.2.2.2
  obtain ⟨kw, hkw, -, ha9⟩ := hH.2.1.2.2.1 a t n hG ht
  have hrc : ∃ cell : Cell, H[dA (100 + kw)]? = some cell ∧ cell.vm.isStatics = false ∧ s.vm.findClass RX9 = some cell.cls := va_recvE X.2.2.2.2.1.2.1 (i := kw) hkw hS
  rw [← ha9] at hrc
  have hstA : ∀ v ∈ As, mj_ok v := fun v hv => hst v (List.mem_append_left _ (List.mem_reverse.mpr hv))
  have hst' : ∀ v ∈ st, mj_ok v := fun v hv => hst v (List.mem_append_right _ (List.mem_cons_of_mem _ hv))
  have hgood : GoodIn mj_tb (wsV own i RX9 y (.code y bytes maxL rt :: mj_tb)) := mj_good fun w hw => by
    simp only [wsV, List.cons_append, List.nil_append, List.mem_cons] at hw
    rcases hw with rfl | rfl | rfl | rfl | rfl | hw
    · exact hw1
    · exact hw2
    · exact hw3
    · exact hw4
    · exact hw5
    · exact hw
  refine mj_after X (va_runV (As := As.map mj_val) (rest := st.map mj_val) (b := a) ⟨X.1.1, X.1.2.1, X.1.2.2.1, X.1.2.2.2.2, X.2.1⟩ hM (cwV N X.2.1 hgood rfl rfl rfl ⟨hy, hy2⟩ hR) ⟨mj_blind, hrc, fun U hU hW => ⟨rfl, by rw [hU]; exact hH, mj_K.moved hW.alike X.2.2.2.1, mj_cons hstA trivial, ⟨by rw [hU]; exact Nat.le_trans X.2.2.2.2.1.1 hS.1, X.2.2.2.2.1.2.go hS hU hW.alike⟩⟩⟩ rfl (by rw [List.length_map]; exact hN) hL.1.1 (by simp [List.map_append, List.map_reverse, mj_val, va_rf]) (by rw [mj_cat_eq]; show 2 * 0 + mj_cat st ≤ 8; omega) hd ⟨by omega, by omega⟩) hS hL hst' hc hs h1 h2 kk

end MJD
