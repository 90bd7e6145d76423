/-! ===== the plain instructions ===== -/
section MJO
variable {p : Program} {l : Launch} {e : Env} {R : Room} {s : State} {m : MethodId} {args : Array Value} {below : List Frame} {meth : Method} {c : Code} {own : String} {cc : ByteArray} {ret : Option FieldType} {D : va_G} {dA : Nat → ClassId} {B nL mc ms : Nat} {Q : mj_P}
variable {pc : Nat} {L : mj_L} {st : List mj_V} {G : mj_G} {M : mj_M} {cb sb : Nat}
theorem mj_o_iload_n (X : mj_X p l e R s m args below meth c own cc ret D dA B nL mc ms Q) {k : Fin 4} {z : Int} (hd : decode cc pc = .ok (.iload_n k, 1)) (h : mj_nt L k.val = some (.inl z)) (kk : mj_J X (pc + 1) L (.inl z :: st) G M cb sb) : mj_J X pc L st G M cb sb := by
  intro H locs ls cells slots hH hS hL hst hc hs
  exact lv_iload_n X.1.1 X.1.2.1 hd rfl (hL.at h) (kk H locs ls cells slots hH hS hL (mj_cons hst (hL.2.2 _ _ h)) hc hs)
theorem mj_o_iload (X : mj_X p l e R s m args below meth c own cc ret D dA B nL mc ms Q) {k : Nat} {z : Int} (hd : decode cc pc = .ok (.iload k, 2)) (h : mj_nt L k = some (.inl z)) (kk : mj_J X (pc + 2) L (.inl z :: st) G M cb sb) : mj_J X pc L st G M cb sb := by
  intro H locs ls cells slots hH hS hL hst hc hs
  exact lv_iload X.1.1 X.1.2.1 hd (hL.at h) (kk H locs ls cells slots hH hS hL (mj_cons hst (hL.2.2 _ _ h)) hc hs)
theorem mj_o_lload_n (X : mj_X p l e R s m args below meth c own cc ret D dA B nL mc ms Q) {k : Fin 4} {z : Int64} (hd : decode cc pc = .ok (.lload_n k, 1)) (h : mj_nt L k.val = some (.inr (.inl z))) (kk : mj_J X (pc + 1) L (.inr (.inl z) :: st) G M cb sb) : mj_J X pc L st G M cb sb := by
  intro H locs ls cells slots hH hS hL hst hc hs
  exact lv_lload_n X.1.1 X.1.2.1 hd rfl (hL.at h) (kk H locs ls cells slots hH hS hL (mj_cons hst (hL.2.2 _ _ h)) hc hs)
theorem mj_o_lload (X : mj_X p l e R s m args below meth c own cc ret D dA B nL mc ms Q) {k : Nat} {z : Int64} (hd : decode cc pc = .ok (.lload k, 2)) (h : mj_nt L k = some (.inr (.inl z))) (kk : mj_J X (pc + 2) L (.inr (.inl z) :: st) G M cb sb) : mj_J X pc L st G M cb sb := by
  intro H locs ls cells slots hH hS hL hst hc hs
  exact lv_lload X.1.1 X.1.2.1 hd (hL.at h) (kk H locs ls cells slots hH hS hL (mj_cons hst (hL.2.2 _ _ h)) hc hs)
theorem mj_o_aload_n (X : mj_X p l e R s m args below meth c own cc ret D dA B nL mc ms Q) {k : Fin 4} {z : Option Nat} (hd : decode cc pc = .ok (.aload_n k, 1)) (h : mj_nt L k.val = some (.inr (.inr z))) (kk : mj_J X (pc + 1) L (.inr (.inr z) :: st) G M cb sb) : mj_J X pc L st G M cb sb := by
  intro H locs ls cells slots hH hS hL hst hc hs
  have g := kk H locs ls cells slots hH hS hL (mj_cons hst (hL.2.2 _ _ h)) hc hs
  cases z with
  | none => exact lv_aload_nN X.1.1 X.1.2.1 hd rfl (hL.at h) g
  | some a => exact lv_aload_n X.1.1 X.1.2.1 hd rfl (hL.at h) g
theorem mj_o_aload (X : mj_X p l e R s m args below meth c own cc ret D dA B nL mc ms Q) {k : Nat} {z : Option Nat} (hd : decode cc pc = .ok (.aload k, 2)) (h : mj_nt L k = some (.inr (.inr z))) (kk : mj_J X (pc + 2) L (.inr (.inr z) :: st) G M cb sb) : mj_J X pc L st G M cb sb := by
  intro H locs ls cells slots hH hS hL hst hc hs
  have g := kk H locs ls cells slots hH hS hL (mj_cons hst (hL.2.2 _ _ h)) hc hs
  cases z with
  | none => exact lv_aloadN X.1.1 X.1.2.1 hd (hL.at h) g
  | some a => exact lv_aload X.1.1 X.1.2.1 hd (hL.at h) g
theorem mj_o_istore_n (X : mj_X p l e R s m args below meth c own cc ret D dA B nL mc ms Q) {k : Fin 4} {z : Int} (hd : decode cc pc = .ok (.istore_n k, 1)) (hn : k.val < nL) (kk : mj_J X (pc + 1) (mj_s1 L k.val (.inl z)) st G M cb sb) : mj_J X pc L (.inl z :: st) G M cb sb := by
  intro H locs ls cells slots hH hS hL hst hc hs
  exact lv_istore_n X.1.1 X.1.2.1 hd rfl hL.1 hn rfl (fun ls' hl' => kk H locs ls' cells slots hH hS (hL.st1 hn (mj_head hst) hl') (mj_tl hst) hc hs)
theorem mj_o_istore (X : mj_X p l e R s m args below meth c own cc ret D dA B nL mc ms Q) {k : Nat} {z : Int} (hd : decode cc pc = .ok (.istore k, 2)) (hn : k < nL) (kk : mj_J X (pc + 2) (mj_s1 L k (.inl z)) st G M cb sb) : mj_J X pc L (.inl z :: st) G M cb sb := by
  intro H locs ls cells slots hH hS hL hst hc hs
  exact lv_istore X.1.1 X.1.2.1 hd hL.1 hn rfl (fun ls' hl' => kk H locs ls' cells slots hH hS (hL.st1 hn (mj_head hst) hl') (mj_tl hst) hc hs)
theorem mj_o_lstore_n (X : mj_X p l e R s m args below meth c own cc ret D dA B nL mc ms Q) {k : Fin 4} {z : Int64} (hd : decode cc pc = .ok (.lstore_n k, 1)) (hn : k.val + 1 < nL) (kk : mj_J X (pc + 1) (mj_s2 L k.val (.inr (.inl z))) st G M cb sb) : mj_J X pc L (.inr (.inl z) :: st) G M cb sb := by
  intro H locs ls cells slots hH hS hL hst hc hs
  exact lv_lstore_n X.1.1 X.1.2.1 hd rfl hL.1 hn rfl (fun ls' hl' => kk H locs ls' cells slots hH hS (hL.st2 hn (mj_head hst) hl') (mj_tl hst) hc hs)
theorem mj_o_lstore (X : mj_X p l e R s m args below meth c own cc ret D dA B nL mc ms Q) {k : Nat} {z : Int64} (hd : decode cc pc = .ok (.lstore k, 2)) (hn : k + 1 < nL) (kk : mj_J X (pc + 2) (mj_s2 L k (.inr (.inl z))) st G M cb sb) : mj_J X pc L (.inr (.inl z) :: st) G M cb sb := by
  intro H locs ls cells slots hH hS hL hst hc hs
  exact lv_lstore X.1.1 X.1.2.1 hd hL.1 hn rfl (fun ls' hl' => kk H locs ls' cells slots hH hS (hL.st2 hn (mj_head hst) hl') (mj_tl hst) hc hs)
theorem mj_o_astore_n (X : mj_X p l e R s m args below meth c own cc ret D dA B nL mc ms Q) {k : Fin 4} {z : Option Nat} (hd : decode cc pc = .ok (.astore_n k, 1)) (hn : k.val < nL) (kk : mj_J X (pc + 1) (mj_s1 L k.val (.inr (.inr z))) st G M cb sb) : mj_J X pc L (.inr (.inr z) :: st) G M cb sb := by
  intro H locs ls cells slots hH hS hL hst hc hs
  cases z with
  | none => exact lv_astore_nN X.1.1 X.1.2.1 hd rfl hL.1 hn rfl (fun ls' hl' => kk H locs ls' cells slots hH hS (hL.st1 (v := .inr (.inr none)) hn trivial hl') (mj_tl hst) hc hs)
  | some a => exact lv_astore_n X.1.1 X.1.2.1 hd rfl hL.1 hn rfl (fun ls' hl' => kk H locs ls' cells slots hH hS (hL.st1 (v := .inr (.inr (some a))) hn trivial hl') (mj_tl hst) hc hs)
theorem mj_o_astore (X : mj_X p l e R s m args below meth c own cc ret D dA B nL mc ms Q) {k : Nat} {z : Option Nat} (hd : decode cc pc = .ok (.astore k, 2)) (hn : k < nL) (kk : mj_J X (pc + 2) (mj_s1 L k (.inr (.inr z))) st G M cb sb) : mj_J X pc L (.inr (.inr z) :: st) G M cb sb := by
  intro H locs ls cells slots hH hS hL hst hc hs
  cases z with
  | none => exact lv_astoreN X.1.1 X.1.2.1 hd hL.1 hn rfl (fun ls' hl' => kk H locs ls' cells slots hH hS (hL.st1 (v := .inr (.inr none)) hn trivial hl') (mj_tl hst) hc hs)
  | some a => exact lv_astore X.1.1 X.1.2.1 hd hL.1 hn rfl (fun ls' hl' => kk H locs ls' cells slots hH hS (hL.st1 (v := .inr (.inr (some a))) hn trivial hl') (mj_tl hst) hc hs)
theorem mj_o_iinc (X : mj_X p l e R s m args below meth c own cc ret D dA B nL mc ms Q) {k : Nat} {n z : Int} (hd : decode cc pc = .ok (.iinc k n, 3)) (h : mj_nt L k = some (.inl z)) (hn : k < nL) (hin : mj_in (z + n)) (kk : mj_J X (pc + 3) (mj_s1 L k (.inl (z + n))) st G M cb sb) : mj_J X pc L st G M cb sb := by
  intro H locs ls cells slots hH hS hL hst hc hs
  have hm := mj_asc_of L 0 k _ h
  rw [Nat.zero_add] at hm
  obtain ⟨i, hi⟩ := List.getElem?_of_mem hm
  exact lv_iinc (v := Int32.ofInt (z + n)) X.1.1 X.1.2.1 hd hL.1 hi (Int32.ofInt_add z n).symm hn rfl (fun ls' hl' => kk H locs ls' cells slots hH hS (hL.st1 (v := .inl (z + n)) hn hin hl') hst hc hs)
theorem mj_o_iincw (X : mj_X p l e R s m args below meth c own cc ret D dA B nL mc ms Q) {k : Nat} {n z : Int} (hd : decode cc pc = .ok (.iinc k n, 3)) (h : mj_nt L k = some (.inl z)) (hn : k < nL) (kk : ∀ q, mj_in q → q = (Int32.ofInt z + Int32.ofInt n).toInt → mj_J X (pc + 3) (mj_s1 L k (.inl q)) st G M cb sb) : mj_J X pc L st G M cb sb := by
  intro H locs ls cells slots hH hS hL hst hc hs
  have hm := mj_asc_of L 0 k _ h
  rw [Nat.zero_add] at hm
  obtain ⟨i, hi⟩ := List.getElem?_of_mem hm
  exact lv_iinc (v := Int32.ofInt (Int32.ofInt z + Int32.ofInt n).toInt) X.1.1 X.1.2.1 hd hL.1 hi (mj_it _).symm hn rfl (fun ls' hl' => kk _ (mj_rng _) rfl H locs ls' cells slots hH hS (hL.st1 (v := .inl (Int32.ofInt z + Int32.ofInt n).toInt) hn (mj_rng _) hl') hst hc hs)
theorem mj_o_iconst (X : mj_X p l e R s m args below meth c own cc ret D dA B nL mc ms Q) {z : Int} (hd : decode cc pc = .ok (.iconst z, 1)) (hz : mj_in z)  (kk : mj_J X (pc + 1) L (.inl z :: st) G M cb sb) : mj_J X pc L st G M cb sb := by
  intro H locs ls cells slots hH hS hL hst hc hs
  exact lv_iconst X.1.1 X.1.2.1 hd rfl (kk H locs ls cells slots hH hS hL (mj_cons hst hz) hc hs)
theorem mj_o_bipush (X : mj_X p l e R s m args below meth c own cc ret D dA B nL mc ms Q) {z : Int} (hd : decode cc pc = .ok (.bipush z, 2)) (hz : mj_in z) (hv : (Int8.ofInt z).toInt32 = Int32.ofInt z) (kk : mj_J X (pc + 2) L (.inl z :: st) G M cb sb) : mj_J X pc L st G M cb sb := by
  intro H locs ls cells slots hH hS hL hst hc hs
  exact lv_bipush X.1.1 X.1.2.1 hd hv (kk H locs ls cells slots hH hS hL (mj_cons hst hz) hc hs)
theorem mj_o_sipush (X : mj_X p l e R s m args below meth c own cc ret D dA B nL mc ms Q) {z : Int} (hd : decode cc pc = .ok (.sipush z, 3)) (hz : mj_in z) (hv : (Int16.ofInt z).toInt32 = Int32.ofInt z) (kk : mj_J X (pc + 3) L (.inl z :: st) G M cb sb) : mj_J X pc L st G M cb sb := by
  intro H locs ls cells slots hH hS hL hst hc hs
  exact lv_sipush X.1.1 X.1.2.1 hd hv (kk H locs ls cells slots hH hS hL (mj_cons hst hz) hc hs)
theorem mj_o_ldc (X : mj_X p l e R s m args below meth c own cc ret D dA B nL mc ms Q) {i : Nat} {z : Int} (hd : decode cc pc = .ok (.ldc i, 2)) (hz : mj_in z) (hw : Cond.constant own i (Int32.ofInt z) ∈ mj_tb) (kk : mj_J X (pc + 2) L (.inl z :: st) G M cb sb) : mj_J X pc L st G M cb sb := by
  intro H locs ls cells slots hH hS hL hst hc hs
  exact W.ldc X.1.1 X.1.2.1 X.1.2.2.2.2 (X.2.1 _ hw) rfl hd (kk H locs ls cells slots hH hS hL (mj_cons hst hz) hc hs)
theorem mj_o_ldc2 (X : mj_X p l e R s m args below meth c own cc ret D dA B nL mc ms Q) {i : Nat} {z : Int64} (hd : decode cc pc = .ok (.ldc2_w i, 3)) (hw : Cond.constantLong own i z ∈ mj_tb) (kk : mj_J X (pc + 3) L (.inr (.inl z) :: st) G M cb sb) : mj_J X pc L st G M cb sb := by
  intro H locs ls cells slots hH hS hL hst hc hs
  exact W.ldc2 X.1.1 X.1.2.1 X.1.2.2.2.2 (X.2.1 _ hw) rfl hd (kk H locs ls cells slots hH hS hL (mj_cons hst trivial) hc hs)
theorem mj_o_lconst (X : mj_X p l e R s m args below meth c own cc ret D dA B nL mc ms Q) {k : Fin 2} (hd : decode cc pc = .ok (.lconst k, 1)) (kk : mj_J X (pc + 1) L (.inr (.inl (Int64.ofNat k.val)) :: st) G M cb sb) : mj_J X pc L st G M cb sb := by
  intro H locs ls cells slots hH hS hL hst hc hs
  exact lv_lconst X.1.1 X.1.2.1 hd rfl (kk H locs ls cells slots hH hS hL (mj_cons hst trivial) hc hs)
theorem mj_o_null (X : mj_X p l e R s m args below meth c own cc ret D dA B nL mc ms Q) (hd : decode cc pc = .ok (.aconst_null, 1)) (kk : mj_J X (pc + 1) L (.inr (.inr none) :: st) G M cb sb) : mj_J X pc L st G M cb sb := by
  intro H locs ls cells slots hH hS hL hst hc hs
  exact lv_null X.1.1 X.1.2.1 hd (kk H locs ls cells slots hH hS hL (mj_cons hst trivial) hc hs)
theorem mj_o_iadd (X : mj_X p l e R s m args below meth c own cc ret D dA B nL mc ms Q) (hd : decode cc pc = .ok (.iadd, 1)) {x y : Int} (kk : (mj_in (x + y) ∧ mj_J X (pc + 1) L (.inl (x + y) :: st) G M cb sb) ∨ ∀ z, mj_in z → z = (Int32.ofInt x + Int32.ofInt y).toInt → mj_J X (pc + 1) L (.inl z :: st) G M cb sb) : mj_J X pc L (.inl y :: .inl x :: st) G M cb sb := by
  intro H locs ls cells slots hH hS hL hst hc hs
  refine lv_iadd X.1.1 X.1.2.1 hd ?_
  rcases kk with ⟨hi, kk⟩ | kk
  · have g := kk H locs ls cells slots hH hS hL (mj_cons (mj_tl (mj_tl hst)) hi) hc hs
    rw [← Int32.ofInt_add]
    exact g
  · have g := kk _ (mj_rng _) rfl H locs ls cells slots hH hS hL (mj_cons (mj_tl (mj_tl hst)) (mj_rng _)) hc hs
    simp only [List.map_cons, mj_val, mj_it] at g
    exact g
theorem mj_o_isub (X : mj_X p l e R s m args below meth c own cc ret D dA B nL mc ms Q) (hd : decode cc pc = .ok (.isub, 1)) {x y : Int} (kk : (mj_in (x - y) ∧ mj_J X (pc + 1) L (.inl (x - y) :: st) G M cb sb) ∨ ∀ z, mj_in z → z = (Int32.ofInt x - Int32.ofInt y).toInt → mj_J X (pc + 1) L (.inl z :: st) G M cb sb) : mj_J X pc L (.inl y :: .inl x :: st) G M cb sb := by
  intro H locs ls cells slots hH hS hL hst hc hs
  refine lv_isub X.1.1 X.1.2.1 hd ?_
  rcases kk with ⟨hi, kk⟩ | kk
  · have g := kk H locs ls cells slots hH hS hL (mj_cons (mj_tl (mj_tl hst)) hi) hc hs
    rw [← Int32.ofInt_sub]
    exact g
  · have g := kk _ (mj_rng _) rfl H locs ls cells slots hH hS hL (mj_cons (mj_tl (mj_tl hst)) (mj_rng _)) hc hs
    simp only [List.map_cons, mj_val, mj_it] at g
    exact g
theorem mj_o_imul (X : mj_X p l e R s m args below meth c own cc ret D dA B nL mc ms Q) (hd : decode cc pc = .ok (.imul, 1)) {x y : Int} (kk : (mj_in (x * y) ∧ mj_J X (pc + 1) L (.inl (x * y) :: st) G M cb sb) ∨ ∀ z, mj_in z → z = (Int32.ofInt x * Int32.ofInt y).toInt → mj_J X (pc + 1) L (.inl z :: st) G M cb sb) : mj_J X pc L (.inl y :: .inl x :: st) G M cb sb := by
  intro H locs ls cells slots hH hS hL hst hc hs
  refine lv_imul X.1.1 X.1.2.1 hd ?_
  rcases kk with ⟨hi, kk⟩ | kk
  · have g := kk H locs ls cells slots hH hS hL (mj_cons (mj_tl (mj_tl hst)) hi) hc hs
    rw [← Int32.ofInt_mul]
    exact g
  · have g := kk _ (mj_rng _) rfl H locs ls cells slots hH hS hL (mj_cons (mj_tl (mj_tl hst)) (mj_rng _)) hc hs
    simp only [List.map_cons, mj_val, mj_it] at g
    exact g
theorem mj_o_iand (X : mj_X p l e R s m args below meth c own cc ret D dA B nL mc ms Q) (hd : decode cc pc = .ok (.iand, 1)) {x y : Int} (kk : ∀ z, mj_in z → z = (Int32.ofInt x &&& Int32.ofInt y).toInt → mj_J X (pc + 1) L (.inl z :: st) G M cb sb) : mj_J X pc L (.inl y :: .inl x :: st) G M cb sb := by
  intro H locs ls cells slots hH hS hL hst hc hs
  refine lv_iand X.1.1 X.1.2.1 hd ?_
  have g := kk _ (mj_rng _) rfl H locs ls cells slots hH hS hL (mj_cons (mj_tl (mj_tl hst)) (mj_rng _)) hc hs
  simp only [List.map_cons, mj_val, mj_it] at g
  exact g
theorem mj_o_ior (X : mj_X p l e R s m args below meth c own cc ret D dA B nL mc ms Q) (hd : decode cc pc = .ok (.ior, 1)) {x y : Int} (kk : ∀ z, mj_in z → z = (Int32.ofInt x ||| Int32.ofInt y).toInt → mj_J X (pc + 1) L (.inl z :: st) G M cb sb) : mj_J X pc L (.inl y :: .inl x :: st) G M cb sb := by
  intro H locs ls cells slots hH hS hL hst hc hs
  refine lv_ior X.1.1 X.1.2.1 hd ?_
  have g := kk _ (mj_rng _) rfl H locs ls cells slots hH hS hL (mj_cons (mj_tl (mj_tl hst)) (mj_rng _)) hc hs
  simp only [List.map_cons, mj_val, mj_it] at g
  exact g
theorem mj_o_ishl (X : mj_X p l e R s m args below meth c own cc ret D dA B nL mc ms Q) (hd : decode cc pc = .ok (.ishl, 1)) {x y : Int} (kk : ∀ z, mj_in z → z = (Int32.ofInt x <<< (Int32.ofInt y &&& 31)).toInt → mj_J X (pc + 1) L (.inl z :: st) G M cb sb) : mj_J X pc L (.inl y :: .inl x :: st) G M cb sb := by
  intro H locs ls cells slots hH hS hL hst hc hs
  refine lv_ishl X.1.1 X.1.2.1 hd ?_
  have g := kk _ (mj_rng _) rfl H locs ls cells slots hH hS hL (mj_cons (mj_tl (mj_tl hst)) (mj_rng _)) hc hs
  simp only [List.map_cons, mj_val, mj_it] at g
  exact g
theorem mj_o_ishr (X : mj_X p l e R s m args below meth c own cc ret D dA B nL mc ms Q) (hd : decode cc pc = .ok (.ishr, 1)) {x y : Int} (kk : ∀ z, mj_in z → z = (Int32.ofInt x >>> (Int32.ofInt y &&& 31)).toInt → mj_J X (pc + 1) L (.inl z :: st) G M cb sb) : mj_J X pc L (.inl y :: .inl x :: st) G M cb sb := by
  intro H locs ls cells slots hH hS hL hst hc hs
  refine lv_ishr X.1.1 X.1.2.1 hd ?_
  have g := kk _ (mj_rng _) rfl H locs ls cells slots hH hS hL (mj_cons (mj_tl (mj_tl hst)) (mj_rng _)) hc hs
  simp only [List.map_cons, mj_val, mj_it] at g
  exact g
theorem mj_o_iushr (X : mj_X p l e R s m args below meth c own cc ret D dA B nL mc ms Q) (hd : decode cc pc = .ok (.iushr, 1)) {x y : Int} (kk : ∀ z, mj_in z → z = (((Int32.ofInt x).toUInt32 >>> ((Int32.ofInt y).toUInt32 &&& Int32.toUInt32 31)).toInt32).toInt → mj_J X (pc + 1) L (.inl z :: st) G M cb sb) : mj_J X pc L (.inl y :: .inl x :: st) G M cb sb := by
  intro H locs ls cells slots hH hS hL hst hc hs
  refine lv_iushr X.1.1 X.1.2.1 hd rfl ?_
  have g := kk _ (mj_rng _) rfl H locs ls cells slots hH hS hL (mj_cons (mj_tl (mj_tl hst)) (mj_rng _)) hc hs
  simp only [List.map_cons, mj_val, mj_it] at g
  exact g
theorem mj_o_ineg (X : mj_X p l e R s m args below meth c own cc ret D dA B nL mc ms Q) (hd : decode cc pc = .ok (.ineg, 1)) {x : Int} (kk : ∀ z, mj_in z → z = (-(Int32.ofInt x)).toInt → mj_J X (pc + 1) L (.inl z :: st) G M cb sb) : mj_J X pc L (.inl x :: st) G M cb sb := by
  intro H locs ls cells slots hH hS hL hst hc hs
  refine lv_ineg X.1.1 X.1.2.1 hd ?_
  have g := kk _ (mj_rng _) rfl H locs ls cells slots hH hS hL (mj_cons (mj_tl hst) (mj_rng _)) hc hs
  simp only [List.map_cons, mj_val, mj_it] at g
  exact g
theorem mj_o_i2b (X : mj_X p l e R s m args below meth c own cc ret D dA B nL mc ms Q) (hd : decode cc pc = .ok (.i2b, 1)) {x : Int} (kk : ∀ z, mj_in z → z = ((Int32.ofInt x).toInt8.toInt32).toInt → mj_J X (pc + 1) L (.inl z :: st) G M cb sb) : mj_J X pc L (.inl x :: st) G M cb sb := by
  intro H locs ls cells slots hH hS hL hst hc hs
  refine lv_i2b X.1.1 X.1.2.1 hd rfl ?_
  have g := kk _ (mj_rng _) rfl H locs ls cells slots hH hS hL (mj_cons (mj_tl hst) (mj_rng _)) hc hs
  simp only [List.map_cons, mj_val, mj_it] at g
  exact g
theorem mj_c1_cat {v : mj_V} (h : ∀ w, v ≠ .inr (.inl w)) : (mj_val v).category = 1 := by
  rcases v with z | w | r
  · rfl
  · exact absurd rfl (h w)
  · cases r <;> rfl
theorem mj_o_dup (X : mj_X p l e R s m args below meth c own cc ret D dA B nL mc ms Q) {v : mj_V} (hd : decode cc pc = .ok (.dup, 1)) (hv : ∀ w, v ≠ .inr (.inl w)) (kk : mj_J X (pc + 1) L (v :: v :: st) G M cb sb) : mj_J X pc L (v :: st) G M cb sb := by
  intro H locs ls cells slots hH hS hL hst hc hs
  exact lv_dup X.1.1 X.1.2.1 hd (mj_c1_cat hv) (kk H locs ls cells slots hH hS hL (mj_cons hst (mj_head hst)) hc hs)
theorem mj_o_dup2 (X : mj_X p l e R s m args below meth c own cc ret D dA B nL mc ms Q) {v w : mj_V} (hd : decode cc pc = .ok (.dup2, 1)) (hv : ∀ x, v ≠ .inr (.inl x)) (hw : ∀ x, w ≠ .inr (.inl x)) (kk : mj_J X (pc + 1) L (v :: w :: v :: w :: st) G M cb sb) : mj_J X pc L (v :: w :: st) G M cb sb := by
  intro H locs ls cells slots hH hS hL hst hc hs
  exact lv_dup2_11 X.1.1 X.1.2.1 hd (mj_c1_cat hv) (mj_c1_cat hw) (kk H locs ls cells slots hH hS hL (mj_cons (mj_cons hst (mj_head (mj_tl hst))) (mj_head hst)) hc hs)
theorem mj_o_pop (X : mj_X p l e R s m args below meth c own cc ret D dA B nL mc ms Q) {v : mj_V} (hd : decode cc pc = .ok (.pop, 1)) (hv : ∀ w, v ≠ .inr (.inl w)) (kk : mj_J X (pc + 1) L st G M cb sb) : mj_J X pc L (v :: st) G M cb sb := by
  intro H locs ls cells slots hH hS hL hst hc hs
  exact lv_pop X.1.1 X.1.2.1 hd (mj_c1_cat hv) (kk H locs ls cells slots hH hS hL (mj_tl hst) hc hs)
theorem mj_o_icmp_eq (X : mj_X p l e R s m args below meth c own cc ret D dA B nL mc ms Q) {off : Int} {tgt : Nat} (hd : decode cc pc = .ok (.if_icmp .eq off, 3)) (ht : (pc : Int) + off = (tgt : Int)) {x y : Int} (kt : x = y → mj_J X tgt L st G M cb sb) (kf : ¬ (x = y) → mj_J X (pc + 3) L st G M cb sb) : mj_J X pc L (.inl y :: .inl x :: st) G M cb sb := by
  intro H locs ls cells slots hH hS hL hst hc hs
  have hy : mj_in y := mj_head hst
  have hx : mj_in x := mj_head (mj_tl hst)
  exact lv_icmp_eq X.1.1 X.1.2.1 hd ht (fun q => kt ((mj_eq hx hy).mp q) H locs ls cells slots hH hS hL (mj_tl (mj_tl hst)) hc hs) (fun q => kf (fun z => q ((mj_eq hx hy).mpr z)) H locs ls cells slots hH hS hL (mj_tl (mj_tl hst)) hc hs)
theorem mj_o_if_eq (X : mj_X p l e R s m args below meth c own cc ret D dA B nL mc ms Q) {off : Int} {tgt : Nat} (hd : decode cc pc = .ok (.ifCond .eq off, 3)) (ht : (pc : Int) + off = (tgt : Int)) {x : Int} (kt : x = 0 → mj_J X tgt L st G M cb sb) (kf : ¬ (x = 0) → mj_J X (pc + 3) L st G M cb sb) : mj_J X pc L (.inl x :: st) G M cb sb := by
  intro H locs ls cells slots hH hS hL hst hc hs
  have hy : mj_in 0 := ⟨by decide, by decide⟩
  have hx : mj_in x := mj_head hst
  exact lv_if_eq X.1.1 X.1.2.1 hd ht (fun q => kt ((mj_eq hx hy).mp q) H locs ls cells slots hH hS hL (mj_tl hst) hc hs) (fun q => kf (fun z => q ((mj_eq hx hy).mpr z)) H locs ls cells slots hH hS hL (mj_tl hst) hc hs)
theorem mj_o_icmp_ne (X : mj_X p l e R s m args below meth c own cc ret D dA B nL mc ms Q) {off : Int} {tgt : Nat} (hd : decode cc pc = .ok (.if_icmp .ne off, 3)) (ht : (pc : Int) + off = (tgt : Int)) {x y : Int} (kt : x ≠ y → mj_J X tgt L st G M cb sb) (kf : ¬ (x ≠ y) → mj_J X (pc + 3) L st G M cb sb) : mj_J X pc L (.inl y :: .inl x :: st) G M cb sb := by
  intro H locs ls cells slots hH hS hL hst hc hs
  have hy : mj_in y := mj_head hst
  have hx : mj_in x := mj_head (mj_tl hst)
  exact lv_icmp_ne X.1.1 X.1.2.1 hd ht (fun q => kt (fun z => q ((mj_eq hx hy).mpr z)) H locs ls cells slots hH hS hL (mj_tl (mj_tl hst)) hc hs) (fun q => kf (fun z => z ((mj_eq hx hy).mp q)) H locs ls cells slots hH hS hL (mj_tl (mj_tl hst)) hc hs)
theorem mj_o_if_ne (X : mj_X p l e R s m args below meth c own cc ret D dA B nL mc ms Q) {off : Int} {tgt : Nat} (hd : decode cc pc = .ok (.ifCond .ne off, 3)) (ht : (pc : Int) + off = (tgt : Int)) {x : Int} (kt : x ≠ 0 → mj_J X tgt L st G M cb sb) (kf : ¬ (x ≠ 0) → mj_J X (pc + 3) L st G M cb sb) : mj_J X pc L (.inl x :: st) G M cb sb := by
  intro H locs ls cells slots hH hS hL hst hc hs
  have hy : mj_in 0 := ⟨by decide, by decide⟩
  have hx : mj_in x := mj_head hst
  exact lv_if_ne X.1.1 X.1.2.1 hd ht (fun q => kt (fun z => q ((mj_eq hx hy).mpr z)) H locs ls cells slots hH hS hL (mj_tl hst) hc hs) (fun q => kf (fun z => z ((mj_eq hx hy).mp q)) H locs ls cells slots hH hS hL (mj_tl hst) hc hs)
theorem mj_o_icmp_lt (X : mj_X p l e R s m args below meth c own cc ret D dA B nL mc ms Q) {off : Int} {tgt : Nat} (hd : decode cc pc = .ok (.if_icmp .lt off, 3)) (ht : (pc : Int) + off = (tgt : Int)) {x y : Int} (kt : x < y → mj_J X tgt L st G M cb sb) (kf : ¬ (x < y) → mj_J X (pc + 3) L st G M cb sb) : mj_J X pc L (.inl y :: .inl x :: st) G M cb sb := by
  intro H locs ls cells slots hH hS hL hst hc hs
  have hy : mj_in y := mj_head hst
  have hx : mj_in x := mj_head (mj_tl hst)
  exact lv_icmp_lt X.1.1 X.1.2.1 hd ht (fun q => kt ((mj_lt hx hy).mp q) H locs ls cells slots hH hS hL (mj_tl (mj_tl hst)) hc hs) (fun q => kf (fun z => q ((mj_lt hx hy).mpr z)) H locs ls cells slots hH hS hL (mj_tl (mj_tl hst)) hc hs)
theorem mj_o_if_lt (X : mj_X p l e R s m args below meth c own cc ret D dA B nL mc ms Q) {off : Int} {tgt : Nat} (hd : decode cc pc = .ok (.ifCond .lt off, 3)) (ht : (pc : Int) + off = (tgt : Int)) {x : Int} (kt : x < 0 → mj_J X tgt L st G M cb sb) (kf : ¬ (x < 0) → mj_J X (pc + 3) L st G M cb sb) : mj_J X pc L (.inl x :: st) G M cb sb := by
  intro H locs ls cells slots hH hS hL hst hc hs
  have hy : mj_in 0 := ⟨by decide, by decide⟩
  have hx : mj_in x := mj_head hst
  exact lv_if_lt X.1.1 X.1.2.1 hd ht (fun q => kt ((mj_lt hx hy).mp q) H locs ls cells slots hH hS hL (mj_tl hst) hc hs) (fun q => kf (fun z => q ((mj_lt hx hy).mpr z)) H locs ls cells slots hH hS hL (mj_tl hst) hc hs)
theorem mj_o_icmp_ge (X : mj_X p l e R s m args below meth c own cc ret D dA B nL mc ms Q) {off : Int} {tgt : Nat} (hd : decode cc pc = .ok (.if_icmp .ge off, 3)) (ht : (pc : Int) + off = (tgt : Int)) {x y : Int} (kt : y ≤ x → mj_J X tgt L st G M cb sb) (kf : ¬ (y ≤ x) → mj_J X (pc + 3) L st G M cb sb) : mj_J X pc L (.inl y :: .inl x :: st) G M cb sb := by
  intro H locs ls cells slots hH hS hL hst hc hs
  have hy : mj_in y := mj_head hst
  have hx : mj_in x := mj_head (mj_tl hst)
  exact lv_icmp_ge X.1.1 X.1.2.1 hd ht (fun q => kt ((mj_le hy hx).mp q) H locs ls cells slots hH hS hL (mj_tl (mj_tl hst)) hc hs) (fun q => kf (fun z => q ((mj_le hy hx).mpr z)) H locs ls cells slots hH hS hL (mj_tl (mj_tl hst)) hc hs)
theorem mj_o_if_ge (X : mj_X p l e R s m args below meth c own cc ret D dA B nL mc ms Q) {off : Int} {tgt : Nat} (hd : decode cc pc = .ok (.ifCond .ge off, 3)) (ht : (pc : Int) + off = (tgt : Int)) {x : Int} (kt : 0 ≤ x → mj_J X tgt L st G M cb sb) (kf : ¬ (0 ≤ x) → mj_J X (pc + 3) L st G M cb sb) : mj_J X pc L (.inl x :: st) G M cb sb := by
  intro H locs ls cells slots hH hS hL hst hc hs
  have hy : mj_in 0 := ⟨by decide, by decide⟩
  have hx : mj_in x := mj_head hst
  exact lv_if_ge X.1.1 X.1.2.1 hd ht (fun q => kt ((mj_le hy hx).mp q) H locs ls cells slots hH hS hL (mj_tl hst) hc hs) (fun q => kf (fun z => q ((mj_le hy hx).mpr z)) H locs ls cells slots hH hS hL (mj_tl hst) hc hs)
theorem mj_o_icmp_gt (X : mj_X p l e R s m args below meth c own cc ret D dA B nL mc ms Q) {off : Int} {tgt : Nat} (hd : decode cc pc = .ok (.if_icmp .gt off, 3)) (ht : (pc : Int) + off = (tgt : Int)) {x y : Int} (kt : y < x → mj_J X tgt L st G M cb sb) (kf : ¬ (y < x) → mj_J X (pc + 3) L st G M cb sb) : mj_J X pc L (.inl y :: .inl x :: st) G M cb sb := by
  intro H locs ls cells slots hH hS hL hst hc hs
  have hy : mj_in y := mj_head hst
  have hx : mj_in x := mj_head (mj_tl hst)
  exact lv_icmp_gt X.1.1 X.1.2.1 hd ht (fun q => kt ((mj_lt hy hx).mp q) H locs ls cells slots hH hS hL (mj_tl (mj_tl hst)) hc hs) (fun q => kf (fun z => q ((mj_lt hy hx).mpr z)) H locs ls cells slots hH hS hL (mj_tl (mj_tl hst)) hc hs)
theorem mj_o_if_gt (X : mj_X p l e R s m args below meth c own cc ret D dA B nL mc ms Q) {off : Int} {tgt : Nat} (hd : decode cc pc = .ok (.ifCond .gt off, 3)) (ht : (pc : Int) + off = (tgt : Int)) {x : Int} (kt : 0 < x → mj_J X tgt L st G M cb sb) (kf : ¬ (0 < x) → mj_J X (pc + 3) L st G M cb sb) : mj_J X pc L (.inl x :: st) G M cb sb := by
  intro H locs ls cells slots hH hS hL hst hc hs
  have hy : mj_in 0 := ⟨by decide, by decide⟩
  have hx : mj_in x := mj_head hst
  exact lv_if_gt X.1.1 X.1.2.1 hd ht (fun q => kt ((mj_lt hy hx).mp q) H locs ls cells slots hH hS hL (mj_tl hst) hc hs) (fun q => kf (fun z => q ((mj_lt hy hx).mpr z)) H locs ls cells slots hH hS hL (mj_tl hst) hc hs)
theorem mj_o_icmp_le (X : mj_X p l e R s m args below meth c own cc ret D dA B nL mc ms Q) {off : Int} {tgt : Nat} (hd : decode cc pc = .ok (.if_icmp .le off, 3)) (ht : (pc : Int) + off = (tgt : Int)) {x y : Int} (kt : x ≤ y → mj_J X tgt L st G M cb sb) (kf : ¬ (x ≤ y) → mj_J X (pc + 3) L st G M cb sb) : mj_J X pc L (.inl y :: .inl x :: st) G M cb sb := by
  intro H locs ls cells slots hH hS hL hst hc hs
  have hy : mj_in y := mj_head hst
  have hx : mj_in x := mj_head (mj_tl hst)
  exact lv_icmp_le X.1.1 X.1.2.1 hd ht (fun q => kt ((mj_le hx hy).mp q) H locs ls cells slots hH hS hL (mj_tl (mj_tl hst)) hc hs) (fun q => kf (fun z => q ((mj_le hx hy).mpr z)) H locs ls cells slots hH hS hL (mj_tl (mj_tl hst)) hc hs)
theorem mj_o_if_le (X : mj_X p l e R s m args below meth c own cc ret D dA B nL mc ms Q) {off : Int} {tgt : Nat} (hd : decode cc pc = .ok (.ifCond .le off, 3)) (ht : (pc : Int) + off = (tgt : Int)) {x : Int} (kt : x ≤ 0 → mj_J X tgt L st G M cb sb) (kf : ¬ (x ≤ 0) → mj_J X (pc + 3) L st G M cb sb) : mj_J X pc L (.inl x :: st) G M cb sb := by
  intro H locs ls cells slots hH hS hL hst hc hs
  have hy : mj_in 0 := ⟨by decide, by decide⟩
  have hx : mj_in x := mj_head hst
  exact lv_if_le X.1.1 X.1.2.1 hd ht (fun q => kt ((mj_le hx hy).mp q) H locs ls cells slots hH hS hL (mj_tl hst) hc hs) (fun q => kf (fun z => q ((mj_le hx hy).mpr z)) H locs ls cells slots hH hS hL (mj_tl hst) hc hs)
theorem mj_o_goto (X : mj_X p l e R s m args below meth c own cc ret D dA B nL mc ms Q) {off : Int} {tgt : Nat} (hd : decode cc pc = .ok (.goto off, 3)) (ht : (pc : Int) + off = (tgt : Int)) (kk : mj_J X tgt L st G M cb sb) : mj_J X pc L st G M cb sb := by
  intro H locs ls cells slots hH hS hL hst hc hs
  exact lv_goto X.1.1 X.1.2.1 hd ht (kk H locs ls cells slots hH hS hL hst hc hs)
theorem mj_o_ifnull (X : mj_X p l e R s m args below meth c own cc ret D dA B nL mc ms Q) {off : Int} {tgt : Nat} (hd : decode cc pc = .ok (.ifnull off, 3)) (ht : (pc : Int) + off = (tgt : Int)) {z : Option Nat} (kt : z = none → mj_J X tgt L st G M cb sb) (kf : ¬ (z = none) → mj_J X (pc + 3) L st G M cb sb) : mj_J X pc L (.inr (.inr z) :: st) G M cb sb := by
  intro H locs ls cells slots hH hS hL hst hc hs
  cases z with
  | none => exact lv_ifnullN X.1.1 X.1.2.1 hd ht (kt rfl H locs ls cells slots hH hS hL (mj_tl hst) hc hs)
  | some a => exact lv_ifnull X.1.1 X.1.2.1 hd (kf (fun q => by cases q) H locs ls cells slots hH hS hL (mj_tl hst) hc hs)
theorem mj_o_ifnonnull (X : mj_X p l e R s m args below meth c own cc ret D dA B nL mc ms Q) {off : Int} {tgt : Nat} (hd : decode cc pc = .ok (.ifnonnull off, 3)) (ht : (pc : Int) + off = (tgt : Int)) {z : Option Nat} (kt : z ≠ none → mj_J X tgt L st G M cb sb) (kf : ¬ (z ≠ none) → mj_J X (pc + 3) L st G M cb sb) : mj_J X pc L (.inr (.inr z) :: st) G M cb sb := by
  intro H locs ls cells slots hH hS hL hst hc hs
  cases z with
  | none => exact lv_ifnonnullN X.1.1 X.1.2.1 hd (kf (fun q => q rfl) H locs ls cells slots hH hS hL (mj_tl hst) hc hs)
  | some a => exact lv_ifnonnull X.1.1 X.1.2.1 hd ht (kt (fun q => by cases q) H locs ls cells slots hH hS hL (mj_tl hst) hc hs)
end MJO
