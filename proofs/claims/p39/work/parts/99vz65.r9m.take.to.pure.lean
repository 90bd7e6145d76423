section
/-! ===== take of both sides (laid by a program) ===== -/
theorem cs_fold_mem {f : Nat → cs_R} {x : Int × (Nat → Int)} : ∀ n, cs_fold f n = some x → ∃ i, i < n ∧ f i = some x
  | 0, h => by cases h
  | n + 1, h => by
    have h : cs_min (cs_fold f n) (f n) = some x := h
    have : cs_fold f n = some x ∨ f n = some x := by
      revert h
      unfold cs_min
      cases cs_fold f n with
      | none => exact fun h => Or.inr h
      | some y =>
        cases f n with
        | none => exact fun h => Or.inl h
        | some z =>
          show (if z.1 < y.1 then some z else some y) = some x → _
          by_cases c : z.1 < y.1
          · rw [if_pos c]; exact fun h => Or.inr h
          · rw [if_neg c]; exact fun h => Or.inl h
    rcases this with h | h
    · obtain ⟨i, h1, h2⟩ := cs_fold_mem n h
      exact ⟨i, by omega, h2⟩
    · exact ⟨n, by omega, h⟩
theorem cs_S_pl {H : Nat → Int} : ∀ (r m a : Nat) (L : Nat → Int) (v : Int) (P : Nat → Int), cs_S H r m a L = some (v, P) → ∀ j, m ≤ j → j < m + r → P j = 8 ∨ (0 ≤ P j ∧ P j < cs_t H)
  | 0, m, a, L, v, P, _, j, h1, h2 => by omega
  | r + 1, m, a, L, v, P, h, j, h1, h2 => by
    have h : cs_fold (fun c => cs_add (cs_cost H a c) m (cs_code H c) (cs_S H r (m + 1) c (cs_lk H L c m))) (cs_t H + 1) = some (v, P) := h
    obtain ⟨c, hc, e⟩ := cs_fold_mem _ h
    have e : (cs_S H r (m + 1) c (cs_lk H L c m)).map (fun x => (cs_cost H a c + x.1, fun j => if j = m then cs_code H c else x.2 j)) = some (v, P) := e
    revert e
    cases eS : cs_S H r (m + 1) c (cs_lk H L c m) with
    | none => intro e; cases e
    | some x =>
      intro e
      have e := Option.some.inj e
      have eP : (fun j => if j = m then cs_code H c else x.2 j) = P := congrArg Prod.snd e
      rw [← eP]
      show (if j = m then cs_code H c else x.2 j) = 8 ∨ (0 ≤ (if j = m then cs_code H c else x.2 j) ∧ (if j = m then cs_code H c else x.2 j) < cs_t H)
      by_cases q : j = m
      · rw [if_pos q]
        unfold cs_code
        by_cases z : c = cs_t H
        · rw [if_pos z]; exact Or.inl rfl
        · rw [if_neg z]; exact Or.inr ⟨by omega, by omega⟩
      · rw [if_neg q]
        exact cs_S_pl r (m + 1) c _ x.1 x.2 eS j (by omega) (by omega)
def tk_c (H P : Nat → Int) (j : Nat) : Int := if P j < 8 then H (88 + 12 * (P j).toNat + j) else 0
def lr_take (Mm : Nat → Int) : Int := if Mm 39 ≠ 0 ∧ Mm 40 = Mm 25 then 1 else 0
theorem tk_up {f : Nat → Int} {j k : Nat} {v : Int} (h : k = j) : rv_up f j v k = v := by subst h; exact rv_up_s
section TK
variable {G : mj_G} {M M0 : mj_M} {x o pn nw dl fa sa ca pl ba s m : Nat} {br : Nat → Nat} {FA SA CA SF : Nat → Int} {v z : Int} {a j k b : Nat}
def tk_L (G : mj_G) (M0 : mj_M) (x o pn nw dl fa sa ca pl ba : Nat) (br : Nat → Nat) : Prop := (G x = (1011, 0)) ∧ (G o = (1001, 0)) ∧ (G pn = (2100, 12)) ∧ (G nw = (1007, 0)) ∧ (G dl = (1002, 0)) ∧ (G fa = (16100, 12)) ∧ (G sa = (17100, 12)) ∧ (G ca = (18100, 12)) ∧ (G pl = (1004, 0)) ∧ (G ba = (27104, 8)) ∧ (∀ t, t < 8 → G (br t) = (28100, 12)) ∧ (M0.2.2 x 6 = some o) ∧ (M0.2.2 x 1 = some nw) ∧ (M0.2.2 o 0 = some pn) ∧ (M0.2.2 nw 1 = some dl) ∧ (M0.2.2 nw 0 = some pl) ∧ (M0.2.2 dl 0 = some fa) ∧ (M0.2.2 dl 1 = some sa) ∧ (M0.2.2 dl 2 = some ca) ∧ (M0.2.2 pl 2 = some ba) ∧ (∀ t, t < 8 → M0.2.2 ba t = some (br t))
theorem tk_L.gx (h : tk_L G M0 x o pn nw dl fa sa ca pl ba br) : G x = (1011, 0) := h.1
theorem tk_L.go (h : tk_L G M0 x o pn nw dl fa sa ca pl ba br) : G o = (1001, 0) := h.2.1
theorem tk_L.gpn (h : tk_L G M0 x o pn nw dl fa sa ca pl ba br) : G pn = (2100, 12) := h.2.2.1
theorem tk_L.gnw (h : tk_L G M0 x o pn nw dl fa sa ca pl ba br) : G nw = (1007, 0) := h.2.2.2.1
theorem tk_L.gdl (h : tk_L G M0 x o pn nw dl fa sa ca pl ba br) : G dl = (1002, 0) := h.2.2.2.2.1
theorem tk_L.gfa (h : tk_L G M0 x o pn nw dl fa sa ca pl ba br) : G fa = (16100, 12) := h.2.2.2.2.2.1
theorem tk_L.gsa (h : tk_L G M0 x o pn nw dl fa sa ca pl ba br) : G sa = (17100, 12) := h.2.2.2.2.2.2.1
theorem tk_L.gca (h : tk_L G M0 x o pn nw dl fa sa ca pl ba br) : G ca = (18100, 12) := h.2.2.2.2.2.2.2.1
theorem tk_L.gpl (h : tk_L G M0 x o pn nw dl fa sa ca pl ba br) : G pl = (1004, 0) := h.2.2.2.2.2.2.2.2.1
theorem tk_L.gba (h : tk_L G M0 x o pn nw dl fa sa ca pl ba br) : G ba = (27104, 8) := h.2.2.2.2.2.2.2.2.2.1
theorem tk_L.gbr (h : tk_L G M0 x o pn nw dl fa sa ca pl ba br) : ∀ t, t < 8 → G (br t) = (28100, 12) := h.2.2.2.2.2.2.2.2.2.2.1
theorem tk_L.x6 (h : tk_L G M0 x o pn nw dl fa sa ca pl ba br) : M0.2.2 x 6 = some o := h.2.2.2.2.2.2.2.2.2.2.2.1
theorem tk_L.x1 (h : tk_L G M0 x o pn nw dl fa sa ca pl ba br) : M0.2.2 x 1 = some nw := h.2.2.2.2.2.2.2.2.2.2.2.2.1
theorem tk_L.o0 (h : tk_L G M0 x o pn nw dl fa sa ca pl ba br) : M0.2.2 o 0 = some pn := h.2.2.2.2.2.2.2.2.2.2.2.2.2.1
theorem tk_L.n1 (h : tk_L G M0 x o pn nw dl fa sa ca pl ba br) : M0.2.2 nw 1 = some dl := h.2.2.2.2.2.2.2.2.2.2.2.2.2.2.1
theorem tk_L.n0 (h : tk_L G M0 x o pn nw dl fa sa ca pl ba br) : M0.2.2 nw 0 = some pl := h.2.2.2.2.2.2.2.2.2.2.2.2.2.2.2.1
theorem tk_L.d0 (h : tk_L G M0 x o pn nw dl fa sa ca pl ba br) : M0.2.2 dl 0 = some fa := h.2.2.2.2.2.2.2.2.2.2.2.2.2.2.2.2.1
theorem tk_L.d1 (h : tk_L G M0 x o pn nw dl fa sa ca pl ba br) : M0.2.2 dl 1 = some sa := h.2.2.2.2.2.2.2.2.2.2.2.2.2.2.2.2.2.1
theorem tk_L.d2 (h : tk_L G M0 x o pn nw dl fa sa ca pl ba br) : M0.2.2 dl 2 = some ca := h.2.2.2.2.2.2.2.2.2.2.2.2.2.2.2.2.2.2.1
theorem tk_L.p2 (h : tk_L G M0 x o pn nw dl fa sa ca pl ba br) : M0.2.2 pl 2 = some ba := h.2.2.2.2.2.2.2.2.2.2.2.2.2.2.2.2.2.2.2.1
theorem tk_L.bt (h : tk_L G M0 x o pn nw dl fa sa ca pl ba br) : ∀ t, t < 8 → M0.2.2 ba t = some (br t) := h.2.2.2.2.2.2.2.2.2.2.2.2.2.2.2.2.2.2.2.2
def tk_C (dl fa sa ca : Nat) (M0 : mj_M) (FA SA CA : Nat → Int) (v : Int) (M : mj_M) : Prop := M.2 = M0.2 ∧ (∀ a, a ≠ dl → a ≠ fa → a ≠ sa → a ≠ ca → M.1 a = M0.1 a) ∧ M.1 dl 3 = v ∧ (∀ k, k < 12 → M.1 fa k = FA k) ∧ (∀ k, k < 12 → M.1 sa k = SA k) ∧ (∀ k, k < 12 → M.1 ca k = CA k)
theorem tk_C.r (h : tk_C dl fa sa ca M0 FA SA CA v M) (e : M0.2.2 a k = some b) : M.2.2 a k = some b := by rw [h.1]; exact e
theorem tk_C.oo {t n : Nat} (h : tk_C dl fa sa ca M0 FA SA CA v M) (hT : tk_L G M0 x o pn nw dl fa sa ca pl ba br) (g : G a = (t, n)) (ht : t ≠ 1002 ∧ t ≠ 16100 ∧ t ≠ 17100 ∧ t ≠ 18100) : M.1 a = M0.1 a := h.2.1 a (hn_ne g hT.gdl ht.1) (hn_ne g hT.gfa ht.2.1) (hn_ne g hT.gsa ht.2.2.1) (hn_ne g hT.gca ht.2.2.2)
theorem tk_C.hF (h : tk_C dl fa sa ca M0 FA SA CA v M) (hT : tk_L G M0 x o pn nw dl fa sa ca pl ba br) : tk_C dl fa sa ca M0 (rv_up FA j z) SA CA v (mj_p0 M fa j z) := ⟨h.1, fun a h1 h2 h3 h4 => (wz_c h2).trans (h.2.1 a h1 h2 h3 h4), (congrFun (wz_c (hn_ne hT.gdl hT.gfa (by decide))) 3).trans h.2.2.1, cp_up h.2.2.2.1, fun k hk => (congrFun (wz_c (hn_ne hT.gsa hT.gfa (by decide))) k).trans (h.2.2.2.2.1 k hk), fun k hk => (congrFun (wz_c (hn_ne hT.gca hT.gfa (by decide))) k).trans (h.2.2.2.2.2 k hk)⟩
theorem tk_C.hS (h : tk_C dl fa sa ca M0 FA SA CA v M) (hT : tk_L G M0 x o pn nw dl fa sa ca pl ba br) : tk_C dl fa sa ca M0 FA (rv_up SA j z) CA v (mj_p0 M sa j z) := ⟨h.1, fun a h1 h2 h3 h4 => (wz_c h3).trans (h.2.1 a h1 h2 h3 h4), (congrFun (wz_c (hn_ne hT.gdl hT.gsa (by decide))) 3).trans h.2.2.1, fun k hk => (congrFun (wz_c (hn_ne hT.gfa hT.gsa (by decide))) k).trans (h.2.2.2.1 k hk), cp_up h.2.2.2.2.1, fun k hk => (congrFun (wz_c (hn_ne hT.gca hT.gsa (by decide))) k).trans (h.2.2.2.2.2 k hk)⟩
theorem tk_C.hK (h : tk_C dl fa sa ca M0 FA SA CA v M) (hT : tk_L G M0 x o pn nw dl fa sa ca pl ba br) : tk_C dl fa sa ca M0 FA SA (rv_up CA j z) v (mj_p0 M ca j z) := ⟨h.1, fun a h1 h2 h3 h4 => (wz_c h4).trans (h.2.1 a h1 h2 h3 h4), (congrFun (wz_c (hn_ne hT.gdl hT.gca (by decide))) 3).trans h.2.2.1, fun k hk => (congrFun (wz_c (hn_ne hT.gfa hT.gca (by decide))) k).trans (h.2.2.2.1 k hk), fun k hk => (congrFun (wz_c (hn_ne hT.gsa hT.gca (by decide))) k).trans (h.2.2.2.2.1 k hk), cp_up h.2.2.2.2.2⟩
theorem tk_C.h3 (h : tk_C dl fa sa ca M0 FA SA CA v M) (hT : tk_L G M0 x o pn nw dl fa sa ca pl ba br) : tk_C dl fa sa ca M0 FA SA CA z (mj_p0 M dl 3 z) := ⟨h.1, fun a h1 h2 h3 h4 => (wz_c h1).trans (h.2.1 a h1 h2 h3 h4), hn_s, fun k hk => (congrFun (wz_c (hn_ne hT.gfa hT.gdl (by decide))) k).trans (h.2.2.2.1 k hk), fun k hk => (congrFun (wz_c (hn_ne hT.gsa hT.gdl (by decide))) k).trans (h.2.2.2.2.1 k hk), fun k hk => (congrFun (wz_c (hn_ne hT.gca hT.gdl (by decide))) k).trans (h.2.2.2.2.2 k hk)⟩
def tk_R (s : Nat) (M0 : mj_M) (SF : Nat → Int) (M : mj_M) : Prop := M.2 = M0.2 ∧ (∀ a, a ≠ s → M.1 a = M0.1 a) ∧ ∀ k, k < 537 → M.1 s k = SF k
theorem tk_R.r (h : tk_R s M0 SF M) (e : M0.2.2 a k = some b) : M.2.2 a k = some b := by rw [h.1]; exact e
theorem tk_R.hW {u : Unit} (h : tk_R s M0 SF M) (_ : u = ()) : tk_R s M0 (rv_up SF j z) (mj_p0 M s j z) := ⟨h.1, fun a h1 => (wz_c h1).trans (h.2.1 a h1), cp_up h.2.2⟩
end TK
theorem r_tk {G : mj_G} {M0 : mj_M} {x o pn nw dl fa sa ca pl ba : Nat} {br : Nat → Nat} {H P : Nat → Int} {Q : mj_P} {d : Nat} (hT : tk_L G M0 x o pn nw dl fa sa ca pl ba br) (e0 : M0.1 pl 4 = H 0) (h8 : 0 ≤ H 0 ∧ H 0 ≤ 8) (hP : ∀ j, j < 12 → M0.1 pn j = P j) (hB : ∀ t v, t < 8 → v < 12 → M0.1 (br t) v = H (88 + 12 * t + v)) (hr : ∀ j, j < 12 → P j = 8 ∨ (0 ≤ P j ∧ P j < H 0)) : ∀ (n : Nat) (i : Int) (FA SA CA : Nat → Int) (z : Option mj_V) (M : mj_M) (cb sb : Nat), i + n = 12 → 0 ≤ i → tk_C dl fa sa ca M0 FA SA CA i M → (∀ j : Nat, j < 12 → (j : Int) < i → FA j = P j ∧ SA j = -1 ∧ CA j = tk_c H P j) → (∀ FA SA CA M, tk_C dl fa sa ca M0 FA SA CA 12 M → (∀ j : Nat, j < 12 → (j : Int) < 12 → FA j = P j ∧ SA j = -1 ∧ CA j = tk_c H P j) → Q (some (.inl 1)) G M) → wz (d + 2) mt_X11_take.2.2.2.2.1 Q (mt_X11_take.2.2.2.2.1.drop 20) [some (.inr (.inr (some x))), some (.inl i), z] [] G M cb sb := by
  intro n
  induction n with
  | zero =>
    intro i FA SA CA z M cb sb e i0 hC h1 h
    obtain rfl : i = 12 := by omega
    refine w_iln rfl ?_
    refine w_bp ?_
    refine w_cmge (fun c1 => ?_) (fun c1 => ?_)
    · skip
      refine w_ic ?_
      exact w_iret (fun _ => Or.inr rfl) (h FA SA CA M hC h1)
    · exfalso; omega
  | succ n ih =>
    intro i FA SA CA z M cb sb e i0 hC h1 h
    have i11 : i ≤ 11 := by omega
    rcases hr i.toNat (by omega) with p8 | ⟨pa, pb⟩
    · skip
      refine w_iln rfl ?_
      refine w_bp ?_
      refine w_cmge (fun c1 => ?_) (fun c1 => ?_)
      · exfalso; omega
      · skip
        refine w_aln rfl ?_
        refine w_gr hT.gx rfl (by decide) rfl (hC.r (hT.x6)) ?_
        refine w_gr hT.go rfl (by decide) rfl (hC.r (hT.o0)) ?_
        refine w_iln rfl ?_
        refine w_iald (v := (P i.toNat)) hT.gpn rfl (by show (0 : Int) ≤ i; omega) (by show i < ((12 : Nat) : Int); omega) ((congrFun (hC.oo hT hT.gpn (by decide)) _).trans (hP _ (by show i.toNat < 12; omega))) ?_
        refine w_isn ?_
        show wz _ _ _ _ [some (.inr (.inr (some x))), some (.inl i), some (.inl (P i.toNat))] _ _ _ _ _
        refine w_aln rfl ?_
        refine w_gr hT.gx rfl (by decide) rfl (hC.r (hT.x1)) ?_
        refine w_gr hT.gnw rfl (by decide) rfl (hC.r (hT.n1)) ?_
        refine w_iln rfl ?_
        refine w_iln rfl ?_
        refine w_ic ?_
        refine w_aln rfl ?_
        refine w_iln rfl ?_
        refine w_cv (st := [.inl (-1), .inl (P i.toNat), .inl i, .inr (.inr (some dl))]) rfl hT.gx rfl (Nat.le_of_ble_eq_true rfl) (fun kk h => h) ⟨Nat.le_of_ble_eq_true rfl, ?_⟩
        show wz (d + 1) mt_X11_isTown.2.2.2.2.1 _ mt_X11_isTown.2.2.2.2.1 [some (.inr (.inr (some x))), some (.inl (P i.toNat))] [] _ _ _ _
        refine w_iln rfl ?_
        refine w_iflt (fun c2 => ?_) (fun c2 => ?_)
        · exfalso; omega
        · skip
          refine w_iln rfl ?_
          refine w_aln rfl ?_
          refine w_gr hT.gx rfl (by decide) rfl (hC.r (hT.x1)) ?_
          refine w_gr hT.gnw rfl (by decide) rfl (hC.r (hT.n0)) ?_
          refine w_gi hT.gpl rfl (by decide) rfl ((congrFun (hC.oo hT hT.gpl (by decide)) 4).trans e0) ?_
          refine w_cmge (fun c3 => ?_) (fun c3 => ?_)
          · skip
            refine w_ic ?_
            refine w_iret (fun _ => Or.inl rfl) ?_
            refine w_ifeq (fun c4 => ?_) (fun c4 => ?_)
            · skip
              refine w_ic ?_
              refine w_cv (st := []) rfl hT.gdl rfl (Nat.le_of_ble_eq_true rfl) (fun kk h => h) ⟨Nat.le_of_ble_eq_true rfl, ?_⟩
              show wz (d + 1) mt_X1_tell.2.2.2.2.1 _ mt_X1_tell.2.2.2.2.1 [some (.inr (.inr (some dl))), some (.inl i), some (.inl (P i.toNat)), some (.inl (-1)), some (.inl 0)] [] _ _ _ _
              refine w_aln rfl ?_
              refine w_gr hT.gdl rfl (by decide) rfl (hC.r (hT.d0)) ?_
              refine w_iln rfl ?_
              refine w_iln rfl ?_
              refine w_iast hT.gfa rfl (by decide) (by show (0 : Int) ≤ i; omega) (by show i < ((12 : Nat) : Int); omega) ?_
              have hC5 := hC.hF (j := i.toNat) (z := (P i.toNat)) hT
              refine w_aln rfl ?_
              refine w_gr hT.gdl rfl (by decide) rfl (hC5.r (hT.d1)) ?_
              refine w_iln rfl ?_
              refine w_iln rfl ?_
              refine w_iast hT.gsa rfl (by decide) (by show (0 : Int) ≤ i; omega) (by show i < ((12 : Nat) : Int); omega) ?_
              have hC6 := hC5.hS (j := i.toNat) (z := -1) hT
              refine w_aln rfl ?_
              refine w_gr hT.gdl rfl (by decide) rfl (hC6.r (hT.d2)) ?_
              refine w_iln rfl ?_
              refine w_il rfl ?_
              refine w_iast hT.gca rfl (by decide) (by show (0 : Int) ≤ i; omega) (by show i < ((12 : Nat) : Int); omega) ?_
              have hC7 := hC6.hK (j := i.toNat) (z := 0) hT
              refine w_aln rfl ?_
              refine w_dupr ?_
              refine w_gi hT.gdl rfl (by decide) rfl (hC7.2.2.1) ?_
              refine w_ic ?_
              refine w_add ⟨by show (-2147483648 : Int) ≤ i + 1; omega, by show i + 1 < (2147483648 : Int); omega⟩ ?_
              refine w_pi hT.gdl rfl (by decide) rfl (fun q => by cases q) ?_
              have hC8 := hC7.h3 (z := i + 1) hT
              refine w_ret ?_
              refine w_ii rfl ⟨by show (-2147483648 : Int) ≤ i + 1; omega, by show i + 1 < (2147483648 : Int); omega⟩ ?_
              show wz _ _ _ _ [some (.inr (.inr (some x))), some (.inl (i + 1)), some (.inl (P i.toNat))] _ _ _ _ _
              refine w_goto ?_
              refine ih (i + 1) _ _ _ _ _ _ _ (by omega) (by omega) hC8 (fun j hj hji => ?_) h
              by_cases ej : (j : Int) = i
              · obtain rfl : j = i.toNat := by omega
                rw [rv_up_s, rv_up_s, rv_up_s]
                exact ⟨rfl, rfl, by unfold tk_c; rw [if_neg (by omega)]⟩
              · rw [rv_up_n (by omega), rv_up_n (by omega), rv_up_n (by omega)]; exact h1 j hj (by omega)
            · exfalso; omega
          · exfalso; omega
    · skip
      refine w_iln rfl ?_
      refine w_bp ?_
      refine w_cmge (fun c1 => ?_) (fun c1 => ?_)
      · exfalso; omega
      · skip
        refine w_aln rfl ?_
        refine w_gr hT.gx rfl (by decide) rfl (hC.r (hT.x6)) ?_
        refine w_gr hT.go rfl (by decide) rfl (hC.r (hT.o0)) ?_
        refine w_iln rfl ?_
        refine w_iald (v := (P i.toNat)) hT.gpn rfl (by show (0 : Int) ≤ i; omega) (by show i < ((12 : Nat) : Int); omega) ((congrFun (hC.oo hT hT.gpn (by decide)) _).trans (hP _ (by show i.toNat < 12; omega))) ?_
        refine w_isn ?_
        show wz _ _ _ _ [some (.inr (.inr (some x))), some (.inl i), some (.inl (P i.toNat))] _ _ _ _ _
        refine w_aln rfl ?_
        refine w_gr hT.gx rfl (by decide) rfl (hC.r (hT.x1)) ?_
        refine w_gr hT.gnw rfl (by decide) rfl (hC.r (hT.n1)) ?_
        refine w_iln rfl ?_
        refine w_iln rfl ?_
        refine w_ic ?_
        refine w_aln rfl ?_
        refine w_iln rfl ?_
        refine w_cv (st := [.inl (-1), .inl (P i.toNat), .inl i, .inr (.inr (some dl))]) rfl hT.gx rfl (Nat.le_of_ble_eq_true rfl) (fun kk h => h) ⟨Nat.le_of_ble_eq_true rfl, ?_⟩
        show wz (d + 1) mt_X11_isTown.2.2.2.2.1 _ mt_X11_isTown.2.2.2.2.1 [some (.inr (.inr (some x))), some (.inl (P i.toNat))] [] _ _ _ _
        refine w_iln rfl ?_
        refine w_iflt (fun c2 => ?_) (fun c2 => ?_)
        · exfalso; omega
        · skip
          refine w_iln rfl ?_
          refine w_aln rfl ?_
          refine w_gr hT.gx rfl (by decide) rfl (hC.r (hT.x1)) ?_
          refine w_gr hT.gnw rfl (by decide) rfl (hC.r (hT.n0)) ?_
          refine w_gi hT.gpl rfl (by decide) rfl ((congrFun (hC.oo hT hT.gpl (by decide)) 4).trans e0) ?_
          refine w_cmge (fun c3 => ?_) (fun c3 => ?_)
          · exfalso; omega
          · skip
            refine w_ic ?_
            refine w_goto ?_
            refine w_iret (fun _ => Or.inr rfl) ?_
            refine w_ifeq (fun c4 => ?_) (fun c4 => ?_)
            · exfalso; omega
            · skip
              refine w_aln rfl ?_
              refine w_gr hT.gx rfl (by decide) rfl (hC.r (hT.x1)) ?_
              refine w_gr hT.gnw rfl (by decide) rfl (hC.r (hT.n0)) ?_
              refine w_gr hT.gpl rfl (by decide) rfl (hC.r (hT.p2)) ?_
              refine w_iln rfl ?_
              refine w_aald hT.gba rfl (by show (0 : Int) ≤ (P i.toNat); omega) (by show (P i.toNat) < ((8 : Nat) : Int); omega) (hC.r (hT.bt _ (by show (P i.toNat).toNat < 8; omega))) ?_
              refine w_iln rfl ?_
              refine w_iald (v := (H (88 + 12 * (P i.toNat).toNat + i.toNat))) (hT.gbr _ (by show (P i.toNat).toNat < 8; omega)) rfl (by show (0 : Int) ≤ i; omega) (by show i < ((12 : Nat) : Int); omega) ((congrFun (hC.oo hT (hT.gbr _ (by show (P i.toNat).toNat < 8; omega)) (by decide)) _).trans (hB _ _ (by show (P i.toNat).toNat < 8; omega) (by show i.toNat < 12; omega))) ?_
              refine w_goto ?_
              refine w_cv (st := []) rfl hT.gdl rfl (Nat.le_of_ble_eq_true rfl) (fun kk h => h) ⟨Nat.le_of_ble_eq_true rfl, ?_⟩
              show wz (d + 1) mt_X1_tell.2.2.2.2.1 _ mt_X1_tell.2.2.2.2.1 [some (.inr (.inr (some dl))), some (.inl i), some (.inl (P i.toNat)), some (.inl (-1)), some (.inl (H (88 + 12 * (P i.toNat).toNat + i.toNat)))] [] _ _ _ _
              refine w_aln rfl ?_
              refine w_gr hT.gdl rfl (by decide) rfl (hC.r (hT.d0)) ?_
              refine w_iln rfl ?_
              refine w_iln rfl ?_
              refine w_iast hT.gfa rfl (by decide) (by show (0 : Int) ≤ i; omega) (by show i < ((12 : Nat) : Int); omega) ?_
              have hC5 := hC.hF (j := i.toNat) (z := (P i.toNat)) hT
              refine w_aln rfl ?_
              refine w_gr hT.gdl rfl (by decide) rfl (hC5.r (hT.d1)) ?_
              refine w_iln rfl ?_
              refine w_iln rfl ?_
              refine w_iast hT.gsa rfl (by decide) (by show (0 : Int) ≤ i; omega) (by show i < ((12 : Nat) : Int); omega) ?_
              have hC6 := hC5.hS (j := i.toNat) (z := -1) hT
              refine w_aln rfl ?_
              refine w_gr hT.gdl rfl (by decide) rfl (hC6.r (hT.d2)) ?_
              refine w_iln rfl ?_
              refine w_il rfl ?_
              refine w_iast hT.gca rfl (by decide) (by show (0 : Int) ≤ i; omega) (by show i < ((12 : Nat) : Int); omega) ?_
              have hC7 := hC6.hK (j := i.toNat) (z := (H (88 + 12 * (P i.toNat).toNat + i.toNat))) hT
              refine w_aln rfl ?_
              refine w_dupr ?_
              refine w_gi hT.gdl rfl (by decide) rfl (hC7.2.2.1) ?_
              refine w_ic ?_
              refine w_add ⟨by show (-2147483648 : Int) ≤ i + 1; omega, by show i + 1 < (2147483648 : Int); omega⟩ ?_
              refine w_pi hT.gdl rfl (by decide) rfl (fun q => by cases q) ?_
              have hC8 := hC7.h3 (z := i + 1) hT
              refine w_ret ?_
              refine w_ii rfl ⟨by show (-2147483648 : Int) ≤ i + 1; omega, by show i + 1 < (2147483648 : Int); omega⟩ ?_
              show wz _ _ _ _ [some (.inr (.inr (some x))), some (.inl (i + 1)), some (.inl (P i.toNat))] _ _ _ _ _
              refine w_goto ?_
              refine ih (i + 1) _ _ _ _ _ _ _ (by omega) (by omega) hC8 (fun j hj hji => ?_) h
              by_cases ej : (j : Int) = i
              · obtain rfl : j = i.toNat := by omega
                rw [rv_up_s, rv_up_s, rv_up_s]
                exact ⟨rfl, rfl, by unfold tk_c; rw [if_pos (by omega)]⟩
              · rw [rv_up_n (by omega), rv_up_n (by omega), rv_up_n (by omega)]; exact h1 j hj (by omega)
theorem r_tk2 {G : mj_G} {M0 : mj_M} {m s pr : Nat} {H P : Nat → Int} {Q : mj_P} {d : Nat} (gm : G m = (1012, 0)) (gs : G s = (51100, 537)) (gp : G pr = (61100, 12)) (m6 : M0.2.2 m 6 = some s) (m38 : M0.2.2 m 38 = some pr) (h8 : 0 ≤ H 0 ∧ H 0 ≤ 8) (hP : ∀ j, j < 12 → M0.1 pr j = P j) (hr : ∀ j, j < 12 → P j = 8 ∨ (0 ≤ P j ∧ P j < H 0)) : ∀ (n : Nat) (i : Int) (SF : Nat → Int) (M : mj_M) (cb sb : Nat), i + n = 12 → 0 ≤ i → tk_R s M0 SF M → (∀ j : Nat, j < 12 → (j : Int) < i → SF (184 + 3 * j) = P j + 1 ∧ SF (185 + 3 * j) = 0 ∧ SF (186 + 3 * j) = tk_c H P j) → (∀ k, k < 184 ∨ 220 < k → SF k = H k) → (∀ SF M, tk_R s M0 SF M → (∀ j : Nat, j < 12 → (j : Int) < 12 → SF (184 + 3 * j) = P j + 1 ∧ SF (185 + 3 * j) = 0 ∧ SF (186 + 3 * j) = tk_c H P j) → (∀ k, k < 184 ∨ 220 < k → SF k = H k) → SF 220 = 12 → Q (some (.inl 1)) G M) → wz (d + 1) mt_X12_take.2.2.2.2.1 Q (mt_X12_take.2.2.2.2.1.drop 15) [some (.inr (.inr (some m))), some (.inl i)] [] G M cb sb := by
  intro n
  induction n with
  | zero =>
    intro i SF M cb sb e i0 hC h1 h2 h
    obtain rfl : i = 12 := by omega
    refine w_iln rfl ?_
    refine w_bp ?_
    refine w_cmge (fun c1 => ?_) (fun c1 => ?_)
    · skip
      refine w_aln rfl ?_
      refine w_gr gm rfl (by decide) rfl (hC.r (m6)) ?_
      refine w_sp ?_
      refine w_bp ?_
      refine w_iast gs rfl (by decide) (by show (0 : Int) ≤ 220; omega) (by show 220 < ((537 : Nat) : Int); omega) ?_
      have hC2 := hC.hW (j := (220 : Int).toNat) (z := 12) rfl
      refine w_ic ?_
      refine w_iret (fun _ => Or.inr rfl) (h _ _ hC2 (fun j hj hji => ?_) (fun k hk => (rv_up_n (by omega)).trans (h2 k hk)) rv_up_s)
      show rv_up SF 220 12 _ = _ ∧ rv_up SF 220 12 _ = _ ∧ rv_up SF 220 12 _ = _
      rw [rv_up_n (by omega), rv_up_n (by omega), rv_up_n (by omega)]; exact h1 j hj hji
    · exfalso; omega
  | succ n ih =>
    intro i SF M cb sb e i0 hC h1 h2 h
    have i11 : i ≤ 11 := by omega
    rcases hr i.toNat (by omega) with p8 | ⟨pa, pb⟩
    · skip
      refine w_iln rfl ?_
      refine w_bp ?_
      refine w_cmge (fun c1 => ?_) (fun c1 => ?_)
      · exfalso; omega
      · skip
        refine w_aln rfl ?_
        refine w_gr gm rfl (by decide) rfl (hC.r (m6)) ?_
        refine w_sp ?_
        refine w_ic ?_
        refine w_iln rfl ?_
        refine w_mul ⟨by show (-2147483648 : Int) ≤ 3 * i; omega, by show 3 * i < (2147483648 : Int); omega⟩ ?_
        refine w_add ⟨by show (-2147483648 : Int) ≤ 184 + (3 * i); omega, by show 184 + (3 * i) < (2147483648 : Int); omega⟩ ?_
        refine w_aln rfl ?_
        refine w_gr gm rfl (by decide) rfl (hC.r (m38)) ?_
        refine w_iln rfl ?_
        refine w_iald (v := (P i.toNat)) gp rfl (by show (0 : Int) ≤ i; omega) (by show i < ((12 : Nat) : Int); omega) ((congrFun (hC.2.1 pr (hn_ne gp gs (by decide))) _).trans (hP _ (by show i.toNat < 12; omega))) ?_
        refine w_ic ?_
        refine w_add ⟨by show (-2147483648 : Int) ≤ (P i.toNat) + 1; omega, by show (P i.toNat) + 1 < (2147483648 : Int); omega⟩ ?_
        refine w_iast gs rfl (by decide) (by show (0 : Int) ≤ 184 + (3 * i); omega) (by show 184 + (3 * i) < ((537 : Nat) : Int); omega) ?_
        have hC2 := hC.hW (j := (184 + (3 * i)).toNat) (z := (P i.toNat) + 1) rfl
        refine w_aln rfl ?_
        refine w_gr gm rfl (by decide) rfl (hC2.r (m6)) ?_
        refine w_sp ?_
        refine w_ic ?_
        refine w_iln rfl ?_
        refine w_mul ⟨by show (-2147483648 : Int) ≤ 3 * i; omega, by show 3 * i < (2147483648 : Int); omega⟩ ?_
        refine w_add ⟨by show (-2147483648 : Int) ≤ 184 + (3 * i); omega, by show 184 + (3 * i) < (2147483648 : Int); omega⟩ ?_
        refine w_ic ?_
        refine w_add ⟨by show (-2147483648 : Int) ≤ (184 + (3 * i)) + 1; omega, by show (184 + (3 * i)) + 1 < (2147483648 : Int); omega⟩ ?_
        refine w_ic ?_
        refine w_iast gs rfl (by decide) (by show (0 : Int) ≤ (184 + (3 * i)) + 1; omega) (by show (184 + (3 * i)) + 1 < ((537 : Nat) : Int); omega) ?_
        have hC3 := hC2.hW (j := ((184 + (3 * i)) + 1).toNat) (z := 0) rfl
        refine w_aln rfl ?_
        refine w_gr gm rfl (by decide) rfl (hC3.r (m6)) ?_
        refine w_sp ?_
        refine w_ic ?_
        refine w_iln rfl ?_
        refine w_mul ⟨by show (-2147483648 : Int) ≤ 3 * i; omega, by show 3 * i < (2147483648 : Int); omega⟩ ?_
        refine w_add ⟨by show (-2147483648 : Int) ≤ 184 + (3 * i); omega, by show 184 + (3 * i) < (2147483648 : Int); omega⟩ ?_
        refine w_ic ?_
        refine w_add ⟨by show (-2147483648 : Int) ≤ (184 + (3 * i)) + 2; omega, by show (184 + (3 * i)) + 2 < (2147483648 : Int); omega⟩ ?_
        refine w_aln rfl ?_
        refine w_gr gm rfl (by decide) rfl (hC3.r (m38)) ?_
        refine w_iln rfl ?_
        refine w_iald (v := (P i.toNat)) gp rfl (by show (0 : Int) ≤ i; omega) (by show i < ((12 : Nat) : Int); omega) ((congrFun (hC3.2.1 pr (hn_ne gp gs (by decide))) _).trans (hP _ (by show i.toNat < 12; omega))) ?_
        refine w_bp ?_
        refine w_cmge (fun c4 => ?_) (fun c4 => ?_)
        · skip
          refine w_ic ?_
          refine w_iast gs rfl (by decide) (by show (0 : Int) ≤ (184 + (3 * i)) + 2; omega) (by show (184 + (3 * i)) + 2 < ((537 : Nat) : Int); omega) ?_
          have hC5 := hC3.hW (j := ((184 + (3 * i)) + 2).toNat) (z := 0) rfl
          refine w_ii rfl ⟨by show (-2147483648 : Int) ≤ i + 1; omega, by show i + 1 < (2147483648 : Int); omega⟩ ?_
          show wz _ _ _ _ [some (.inr (.inr (some m))), some (.inl (i + 1))] _ _ _ _ _
          refine w_goto ?_
          refine ih (i + 1) _ _ _ _ (by omega) (by omega) hC5 (fun j hj hji => ?_) (fun k hk => (rv_up_n (by omega)).trans ((rv_up_n (by omega)).trans ((rv_up_n (by omega)).trans (h2 k hk)))) h
          by_cases ej : (j : Int) = i
          · obtain rfl : j = i.toNat := by omega
            refine ⟨(rv_up_n (by omega)).trans ((rv_up_n (by omega)).trans (tk_up (by omega))), (rv_up_n (by omega)).trans (tk_up (by omega)), (tk_up (by omega)).trans ?_⟩
            unfold tk_c; rw [if_neg (by omega)]
          · obtain ⟨a1, a2, a3⟩ := h1 j hj (by omega)
            exact ⟨(rv_up_n (by omega)).trans ((rv_up_n (by omega)).trans ((rv_up_n (by omega)).trans a1)), (rv_up_n (by omega)).trans ((rv_up_n (by omega)).trans ((rv_up_n (by omega)).trans a2)), (rv_up_n (by omega)).trans ((rv_up_n (by omega)).trans ((rv_up_n (by omega)).trans a3))⟩
        · exfalso; omega
    · skip
      refine w_iln rfl ?_
      refine w_bp ?_
      refine w_cmge (fun c1 => ?_) (fun c1 => ?_)
      · exfalso; omega
      · skip
        refine w_aln rfl ?_
        refine w_gr gm rfl (by decide) rfl (hC.r (m6)) ?_
        refine w_sp ?_
        refine w_ic ?_
        refine w_iln rfl ?_
        refine w_mul ⟨by show (-2147483648 : Int) ≤ 3 * i; omega, by show 3 * i < (2147483648 : Int); omega⟩ ?_
        refine w_add ⟨by show (-2147483648 : Int) ≤ 184 + (3 * i); omega, by show 184 + (3 * i) < (2147483648 : Int); omega⟩ ?_
        refine w_aln rfl ?_
        refine w_gr gm rfl (by decide) rfl (hC.r (m38)) ?_
        refine w_iln rfl ?_
        refine w_iald (v := (P i.toNat)) gp rfl (by show (0 : Int) ≤ i; omega) (by show i < ((12 : Nat) : Int); omega) ((congrFun (hC.2.1 pr (hn_ne gp gs (by decide))) _).trans (hP _ (by show i.toNat < 12; omega))) ?_
        refine w_ic ?_
        refine w_add ⟨by show (-2147483648 : Int) ≤ (P i.toNat) + 1; omega, by show (P i.toNat) + 1 < (2147483648 : Int); omega⟩ ?_
        refine w_iast gs rfl (by decide) (by show (0 : Int) ≤ 184 + (3 * i); omega) (by show 184 + (3 * i) < ((537 : Nat) : Int); omega) ?_
        have hC2 := hC.hW (j := (184 + (3 * i)).toNat) (z := (P i.toNat) + 1) rfl
        refine w_aln rfl ?_
        refine w_gr gm rfl (by decide) rfl (hC2.r (m6)) ?_
        refine w_sp ?_
        refine w_ic ?_
        refine w_iln rfl ?_
        refine w_mul ⟨by show (-2147483648 : Int) ≤ 3 * i; omega, by show 3 * i < (2147483648 : Int); omega⟩ ?_
        refine w_add ⟨by show (-2147483648 : Int) ≤ 184 + (3 * i); omega, by show 184 + (3 * i) < (2147483648 : Int); omega⟩ ?_
        refine w_ic ?_
        refine w_add ⟨by show (-2147483648 : Int) ≤ (184 + (3 * i)) + 1; omega, by show (184 + (3 * i)) + 1 < (2147483648 : Int); omega⟩ ?_
        refine w_ic ?_
        refine w_iast gs rfl (by decide) (by show (0 : Int) ≤ (184 + (3 * i)) + 1; omega) (by show (184 + (3 * i)) + 1 < ((537 : Nat) : Int); omega) ?_
        have hC3 := hC2.hW (j := ((184 + (3 * i)) + 1).toNat) (z := 0) rfl
        refine w_aln rfl ?_
        refine w_gr gm rfl (by decide) rfl (hC3.r (m6)) ?_
        refine w_sp ?_
        refine w_ic ?_
        refine w_iln rfl ?_
        refine w_mul ⟨by show (-2147483648 : Int) ≤ 3 * i; omega, by show 3 * i < (2147483648 : Int); omega⟩ ?_
        refine w_add ⟨by show (-2147483648 : Int) ≤ 184 + (3 * i); omega, by show 184 + (3 * i) < (2147483648 : Int); omega⟩ ?_
        refine w_ic ?_
        refine w_add ⟨by show (-2147483648 : Int) ≤ (184 + (3 * i)) + 2; omega, by show (184 + (3 * i)) + 2 < (2147483648 : Int); omega⟩ ?_
        refine w_aln rfl ?_
        refine w_gr gm rfl (by decide) rfl (hC3.r (m38)) ?_
        refine w_iln rfl ?_
        refine w_iald (v := (P i.toNat)) gp rfl (by show (0 : Int) ≤ i; omega) (by show i < ((12 : Nat) : Int); omega) ((congrFun (hC3.2.1 pr (hn_ne gp gs (by decide))) _).trans (hP _ (by show i.toNat < 12; omega))) ?_
        refine w_bp ?_
        refine w_cmge (fun c4 => ?_) (fun c4 => ?_)
        · exfalso; omega
        · skip
          refine w_aln rfl ?_
          refine w_aln rfl ?_
          refine w_gr gm rfl (by decide) rfl (hC3.r (m38)) ?_
          refine w_iln rfl ?_
          refine w_iald (v := (P i.toNat)) gp rfl (by show (0 : Int) ≤ i; omega) (by show i < ((12 : Nat) : Int); omega) ((congrFun (hC3.2.1 pr (hn_ne gp gs (by decide))) _).trans (hP _ (by show i.toNat < 12; omega))) ?_
          refine w_iln rfl ?_
          refine w_cv (st := [.inl ((184 + (3 * i)) + 2), .inr (.inr (some s))]) rfl gm rfl (Nat.le_of_ble_eq_true rfl) (fun kk h => h) ⟨Nat.le_of_ble_eq_true rfl, ?_⟩
          show wz (d) mt_X12_bidOf.2.2.2.2.1 _ mt_X12_bidOf.2.2.2.2.1 [some (.inr (.inr (some m))), some (.inl (P i.toNat)), some (.inl i)] [] _ _ _ _
          refine w_aln rfl ?_
          refine w_gr gm rfl (by decide) rfl (hC3.r (m6)) ?_
          refine w_bp ?_
          refine w_bp ?_
          refine w_iln rfl ?_
          refine w_mul ⟨by show (-2147483648 : Int) ≤ 12 * (P i.toNat); omega, by show 12 * (P i.toNat) < (2147483648 : Int); omega⟩ ?_
          refine w_add ⟨by show (-2147483648 : Int) ≤ 88 + (12 * (P i.toNat)); omega, by show 88 + (12 * (P i.toNat)) < (2147483648 : Int); omega⟩ ?_
          refine w_iln rfl ?_
          refine w_add ⟨by show (-2147483648 : Int) ≤ (88 + (12 * (P i.toNat))) + i; omega, by show (88 + (12 * (P i.toNat))) + i < (2147483648 : Int); omega⟩ ?_
          refine w_iald (v := (SF (12 * (P i.toNat) + i + 88).toNat)) gs rfl (by show (0 : Int) ≤ (88 + (12 * (P i.toNat))) + i; omega) (by show (88 + (12 * (P i.toNat))) + i < ((537 : Nat) : Int); omega) ((((hC3.2.2 _ (by show ((88 + (12 * (P i.toNat))) + i).toNat < 537; omega)).trans (rv_up_n (by omega))).trans (rv_up_n (by omega))).trans (congrArg SF (show ((88 + (12 * (P i.toNat))) + i).toNat = (12 * (P i.toNat) + i + 88).toNat by omega))) ?_
          refine w_iret (fun q => by cases q) ?_
          refine w_goto ?_
          refine w_iast gs rfl (by decide) (by show (0 : Int) ≤ (184 + (3 * i)) + 2; omega) (by show (184 + (3 * i)) + 2 < ((537 : Nat) : Int); omega) ?_
          have hC5 := hC3.hW (j := ((184 + (3 * i)) + 2).toNat) (z := (SF (12 * (P i.toNat) + i + 88).toNat)) rfl
          refine w_ii rfl ⟨by show (-2147483648 : Int) ≤ i + 1; omega, by show i + 1 < (2147483648 : Int); omega⟩ ?_
          show wz _ _ _ _ [some (.inr (.inr (some m))), some (.inl (i + 1))] _ _ _ _ _
          refine w_goto ?_
          refine ih (i + 1) _ _ _ _ (by omega) (by omega) hC5 (fun j hj hji => ?_) (fun k hk => (rv_up_n (by omega)).trans ((rv_up_n (by omega)).trans ((rv_up_n (by omega)).trans (h2 k hk)))) h
          by_cases ej : (j : Int) = i
          · obtain rfl : j = i.toNat := by omega
            refine ⟨(rv_up_n (by omega)).trans ((rv_up_n (by omega)).trans (tk_up (by omega))), (rv_up_n (by omega)).trans (tk_up (by omega)), (tk_up (by omega)).trans ?_⟩
            unfold tk_c; rw [if_pos (by omega)]; exact (h2 _ (by omega)).trans (congrArg H (by omega))
          · obtain ⟨a1, a2, a3⟩ := h1 j hj (by omega)
            exact ⟨(rv_up_n (by omega)).trans ((rv_up_n (by omega)).trans ((rv_up_n (by omega)).trans a1)), (rv_up_n (by omega)).trans ((rv_up_n (by omega)).trans ((rv_up_n (by omega)).trans a2)), (rv_up_n (by omega)).trans ((rv_up_n (by omega)).trans ((rv_up_n (by omega)).trans a3))⟩
theorem lq_V.pr {G : mj_G} {M : mj_M} {x m s kp kc : Nat} {w : Nat → Nat} {c : Int} (h : lq_V G M x m s kp kc w c) (h8 : 0 ≤ M.1 s 0 ∧ M.1 s 0 ≤ 8) (e1 : M.1 m 39 ≠ 0) (e2 : M.1 m 40 = M.1 m 25) : ∀ j, j < 12 → M.1 (w 348) j = 8 ∨ (0 ≤ M.1 (w 348) j ∧ M.1 (w 348) j < M.1 s 0) := fun j hj => by
  obtain ⟨-, -, -, A, ⟨-, -, a3⟩, -, -, hp⟩ := h
  obtain ⟨-, -, -, v, P, z4, z5⟩ := hp.2 (by rw [hp.1]; exact e1)
  rw [e2, a3] at z4
  unfold cs_A at z4
  have := cs_S_pl _ _ _ _ _ _ z4 j (by omega) (by omega)
  rw [z5 j hj]
  unfold cs_t at this
  omega
/-- what take of the class leaves -/
def tk_o (M M' : mj_M) (H P : Nat → Int) (w : Nat → Nat) (z : Int) : Prop := ∃ dn ds, lq_DN M w dn ds ∧ (z = 0 → M' = M) ∧ (z ≠ 0 → M'.2 = M.2 ∧ (∀ a, a ≠ w dn → a ≠ w (dn + 1) → a ≠ w (dn + 2) → a ≠ w (dn + 3) → M'.1 a = M.1 a) ∧ (∀ j, j < 12 → M'.1 (w (dn + 1)) j = P j ∧ M'.1 (w (dn + 2)) j = -1 ∧ M'.1 (w (dn + 3)) j = tk_c H P j) ∧ M'.1 (w dn) 3 = 12)
/-- what take of the reference leaves -/
def rq_T (s : Nat) (P : Nat → Int) (M M' : mj_M) : Prop := (∀ j, j < 12 → M'.1 s (184 + 3 * j) = P j + 1 ∧ M'.1 s (185 + 3 * j) = 0 ∧ M'.1 s (186 + 3 * j) = tk_c (M.1 s) P j) ∧ M'.1 s 220 = 12
theorem r_X11_take {G : mj_G} {M : mj_M} {x m s kp kc p q : Nat} {w : Nat → Nat} {c : Int} (h : lq_V G M x m s kp kc w c) (hD : lq_D G M s kp kc w) (hA : lq_A G w) (hB : lq_B M w x) (hN : lq_N M w p q) (hG5 : rv_G6 (M.1 s) 0 w p M) (h8 : 0 ≤ M.1 s 0 ∧ M.1 s 0 ≤ 8) (gx : G x = (1011, 0)) : mj_R mj_tab 40 150 [.inr (.inr (some x))] G M (fun r G' M' => ∃ z, r = some (.inl z) ∧ G' = G ∧ z = lr_take (M.1 m) ∧ tk_o M M' (M.1 s) (M.1 (w 348)) w z) := by
  obtain ⟨gpl, gna, gta, gba, gwa, gtr, gbr, itr, ibr, p0, p1, p2, p3, rt, rb⟩ := lq_K hA hB hN.pin.1
  have gnw := hA.2.2.1
  obtain ⟨hg, -, -, A, ⟨a1, a2, a3⟩, -, -, hp⟩ := id h
  obtain ⟨ga, gb, x6, gr, br⟩ := hg
  obtain ⟨hDA, hDB, ⟨dn, ds, hDN, hE⟩, hk⟩ := hD
  have hn := hDN.nin
  have hDc := hDB.D hDA hn.1
  obtain ⟨gdl, gfa, gsa, gca, d0, d1, d2⟩ := id hDc
  refine ⟨Nat.le_of_ble_eq_true rfl, ?_⟩
  show wz 39 mt_X11_take.2.2.2.2.1 _ mt_X11_take.2.2.2.2.1 [some (.inr (.inr (some x))), none, none] [] G M _ _
  refine w_aln rfl ?_
  refine w_gr gx rfl (by decide) rfl x6 ?_
  refine w_gi ga.g125 rfl (by decide) rfl hp.1 ?_
  have no : ¬ (M.1 m 39 ≠ 0 ∧ M.1 m 40 = M.1 m 25) → ∃ z, (some (.inl 0) : Option mj_V) = some (.inl z) ∧ G = G ∧ z = lr_take (M.1 m) ∧ tk_o M M (M.1 s) (M.1 (w 348)) w z := fun hz => ⟨0, rfl, rfl, by unfold lr_take; rw [if_neg hz], dn, ds, hDN, fun _ => rfl, fun z => absurd rfl z⟩
  refine w_ifeq (fun c1 => ?_) (fun c1 => ?_)
  · skip
    refine w_ic ?_
    exact w_iret (fun _ => Or.inl rfl) (no (fun z => z.1 c1))
  · skip
    obtain ⟨b1, b2, -⟩ := hp.2 (by rw [hp.1]; exact c1)
    refine w_aln rfl ?_
    refine w_gr gx rfl (by decide) rfl x6 ?_
    refine w_gi ga.g125 rfl (by decide) rfl b1 ?_
    refine w_aln rfl ?_
    refine w_gr gx rfl (by decide) rfl hB.2.1 ?_
    refine w_gr gnw rfl (by decide) rfl hN.1 ?_
    refine w_gi gpl rfl (by decide) rfl (a2 p q hN) ?_
    refine w_cmeq (fun c2 => ?_) (fun c2 => ?_)
    · skip
      refine w_aln rfl ?_
      refine w_gr gx rfl (by decide) rfl hB.2.1 ?_
      refine w_gr gnw rfl (by decide) rfl hDN.1 ?_
      refine w_cv (st := []) rfl gdl rfl (Nat.le_of_ble_eq_true rfl) (fun kk h => h) (r_X1_clear (d := 38) hDc (fun M1 u2 u1 uz u3 => ?_))
      refine w_ic ?_
      refine w_isn ?_
      have hT : tk_L G M x (w 125) (w 126) (w 29) (w dn) (w (dn + 1)) (w (dn + 2)) (w (dn + 3)) (w p) (w (p + 11)) (fun t => w (p + 12 + t)) := ⟨gx, ga.g125, ga.g126, gnw, gdl, gfa, gsa, gca, gpl, gba, gbr, x6, hB.2.1, gb.r125_0, hDN.1, hN.1, d0, d1, d2, p2, rb⟩
      refine r_tk (d := 37) (H := M.1 s) (P := M.1 (w 348)) hT hG5.1.1.symm h8 b2 (fun t v ht hv => by have := hG5.2.1 t v ht hv; rw [Nat.zero_add] at this; exact this.symm) (h.pr h8 c1 c2) 12 0 (M1.1 (w (dn + 1))) (M1.1 (w (dn + 2))) (M1.1 (w (dn + 3))) none M1 _ _ (by decide) (by decide) ⟨u2, u1, u3, fun _ _ => rfl, fun _ _ => rfl, fun _ _ => rfl⟩ (fun j hj hji => absurd hji (by omega)) (fun FA SA CA M2 hC h1 => ?_)
      refine ⟨1, rfl, rfl, by unfold lr_take; rw [if_pos ⟨c1, c2⟩], dn, ds, hDN, fun z => absurd z (by decide), fun _ => ⟨hC.1, hC.2.1, fun j hj => ?_, hC.2.2.1⟩⟩
      obtain ⟨q1, q2, q3⟩ := h1 j hj (by omega)
      exact ⟨(hC.2.2.2.1 j hj).trans q1, (hC.2.2.2.2.1 j hj).trans q2, (hC.2.2.2.2.2 j hj).trans q3⟩
    · skip
      refine w_ic ?_
      exact w_iret (fun _ => Or.inl rfl) (no (fun z => c2 z.2))
theorem r_X12_take {G : mj_G} {M : mj_M} {x m s kp kc : Nat} {w : Nat → Nat} {c : Int} (h : lq_V G M x m s kp kc w c) (h8 : 0 ≤ M.1 s 0 ∧ M.1 s 0 ≤ 8) (gm : G m = (1012, 0)) (gs : G s = (51100, 537)) (m6 : M.2.2 m 6 = some s) : mj_R mj_tab 40 244 [.inr (.inr (some m))] G M (fun r G' M' => ∃ z, r = some (.inl z) ∧ G' = G ∧ z = lr_take (M.1 m) ∧ (z = 0 → M'.1 s = M.1 s) ∧ (z ≠ 0 → rq_T s (M.1 (w 348)) M M')) := by
  obtain ⟨ga, gb, x6, gr, br⟩ := h.1
  have gp := gr.2.2.2
  have m38 := br.2.2.2
  have nsm : s ≠ m := hn_ne gs gm (by decide)
  refine ⟨Nat.le_of_ble_eq_true rfl, ?_⟩
  show wz 39 mt_X12_take.2.2.2.2.1 _ mt_X12_take.2.2.2.2.1 [some (.inr (.inr (some m))), none] [] G M _ _
  refine w_aln rfl ?_
  refine w_ic ?_
  refine w_pi gm rfl (by decide) rfl (fun q => by cases q) ?_
  refine w_aln rfl ?_
  refine w_gi gm rfl (by decide) rfl (hn_n (Or.inr (by decide))) ?_
  have no : ¬ (M.1 m 39 ≠ 0 ∧ M.1 m 40 = M.1 m 25) → ∃ z, (some (.inl 0) : Option mj_V) = some (.inl z) ∧ G = G ∧ z = lr_take (M.1 m) ∧ (z = 0 → (mj_p0 M m 0 0).1 s = M.1 s) ∧ (z ≠ 0 → rq_T s (M.1 (w 348)) M (mj_p0 M m 0 0)) := fun hz => ⟨0, rfl, rfl, by unfold lr_take; rw [if_neg hz], fun _ => wz_c nsm, fun z => absurd rfl z⟩
  refine w_ifeq (fun c1 => ?_) (fun c1 => ?_)
  · skip
    refine w_ic ?_
    exact w_iret (fun _ => Or.inl rfl) (no (fun z => z.1 c1))
  · skip
    refine w_aln rfl ?_
    refine w_gi gm rfl (by decide) rfl (hn_n (Or.inr (by decide))) ?_
    refine w_aln rfl ?_
    refine w_gi gm rfl (by decide) rfl (hn_n (Or.inr (by decide))) ?_
    refine w_cmeq (fun c2 => ?_) (fun c2 => ?_)
    · skip
      refine w_ic ?_
      refine w_isn ?_
      refine r_tk2 (d := 38) (M0 := mj_p0 M m 0 0) (H := M.1 s) (P := M.1 (w 348)) gm gs gp m6 m38 h8 (fun j hj => congrFun (wz_c (hn_ne gp gm (by decide))) j) (h.pr h8 c1 c2) 12 0 ((mj_p0 M m 0 0).1 s) _ _ _ (by decide) (by decide) ⟨rfl, fun _ _ => rfl, fun _ _ => rfl⟩ (fun j hj hji => absurd hji (by omega)) (fun k _ => congrFun (wz_c nsm) k) (fun SF M2 hC h1 _ h20 => ?_)
      refine ⟨1, rfl, rfl, by unfold lr_take; rw [if_pos ⟨c1, c2⟩], fun z => absurd z (by decide), fun _ => ⟨fun j hj => ?_, (hC.2.2 220 (by decide)).trans h20⟩⟩
      obtain ⟨q1, q2, q3⟩ := h1 j hj (by omega)
      exact ⟨(hC.2.2 _ (by omega)).trans q1, (hC.2.2 _ (by omega)).trans q2, (hC.2.2 _ (by omega)).trans q3⟩
    · skip
      refine w_ic ?_
      exact w_iret (fun _ => Or.inl rfl) (no (fun z => c2 z.2))
section TD
variable {G : mj_G} {M M' : mj_M} {x s m kp kc : Nat} {w : Nat → Nat} {z : Int} {P : Nat → Int}
/-- between take of the class and of the reference -/
def lq_Dt (G : mj_G) (M : mj_M) (s kp kc : Nat) (w : Nat → Nat) (P : Nat → Int) (z : Int) : Prop := lq_DA G w ∧ lq_DB M w ∧ lq_Dk M kp kc w ∧ ∃ dn ds, lq_DN M w dn ds ∧ (z = 0 → rd_E M (M.1 s) 0 w dn) ∧ (z ≠ 0 → (∀ j, j < 12 → M.1 (w (dn + 1)) j = P j ∧ M.1 (w (dn + 2)) j = -1 ∧ M.1 (w (dn + 3)) j = tk_c (M.1 s) P j) ∧ M.1 (w dn) 3 = 12)
theorem lq_D.tk1 (h : lq_D G M s kp kc w) (hA : lq_A G w) (gs : G s = (51100, 537)) (gk : G kp = (70100, 1076)) (gc : G kc = (48102, 2)) (to : tk_o M M' (M.1 s) P w z) : lq_Dt G M' s kp kc w P z := by
  obtain ⟨dn, ds, hN, t0, t1⟩ := to
  by_cases hz : z = 0
  · have e := t0 hz
    subst e
    obtain ⟨hDA, hDB, ⟨dn, ds, hDN, hE⟩, hk⟩ := h
    exact ⟨hDA, hDB, hk, dn, ds, hDN, fun _ => hE, fun q => absurd hz q⟩
  · obtain ⟨e2, e1, ev, e3⟩ := t1 hz
    obtain ⟨hDA, hDB, -, hk⟩ := h
    have hn := hN.nin
    obtain ⟨g0, g1, g2, g3⟩ := hDA dn hn.1
    have tk : ∀ {a t u : Nat}, G a = (t, u) → t ≠ 1002 → t ≠ 16100 → t ≠ 17100 → t ≠ 18100 → M'.1 a = M.1 a := fun g h0 h1 h2 h3 => e1 _ (hn_ne g g0 h0) (hn_ne g g1 h1) (hn_ne g g2 h2) (hn_ne g g3 h3)
    have es : M'.1 s = M.1 s := tk gs (by decide) (by decide) (by decide) (by decide)
    have ek : M'.1 kp = M.1 kp := tk gk (by decide) (by decide) (by decide) (by decide)
    have ec : M'.1 kc = M.1 kc := tk gc (by decide) (by decide) (by decide) (by decide)
    have r2 : M'.2.2 = M.2.2 := by rw [e2]
    refine ⟨hDA, hDB.cg (fun _ _ _ _ => by rw [r2]) (fun _ _ => by rw [r2]), fun k hk2 h0 => ?_, dn, ds, ⟨by rw [r2]; exact hN.1, by rw [r2]; exact hN.2.1, hN.2.2⟩, fun q => absurd q hz, fun _ => ⟨fun j hj => by rw [es]; exact ev j hj, e3⟩⟩
    rw [ec] at h0; rw [ek]
    refine (hk k hk2 h0).cg (fun v hv => ?_) (fun _ _ => rfl)
    have hne := lq_Dl.ne hA (lq_di_in k) hn.1 (fun q => hn.2.2.2.1 k q.symm) hv
    exact e1 _ (hne (show 0 < 4 by decide)) (hne (by decide)) (hne (by decide)) (hne (by decide))
theorem lq_Dt.tk2 {W : List (Nat × Nat × Nat)} (h : lq_Dt G M s kp kc w P z) (hA : lq_A G w) (gk : G kp = (70100, 1076)) (gc : G kc = (48102, 2)) (f : ab_frm W G M M') (cW : ∀ q ∈ W, q.1 ≠ 1002 ∧ q.1 ≠ 16100 ∧ q.1 ≠ 17100 ∧ q.1 ≠ 18100 ∧ q.1 ≠ 1007 ∧ q.1 ≠ 70100 ∧ q.1 ≠ 48102) (o1 : z = 0 → M'.1 s = M.1 s) (o2 : z ≠ 0 → rq_T s P M M') : lq_D G M' s kp kc w := by
  obtain ⟨hDA, hDB, hk, dn, ds, hDN, h1, h2⟩ := h
  obtain ⟨hDB', hDN'⟩ := hDB.fr hDA hA f (fun q hq => ⟨Or.inl (cW q hq).1, Or.inl (cW q hq).2.2.2.2.1⟩)
  have hn := hDN.nin.1
  have fr : ∀ {a t n : Nat} (k : Nat), G a = (t, n) → (∀ q ∈ W, q.1 ≠ t) → M'.1 a k = M.1 a k := fun k g hh => (f _ k (by rw [g]; rintro ⟨r, hr, e1, e2, e3⟩; exact hh r hr e1)).1
  have ev : ∀ D, D ∈ lq_Dl → ∀ v, v < 4 → M'.1 (w (D + v)) = M.1 (w (D + v)) := fun D hD v hv => funext fun k => by
    obtain ⟨t, n, g, ht⟩ := hDA.gv hD hv
    exact fr k g (fun q hq => by have c := cW q hq; omega)
  have ek : M'.1 kp = M.1 kp := funext fun k => fr k gk (fun q hq => (cW q hq).2.2.2.2.2.1)
  have ec : M'.1 kc = M.1 kc := funext fun k => fr k gc (fun q hq => (cW q hq).2.2.2.2.2.2)
  refine ⟨hDA, hDB', ⟨dn, ds, hDN' _ _ hDN, ?_⟩, fun k hk2 h0 => ?_⟩
  · by_cases hz : z = 0
    · exact (h1 hz).cg (ev dn hn) (fun j _ => by rw [o1 hz])
    · obtain ⟨hE1, hE2⟩ := h2 hz
      obtain ⟨z1, z2⟩ := o2 hz
      refine ⟨fun j hj => ?_, ?_⟩
      · obtain ⟨a1, a2, a3⟩ := hE1 j hj
        obtain ⟨q1, q2, q3⟩ := z1 j hj
        rw [ev dn hn 1 (by decide), ev dn hn 2 (by decide), ev dn hn 3 (by decide), a1, a2, a3, Nat.zero_add, Nat.zero_add, Nat.zero_add, q1, q2, q3]
        exact ⟨by omega, rfl, rfl⟩
      · have e0 := ev dn hn 0 (by decide)
        rw [Nat.add_zero] at e0
        rw [e0, hE2, Nat.zero_add]; exact z2.symm
  · rw [ec] at h0; rw [ek]
    exact (hk k hk2 h0).cg (ev _ (lq_di_in k)) (fun _ _ => rfl)
end TD
end
section
/-! ===== the whole invariant with CONTRACTS ===== -/
section ZX
variable {G : mj_G} {M M' : mj_M} {x m tp s kp bc bt kc kr : Nat} {w : Nat → Nat} {c c' : Int}
def lp_Z (G : mj_G) (M : mj_M) (x m tp s kp bc bt kc kr : Nat) (w : Nat → Nat) (c : Int) : Prop := lp_Y G M x m tp s kp bc bt kc kr w c ∧ lq_D G M s kp kc w
theorem lp_Z.le (h : lp_Z G M x m tp s kp bc bt kc kr w c) (hc : c ≤ c') : lp_Z G M x m tp s kp bc bt kc kr w c' := ⟨h.1.le hc, h.2⟩
theorem lp_Z.mv (h : lp_Z G M x m tp s kp bc bt kc kr w c) (e1 : M'.1 = M.1) (e2 : M'.2.2 = M.2.2) (e3 : ∀ y k, (G y).1 ≠ 90103 → M'.2.1 y k = M.2.1 y k) : lp_Z G M' x m tp s kp bc bt kc kr w c := ⟨h.1.mv e1 e2 e3, h.2.mv e1 e2⟩
theorem sz_headD {w : sx_w} {h : sx_H} {G : mj_G} {M : mj_M} (hR : sx_RH w h G M) (k2 : sz_hk h = true) (hA : lq_A (sz_G w h G) w.2.2.2) : lq_D (sz_G w h G) (sz_M w h G M) (w.2.2.2 338) (w.2.2.2 357) (w.2.2.2 120) w.2.2.2 := by
  have n1 := (sz_hk_s k2).1
  obtain ⟨ya, yb, -, -, -⟩ := sz_hy_s k2
  have tg : ∀ i t n, (i, t, n) ∈ sz_lt → sz_G w h G (w.2.2.2 i) = (t, n) := fun i t n he => sz_tg_s (yb (i, t, n) he) hR (by have := sz_lt_lt _ he; omega)
  have rq : ∀ i k j, (i, k, j) ∈ sz_lr → (sz_M w h G M).2.2 (w.2.2.2 i) k = some (w.2.2.2 j) := fun i k j he => sz_rq_s (ya (i, k, j) he) hR (by have := (sz_lr_lt _ he).1; omega) (sz_lr_lt _ he).2
  have c0 : (sz_M w h G M).1 (w.2.2.2 120) 0 = 0 := sz_q_s hR k2 (by decide +kernel)
  have c1 : (sz_M w h G M).1 (w.2.2.2 120) 1 = 0 := sz_q_s hR k2 (by decide +kernel)
  have s0 : ∀ j, j < 37 → (sz_M w h G M).1 (w.2.2.2 338) (184 + j) = 0 := fun j hj => sz_q_s hR k2 ((by decide +kernel : ∀ j, j < 37 → sz_q 338 (184 + j) = true) j hj)
  have z3 : ∀ j, j < 12 → (sz_M w h G M).1 (w.2.2.2 55) j = 0 := fun j hj => sz_q_s hR k2 ((by decide +kernel : ∀ j, j < 12 → sz_q 55 j = true) j hj)
  have d3 : (sz_M w h G M).1 (w.2.2.2 52) 3 = 0 := sz_q_s hR k2 (by decide +kernel)
  have f1 : ∀ j, j < 12 → (sz_M w h G M).1 (w.2.2.2 53) j = -1 := fun j hj => sz_iv_s ((sz_hz_s k2).2 (53, j, -1) ((by decide +kernel : ∀ j, j < 12 → (53, j, (-1 : Int)) ∈ sz_lv) j hj)) hR (by omega) (by omega) (by
    have g := tg 53 16100 12 (by decide +kernel)
    rw [sz_G_in (by omega)] at g
    rw [g]
    exact (by decide : ∀ j, j < 12 → j < sz_bd 16100 12) j hj)
  have f2 : ∀ j, j < 12 → (sz_M w h G M).1 (w.2.2.2 54) j = -1 := fun j hj => sz_iv_s ((sz_hz_s k2).2 (54, j, -1) ((by decide +kernel : ∀ j, j < 12 → (54, j, (-1 : Int)) ∈ sz_lv) j hj)) hR (by omega) (by omega) (by
    have g := tg 54 17100 12 (by decide +kernel)
    rw [sz_G_in (by omega)] at g
    rw [g]
    exact (by decide : ∀ j, j < 12 → j < sz_bd 17100 12) j hj)
  refine ⟨fun D hD => ?_, ⟨fun D hD => ?_, fun k hk => ?_⟩, ⟨52, 97, ⟨rq _ _ _ (by decide +kernel), rq _ _ _ (by decide +kernel), Or.inl ⟨rfl, rfl⟩⟩, fun j hj => ?_, ?_⟩, fun k hk h0 => ?_⟩
  · rcases lq_Dl4 hD with z | z | z | z <;> subst z <;> exact ⟨tg _ _ _ (by decide +kernel), tg _ _ _ (by decide +kernel), tg _ _ _ (by decide +kernel), tg _ _ _ (by decide +kernel)⟩
  · rcases lq_Dl4 hD with z | z | z | z <;> subst z <;> exact ⟨rq _ _ _ (by decide +kernel), rq _ _ _ (by decide +kernel), rq _ _ _ (by decide +kernel)⟩
  · rcases (by omega : k = 0 ∨ k = 1) with z | z <;> subst z
    · exact rq 246 1 269 (by decide +kernel)
    · exact rq 291 1 314 (by decide +kernel)
  · have a1 := s0 (3 * j) (by omega)
    have a2 := s0 (3 * j + 1) (by omega)
    have a3 := s0 (3 * j + 2) (by omega)
    rw [Nat.zero_add, Nat.zero_add, Nat.zero_add, a1, show 185 + 3 * j = 184 + (3 * j + 1) by omega, a2, show 186 + 3 * j = 184 + (3 * j + 2) by omega, a3]
    exact ⟨f1 j hj, f2 j hj, z3 j hj⟩
  · rw [Nat.zero_add]; exact d3.trans (s0 36 (by decide)).symm
  · exfalso
    rcases (by omega : k = 0 ∨ k = 1) with z | z <;> subst z
    · exact h0 c0
    · exact h0 c1
end ZX
end
section
/-! ===== a MONTH of the YEAR as a pure thing: H the PLAIN and CONTRACTS (as s has them), g the YEAR's numbers (222 to 231), R the TOWNS' rows, l to whom the MONTHS were let ===== -/
def ye_ru (R : Nat → Nat → Int) (t : Nat) (r : Nat → Int) : Nat → Nat → Int := fun s => if s = t then r else R s
section YR
variable {R : Nat → Nat → Int} {t s w : Nat} {r r' : Nat → Int}
theorem ye_ru_s : ye_ru R t r t = r := if_pos rfl
theorem ye_ru_n (h : s ≠ t) : ye_ru R t r s = R s := if_neg h
theorem ye_ru_o : ye_ru R t (R t) = R := funext fun s => by
  by_cases h : s = t
  · rw [h]; exact ye_ru_s
  · exact ye_ru_n h
theorem ye_ru_2 : ye_ru (ye_ru R t r) t r' = ye_ru R t r' := funext fun s => by
  by_cases h : s = t
  · rw [h, ye_ru_s, ye_ru_s]
  · rw [ye_ru_n h, ye_ru_n h, ye_ru_n h]
theorem ye_ru_c (h : ∀ w, w < 11 → r w = r' w) : ∀ s w, s < 8 → w < 11 → ye_ru R t r s w = ye_ru R t r' s w := fun s w _ hw => by
  by_cases e : s = t
  · rw [e, ye_ru_s, ye_ru_s]; exact h w hw
  · rw [ye_ru_n e, ye_ru_n e]
end YR
theorem ye_11 {P : Nat → Prop} (h0 : P 0) (h1 : P 1) (h2 : P 2) (h3 : P 3) (h4 : P 4) (h5 : P 5) (h6 : P 6) (h7 : P 7) (h8 : P 8) (h9 : P 9) (h10 : P 10) : ∀ w, w < 11 → P w := fun w hw => by
  rcases (by omega : w = 0 ∨ w = 1 ∨ w = 2 ∨ w = 3 ∨ w = 4 ∨ w = 5 ∨ w = 6 ∨ w = 7 ∨ w = 8 ∨ w = 9 ∨ w = 10) with e | e | e | e | e | e | e | e | e | e | e <;> subst e <;> assumption
theorem ye_10 {P : Nat → Prop} (h0 : P 222) (h1 : P 223) (h2 : P 224) (h3 : P 225) (h4 : P 226) (h5 : P 227) (h6 : P 228) (h7 : P 229) (h8 : P 230) (h9 : P 231) : ∀ w, 222 ≤ w → w < 232 → P w := fun w hv hw => by
  rcases (by omega : w = 222 ∨ w = 223 ∨ w = 224 ∨ w = 225 ∨ w = 226 ∨ w = 227 ∨ w = 228 ∨ w = 229 ∨ w = 230 ∨ w = 231) with e | e | e | e | e | e | e | e | e | e <;> subst e <;> assumption
abbrev ye_cp (R : Nat → Nat → Int) (t : Nat) (z : Int) : Prop := R t 3 = 0 ∧ z ≤ R t 1
def ye_a (z o : Int) : Int := if o < 0 then z else z - z / 2
/-- the greatest bid among the first towns, and whose it is -/
def ye_bb (H : Nat → Int) (R : Nat → Nat → Int) (m : Nat) : Nat → Int × Int
  | 0 => (8, 0)
  | t + 1 => if (ye_bb H R m t).2 < H (88 + 12 * t + m) ∧ ye_cp R t (H (88 + 12 * t + m)) then ((t : Int), H (88 + 12 * t + m)) else ye_bb H R m t
/-- whether the CONTRACT for a MONTH can't be paid, or is the SEA's -/
abbrev ye_no (H : Nat → Int) (R : Nat → Nat → Int) (m : Nat) : Prop := H (184 + 3 * m) = 9 ∨ ¬ ye_cp R (H (184 + 3 * m) - 1).toNat (ye_a (H (186 + 3 * m)) (H (185 + 3 * m) - 1)) ∨ (0 < H (185 + 3 * m) ∧ ¬ ye_cp R (H (185 + 3 * m) - 1).toNat (H (186 + 3 * m) / 2))
def ye_le (H : Nat → Int) (R : Nat → Nat → Int) (m : Nat) : Int × Int × Int :=
  if 0 < H (184 + 3 * m) then (if ye_no H R m then (8, -1, 0) else (H (184 + 3 * m) - 1, H (185 + 3 * m) - 1, H (186 + 3 * m)))
  else ((ye_bb H R m (H 0).toNat).1, -1, (ye_bb H R m (H 0).toNat).2)
def ye_pr (r : Nat → Int) (z : Int) : Nat → Int := rv_up (rv_up r 1 (r 1 - z)) 5 (r 5 + z)
def ye_p1 (R : Nat → Nat → Int) (t : Int) (z : Int) : Nat → Nat → Int := ye_ru R t.toNat (ye_pr (R t.toNat) z)
/-- who pays -/
def ye_R1 (R : Nat → Nat → Int) (L O P : Int) : Nat → Nat → Int := if L = 8 then R else if O < 0 then ye_p1 R L P else ye_p1 (ye_p1 R L (P - P / 2)) O (P / 2)
def ye_pl (H : Nat → Int) (k : Int) : Int := if k = 8 then H 0 else k
def ye_wy (H g : Nat → Int) (L : Int) : Int := if ye_pl H L - ye_pl H (g 223) < 0 then -(ye_pl H L - ye_pl H (g 223)) else ye_pl H L - ye_pl H (g 223)
def ye_br (H A B : Nat → Int) (m : Nat) (k : Int) : Int := if k = 8 ∨ k = -1 then 0 else if 0 < m ∧ (A (m - 1) = k ∨ B (m - 1) = k) then 0 else H (10 + 9 * k.toNat)
def ye_co (H g A B : Nat → Int) (m : Nat) (L O : Int) : Int := H 1 * ye_wy H g L + ye_br H A B m L + ye_br H A B m O
/-- the river moves -/
def ye_g1 (H g A B : Nat → Int) (m : Nat) (L O P : Int) : Nat → Int := rv_up (rv_up (rv_up (rv_up g 224 (g 224 + P - ye_co H g A B m L O)) 231 (g 231 + ye_co H g A B m L O)) 225 (if g 225 - ye_wy H g L < 0 then 0 else g 225 - ye_wy H g L)) 223 L
def ye_se (H : Nat → Int) (t z : Int) : Int := if z < H (4 + 9 * t.toNat) then z else H (4 + 9 * t.toNat)
def ye_in (H : Nat → Int) (R : Nat → Nat → Int) (t z : Int) : Int := if z - ye_se H t z < H (5 + 9 * t.toNat) - R t.toNat 0 then z - ye_se H t z else H (5 + 9 * t.toNat) - R t.toNat 0
/-- WATER comes to a TOWN: its row, the numbers -/
def ye_pc (r : Nat → Int) (c : Int) : Nat → Int := rv_up (rv_up r 0 (r 0 + c)) 6 (r 6 + c)
def ye_mi (H : Nat → Int) (t : Nat) (r : Nat → Int) : Nat → Int := rv_up (rv_up r 1 (r 1 + H (9 + 9 * t))) 4 (r 4 + 1)
def ye_c1 (H : Nat → Int) (R : Nat → Nat → Int) (g : Nat → Int) (t z : Int) : Nat → Int := rv_up (rv_up g 228 (g 228 + ye_se H t z)) 229 (g 229 + (z - ye_se H t z - ye_in H R t z))
def ye_cR (H : Nat → Int) (R : Nat → Nat → Int) (t z : Int) : Nat → Nat → Int := ye_ru R t.toNat (ye_pc (R t.toNat) (ye_in H R t z))
def ye_R2 (H : Nat → Int) (R : Nat → Nat → Int) (L O W : Int) : Nat → Nat → Int := if L = 8 then R else if O < 0 then ye_cR H R L W else ye_cR H (ye_cR H R L (W - W / 2)) O (W / 2)
def ye_g2 (H : Nat → Int) (R : Nat → Nat → Int) (g : Nat → Int) (L O W : Int) : Nat → Int := if L = 8 then rv_up g 229 (g 229 + W) else if O < 0 then ye_c1 H R (rv_up g 230 (g 230 + 1)) L W else ye_c1 H (ye_cR H R L (W - W / 2)) (ye_c1 H R (rv_up g 230 (g 230 + 1)) L (W - W / 2)) O (W / 2)
/-- the mills of those to whom the MONTH is let -/
def ye_ml (H : Nat → Int) (L O : Int) (R : Nat → Nat → Int) : Nat → Nat → Int := fun t => if (t : Int) = L ∨ (t : Int) = O then ye_mi H t (R t) else R t
def ye_u (H : Nat → Int) (t : Nat) (r : Nat → Int) : Int := if r 0 < H (6 + 9 * t) then r 0 else H (6 + 9 * t)
def ye_d (H : Nat → Int) (t : Nat) (r : Nat → Int) : Int := if ye_u H t r < H (6 + 9 * t) then r 2 + 1 else 0
def ye_sp (H : Nat → Int) (t : Nat) (r : Nat → Int) : Int := if H 3 ≤ ye_d H t r then r 0 - ye_u H t r else 0
def ye_fl (H : Nat → Int) (t : Nat) (r : Nat → Int) : Int := if 0 < H (11 + 9 * t) ∧ H (11 + 9 * t) ≤ r 0 - ye_u H t r - ye_sp H t r then H (11 + 9 * t) else 0
def ye_gr (H : Nat → Int) (t : Nat) (r : Nat → Int) : Int := if 0 < H (11 + 9 * t) ∧ H (11 + 9 * t) ≤ r 0 - ye_u H t r - ye_sp H t r then r 10 + 1 else 0
/-- a TOWN uses its WATER: its row -/
def ye_dk (H : Nat → Int) (t : Nat) (r : Nat → Int) : Nat → Int := fun w => if w = 0 then r 0 - ye_u H t r - ye_sp H t r - ye_fl H t r else if w = 2 then ye_d H t r else if w = 3 then (if H 3 ≤ ye_d H t r then 1 else r 3) else if w = 7 then (if ye_u H t r < H (6 + 9 * t) then r 7 + 1 else r 7) else if w = 8 then (if r 8 < ye_gr H t r then ye_gr H t r else r 8) else if w = 10 then ye_gr H t r else r w
def ye_sm (f : Nat → Int) : Nat → Int
  | 0 => 0
  | k + 1 => ye_sm f k + f k
/-- the first k TOWNS have used -/
def ye_R3 (H : Nat → Int) (F : Nat → Nat → Int) (k : Nat) : Nat → Nat → Int := fun t => if t < k then ye_dk H t (F t) else F t
def ye_g3 (H : Nat → Int) (F : Nat → Nat → Int) (g : Nat → Int) (k : Nat) : Nat → Int := rv_up (rv_up g 227 (g 227 + ye_sm (fun t => ye_u H t (F t) + ye_fl H t (F t)) k)) 229 (g 229 + ye_sm (fun t => ye_sp H t (F t)) k)
def ye_hv (H : Nat → Int) (t : Nat) (r : Nat → Int) : Nat → Int := rv_up (rv_up r 9 (r 9 + H (12 + 9 * t) * r 8)) 1 (r 1 + (r 9 + H (12 + 9 * t) * r 8))
def ye_R4 (H : Nat → Int) (F : Nat → Nat → Int) (k : Nat) : Nat → Nat → Int := fun t => if t < k then ye_hv H t (F t) else F t
/-- one MONTH, x more WATER in it -/
def ye_mR (H : Nat → Int) (x : Int) (g : Nat → Int) (R : Nat → Nat → Int) : Nat → Nat → Int :=
  let m := (g 222).toNat
  let d := ye_le H R m
  let F := ye_R3 H (ye_ml H d.1 d.2.1 (ye_R2 H (ye_R1 R d.1 d.2.1 d.2.2) d.1 d.2.1 (H (76 + m) + x))) (H 0).toNat
  if g 222 = 11 then ye_R4 H F (H 0).toNat else F
def ye_mg (H : Nat → Int) (x : Int) (g : Nat → Int) (R : Nat → Nat → Int) (A B : Nat → Int) : Nat → Int :=
  let m := (g 222).toNat
  let d := ye_le H R m
  let R1 := ye_R1 R d.1 d.2.1 d.2.2
  let W := H (76 + m) + x
  let g1 := ye_g1 H g A B m d.1 d.2.1 d.2.2
  let g2 := ye_g2 H R1 (rv_up g1 226 (g1 226 + W)) d.1 d.2.1 W
  rv_up (ye_g3 H (ye_ml H d.1 d.2.1 (ye_R2 H R1 d.1 d.2.1 W)) g2 (H 0).toNat) 222 (g 222 + 1)
theorem ye_le1 {H : Nat → Int} {R : Nat → Nat → Int} {m : Nat} (h : 0 < H (184 + 3 * m)) (n : ye_no H R m) : ye_le H R m = (8, -1, 0) := by unfold ye_le; rw [if_pos h, if_pos n]
theorem ye_le2 {H : Nat → Int} {R : Nat → Nat → Int} {m : Nat} (h : 0 < H (184 + 3 * m)) (n : ¬ ye_no H R m) : ye_le H R m = (H (184 + 3 * m) - 1, H (185 + 3 * m) - 1, H (186 + 3 * m)) := by unfold ye_le; rw [if_pos h, if_neg n]
theorem ye_le3 {H : Nat → Int} {R : Nat → Nat → Int} {m : Nat} (h : ¬ 0 < H (184 + 3 * m)) : ye_le H R m = ((ye_bb H R m (H 0).toNat).1, -1, (ye_bb H R m (H 0).toNat).2) := by unfold ye_le; rw [if_neg h]
theorem ye_half {x z : Int} (h0 : 0 ≤ x) (hx : x < 2147483648) (e : z = (Int32.ofInt x / Int32.ofInt 2).toInt) : z = x / 2 := by
  have h := cs_idiv h0 (by decide : (0 : Int) < 2) ⟨by omega, by omega⟩ ⟨by decide, by decide⟩ e
  have e2 : ((2 : Int).toNat) = 2 := rfl
  rw [e2] at h
  omega
theorem ye_bb_b {H : Nat → Int} {R : Nat → Nat → Int} {m : Nat} (hb : ∀ t, t < 8 → 0 ≤ H (88 + 12 * t + m) ∧ H (88 + 12 * t + m) ≤ 999) : ∀ t, t ≤ 8 → (0 ≤ (ye_bb H R m t).2 ∧ (ye_bb H R m t).2 ≤ 999) ∧ (((ye_bb H R m t).1 = 8 ∧ (ye_bb H R m t).2 = 0) ∨ (0 ≤ (ye_bb H R m t).1 ∧ (ye_bb H R m t).1 < (t : Int) ∧ ye_cp R (ye_bb H R m t).1.toNat (ye_bb H R m t).2))
  | 0, _ => ⟨⟨Int.le_refl 0, (by decide : (0 : Int) ≤ 999)⟩, Or.inl ⟨rfl, rfl⟩⟩
  | t + 1, ht => by
    have ih := ye_bb_b (R := R) hb t (by omega)
    have h2 := hb t (by omega)
    unfold ye_bb
    by_cases c : (ye_bb H R m t).2 < H (88 + 12 * t + m) ∧ ye_cp R t (H (88 + 12 * t + m))
    · rw [if_pos c]
      exact ⟨h2, Or.inr ⟨by show (0 : Int) ≤ (t : Int); omega, by show (t : Int) < ((t + 1 : Nat) : Int); omega, by show ye_cp R (t : Int).toNat _; rw [Int.toNat_natCast]; exact c.2⟩⟩
    · rw [if_neg c]
      refine ⟨ih.1, ih.2.imp id (fun q => ⟨q.1, ?_, q.2.2⟩)⟩
      have := q.2.1
      omega
theorem ye_mR_e {H g : Nat → Int} {R : Nat → Nat → Int} {x mi L O P : Int} (hm : g 222 = mi) (hl : ye_le H R mi.toNat = (L, O, P)) : ye_mR H x g R = (if mi = 11 then ye_R4 H (ye_R3 H (ye_ml H L O (ye_R2 H (ye_R1 R L O P) L O (H (76 + mi.toNat) + x))) (H 0).toNat) (H 0).toNat else (ye_R3 H (ye_ml H L O (ye_R2 H (ye_R1 R L O P) L O (H (76 + mi.toNat) + x))) (H 0).toNat)) := by
  have e : ye_mR H x g R = (if g 222 = 11 then ye_R4 H (ye_R3 H (ye_ml H (ye_le H R (g 222).toNat).1 (ye_le H R (g 222).toNat).2.1 (ye_R2 H (ye_R1 R (ye_le H R (g 222).toNat).1 (ye_le H R (g 222).toNat).2.1 (ye_le H R (g 222).toNat).2.2) (ye_le H R (g 222).toNat).1 (ye_le H R (g 222).toNat).2.1 (H (76 + (g 222).toNat) + x))) (H 0).toNat) (H 0).toNat else (ye_R3 H (ye_ml H (ye_le H R (g 222).toNat).1 (ye_le H R (g 222).toNat).2.1 (ye_R2 H (ye_R1 R (ye_le H R (g 222).toNat).1 (ye_le H R (g 222).toNat).2.1 (ye_le H R (g 222).toNat).2.2) (ye_le H R (g 222).toNat).1 (ye_le H R (g 222).toNat).2.1 (H (76 + (g 222).toNat) + x))) (H 0).toNat)) := rfl
  rw [e, hm, hl]
theorem ye_mg_e {H g A B : Nat → Int} {R : Nat → Nat → Int} {x mi L O P : Int} (hm : g 222 = mi) (hl : ye_le H R mi.toNat = (L, O, P)) : ye_mg H x g R A B = (rv_up (ye_g3 H (ye_ml H L O (ye_R2 H (ye_R1 R L O P) L O (H (76 + mi.toNat) + x))) (ye_g2 H (ye_R1 R L O P) (rv_up (ye_g1 H g A B mi.toNat L O P) 226 ((ye_g1 H g A B mi.toNat L O P) 226 + (H (76 + mi.toNat) + x))) L O (H (76 + mi.toNat) + x)) (H 0).toNat) 222 (mi + 1)) := by
  have e : ye_mg H x g R A B = (rv_up (ye_g3 H (ye_ml H (ye_le H R (g 222).toNat).1 (ye_le H R (g 222).toNat).2.1 (ye_R2 H (ye_R1 R (ye_le H R (g 222).toNat).1 (ye_le H R (g 222).toNat).2.1 (ye_le H R (g 222).toNat).2.2) (ye_le H R (g 222).toNat).1 (ye_le H R (g 222).toNat).2.1 (H (76 + (g 222).toNat) + x))) (ye_g2 H (ye_R1 R (ye_le H R (g 222).toNat).1 (ye_le H R (g 222).toNat).2.1 (ye_le H R (g 222).toNat).2.2) (rv_up (ye_g1 H g A B (g 222).toNat (ye_le H R (g 222).toNat).1 (ye_le H R (g 222).toNat).2.1 (ye_le H R (g 222).toNat).2.2) 226 ((ye_g1 H g A B (g 222).toNat (ye_le H R (g 222).toNat).1 (ye_le H R (g 222).toNat).2.1 (ye_le H R (g 222).toNat).2.2) 226 + (H (76 + (g 222).toNat) + x))) (ye_le H R (g 222).toNat).1 (ye_le H R (g 222).toNat).2.1 (H (76 + (g 222).toNat) + x)) (H 0).toNat) 222 (g 222 + 1)) := rfl
  rw [e, hm, hl]
end
