section
/-! ===== YEARS through plain, image, restore, contracts, take, begin, on ===== -/
/-- between plain of the class and of the reference -/
def lq_Wq (G : mj_G) (M : mj_M) (m s kp kc : Nat) (w : Nat → Nat) (y : rv_Om) : Prop := lq_WA G w ∧ lq_WB M w ∧ M.1 m 32 = -1 ∧ (∀ k, k < 2 → M.1 kc k ≠ 0 → yw_F M (M.1 kp) (538 * k) w (lq_yi k)) ∧ (∀ e, y = .inl e → yw_F M (M.1 s) 0 w 61) ∧ (∀ e, y = .inr e → M.1 (w 61) 0 = 0)
/-- image, restore of the class as far as YEARS go -/
def lq_yiy (G : mj_G) (M M' : mj_M) (kc : Nat) (w : Nat → Nat) (z1 : Int) : Prop := (¬ (0 ≤ z1 ∧ z1 ≤ 1) → M' = M) ∧ ∀ k : Nat, k < 2 → z1 = (k : Int) → ∃ M1 M2, ye_al G M M1 ∧ yk_cp w (lq_yi k) 61 M1 M2 ∧ M' = mj_p0 M2 kc k 1
def lq_yry (G : mj_G) (M M' : mj_M) (kc ud : Nat) (w : Nat → Nat) (z1 : Int) : Prop := ((∀ k : Nat, k < 2 → z1 = (k : Int) → M.1 kc k = 0) → M' = M) ∧ ∀ k : Nat, k < 2 → z1 = (k : Int) → M.1 kc k ≠ 0 → ∃ M1 M2, ye_al G M M1 ∧ yk_cp w 61 (lq_yi k) M1 M2 ∧ M' = mj_p0 M2 ud 3 0
def lq_Wi (G : mj_G) (M : mj_M) (m s kp kc : Nat) (w : Nat → Nat) (z1 : Int) : Prop := lq_WA G w ∧ lq_WB M w ∧ M.1 m 32 = -1 ∧ yw_F M (M.1 s) 0 w 61 ∧ (∀ k : Nat, k < 2 → z1 ≠ (k : Int) → M.1 kc k ≠ 0 → yw_F M (M.1 kp) (538 * k) w (lq_yi k)) ∧ (∀ k : Nat, k < 2 → z1 = (k : Int) → yw_F M (M.1 s) 0 w (lq_yi k))
def lq_Wr (G : mj_G) (M : mj_M) (m s kp kc : Nat) (w : Nat → Nat) (z1 : Int) : Prop := lq_WA G w ∧ lq_WB M w ∧ M.1 m 32 = -1 ∧ (∀ k, k < 2 → M.1 kc k ≠ 0 → yw_F M (M.1 kp) (538 * k) w (lq_yi k)) ∧ ((∀ k : Nat, k < 2 → z1 = (k : Int) → M.1 kc k = 0) → yw_F M (M.1 s) 0 w 61) ∧ (∀ k : Nat, k < 2 → z1 = (k : Int) → M.1 kc k ≠ 0 → yw_F M (M.1 kp) (538 * k) w 61)
/-- between begin, on of the class and of the reference -/
def lq_Wo (G : mj_G) (M : mj_M) (m s kp kc : Nat) (w : Nat → Nat) (T : ye_T) : Prop := lq_WA G w ∧ lq_WB M w ∧ M.1 m 32 = -1 ∧ (∀ k, k < 2 → M.1 kc k ≠ 0 → yw_F M (M.1 kp) (538 * k) w (lq_yi k)) ∧ yd_ok (M.1 s) ∧ M.1 (w 61) 0 = 1 ∧ yw_V M w 61 T ∧ ye_okT (M.1 s) T
section YO
variable {G : mj_G} {M M' M1 M2 : mj_M} {x s m kp kc tp ud dn ik r : Nat} {w : Nat → Nat} {z1 z : Int} {H H' R P : Nat → Int} {o o' Y Y' : Nat} {T T' : ye_T} {W : List (Nat × Nat × Nat)}
set_option maxRecDepth 100000 in
theorem lq_W.pl1 {y : rv_Om} (h : lq_W G M m s kp kc w) (hA : lq_A G w) (gx : G x = (1011, 0)) (gm : G m = (1012, 0)) (gtp : G tp = (1008, 0)) (gs : G s = (51100, 537)) (gk : G kp = (70100, 1076)) (gc : G kc = (48102, 2)) (py : lq_py G M M' x tp w y) : lq_Wq G M' m s kp kc w y := by
  obtain ⟨p, q, oa, dl, fa, sa, ca, se, ye, ud, hN, goa, hX, hF, hO⟩ := py
  obtain ⟨⟨-, g74, g29, gse, gye, gud, gdl, gfa, gsa, gca, d0, d1, d2⟩, x_x0, x_x1, x_x2, x_x5, x_sp0, x_nw0, x_nw1, x_nw2, x_nw3⟩ := id hX
  obtain ⟨gq, gqn, -, -, gqw, gqt, gqb⟩ := hA.2.1 q hN.qin.1
  obtain ⟨gA, gB, m32, hn, hk⟩ := id h
  rcases y with e | ⟨PL, WA, OA, TO, BI, nm, r⟩
  · obtain ⟨⟨f2, fl, f1⟩, -⟩ := hF e rfl
    have tg : ∀ {a t u : Nat}, G a = (t, u) → t ≠ 1004 → t ≠ 26100 → t ≠ 28100 → t ≠ 29100 → t ≠ 30100 → t ≠ 1011 → t ≠ 1008 → M'.1 a = M.1 a := fun ga n1 n4 n6 n7 n8 n9 n10 => f1 _ (hn_ne ga gx n9) (hn_ne ga gtp n10) (hn_ne ga gq n1) (hn_ne ga gqw n7) (hn_ne ga goa n8) (fun t ht => hn_ne ga (gqt t ht) n4) (fun t ht => hn_ne ga (gqb t ht) n6)
    have rf : ∀ {a t u : Nat} (j : Nat), G a = (t, u) → t ≠ 1008 → M'.2.2 a j = M.2.2 a j := fun j g h1 => f2 _ j (fun e => hn_ne g gtp h1 e.1)
    obtain ⟨v1, v2, v3, v4, v5⟩ := h.cg (M' := M') (gB.cg (fun Y hY k _ _ => rf k (gA Y hY).1 (by decide)) (fun Y hY t _ => rf t (gA Y hY).2.2.2.2.1 (by decide)) (fun i hi => rf 3 (show G (w i) = (1007, 0) by rcases hi with z | z | z <;> subst z <;> first | exact g29 | exact hA.2.2.2.2.1 | exact hA.2.2.2.2.2.1) (by decide))) (congrFun (tg gm (by decide) (by decide) (by decide) (by decide) (by decide) (by decide) (by decide)) 32) (fun Y hY v hv => by
      obtain ⟨t, n, g, ht⟩ := yw_gv gA hY hv
      exact tg g (by omega) (by omega) (by omega) (by omega) (by omega) (by omega) (by omega)) (fun j _ => congrFun (tg gs (by decide) (by decide) (by decide) (by decide) (by decide) (by decide) (by decide)) j) (tg gk (by decide) (by decide) (by decide) (by decide) (by decide) (by decide) (by decide)) (tg gc (by decide) (by decide) (by decide) (by decide) (by decide) (by decide) (by decide))
    exact ⟨v1, v2, v3, v5, fun _ _ => v4, fun _ e => by cases e⟩
  · obtain ⟨⟨o1, o2, o3, o4, o5, o6, o7, o8, o9, fo⟩, u1, u2, -⟩ := hO _ _ _ _ _ _ _ rfl
    have eye : ye = w 61 := Option.some.inj (x_nw3.symm.trans gB.2.1)
    have rf : ∀ {a t u : Nat} (j : Nat), G a = (t, u) → t ≠ 1008 → (t ≠ 1007 ∨ j ≠ 0) → M'.2.2 a j = M.2.2 a j := fun j g h1 h2 => o8 _ j (fun e => hn_ne g gtp h1 e.1) (fun e => h2.elim (fun z => hn_ne g g29 z e.1) (fun z => z e.2)) (fun e => h2.elim (fun z => hn_ne g g74 z e.1) (fun z => z e.2))
    have tg : ∀ {a t u : Nat}, G a = (t, u) → t ≠ 1004 → t ≠ 26100 → t ≠ 28100 → t ≠ 29100 → t ≠ 30100 → t ≠ 1011 → t ≠ 1008 → t ≠ 1006 → t ≠ 1009 → t ≠ 1002 → t ≠ 16100 → t ≠ 17100 → t ≠ 18100 → a ≠ ye → M'.1 a = M.1 a := fun ga n1 n4 n6 n7 n8 n9 n10 m5 m7 m1 m2 m3 m4 m6 => fo _ (hn_ne ga gx n9) (hn_ne ga gtp n10) (hn_ne ga gq n1) (hn_ne ga gqw n7) (hn_ne ga goa n8) (fun t ht => hn_ne ga (gqt t ht) n4) (fun t ht => hn_ne ga (gqb t ht) n6) (hn_ne ga gdl m1) (hn_ne ga gfa m2) (hn_ne ga gsa m3) (hn_ne ga gca m4) (hn_ne ga gse m5) m6 (hn_ne ga gud m7)
    have im : ∀ k v, v < 13 → M'.1 (w (lq_yi k + v)) = M.1 (w (lq_yi k + v)) := fun k v hv => by
      obtain ⟨t, n, g, ht⟩ := yw_gv gA (lq_yi_in k).1 hv
      exact tg g (by omega) (by omega) (by omega) (by omega) (by omega) (by omega) (by omega) (by omega) (by omega) (by omega) (by omega) (by omega) (by omega) (by rw [eye]; exact yw_w (j := 0) hA (lq_yi_in k).1 (by decide) hv (by decide) (Or.inl (lq_yi_in k).2))
    have ek : M'.1 kp = M.1 kp := tg gk (by decide) (by decide) (by decide) (by decide) (by decide) (by decide) (by decide) (by decide) (by decide) (by decide) (by decide) (by decide) (by decide) (hn_ne gk gye (by decide))
    have ec : M'.1 kc = M.1 kc := tg gc (by decide) (by decide) (by decide) (by decide) (by decide) (by decide) (by decide) (by decide) (by decide) (by decide) (by decide) (by decide) (by decide) (hn_ne gc gye (by decide))
    refine ⟨gA, gB.cg (fun Y hY k _ _ => rf k (gA Y hY).1 (by decide) (Or.inl (by decide))) (fun Y hY t _ => rf t (gA Y hY).2.2.2.2.1 (by decide) (Or.inl (by decide))) (fun i hi => rf 3 (show G (w i) = (1007, 0) by rcases hi with z | z | z <;> subst z <;> first | exact g29 | exact hA.2.2.2.2.1 | exact hA.2.2.2.2.2.1) (by decide) (Or.inr (by decide))), (congrFun (tg gm (by decide) (by decide) (by decide) (by decide) (by decide) (by decide) (by decide) (by decide) (by decide) (by decide) (by decide) (by decide) (by decide) (hn_ne gm gye (by decide))) 32).trans m32, fun k hk2 h0 => ?_, (fun _ e => by cases e), fun _ _ => by rw [← eye]; exact u2⟩
    rw [ec] at h0; rw [ek]
    exact (hk k hk2 h0).cg (yw_q.of (im k)) (fun _ _ => rfl)
theorem yd_ok.of0 (h0 : 0 ≤ H 0) (h : ∀ j, j < 36 → H (184 + j) = 0) : yd_ok H := fun j hj => by
  have e1 := h (3 * j) (by omega)
  have e2 := h (1 + 3 * j) (by omega)
  have e3 := h (2 + 3 * j) (by omega)
  rw [show 184 + (1 + 3 * j) = 185 + 3 * j by omega] at e2
  rw [show 184 + (2 + 3 * j) = 186 + 3 * j by omega] at e3
  rw [e1, e2, e3]
  exact ⟨Int.le_refl 0, Or.inl h0, Int.le_refl 0, h0, fun q => absurd q (Int.lt_irrefl 0), Int.le_refl 0, by decide⟩
theorem lq_Wq.pl2 {y : rv_Om} (h : lq_Wq G M m s kp kc w y) (hA : lq_A G w) (f : ab_frm W G M M') (cW : lq_Wu W) (e32 : M'.1 m 32 = M.1 m 32) (ek : M'.1 kp = M.1 kp) (ec : M'.1 kc = M.1 kc) (o1 : ∀ e, y = .inl e → M'.1 s = M.1 s) (o2 : ∀ e, y = .inr e → ∀ j, 184 ≤ j → j < 537 → M'.1 s j = 0) (b0 : 0 ≤ M'.1 s 0) : lq_W G M' m s kp kc w := by
  obtain ⟨gA, gB, m32, hk, h1, h2⟩ := h
  obtain ⟨hB, hv⟩ := gB.fr gA hA f cW
  refine ⟨gA, hB, e32.trans m32, ?_, fun k hk2 h0 => ?_⟩
  · rcases y with e | e
    · exact (h1 e rfl).cg (yw_q.of (hv 61 (by decide))) (fun j _ => by rw [o1 e rfl])
    · have z := o2 e rfl
      have e221 : M'.1 s (0 + 221) = 0 := z 221 (by decide) (by decide)
      refine ⟨⟨((congrFun (hv 61 (by decide) 0 (by decide)) 0).trans (h2 e rfl)).trans e221.symm, Or.inl e221, fun c => ?_⟩, (yd_ok.of0 b0 (fun j hj => z _ (by omega) (by omega))).zz⟩
      rw [e221] at c; exact absurd c (by decide)
  · rw [ec] at h0; rw [ek]
    exact (hk k hk2 h0).cg (yw_q.of (hv _ (lq_yi_in k).1)) (fun _ _ => rfl)
theorem ye_al.WB (h : ye_al G M M') (hB : lq_WB M w) (gA : lq_WA G w) (hA : lq_A G w) : lq_WB M' w := hB.cg (fun Y hY k _ _ => congrFun ((h _).2 (Or.inl (by rw [(gA Y hY).1]; exact Or.inl rfl))) k) (fun Y hY t _ => congrFun ((h _).2 (Or.inl (by rw [(gA Y hY).2.2.2.2.1]; exact Or.inr (Or.inr (Or.inr (Or.inr (Or.inl rfl))))))) t) (fun i hi => congrFun ((h _).2 (Or.inr (Or.inl (by rcases hi with z | z | z <;> subst z <;> first | rw [hA.2.2.1] | rw [hA.2.2.2.2.1] | rw [hA.2.2.2.2.2.1])))) 3)
theorem ye_al.v (h : ye_al G M M') (gA : lq_WA G w) (hY : Y ∈ yw_Y) {v : Nat} (hv : v < 13) : M'.1 (w (Y + v)) = M.1 (w (Y + v)) := (h _).1 (by
  obtain ⟨t, n, g, ht⟩ := yw_gv gA hY hv
  rw [g]; unfold ye_tg; show t = 1010 ∨ _; omega)
/-- a cell that is none of the YEAR at Y -/
theorem yw_nt (gA : lq_WA G w) (hY : Y ∈ yw_Y) {a t n : Nat} (g : G a = (t, n)) (ht : t ≠ 1010 ∧ t ≠ 42100 ∧ t ≠ 43100 ∧ t ≠ 44100 ∧ t ≠ 45104 ∧ t ≠ 46100) : yw_ne w Y a := fun v hv e => by
  obtain ⟨t', n', g', h'⟩ := yw_gv gA hY hv
  rw [e, g'] at g
  have := congrArg Prod.fst g
  dsimp only at this
  omega
theorem yw_nY (hA : lq_A G w) (hY : Y ∈ yw_Y) (hX : Y' ∈ yw_Y) (n : Y ≠ Y') {v : Nat} (hv : v < 13) : yw_ne w Y' (w (Y + v)) := fun _ hv' => yw_w hA hY hX hv hv' (Or.inl n)
theorem yk_cp.WB (h : yk_cp w Y Y' M M') (hB : lq_WB M w) : lq_WB M' w := hB.cg (fun _ _ _ _ _ => by rw [h.1]) (fun _ _ _ _ => by rw [h.1]) (fun _ _ => by rw [h.1])
theorem yk_cp.q (h : yk_cp w Y Y' M M') : yw_q M M' w Y' Y := ⟨h.2.2.1, h.2.2.2.1, h.2.2.2.2⟩
theorem yw_q.tr (h : yw_q M M1 w Y Y') {Y2 : Nat} (h2 : yw_q M1 M' w Y' Y2) : yw_q M M' w Y Y2 := ⟨fun f a b => (h2.1 f a b).trans (h.1 f a b), fun v a j b => (h2.2.1 v a j b).trans (h.2.1 v a j b), fun t u a b => (h2.2.2 t u a b).trans (h.2.2 t u a b)⟩
theorem lq_W.im1 (h : lq_W G M m s kp kc w) (hA : lq_A G w) (gc : G kc = (48102, 2)) (es : M'.1 s = M.1 s) (ek : M'.1 kp = M.1 kp) (e32 : M'.1 m 32 = M.1 m 32) (iy : lq_yiy G M M' kc w z1) : lq_Wi G M' m s kp kc w z1 := by
  obtain ⟨gA, gB, m32, hn, hk⟩ := h
  obtain ⟨i0, i1⟩ := iy
  by_cases hz : 0 ≤ z1 ∧ z1 ≤ 1
  · have hk0 : z1.toNat < 2 := by omega
    have e0 : z1 = (z1.toNat : Int) := by omega
    generalize z1.toNat = k0 at hk0 e0
    obtain ⟨M1, M2, al, hc, e⟩ := i1 k0 hk0 e0
    have nk : ∀ Y, Y ∈ yw_Y → ∀ v, v < 13 → M'.1 (w (Y + v)) = M2.1 (w (Y + v)) := fun Y hY v hv => by
      rw [e]; exact wz_c (fun q => yw_nt gA hY gc (by decide) v hv q.symm)
    have keep : ∀ Y, Y ∈ yw_Y → Y ≠ lq_yi k0 → ∀ v, v < 13 → M'.1 (w (Y + v)) = M.1 (w (Y + v)) := fun Y hY hne v hv => (nk Y hY v hv).trans ((hc.2.1 _ (yw_nY hA hY (lq_yi_in k0).1 hne hv)).trans (al.v gA hY hv))
    refine ⟨gA, ?_, e32.trans m32, hn.cg (yw_q.of (keep 61 (by decide) (lq_yi_in k0).2.symm)) (fun j _ => by rw [es]), fun k hk2 hz2 h0 => ?_, fun k hk2 hz2 => ?_⟩
    · have b := hc.WB (al.WB gB gA hA)
      rw [e]; exact b
    · have hne : k ≠ k0 := fun q => hz2 (by rw [q]; exact e0)
      have h0' : M.1 kc k ≠ 0 := by
        rw [e, hn_n (Or.inr hne), hc.2.1 kc (yw_nt gA (lq_yi_in k0).1 gc (by decide)), (al kc).1 (by rw [gc]; exact Or.inr (Or.inr (Or.inr (Or.inr (Or.inr (Or.inr rfl))))))] at h0
        exact h0
      rw [ek]
      exact (hk k hk2 h0').cg (yw_q.of (keep _ (lq_yi_in k).1 (by unfold lq_yi; split <;> split <;> omega))) (fun _ _ => rfl)
    · obtain rfl : k = k0 := by omega
      exact hn.cg ((yw_q.of (fun v hv => al.v gA (by decide) hv)).tr (hc.q.tr (yw_q.of (nk _ (lq_yi_in k).1)))) (fun j _ => by rw [es])
  · have e := i0 hz
    subst e
    exact ⟨gA, gB, m32, hn, fun k hk2 _ h0 => hk k hk2 h0, fun k hk2 e => absurd ⟨by omega, by omega⟩ hz⟩
theorem lq_Wi.im2 (h : lq_Wi G M m s kp kc w z1) (hA : lq_A G w) (f : ab_frm W G M M') (cW : lq_Wu W) (e32 : M'.1 m 32 = M.1 m 32) (es : M'.1 s = M.1 s) (ec : M'.1 kc = M.1 kc) (o : (¬ (0 ≤ z1 ∧ z1 ≤ 1) ∧ M'.1 kp = M.1 kp) ∨ (∃ k : Nat, k ≤ 1 ∧ z1 = (k : Int) ∧ (∀ p, p < 537 → M'.1 kp (538 * k + p) = M.1 s p) ∧ (∀ q, q < 538 * k ∨ 538 * k + 538 ≤ q → M'.1 kp q = M.1 kp q))) : lq_W G M' m s kp kc w := by
  obtain ⟨gA, gB, m32, hn, h1, h2⟩ := h
  obtain ⟨hB, hv⟩ := gB.fr gA hA f cW
  refine ⟨gA, hB, e32.trans m32, hn.cg (yw_q.of (hv 61 (by decide))) (fun j _ => by rw [es]), fun k hk2 h0 => ?_⟩
  rw [ec] at h0
  have ev := yw_q.of (M := M) (M' := M') (hv _ (lq_yi_in k).1)
  rcases o with ⟨o1, o2⟩ | ⟨k0, o1, o2, o3, o4⟩
  · exact (h1 k hk2 (fun e => o1 ⟨by omega, by omega⟩) h0).cg ev (fun _ _ => by rw [o2])
  · by_cases e : k = k0
    · subst e
      exact (h2 k hk2 o2).cg ev (fun j hj => by rw [Nat.zero_add]; exact o3 _ (by omega))
    · exact (h1 k hk2 (fun e2 => e (by omega)) h0).cg ev (fun j hj => o4 _ (by omega))
theorem lq_W.re1 (h : lq_W G M m s kp kc w) (hA : lq_A G w) (gud : G ud = (1009, 0)) (es : M'.1 s = M.1 s) (ek : M'.1 kp = M.1 kp) (ec : M'.1 kc = M.1 kc) (e32 : M'.1 m 32 = M.1 m 32) (ry : lq_yry G M M' kc ud w z1) : lq_Wr G M' m s kp kc w z1 := by
  obtain ⟨gA, gB, m32, hn, hk⟩ := h
  obtain ⟨i0, i1⟩ := ry
  by_cases hz : ∃ k : Nat, k < 2 ∧ z1 = (k : Int) ∧ M.1 kc k ≠ 0
  · obtain ⟨k0, hk0, e0, hc0⟩ := hz
    obtain ⟨M1, M2, al, hc, e⟩ := i1 k0 hk0 e0 hc0
    have nk : ∀ Y, Y ∈ yw_Y → ∀ v, v < 13 → M'.1 (w (Y + v)) = M2.1 (w (Y + v)) := fun Y hY v hv => by
      rw [e]; exact wz_c (fun q => yw_nt gA hY gud (by decide) v hv q.symm)
    have keep : ∀ Y, Y ∈ yw_Y → Y ≠ 61 → ∀ v, v < 13 → M'.1 (w (Y + v)) = M.1 (w (Y + v)) := fun Y hY hne v hv => (nk Y hY v hv).trans ((hc.2.1 _ (yw_nY hA hY (by decide) hne hv)).trans (al.v gA hY hv))
    refine ⟨gA, ?_, e32.trans m32, fun k hk2 h0 => ?_, fun hno => absurd (by rw [← ec]; exact hno k0 hk0 e0) hc0, fun k hk2 hz2 h0 => ?_⟩
    · have b := hc.WB (al.WB gB gA hA)
      rw [e]; exact b
    · rw [ec] at h0; rw [ek]
      exact (hk k hk2 h0).cg (yw_q.of (keep _ (lq_yi_in k).1 (lq_yi_in k).2)) (fun _ _ => rfl)
    · obtain rfl : k = k0 := by omega
      rw [ek]
      exact (hk k hk0 hc0).cg ((yw_q.of (fun v hv => al.v gA (lq_yi_in k).1 hv)).tr (hc.q.tr (yw_q.of (nk 61 (by decide))))) (fun _ _ => rfl)
  · have hno : ∀ k : Nat, k < 2 → z1 = (k : Int) → M.1 kc k = 0 := fun k hk2 e => Classical.byContradiction (fun z => hz ⟨k, hk2, e, z⟩)
    have e := i0 hno
    subst e
    exact ⟨gA, gB, m32, hk, fun _ => hn, fun k hk2 e h0 => absurd (hno k hk2 e) h0⟩
theorem lq_Wr.re2 (h : lq_Wr G M m s kp kc w z1) (hA : lq_A G w) (f : ab_frm W G M M') (cW : lq_Wu W) (e32 : M'.1 m 32 = M.1 m 32) (ek : M'.1 kp = M.1 kp) (ec : M'.1 kc = M.1 kc) (mk : ∀ k, k < 2 → M.1 kc k = M.1 ik k) (o : ((¬ (0 ≤ z1 ∧ z1 ≤ 1) ∨ M.1 ik z1.toNat = 0) ∧ M'.1 s = M.1 s) ∨ (∃ k : Nat, k ≤ 1 ∧ z1 = (k : Int) ∧ M.1 ik k ≠ 0 ∧ (∀ p, p < 537 → M'.1 s p = M.1 kp (538 * k + p)))) : lq_W G M' m s kp kc w := by
  obtain ⟨gA, gB, m32, hk, h1, h2⟩ := h
  obtain ⟨hB, hv⟩ := gB.fr gA hA f cW
  have ev := yw_q.of (M := M) (M' := M') (hv 61 (by decide))
  refine ⟨gA, hB, e32.trans m32, ?_, fun k hk2 h0 => ?_⟩
  · rcases o with ⟨oz, oe⟩ | ⟨k0, o1, o2, o3, o4⟩
    · have hno : ∀ k : Nat, k < 2 → z1 = (k : Int) → M.1 kc k = 0 := fun k hk2 e => by
        rcases oz with oz | oz
        · omega
        · rw [mk k hk2, show k = z1.toNat by omega]; exact oz
      exact (h1 hno).cg ev (fun j _ => by rw [oe])
    · have hc1 : M.1 kc k0 ≠ 0 := by rw [mk k0 (by omega)]; exact o3
      exact (h2 k0 (by omega) o2 hc1).cg ev (fun j hj => by rw [Nat.zero_add]; exact o4 _ (by omega))
  · rw [ec] at h0; rw [ek]
    exact (hk k hk2 h0).cg (yw_q.of (hv _ (lq_yi_in k).1)) (fun _ _ => rfl)
/-- CONTRACTS told, CONTRACTS taken: in order -/
theorem yd_ok.ct (h : rv_db (M.1 s 0) R) (b0 : 0 ≤ M.1 s 0) (q : rq_O s R r M M') : yd_ok (M'.1 s) := fun j hj => by
  have k := h j hj
  have e1 := q.1 (3 * j) (by omega)
  have e2 := q.1 (3 * j + 1) (by omega)
  have e3 := q.1 (3 * j + 2) (by omega)
  rw [show 184 + (3 * j + 1) = 185 + 3 * j by omega] at e2
  rw [show 184 + (3 * j + 2) = 186 + 3 * j by omega] at e3
  rw [q.2.2 0 (Or.inl (by decide)), e1, e2, e3]
  unfold rv_d3 at k
  exact ⟨by omega, by omega, by omega, by omega, fun _ => ⟨by omega, by omega, by omega⟩, by omega, by omega⟩
theorem yd_ok.tk (h6 : rv_r6 (M.1 s) 0) (hP : ∀ j, j < 12 → P j = 8 ∨ (0 ≤ P j ∧ P j < M.1 s 0)) (e0 : M'.1 s 0 = M.1 s 0) (q : rq_T s P M M') : yd_ok (M'.1 s) := fun j hj => by
  obtain ⟨t1, t2, t3⟩ := q.1 j hj
  have b0 : 0 ≤ M.1 s 0 ∧ M.1 s 0 ≤ 8 := h6.1.1
  have p := hP j hj
  have hc : 0 ≤ tk_c (M.1 s) P j ∧ tk_c (M.1 s) P j ≤ 999 := by
    unfold tk_c
    split
    · have q := h6.2.1 (P j).toNat j (by omega) hj
      rw [Nat.zero_add] at q
      exact ⟨q.1, q.2.1⟩
    · exact ⟨Int.le_refl 0, by decide⟩
  rw [e0, t1, t2, t3]
  exact ⟨by omega, by omega, Int.le_refl 0, b0.1, fun q => absurd q (Int.lt_irrefl 0), hc.1, hc.2⟩
/-- begin, on -/
theorem lq_W.on1 (h : lq_W G M m s kp kc w) (hA : lq_A G w) (gm : G m = (1012, 0)) (gs : G s = (51100, 537)) (gk : G kp = (70100, 1076)) (gc : G kc = (48102, 2)) (c : yw_o w M M') (hC : yw_C M' w 1 T) (hk : ye_okT (M.1 s) T) : lq_Wo G M' m s kp kc w T := by
  obtain ⟨gA, gB, m32, hn, hi⟩ := h
  have es := c.2 s (yw_nt gA (by decide) gs (by decide))
  have ek := c.2 kp (yw_nt gA (by decide) gk (by decide))
  have ec := c.2 kc (yw_nt gA (by decide) gc (by decide))
  refine ⟨gA, gB.cg (fun _ _ _ _ _ => by rw [c.1]) (fun _ _ _ _ => by rw [c.1]) (fun _ _ => by rw [c.1]), (congrFun (c.2 m (yw_nt gA (by decide) gm (by decide))) 32).trans m32, fun k hk2 h0 => ?_, by rw [es]; exact hn.2.zy, hC.1, hC.2, by rw [es]; exact hk⟩
  rw [ec] at h0; rw [ek]
  exact (hi k hk2 h0).cg (yw_q.of (fun v hv => c.2 _ (yw_nY hA (lq_yi_in k).1 (by decide) (lq_yi_in k).2 hv))) (fun _ _ => rfl)
theorem lq_Wo.on2 (h : lq_Wo G M m s kp kc w T) (hA : lq_A G w) (f : ab_frm W G M M') (cW : lq_Wu W) (ek : M'.1 kp = M.1 kp) (ec : M'.1 kc = M.1 kc) (q : yw_R s m 1 T M M') : lq_W G M' m s kp kc w := by
  obtain ⟨gA, gB, m32, hi, hd, h61, hV, hk⟩ := h
  obtain ⟨hB, hv⟩ := gB.fr gA hA f cW
  obtain ⟨r1, r2, r3, r4, r5, r6⟩ := q
  have he : ye_eq T (ye_S (M'.1 s) 0) := ⟨fun j j1 j2 => by show M'.1 s (0 + j) = _; rw [Nat.zero_add]; exact r3 j j1 j2, fun j hj => by
    obtain ⟨a, b, c⟩ := r4 j hj
    exact ⟨by show M'.1 s (0 + (320 + 3 * j)) = _; rw [Nat.zero_add]; exact a, by show M'.1 s (0 + (321 + 3 * j)) = _; rw [Nat.zero_add]; exact b, by show M'.1 s (0 + (322 + 3 * j)) = _; rw [Nat.zero_add]; exact c⟩, fun t u ht hu => by show M'.1 s (0 + (232 + 11 * t + u)) = _; rw [Nat.zero_add]; exact r5 t u ht hu⟩
  have e221 : M'.1 s (0 + 221) = 1 := r2
  refine ⟨gA, hB, r6.trans m32, ⟨⟨((congrFun (hv 61 (by decide) 0 (by decide)) 0).trans h61).trans e221.symm, Or.inr e221, fun _ => ⟨hV.cg (yw_q.of (hv 61 (by decide))) he, hk.cg (r1 0 (Or.inl (by decide))) (fun t ht => by show M'.1 s (0 + (5 + 9 * t)) = _; rw [Nat.zero_add]; exact r1 _ (Or.inl (by omega))) he⟩⟩, (hd.cg (r1 0 (Or.inl (by decide))) (fun j hj => r1 _ (Or.inl (by omega)))).zz⟩, fun k hk2 h0 => ?_⟩
  rw [ec] at h0; rw [ek]
  exact (hi k hk2 h0).cg (yw_q.of (hv _ (lq_yi_in k).1)) (fun _ _ => rfl)
end YO
end
section
/-! ===== worth, must, shores of the reference (laid by a program) ===== -/
/-- the bids of a TOWN taken away; worth -/
def lr_wz (H : Nat → Int) (r : Nat) : Nat → Int := fun j => if r ≤ j ∧ j < r + 12 then 0 else H j
def lr_worth (H : Nat → Int) (z1 : Int) : Int := if 0 ≤ z1 ∧ z1 < H 0 then (Int32.ofInt ((ye_y0 H).1 224) - Int32.ofInt ((ye_y0 (lr_wz H (88 + 12 * z1).toNat)).1 224)).toInt else -10001
/-- the least bid that lets a MONTH; must -/
def lr_mu (H : Nat → Int) (r o : Nat) (n : Int) : ye_T := ye_it (rv_up H r n) (fun _ => 0) (ye_fr (rv_up H r n)) (o + 1)
def lr_mf (H : Nat → Int) (k : Int) (r o : Nat) : Nat → Int → Int
  | 0, _ => -1
  | f + 1, n => if (lr_mu H r o n).2.1 o = k ∧ (lr_mu H r o n).2.2.1 o < 0 then n else lr_mf H k r o f (n + 1)
def lr_must (H : Nat → Int) (z1 z2 : Int) : Int := if (0 ≤ z1 ∧ z1 < H 0) ∧ 0 ≤ z2 ∧ z2 ≤ 11 then lr_mf H z1 (88 + 12 * z1 + z2).toNat z2.toNat 999 1 else -1
def lr_sx (z : Int) (i : Nat) : Int := (Int32.ofInt z + Int32.ofInt (i : Int)).toInt
def lr_sh (H : Nat → Int) (k : Nat) (z : Int) : Nat → Int
  | 0 => 0
  | i + 1 => (Int32.ofInt (lr_sh H k z i) + Int32.ofInt ((ye_yd H (lr_sx z i)).2.2.2.2 k 3)).toInt
theorem lr_sh_s {H : Nat → Int} {k : Nat} {z : Int} {i : Nat} : lr_sh H k z (i + 1) = (Int32.ofInt (lr_sh H k z i) + Int32.ofInt ((ye_yd H (lr_sx z i)).2.2.2.2 k 3)).toInt := rfl
def lr_shores (H : Nat → Int) (z1 z2 z3 : Int) : Int := if (0 ≤ z1 ∧ z1 < H 0) ∧ 1 ≤ z2 ∧ z2 ≤ 100 then lr_sh H z1.toNat z3 z2.toNat else -1
theorem ye_H2.bid {H H' : Nat → Int} (h : ye_H2 H) (e : ∀ j, j < 88 ∨ 184 ≤ j → H' j = H j) (hb : ∀ j, 88 ≤ j → j < 184 → 0 ≤ H' j ∧ H' j ≤ 999) : ye_H2 H' := by
  obtain ⟨⟨h0, h1, h2, h3, hT, hw, hB, hd⟩, hz⟩ := h
  have e0 := e 0 (Or.inl (by decide))
  refine ⟨⟨by rw [e0]; exact h0, by rw [e 1 (Or.inl (by decide))]; exact h1, by rw [e 2 (Or.inl (by decide))]; exact h2, by rw [e 3 (Or.inl (by decide))]; exact h3, fun j j1 j2 => by rw [e j (Or.inl (by omega))]; exact hT j j1 j2, fun j hj => by rw [e (76 + j) (Or.inl (by omega))]; exact hw j hj, fun t j ht hj => hb _ (by omega) (by omega), fun j hj => ?_⟩, fun t ht hn => by rw [e (7 + 9 * t) (Or.inl (by omega))]; rw [e0] at hn; exact hz t ht hn⟩
  have k := hd j hj
  rw [e0, e (184 + 3 * j) (Or.inr (by omega)), e (185 + 3 * j) (Or.inr (by omega)), e (186 + 3 * j) (Or.inr (by omega))]
  exact k
theorem ye_H2.b {H : Nat → Int} (h : ye_H2 H) {j : Nat} (j1 : 88 ≤ j) (j2 : j < 184) : 0 ≤ H j ∧ H j ≤ 999 := by
  have q := h.1.2.2.2.2.2.2.1 ((j - 88) / 12) ((j - 88) % 12) (by omega) (by omega)
  rw [show 88 + 12 * ((j - 88) / 12) + (j - 88) % 12 = j by omega] at q
  exact q
/-- what worth leaves; while it thinks -/
def rq_K2 (s m bf bk : Nat) (M M' : mj_M) : Prop := M'.2 = M.2 ∧ (∀ a, a ≠ s → a ≠ m → a ≠ bf → a ≠ bk → M'.1 a = M.1 a) ∧ (∀ j, j < 537 → M'.1 s j = M.1 s j) ∧ (∀ k, k ≠ 0 → k ≠ 29 → k ≠ 30 → k ≠ 31 → k ≠ 47 → M'.1 m k = M.1 m k)
theorem rq_K.t2 {s m bf bk : Nat} {M M' : mj_M} (h : rq_K s m bf M M') : rq_K2 s m bf bk M M' := ⟨h.1, fun a a1 a2 a3 _ => h.2.1 a a1 a2 a3, h.2.2.1, h.2.2.2⟩
def rq_Mr (s m bf r : Nat) (M M' : mj_M) : Prop := M'.2 = M.2 ∧ (∀ a, a ≠ s → a ≠ m → a ≠ bf → M'.1 a = M.1 a) ∧ (∀ j, j ≠ r → j < 221 ∨ (356 ≤ j ∧ j < 537) → M'.1 s j = M.1 s j) ∧ (∀ k, k ≠ 0 → k ≠ 29 → k ≠ 30 → k ≠ 31 → k ≠ 47 → M'.1 m k = M.1 m k) ∧ (∀ k, k < 135 → M'.1 bf k = M.1 s (221 + k))
theorem r_yw1 {G : mj_G} {M0 : mj_M} {m s bk r : Nat} {Q : mj_P} {k v2 : Int} (gm : G m = (1012, 0)) (gs : G s = (51100, 537)) (gb : G bk = (65100, 12)) (m6 : M0.2.2 m 6 = some s) (m46 : M0.2.2 m 46 = some bk) (k1 : 0 ≤ k) (k2 : k < 8) (hr : r = (88 + 12 * k).toNat) : ∀ (f i : Nat) (M : mj_M) (cb sb : Nat), i + f = 12 → M.2 = M0.2 → (∀ a, a ≠ s → a ≠ bk → M.1 a = M0.1 a) → (∀ j, j < 537 → M.1 s j = if r ≤ j ∧ j < r + i then 0 else M0.1 s j) → (∀ l, l < i → M.1 bk l = M0.1 s (r + l)) → (∀ M' cb sb, M'.2 = M0.2 → (∀ a, a ≠ s → a ≠ bk → M'.1 a = M0.1 a) → (∀ j, j < 537 → M'.1 s j = if r ≤ j ∧ j < r + 12 then 0 else M0.1 s j) → (∀ l, l < 12 → M'.1 bk l = M0.1 s (r + l)) → wz 39 mt_X12_worth.2.2.2.2.1 Q (mt_X12_worth.2.2.2.2.1.drop 45) [some (.inr (.inr (some m))), some (.inl k), some (.inl v2), some (.inl 12), none] [] G M' cb sb) → wz 39 mt_X12_worth.2.2.2.2.1 Q (mt_X12_worth.2.2.2.2.1.drop 21) [some (.inr (.inr (some m))), some (.inl k), some (.inl v2), some (.inl (i : Int)), none] [] G M cb sb := by
  have bs : bk ≠ s := hn_ne gb gs (by decide)
  intro f
  induction f with
  | zero =>
    intro i M cb sb e h2 h1 h3 h4 h
    have e : i = 12 := by omega
    subst e
    refine w_iln rfl ?_
    refine w_bp ?_
    refine w_cmge (fun c => ?_) (fun c => by exfalso; omega)
    exact h M _ _ h2 h1 h3 h4
  | succ f ih =>
    intro i M cb sb e h2 h1 h3 h4 h
    have ti : ((i : Int)).toNat = i := by omega
    have tr : ((88 : Int) + 12 * k + (i : Int)).toNat = r + i := by omega
    refine w_iln rfl ?_
    refine w_bp ?_
    refine w_cmge (fun c => by exfalso; omega) (fun c => ?_)
    refine w_aln rfl ?_
    refine w_gr gm rfl (by decide) rfl (by rw [h2]; exact m46) ?_
    refine w_iln rfl ?_
    refine w_aln rfl ?_
    refine w_iln rfl ?_
    refine w_iln rfl ?_
    refine w_cv (st := [.inl (i : Int), .inr (.inr (some bk))]) rfl gm rfl (Nat.le_of_ble_eq_true rfl) (fun kk h => h) ⟨Nat.le_of_ble_eq_true rfl, ?_⟩
    show wz 38 mt_X12_bidOf.2.2.2.2.1 _ mt_X12_bidOf.2.2.2.2.1 [some (.inr (.inr (some m))), some (.inl k), some (.inl (i : Int))] [] _ _ _ _
    refine w_aln rfl ?_
    refine w_gr gm rfl (by decide) rfl (by rw [h2]; exact m6) ?_
    refine w_bp ?_
    refine w_bp ?_
    refine w_iln rfl ?_
    refine w_mul ⟨by omega, by omega⟩ ?_
    refine w_add ⟨by omega, by omega⟩ ?_
    refine w_iln rfl ?_
    refine w_add ⟨by omega, by omega⟩ ?_
    refine w_iald (v := M0.1 s (r + i)) gs rfl (by omega) (by show (88 : Int) + 12 * k + (i : Int) < ((537 : Nat) : Int); omega) (by rw [tr]; exact (h3 _ (by omega)).trans (if_neg (by omega))) ?_
    refine w_iret (fun q => by cases q) ?_
    refine w_iast gb rfl (by decide) (by omega) (by show (i : Int) < ((12 : Nat) : Int); omega) ?_
    refine w_aln rfl ?_
    refine w_gr gm rfl (by decide) rfl (by show M.2.2 m 6 = _; rw [h2]; exact m6) ?_
    refine w_bp ?_
    refine w_bp ?_
    refine w_iln rfl ?_
    refine w_mul ⟨by omega, by omega⟩ ?_
    refine w_add ⟨by omega, by omega⟩ ?_
    refine w_iln rfl ?_
    refine w_add ⟨by omega, by omega⟩ ?_
    refine w_ic ?_
    refine w_iast gs rfl (by decide) (by omega) (by show (88 : Int) + 12 * k + (i : Int) < ((537 : Nat) : Int); omega) ?_
    refine w_ii rfl ⟨by omega, by omega⟩ ?_
    refine w_goto ?_
    rw [ti, tr]
    refine ih (i + 1) _ _ _ (by omega) h2 (fun a a1 a2 => (wz_c a1).trans ((wz_c a2).trans (h1 a a1 a2))) (fun j hj => ?_) (fun l hl => (congrFun (wz_c bs) l).trans ?_) h
    · by_cases q : j = r + i
      · rw [q, if_pos ⟨by omega, by omega⟩]; exact hn_s
      · refine (hn_n (Or.inr q)).trans ((congrFun (wz_c bs.symm) j).trans ((h3 j hj).trans ?_))
        by_cases c : r ≤ j ∧ j < r + i
        · rw [if_pos c, if_pos ⟨c.1, by omega⟩]
        · rw [if_neg c, if_neg (fun q2 => c ⟨q2.1, by omega⟩)]
    · rcases Nat.lt_or_ge l i with q | q
      · exact (hn_n (Or.inr (by omega))).trans (h4 l q)
      · rw [show l = i by omega]; exact hn_s
theorem r_yw2 {G : mj_G} {M0 : mj_M} {m s bk r : Nat} {Q : mj_P} {k v2 v3 : Int} {H : Nat → Int} (gm : G m = (1012, 0)) (gs : G s = (51100, 537)) (gb : G bk = (65100, 12)) (m6 : M0.2.2 m 6 = some s) (m46 : M0.2.2 m 46 = some bk) (hb : ∀ l, l < 12 → M0.1 bk l = H (r + l)) (k1 : 0 ≤ k) (k2 : k < 8) (hr : r = (88 + 12 * k).toNat) : ∀ (f i : Nat) (M : mj_M) (cb sb : Nat), i + f = 12 → M.2 = M0.2 → (∀ a, a ≠ s → M.1 a = M0.1 a) → (∀ j, j < 537 → M.1 s j = if r ≤ j ∧ j < r + i then H j else M0.1 s j) → (∀ M' cb sb, M'.2 = M0.2 → (∀ a, a ≠ s → M'.1 a = M0.1 a) → (∀ j, j < 537 → M'.1 s j = if r ≤ j ∧ j < r + 12 then H j else M0.1 s j) → wz 39 mt_X12_worth.2.2.2.2.1 Q (mt_X12_worth.2.2.2.2.1.drop 74) [some (.inr (.inr (some m))), some (.inl k), some (.inl v2), some (.inl v3), some (.inl 12)] [] G M' cb sb) → wz 39 mt_X12_worth.2.2.2.2.1 Q (mt_X12_worth.2.2.2.2.1.drop 55) [some (.inr (.inr (some m))), some (.inl k), some (.inl v2), some (.inl v3), some (.inl (i : Int))] [] G M cb sb := by
  have bs : bk ≠ s := hn_ne gb gs (by decide)
  intro f
  induction f with
  | zero =>
    intro i M cb sb e h2 h1 h3 h
    have e : i = 12 := by omega
    subst e
    refine w_il rfl ?_
    refine w_bp ?_
    refine w_cmge (fun c => ?_) (fun c => by exfalso; omega)
    exact h M _ _ h2 h1 h3
  | succ f ih =>
    intro i M cb sb e h2 h1 h3 h
    have ti : ((i : Int)).toNat = i := by omega
    have tr : ((88 : Int) + 12 * k + (i : Int)).toNat = r + i := by omega
    refine w_il rfl ?_
    refine w_bp ?_
    refine w_cmge (fun c => by exfalso; omega) (fun c => ?_)
    refine w_aln rfl ?_
    refine w_gr gm rfl (by decide) rfl (by rw [h2]; exact m6) ?_
    refine w_bp ?_
    refine w_bp ?_
    refine w_iln rfl ?_
    refine w_mul ⟨by omega, by omega⟩ ?_
    refine w_add ⟨by omega, by omega⟩ ?_
    refine w_il rfl ?_
    refine w_add ⟨by omega, by omega⟩ ?_
    refine w_aln rfl ?_
    refine w_gr gm rfl (by decide) rfl (by rw [h2]; exact m46) ?_
    refine w_il rfl ?_
    refine w_iald (v := H (r + i)) gb rfl (by omega) (by show (i : Int) < ((12 : Nat) : Int); omega) (by rw [ti, h1 bk bs]; exact hb i (by omega)) ?_
    refine w_iast gs rfl (by decide) (by omega) (by show (88 : Int) + 12 * k + (i : Int) < ((537 : Nat) : Int); omega) ?_
    refine w_ii rfl ⟨by omega, by omega⟩ ?_
    refine w_goto ?_
    rw [tr]
    refine ih (i + 1) _ _ _ (by omega) h2 (fun a a1 => (wz_c a1).trans (h1 a a1)) (fun j hj => ?_) h
    by_cases q : j = r + i
    · rw [q, if_pos ⟨by omega, by omega⟩]; exact hn_s
    · refine (hn_n (Or.inr q)).trans ((h3 j hj).trans ?_)
      by_cases c : r ≤ j ∧ j < r + i
      · rw [if_pos c, if_pos ⟨c.1, by omega⟩]
      · rw [if_neg c, if_neg (fun q2 => c ⟨q2.1, by omega⟩)]
set_option maxRecDepth 100000 in
theorem r_X12_worthC {G : mj_G} {M : mj_M} {m s bf : Nat} {Q : mj_P} (hL : yq_L G M s m (M.1 s)) (gf : G bf = (64100, 135)) (m45 : M.2.2 m 45 = some bf) (hH : ye_H2 (M.1 s)) {bk : Nat} {z1 : Int} (m46 : M.2.2 m 46 = some bk) (gk : G bk = (65100, 12)) (h : ∀ M1, rq_K2 s m bf bk M M1 → Q (some (.inl (lr_worth (M.1 s) z1))) G M1) : mj_R mj_tab 40 259 [.inr (.inr (some m)), .inl z1] G M Q := by
  have gm := hL.gm
  have gs := hL.gs
  have m6 := hL.m6
  have b0 := hH.1.1
  have nbs : bf ≠ s := hn_ne gf gs (by decide)
  have nbm : bf ≠ m := hn_ne gf gm (by decide)
  have sm : s ≠ m := hL.sm
  have es : (mj_p0 M m 0 0).1 s = M.1 s := wz_c sm
  have hK0 : rq_K s m bf M (mj_p0 M m 0 0) := ⟨rfl, fun a _ a2 _ => wz_c a2, fun j _ => congrFun es j, fun k k0 _ _ _ _ => hn_n (Or.inr k0)⟩
  have nks : bk ≠ s := hn_ne gk gs (by decide)
  have nkm : bk ≠ m := hn_ne gk gm (by decide)
  have nkf : bk ≠ bf := hn_ne gk gf (by decide)
  refine ⟨Nat.le_of_ble_eq_true rfl, ?_⟩
  show wz 39 mt_X12_worth.2.2.2.2.1 Q mt_X12_worth.2.2.2.2.1 [some (.inr (.inr (some m))), some (.inl z1), none, none, none] [] G M _ _
  refine w_aln rfl ?_
  refine w_ic ?_
  refine w_pi gm rfl (by decide) rfl (fun q => by cases q) ?_
  refine w_aln rfl ?_
  refine w_iln rfl ?_
  refine w_cv (st := []) rfl gm rfl (Nat.le_of_ble_eq_true rfl) (fun kk h => h) ⟨Nat.le_of_ble_eq_true rfl, ?_⟩
  show wz (38) mt_X12_isTown.2.2.2.2.1 _ mt_X12_isTown.2.2.2.2.1 [some (.inr (.inr (some m))), some (.inl z1)] [] _ _ _ _
  refine w_iln rfl ?_
  refine w_ic ?_
  refine w_aln rfl ?_
  refine w_gr gm rfl (by decide) rfl (m6) ?_
  refine w_ic ?_
  refine w_iald (v := (M.1 s 0)) gs rfl (by show (0 : Int) ≤ 0; omega) (by show 0 < ((537 : Nat) : Int); omega) ((hn_n (Or.inl (hn_ne gs gm (by decide)))).trans (congrArg (M.1 s) (by show (0 : Int).toNat = 0; omega))) ?_
  refine w_ic ?_
  refine w_sub ⟨by show (-2147483648 : Int) ≤ (M.1 s 0) - 1; omega, by show (M.1 s 0) - 1 < (2147483648 : Int); omega⟩ ?_
  refine w_cs (st := []) rfl (Nat.le_of_ble_eq_true rfl) (fun kk h => h) ⟨Nat.le_of_ble_eq_true rfl, ?_⟩
  show wz (37) mt_X12_isIn.2.2.2.2.1 _ mt_X12_isIn.2.2.2.2.1 [some (.inl z1), some (.inl 0), some (.inl ((M.1 s 0) - 1))] [] _ _ _ _
  refine w_iln rfl ?_
  refine w_iln rfl ?_
  refine w_cmlt (fun c1 => ?_) (fun c1 => ?_)
  · skip
    refine w_ic ?_
    refine w_iret (fun _ => Or.inl rfl) ?_
    refine w_iret (fun _ => Or.inl rfl) ?_
    refine w_ifne (fun c2 => ?_) (fun c2 => ?_)
    · exfalso; omega
    · skip
      refine w_sp ?_
      exact w_iret (fun q => by cases q) (by have q := h _ hK0.t2; unfold lr_worth at q; rw [if_neg (by omega)] at q; exact q)
  · skip
    refine w_iln rfl ?_
    refine w_iln rfl ?_
    refine w_cmgt (fun c3 => ?_) (fun c3 => ?_)
    · skip
      refine w_ic ?_
      refine w_iret (fun _ => Or.inl rfl) ?_
      refine w_iret (fun _ => Or.inl rfl) ?_
      refine w_ifne (fun c4 => ?_) (fun c4 => ?_)
      · exfalso; omega
      · skip
        refine w_sp ?_
        exact w_iret (fun q => by cases q) (by have q := h _ hK0.t2; unfold lr_worth at q; rw [if_neg (by omega)] at q; exact q)
    · skip
      refine w_ic ?_
      refine w_goto ?_
      refine w_iret (fun _ => Or.inr rfl) ?_
      refine w_iret (fun _ => Or.inr rfl) ?_
      refine w_ifne (fun c5 => ?_) (fun c5 => ?_)
      · skip
        refine w_aln rfl ?_
        refine w_cv (st := []) rfl gm rfl (Nat.le_of_ble_eq_true rfl) (fun kk h => h) (r_X12_thinksC (M0 := mj_p0 M m 0 0) (d := 37) gm gs gf m6 m45 (fun M2 t1 t2 t3 => ?_))
        have hM2 : rq_M s m bf M M2 := ⟨t1, fun a a1 a2 a3 => (t2 a a3).trans (wz_c a2), fun j _ => (congrFun (t2 s nbs.symm) j).trans (congrFun es j), fun k k0 _ _ _ _ => (congrFun (t2 m nbm.symm) k).trans (hn_n (Or.inr k0)), fun k hk => (t3 k hk).trans (congrFun es _)⟩
        have e26 : M2.2.2 m 6 = some s := by rw [hM2.1]; exact m6
        refine w_aln rfl ?_
        refine w_ic ?_
        refine w_cv (st := []) rfl gm rfl (Nat.le_of_ble_eq_true rfl) (fun kk h => h) (r_X12_wholeYear0 (d := 34) (hM2.L hL) hH (fun M3 hY => ?_))
        have hM3 := hM2.yr hY nbs nbm
        have e36 : M3.2.2 m 6 = some s := by rw [hM3.1]; exact m6
        have e346 : M3.2.2 m 46 = some bk := by rw [hM3.1]; exact m46
        refine w_aln rfl ?_
        refine w_gr gm rfl (by decide) rfl e36 ?_
        refine w_sp ?_
        refine w_iald (v := (ye_y0 (M.1 s)).1 224) gs rfl (by decide) (by decide) (hY.g (j := 224) (by decide) (by decide)) ?_
        refine w_isn ?_
        refine w_ic ?_
        refine w_isn ?_
        refine r_yw1 (M0 := M3) (r := (88 + 12 * z1).toNat) gm gs gk e36 e346 (by omega) (by omega) rfl 12 0 M3 _ _ (by decide) rfl (fun _ _ _ => rfl) (fun j _ => by rw [if_neg (by omega)]) (fun l hl => absurd hl (Nat.not_lt_zero l)) (fun M4 cb sb g2 g1 g3 g4 => ?_)
        have s4 : ∀ j, j < 221 → M4.1 s j = lr_wz (M.1 s) (88 + 12 * z1).toNat j := fun j hj => (g3 j (by omega)).trans (by rw [hM3.2.2.1 j (Or.inl hj)]; rfl)
        have hL4 : yq_L G M4 s m (lr_wz (M.1 s) (88 + 12 * z1).toNat) := ⟨gm, gs, by rw [g2]; exact e36, s4, (congrFun (g1 m sm.symm nkm.symm) 32).trans ((hM3.2.2.2.1 32 (by decide) (by decide) (by decide) (by decide) (by decide)).trans hL.lk)⟩
        have hH4 : ye_H2 (lr_wz (M.1 s) (88 + 12 * z1).toNat) := hH.bid (fun j hj => if_neg (by omega)) (fun j j1 j2 => by
          by_cases c : (88 + 12 * z1).toNat ≤ j ∧ j < (88 + 12 * z1).toNat + 12
          · rw [show lr_wz (M.1 s) (88 + 12 * z1).toNat j = 0 from if_pos c]; exact ⟨Int.le_refl 0, by decide⟩
          · rw [show lr_wz (M.1 s) (88 + 12 * z1).toNat j = M.1 s j from if_neg c]; exact hH.b j1 j2)
        refine w_aln rfl ?_
        refine w_ic ?_
        refine w_cv (st := []) rfl gm rfl (Nat.le_of_ble_eq_true rfl) (fun kk h => h) (r_X12_wholeYear0 (d := 34) hL4 hH4 (fun M5 hY5 => ?_))
        have e52 : M5.2 = M.2 := hY5.1.trans (g2.trans hM3.1)
        have e56 : M5.2.2 m 6 = some s := by rw [e52]; exact m6
        have e546 : M5.2.2 m 46 = some bk := by rw [e52]; exact m46
        have b5 : ∀ l, l < 12 → M5.1 bk l = M.1 s ((88 + 12 * z1).toNat + l) := fun l hl => (congrFun (hY5.2.1 bk nks nkm) l).trans ((g4 l hl).trans (hM3.2.2.1 _ (Or.inl (by omega))))
        refine w_aln rfl ?_
        refine w_gr gm rfl (by decide) rfl e56 ?_
        refine w_sp ?_
        refine w_iald (v := (ye_y0 (lr_wz (M.1 s) (88 + 12 * z1).toNat)).1 224) gs rfl (by decide) (by decide) (hY5.g (j := 224) (by decide) (by decide)) ?_
        refine w_isn ?_
        refine w_ic ?_
        refine w_is ?_
        refine r_yw2 (M0 := M5) (H := M.1 s) (r := (88 + 12 * z1).toNat) gm gs gk e56 e546 b5 (by omega) (by omega) rfl 12 0 M5 _ _ (by decide) rfl (fun _ _ => rfl) (fun j _ => by rw [if_neg (by omega)]) (fun M6 cb sb q2 q1 q3 => ?_)
        have e62 : M6.2 = M.2 := q2.trans e52
        refine w_aln rfl ?_
        refine w_cv (st := []) rfl gm rfl (Nat.le_of_ble_eq_true rfl) (fun kk h => h) (r_X12_forgetsC (M0 := M6) (d := 37) gm gs gf (by rw [e62]; exact m6) (by rw [e62]; exact m45) (fun M7 f1 f2 f3 => ?_))
        refine w_iln rfl ?_
        refine w_iln rfl ?_
        refine w_subw ?_
        intro z hz ez
        have hK : rq_K2 s m bf bk M M7 := by
          refine ⟨f1.trans e62, fun a a1 a2 a3 a4 => (f2 a a1).trans ((q1 a a1).trans ((hY5.2.1 a a1 a2).trans ((g1 a a1 a4).trans (hM3.2.1 a a1 a2 a3)))), fun j hj => ?_, fun k k0 k1 k2 k3 k4 => (congrFun (f2 m sm.symm) k).trans ((congrFun (q1 m sm.symm) k).trans ((hY5.2.2.1 k k1 k2 k3 k4).trans ((congrFun (g1 m sm.symm nkm.symm) k).trans (hM3.2.2.2.1 k k0 k1 k2 k3 k4))))⟩
          by_cases c : 221 ≤ j ∧ j < 356
          · rw [(f3 j hj).1 c, q1 bf nbs, hY5.2.1 bf nbs nbm, g1 bf nbs nkf.symm, hM3.2.2.2.2 (j - 221) (by omega), show 221 + (j - 221) = j by omega]
          · rw [(f3 j hj).2 (by omega), q3 j hj]
            by_cases c2 : (88 + 12 * z1).toNat ≤ j ∧ j < (88 + 12 * z1).toNat + 12
            · rw [if_pos c2]
            · rw [if_neg c2, hY5.2.2.2.1 j (by omega), g3 j hj, if_neg c2]
              exact hM3.2.2.1 j (by omega)
        refine w_iret (fun q => by cases q) ?_
        have q := h M7 hK
        unfold lr_worth at q
        rw [if_pos ⟨by omega, by omega⟩] at q
        rw [ez]; exact q
      · exfalso; omega
theorem r_ym1 {G : mj_G} {m s r : Nat} {Q : mj_P} {k o wa : Int} {H : Nat → Int} (k1 : 0 ≤ k) (k2 : k < 8) (o1 : 0 ≤ o) (o2 : o < 12) (hr : r = (88 + 12 * k + o).toNat) {M0 : mj_M} {g n : Int} (hL : yq_L G M0 s m H) (hH : ye_H2 H) : ∀ (f i : Nat) (M : mj_M) (cb sb : Nat), (i : Int) + f = o + 1 → yq_T s m M0 (ye_it H (fun _ => 0) (ye_fr H) i) M → (∀ M' v6 cb sb, yq_T s m M0 (ye_it H (fun _ => 0) (ye_fr H) (o.toNat + 1)) M' → wz 39 mt_X12_must.2.2.2.2.1 Q (mt_X12_must.2.2.2.2.1.drop 51) [some (.inr (.inr (some m))), some (.inl k), some (.inl o), some (.inl wa), some (.inl g), some (.inl n), v6] [] G M' cb sb) → wz 39 mt_X12_must.2.2.2.2.1 Q (mt_X12_must.2.2.2.2.1.drop 43) [some (.inr (.inr (some m))), some (.inl k), some (.inl o), some (.inl wa), some (.inl g), some (.inl n), some (.inl (i : Int))] [] G M cb sb := by
  have hf := ye_fr_ok hH
  intro f
  induction f with
  | zero =>
    intro i M cb sb e hT h
    obtain rfl : i = o.toNat + 1 := by omega
    refine w_il rfl ?_
    refine w_iln rfl ?_
    refine w_cmgt (fun c => ?_) (fun c => by exfalso; omega)
    exact h M _ _ _ hT
  | succ f ih =>
    intro i M cb sb e hT h
    have hok := ye_it_ok hH.1 hf.1 (xs := fun _ => 0) (fun _ => ⟨Int.le_refl 0, by decide⟩) i (by rw [hf.2]; omega)
    refine w_il rfl ?_
    refine w_iln rfl ?_
    refine w_cmgt (fun c => by exfalso; omega) (fun c => ?_)
    refine w_aln rfl ?_
    refine w_ic ?_
    refine w_cv (st := []) rfl hL.gm rfl (Nat.le_of_ble_eq_true rfl) (fun kk h => h) (r_monthT (d := 35) hL hT hH.1 hok.1 (by rw [hok.2, hf.2]; omega) ⟨Int.le_refl 0, by decide⟩ (fun M1 hT1 => ?_))
    refine w_ii rfl ⟨by omega, by omega⟩ ?_
    refine w_goto ?_
    exact ih (i + 1) M1 _ _ (by omega) hT1 h
theorem rq_Mr.up {G : mj_G} {M0 M : mj_M} {m s bf r : Nat} {n : Int} (h : rq_Mr s m bf r M0 M) (nbs : bf ≠ s) (sm : s ≠ m) (hr : r < 221) : rq_Mr s m bf r M0 (mj_p0 M s r n) := ⟨h.1, fun a a1 a2 a3 => (wz_c a1).trans (h.2.1 a a1 a2 a3), fun j j1 j2 => (hn_n (Or.inr j1)).trans (h.2.2.1 j j1 j2), fun k k0 k1 k2 k3 k4 => (congrFun (wz_c sm.symm) k).trans (h.2.2.2.1 k k0 k1 k2 k3 k4), fun k hk => (congrFun (wz_c nbs) k).trans (h.2.2.2.2 k hk)⟩
theorem r_ym2 {G : mj_G} {m s r : Nat} {Q : mj_P} {k o wa : Int} {H : Nat → Int} (k1 : 0 ≤ k) (k2 : k < 8) (o1 : 0 ≤ o) (o2 : o < 12) (hr : r = (88 + 12 * k + o).toNat) {M0 : mj_M} {bf : Nat} {A : Int} (hL : yq_L G M0 s m H) (hHs : M0.1 s = H) (gf : G bf = (64100, 135)) (m45 : M0.2.2 m 45 = some bf) (hH : ye_H2 H) (hw : wa = H r) (hQ : ∀ M', rq_K s m bf M0 M' → Q (some (.inl A)) G M') : ∀ (f : Nat) (n : Int) (M : mj_M) (v6 : Option mj_V) (cb sb : Nat), n + f = 1000 → 1 ≤ n → lr_mf H k r o.toNat f n = A → rq_Mr s m bf r M0 M → wz 39 mt_X12_must.2.2.2.2.1 Q (mt_X12_must.2.2.2.2.1.drop 23) [some (.inr (.inr (some m))), some (.inl k), some (.inl o), some (.inl wa), some (.inl (-1)), some (.inl n), v6] [] G M cb sb := by
  have tr : ((88 : Int) + 12 * k + o).toNat = r := by omega
  have gm := hL.gm
  have gs := hL.gs
  have m6 := hL.m6
  have sm := hL.sm
  have nbs : bf ≠ s := hn_ne gf gs (by decide)
  have nbm : bf ≠ m := hn_ne gf gm (by decide)
  have r1 : 88 ≤ r ∧ r < 184 := by omega
  have fin : ∀ (n g : Int) (M : mj_M) (v6 : Option mj_V) (cb sb : Nat), g = A → rq_Mr s m bf r M0 M → wz 39 mt_X12_must.2.2.2.2.1 Q (mt_X12_must.2.2.2.2.1.drop 76) [some (.inr (.inr (some m))), some (.inl k), some (.inl o), some (.inl wa), some (.inl g), some (.inl n), v6] [] G M cb sb := by
    intro n g M v6 cb sb eg h1
    refine w_aln rfl ?_
    refine w_gr gm rfl (by decide) rfl (by rw [h1.1]; exact m6) ?_
    refine w_bp ?_
    refine w_bp ?_
    refine w_iln rfl ?_
    refine w_mul ⟨by omega, by omega⟩ ?_
    refine w_add ⟨by omega, by omega⟩ ?_
    refine w_iln rfl ?_
    refine w_add ⟨by omega, by omega⟩ ?_
    refine w_iln rfl ?_
    refine w_iast gs rfl (by decide) (by omega) (by show (88 : Int) + 12 * k + o < ((537 : Nat) : Int); omega) ?_
    rw [tr]
    have h2 := h1.up (n := wa) (G := G) nbs sm (by omega)
    refine w_aln rfl ?_
    refine w_cv (st := []) rfl gm rfl (Nat.le_of_ble_eq_true rfl) (fun kk h => h) (r_X12_forgetsC (d := 37) gm gs gf (by rw [h2.1]; exact m6) (by rw [h2.1]; exact m45) (fun M1 f1 f2 f3 => ?_))
    refine w_il rfl ?_
    refine w_iret (fun q => by cases q) ?_
    rw [eg]
    refine hQ M1 ⟨f1.trans h2.1, fun a a1 a2 a3 => (f2 a a1).trans (h2.2.1 a a1 a2 a3), fun j hj => ?_, fun k k0 k1 k2 k3 k4 => (congrFun (f2 m sm.symm) k).trans (h2.2.2.2.1 k k0 k1 k2 k3 k4)⟩
    by_cases c : 221 ≤ j ∧ j < 356
    · rw [(f3 j hj).1 c, h2.2.2.2.2 (j - 221) (by omega), show 221 + (j - 221) = j by omega]
    · rw [(f3 j hj).2 (by omega)]
      by_cases c2 : j = r
      · rw [c2, hHs, ← hw]; exact hn_s
      · exact h2.2.2.1 j c2 (by omega)
  have ex : ∀ (n g : Int) (M : mj_M) (v6 : Option mj_V) (cb sb : Nat), 0 ≤ g → g = A → rq_Mr s m bf r M0 M → wz 39 mt_X12_must.2.2.2.2.1 Q (mt_X12_must.2.2.2.2.1.drop 23) [some (.inr (.inr (some m))), some (.inl k), some (.inl o), some (.inl wa), some (.inl g), some (.inl n), v6] [] G M cb sb := by
    intro n g M v6 cb sb g0 eg h1
    refine w_il rfl ?_
    refine w_sp ?_
    refine w_cmge (fun c => fin n g M v6 _ _ eg h1) (fun c => ?_)
    refine w_il rfl ?_
    exact w_ifge (fun c2 => fin n g M v6 _ _ eg h1) (fun c2 => by exfalso; omega)
  intro f
  induction f with
  | zero =>
    intro n M v6 cb sb e n1 hA h1
    refine w_il rfl ?_
    refine w_sp ?_
    refine w_cmge (fun c => ?_) (fun c => by exfalso; omega)
    exact fin n (-1) M v6 _ _ hA h1
  | succ f ih =>
    intro n M v6 cb sb e n1 hA h1
    refine w_il rfl ?_
    refine w_sp ?_
    refine w_cmge (fun c => by exfalso; omega) (fun c => ?_)
    refine w_il rfl ?_
    refine w_ifge (fun c2 => absurd c2 (by decide)) (fun c2 => ?_)
    refine w_aln rfl ?_
    refine w_gr gm rfl (by decide) rfl (by rw [h1.1]; exact m6) ?_
    refine w_bp ?_
    refine w_bp ?_
    refine w_iln rfl ?_
    refine w_mul ⟨by omega, by omega⟩ ?_
    refine w_add ⟨by omega, by omega⟩ ?_
    refine w_iln rfl ?_
    refine w_add ⟨by omega, by omega⟩ ?_
    refine w_il rfl ?_
    refine w_iast gs rfl (by decide) (by omega) (by show (88 : Int) + 12 * k + o < ((537 : Nat) : Int); omega) ?_
    rw [tr]
    have h2 := h1.up (n := n) (G := G) nbs sm (by omega)
    have s2 : ∀ j, j < 221 → (mj_p0 M s r n).1 s j = rv_up H r n j := fun j hj => by
      by_cases c : j = r
      · rw [c, rv_up_s]; exact hn_s
      · rw [rv_up_n c]; exact (hn_n (Or.inr c)).trans ((h1.2.2.1 j c (Or.inl hj)).trans (by rw [hHs]))
    have hHn : ye_H2 (rv_up H r n) := hH.bid (fun j hj => rv_up_n (by omega)) (fun j j1 j2 => by
      by_cases c : j = r
      · rw [c, rv_up_s]; omega
      · rw [rv_up_n c]; exact hH.b j1 j2)
    refine w_aln rfl ?_
    refine w_cv (st := []) rfl gm rfl (Nat.le_of_ble_eq_true rfl) (fun kk h => h) (r_X12_beginsC (d := 37) gm gs (by rw [h2.1]; exact m6) s2 hHn.1.1 hHn.2 (fun M1 hZ => ?_))
    have hT1 := hZ.T (m := m)
    obtain ⟨z1, z2, z3, -⟩ := hZ
    have hL1 : yq_L G M1 s m (rv_up H r n) := ⟨gm, gs, by rw [z1, h2.1]; exact m6, fun j hj => (z3 j (Or.inl hj)).trans (s2 j hj), (congrFun (z2 m sm.symm) 32).trans ((h2.2.2.2.1 32 (by decide) (by decide) (by decide) (by decide) (by decide)).trans hL.lk)⟩
    refine w_ic ?_
    refine w_is ?_
    refine r_ym1 k1 k2 o1 o2 hr hL1 hHn (o + 1).toNat 0 M1 _ _ (by omega) hT1 (fun M2 v6 cb sb hT2 => ?_)
    have h3 : rq_Mr s m bf r M0 M2 ∧ M2.1 s ((320 : Int) + 3 * o).toNat = (lr_mu H r o.toNat n).2.1 o.toNat ∧ M2.1 s ((320 : Int) + 3 * o + 1).toNat = (lr_mu H r o.toNat n).2.2.1 o.toNat := by
      obtain ⟨L, O, P, c1, c2, c3, -, c5, c6, c7, c8⟩ := hT2
      obtain ⟨q1, q2, -⟩ := c7 o.toNat (by omega)
      refine ⟨⟨c1.trans (z1.trans h2.1), fun a a1 a2 a3 => (c2 a a1 a2).trans ((z2 a a1).trans (h2.2.1 a a1 a2 a3)), fun j j1 j2 => (c5 j (by omega)).trans ((z3 j (by omega)).trans (h2.2.2.1 j j1 j2)), fun k k0 k1 k2 k3 k4 => (c3 k k1 k2 k3).trans ((congrFun (z2 m sm.symm) k).trans (h2.2.2.2.1 k k0 k1 k2 k3 k4)), fun k hk => (congrFun (c2 bf nbs nbm) k).trans ((congrFun (z2 bf nbs) k).trans (h2.2.2.2.2 k hk))⟩, ?_, ?_⟩
      · rw [show ((320 : Int) + 3 * o).toNat = 320 + 3 * o.toNat by omega]; exact q1
      · rw [show ((320 : Int) + 3 * o + 1).toNat = 321 + 3 * o.toNat by omega]; exact q2
    obtain ⟨h3, v320, v321⟩ := h3
    refine w_aln rfl ?_
    refine w_gr gm rfl (by decide) rfl (by rw [h3.1]; exact m6) ?_
    refine w_sp ?_
    refine w_ic ?_
    refine w_iln rfl ?_
    refine w_mul ⟨by omega, by omega⟩ ?_
    refine w_add ⟨by omega, by omega⟩ ?_
    refine w_iald (v := (lr_mu H r o.toNat n).2.1 o.toNat) gs rfl (by omega) (by show (320 : Int) + 3 * o < ((537 : Nat) : Int); omega) v320 ?_
    refine w_iln rfl ?_
    refine w_cmne (fun c3 => ?_) (fun c3 => ?_)
    · refine w_ii rfl ⟨by omega, by omega⟩ ?_
      refine w_goto ?_
      exact ih (n + 1) M2 _ _ _ (by omega) (by omega) ((if_neg (fun q => c3 q.1)).symm.trans hA) h3
    · refine w_aln rfl ?_
      refine w_gr gm rfl (by decide) rfl (by rw [h3.1]; exact m6) ?_
      refine w_sp ?_
      refine w_ic ?_
      refine w_iln rfl ?_
      refine w_mul ⟨by omega, by omega⟩ ?_
      refine w_add ⟨by omega, by omega⟩ ?_
      refine w_ic ?_
      refine w_add ⟨by omega, by omega⟩ ?_
      refine w_iald (v := (lr_mu H r o.toNat n).2.2.1 o.toNat) gs rfl (by omega) (by show (320 : Int) + 3 * o + 1 < ((537 : Nat) : Int); omega) v321 ?_
      refine w_ifge (fun c4 => ?_) (fun c4 => ?_)
      · refine w_ii rfl ⟨by omega, by omega⟩ ?_
        refine w_goto ?_
        exact ih (n + 1) M2 _ _ _ (by omega) (by omega) ((if_neg (fun q => by have := q.2; omega)).symm.trans hA) h3
      · refine w_il rfl ?_
        refine w_is ?_
        refine w_ii rfl ⟨by omega, by omega⟩ ?_
        refine w_goto ?_
        exact ex (n + 1) n M2 _ _ _ (by omega) ((if_pos ⟨c3, c4⟩).symm.trans hA) h3
set_option maxRecDepth 100000 in
theorem r_X12_mustC {G : mj_G} {M : mj_M} {m s bf : Nat} {Q : mj_P} (hL : yq_L G M s m (M.1 s)) (gf : G bf = (64100, 135)) (m45 : M.2.2 m 45 = some bf) (hH : ye_H2 (M.1 s)) {z1 z2 : Int} (h : ∀ M1, rq_K s m bf M M1 → Q (some (.inl (lr_must (M.1 s) z1 z2))) G M1) : mj_R mj_tab 40 215 [.inr (.inr (some m)), .inl z1, .inl z2] G M Q := by
  have gm := hL.gm
  have gs := hL.gs
  have m6 := hL.m6
  have b0 := hH.1.1
  have nbs : bf ≠ s := hn_ne gf gs (by decide)
  have nbm : bf ≠ m := hn_ne gf gm (by decide)
  have sm : s ≠ m := hL.sm
  have es : (mj_p0 M m 0 0).1 s = M.1 s := wz_c sm
  have hK0 : rq_K s m bf M (mj_p0 M m 0 0) := ⟨rfl, fun a _ a2 _ => wz_c a2, fun j _ => congrFun es j, fun k k0 _ _ _ _ => hn_n (Or.inr k0)⟩
  refine ⟨Nat.le_of_ble_eq_true rfl, ?_⟩
  show wz 39 mt_X12_must.2.2.2.2.1 Q mt_X12_must.2.2.2.2.1 [some (.inr (.inr (some m))), some (.inl z1), some (.inl z2), none, none, none, none] [] G M _ _
  refine w_aln rfl ?_
  refine w_ic ?_
  refine w_pi gm rfl (by decide) rfl (fun q => by cases q) ?_
  refine w_aln rfl ?_
  refine w_iln rfl ?_
  refine w_cv (st := []) rfl gm rfl (Nat.le_of_ble_eq_true rfl) (fun kk h => h) ⟨Nat.le_of_ble_eq_true rfl, ?_⟩
  show wz (38) mt_X12_isTown.2.2.2.2.1 _ mt_X12_isTown.2.2.2.2.1 [some (.inr (.inr (some m))), some (.inl z1)] [] _ _ _ _
  refine w_iln rfl ?_
  refine w_ic ?_
  refine w_aln rfl ?_
  refine w_gr gm rfl (by decide) rfl (m6) ?_
  refine w_ic ?_
  refine w_iald (v := (M.1 s 0)) gs rfl (by show (0 : Int) ≤ 0; omega) (by show 0 < ((537 : Nat) : Int); omega) ((hn_n (Or.inl (hn_ne gs gm (by decide)))).trans (congrArg (M.1 s) (by show (0 : Int).toNat = 0; omega))) ?_
  refine w_ic ?_
  refine w_sub ⟨by show (-2147483648 : Int) ≤ (M.1 s 0) - 1; omega, by show (M.1 s 0) - 1 < (2147483648 : Int); omega⟩ ?_
  refine w_cs (st := []) rfl (Nat.le_of_ble_eq_true rfl) (fun kk h => h) ⟨Nat.le_of_ble_eq_true rfl, ?_⟩
  show wz (37) mt_X12_isIn.2.2.2.2.1 _ mt_X12_isIn.2.2.2.2.1 [some (.inl z1), some (.inl 0), some (.inl ((M.1 s 0) - 1))] [] _ _ _ _
  refine w_iln rfl ?_
  refine w_iln rfl ?_
  refine w_cmlt (fun c1 => ?_) (fun c1 => ?_)
  · skip
    refine w_ic ?_
    refine w_iret (fun _ => Or.inl rfl) ?_
    refine w_iret (fun _ => Or.inl rfl) ?_
    refine w_ifeq (fun c2 => ?_) (fun c2 => ?_)
    · skip
      refine w_ic ?_
      exact w_iret (fun q => by cases q) (by have q := h _ hK0; unfold lr_must at q; rw [if_neg (by omega)] at q; exact q)
    · exfalso; omega
  · skip
    refine w_iln rfl ?_
    refine w_iln rfl ?_
    refine w_cmgt (fun c3 => ?_) (fun c3 => ?_)
    · skip
      refine w_ic ?_
      refine w_iret (fun _ => Or.inl rfl) ?_
      refine w_iret (fun _ => Or.inl rfl) ?_
      refine w_ifeq (fun c4 => ?_) (fun c4 => ?_)
      · skip
        refine w_ic ?_
        exact w_iret (fun q => by cases q) (by have q := h _ hK0; unfold lr_must at q; rw [if_neg (by omega)] at q; exact q)
      · exfalso; omega
    · skip
      refine w_ic ?_
      refine w_goto ?_
      refine w_iret (fun _ => Or.inr rfl) ?_
      refine w_iret (fun _ => Or.inr rfl) ?_
      refine w_ifeq (fun c5 => ?_) (fun c5 => ?_)
      · exfalso; omega
      · skip
        refine w_iln rfl ?_
        refine w_cs (st := []) rfl (Nat.le_of_ble_eq_true rfl) (fun kk h => h) ⟨Nat.le_of_ble_eq_true rfl, ?_⟩
        show wz (38) mt_X12_isMonth.2.2.2.2.1 _ mt_X12_isMonth.2.2.2.2.1 [some (.inl z2)] [] _ _ _ _
        refine w_iln rfl ?_
        refine w_ic ?_
        refine w_bp ?_
        refine w_cs (st := []) rfl (Nat.le_of_ble_eq_true rfl) (fun kk h => h) ⟨Nat.le_of_ble_eq_true rfl, ?_⟩
        show wz (37) mt_X12_isIn.2.2.2.2.1 _ mt_X12_isIn.2.2.2.2.1 [some (.inl z2), some (.inl 0), some (.inl 11)] [] _ _ _ _
        refine w_iln rfl ?_
        refine w_iln rfl ?_
        refine w_cmlt (fun c6 => ?_) (fun c6 => ?_)
        · skip
          refine w_ic ?_
          refine w_iret (fun _ => Or.inl rfl) ?_
          refine w_iret (fun _ => Or.inl rfl) ?_
          refine w_ifne (fun c7 => ?_) (fun c7 => ?_)
          · exfalso; omega
          · skip
            refine w_ic ?_
            exact w_iret (fun q => by cases q) (by have q := h _ hK0; unfold lr_must at q; rw [if_neg (by omega)] at q; exact q)
        · skip
          refine w_iln rfl ?_
          refine w_iln rfl ?_
          refine w_cmgt (fun c8 => ?_) (fun c8 => ?_)
          · skip
            refine w_ic ?_
            refine w_iret (fun _ => Or.inl rfl) ?_
            refine w_iret (fun _ => Or.inl rfl) ?_
            refine w_ifne (fun c9 => ?_) (fun c9 => ?_)
            · exfalso; omega
            · skip
              refine w_ic ?_
              exact w_iret (fun q => by cases q) (by have q := h _ hK0; unfold lr_must at q; rw [if_neg (by omega)] at q; exact q)
          · skip
            refine w_ic ?_
            refine w_goto ?_
            refine w_iret (fun _ => Or.inr rfl) ?_
            refine w_iret (fun _ => Or.inr rfl) ?_
            refine w_ifne (fun c10 => ?_) (fun c10 => ?_)
            · skip
              refine w_aln rfl ?_
              refine w_cv (st := []) rfl gm rfl (Nat.le_of_ble_eq_true rfl) (fun kk h => h) (r_X12_thinksC (M0 := mj_p0 M m 0 0) (d := 37) gm gs gf m6 m45 (fun M2 t1 t2 t3 => ?_))
              have hM2 : rq_M s m bf M M2 := ⟨t1, fun a a1 a2 a3 => (t2 a a3).trans (wz_c a2), fun j _ => (congrFun (t2 s nbs.symm) j).trans (congrFun es j), fun k k0 _ _ _ _ => (congrFun (t2 m nbm.symm) k).trans (hn_n (Or.inr k0)), fun k hk => (t3 k hk).trans (congrFun es _)⟩
              have e26 : M2.2.2 m 6 = some s := by rw [hM2.1]; exact m6
              refine w_aln rfl ?_
              refine w_iln rfl ?_
              refine w_iln rfl ?_
              refine w_cv (st := []) rfl gm rfl (Nat.le_of_ble_eq_true rfl) (fun kk h => h) ⟨Nat.le_of_ble_eq_true rfl, ?_⟩
              show wz 38 mt_X12_bidOf.2.2.2.2.1 _ mt_X12_bidOf.2.2.2.2.1 [some (.inr (.inr (some m))), some (.inl z1), some (.inl z2)] [] _ _ _ _
              refine w_aln rfl ?_
              refine w_gr gm rfl (by decide) rfl e26 ?_
              refine w_bp ?_
              refine w_bp ?_
              refine w_iln rfl ?_
              refine w_mul ⟨by omega, by omega⟩ ?_
              refine w_add ⟨by omega, by omega⟩ ?_
              refine w_iln rfl ?_
              refine w_add ⟨by omega, by omega⟩ ?_
              refine w_iald (v := M.1 s (88 + 12 * z1 + z2).toNat) gs rfl (by omega) (by show (88 : Int) + 12 * z1 + z2 < ((537 : Nat) : Int); omega) (hM2.2.2.1 _ (Or.inl (by omega))) ?_
              refine w_iret (fun q => by cases q) ?_
              refine w_isn ?_
              refine w_ic ?_
              refine w_is ?_
              refine w_ic ?_
              refine w_is ?_
              have q := h
              unfold lr_must at q
              rw [if_pos ⟨⟨by omega, by omega⟩, by omega, by omega⟩] at q
              exact r_ym2 (H := M.1 s) (r := (88 + 12 * z1 + z2).toNat) (by omega) (by omega) (by omega) (by omega) rfl hL rfl gf m45 hH rfl q 999 1 M2 none _ _ (by decide) (by decide) rfl ⟨hM2.1, hM2.2.1, fun j _ j2 => hM2.2.2.1 j j2, hM2.2.2.2.1, hM2.2.2.2.2⟩
            · exfalso; omega
theorem r_ysh {G : mj_G} {M0 : mj_M} {m s bf : Nat} {Q : mj_P} {k n z : Int} {H : Nat → Int} (hL : yq_L G M0 s m H) (gf : G bf = (64100, 135)) (hH : ye_H2 H) (k1 : 0 ≤ k) (k2 : k < 8) (n1 : 1 ≤ n) (n2 : n ≤ 100) : ∀ (f i : Nat) (M : mj_M) (cb sb : Nat), (i : Int) + f = n → rq_M s m bf M0 M → (∀ M' cb sb, rq_M s m bf M0 M' → wz 39 mt_X12_shores.2.2.2.2.1 Q (mt_X12_shores.2.2.2.2.1.drop 40) [some (.inr (.inr (some m))), some (.inl k), some (.inl n), some (.inl z), some (.inl (lr_sh H k.toNat z n.toNat)), some (.inl n)] [] G M' cb sb) → wz 39 mt_X12_shores.2.2.2.2.1 Q (mt_X12_shores.2.2.2.2.1.drop 20) [some (.inr (.inr (some m))), some (.inl k), some (.inl n), some (.inl z), some (.inl (lr_sh H k.toNat z i)), some (.inl (i : Int))] [] G M cb sb := by
  have gm := hL.gm
  have gs := hL.gs
  have m6 := hL.m6
  have sm := hL.sm
  have nbs : bf ≠ s := hn_ne gf gs (by decide)
  have nbm : bf ≠ m := hn_ne gf gm (by decide)
  intro f
  induction f with
  | zero =>
    intro i M cb sb e hM h
    obtain rfl : n = (i : Int) := by omega
    refine w_il rfl ?_
    refine w_iln rfl ?_
    refine w_cmge (fun c => ?_) (fun c => by exfalso; omega)
    exact h M _ _ hM
  | succ f ih =>
    intro i M cb sb e hM h
    refine w_il rfl ?_
    refine w_iln rfl ?_
    refine w_cmge (fun c => by exfalso; omega) (fun c => ?_)
    refine w_aln rfl ?_
    refine w_iln rfl ?_
    refine w_il rfl ?_
    refine w_addw ?_
    intro x hx ex
    rw [show x = lr_sx z i from ex]
    refine w_pi gm rfl (by decide) rfl (fun q => by cases q) ?_
    have hM1 : rq_M s m bf M0 (mj_p0 M m 47 (lr_sx z i)) := ⟨hM.1, fun a a1 a2 a3 => (wz_c a2).trans (hM.2.1 a a1 a2 a3), fun j hj => (congrFun (wz_c sm) j).trans (hM.2.2.1 j hj), fun k k0 k1 k2 k3 k4 => (hn_n (Or.inr k4)).trans (hM.2.2.2.1 k k0 k1 k2 k3 k4), fun k hk => (congrFun (wz_c nbm) k).trans (hM.2.2.2.2 k hk)⟩
    refine w_aln rfl ?_
    refine w_ic ?_
    refine w_cv (st := []) rfl gm rfl (Nat.le_of_ble_eq_true rfl) (fun kk h => h) (r_X12_wholeYear1 (d := 34) (hM1.L hL) hH hn_s (fun M2 hY => ?_))
    have hM2 := hM1.yr hY nbs nbm
    refine w_il rfl ?_
    refine w_aln rfl ?_
    refine w_iln rfl ?_
    refine w_ic ?_
    refine w_cv (st := [.inl (lr_sh H k.toNat z i)]) rfl gm rfl (Nat.le_of_ble_eq_true rfl) (fun kk h => h) ⟨Nat.le_of_ble_eq_true rfl, ?_⟩
    show wz 38 mt_X12_of.2.2.2.2.1 _ mt_X12_of.2.2.2.2.1 [some (.inr (.inr (some m))), some (.inl k), some (.inl 3)] [] _ _ _ _
    refine w_aln rfl ?_
    refine w_gr gm rfl (by decide) rfl (by rw [hM2.1]; exact m6) ?_
    refine w_sp ?_
    refine w_bp ?_
    refine w_iln rfl ?_
    refine w_mul ⟨by omega, by omega⟩ ?_
    refine w_add ⟨by omega, by omega⟩ ?_
    refine w_iln rfl ?_
    refine w_add ⟨by omega, by omega⟩ ?_
    refine w_iald (v := (ye_yd H (lr_sx z i)).2.2.2.2 k.toNat 3) gs rfl (by omega) (by show (232 : Int) + 11 * k + 3 < ((537 : Nat) : Int); omega) (hY.R (t := k.toNat) (w := 3) (by omega) (by omega) (by decide)) ?_
    refine w_iret (fun q => by cases q) ?_
    refine w_addw ?_
    intro y hy ey
    rw [show y = lr_sh H k.toNat z (i + 1) from ey.trans lr_sh_s.symm]
    refine w_is ?_
    refine w_ii rfl ⟨by omega, by omega⟩ ?_
    refine w_goto ?_
    exact ih (i + 1) M2 _ _ (by omega) hM2 h
set_option maxRecDepth 100000 in
theorem r_X12_shoresC {G : mj_G} {M : mj_M} {m s bf : Nat} {Q : mj_P} (hL : yq_L G M s m (M.1 s)) (gf : G bf = (64100, 135)) (m45 : M.2.2 m 45 = some bf) (hH : ye_H2 (M.1 s)) {z1 z2 z3 : Int} (h : ∀ M1, rq_K s m bf M M1 → Q (some (.inl (lr_shores (M.1 s) z1 z2 z3))) G M1) : mj_R mj_tab 40 240 [.inr (.inr (some m)), .inl z1, .inl z2, .inl z3] G M Q := by
  have gm := hL.gm
  have gs := hL.gs
  have m6 := hL.m6
  have b0 := hH.1.1
  have nbs : bf ≠ s := hn_ne gf gs (by decide)
  have nbm : bf ≠ m := hn_ne gf gm (by decide)
  have sm : s ≠ m := hL.sm
  have es : (mj_p0 M m 0 0).1 s = M.1 s := wz_c sm
  have hK0 : rq_K s m bf M (mj_p0 M m 0 0) := ⟨rfl, fun a _ a2 _ => wz_c a2, fun j _ => congrFun es j, fun k k0 _ _ _ _ => hn_n (Or.inr k0)⟩
  refine ⟨Nat.le_of_ble_eq_true rfl, ?_⟩
  show wz 39 mt_X12_shores.2.2.2.2.1 Q mt_X12_shores.2.2.2.2.1 [some (.inr (.inr (some m))), some (.inl z1), some (.inl z2), some (.inl z3), none, none] [] G M _ _
  refine w_aln rfl ?_
  refine w_ic ?_
  refine w_pi gm rfl (by decide) rfl (fun q => by cases q) ?_
  refine w_aln rfl ?_
  refine w_iln rfl ?_
  refine w_cv (st := []) rfl gm rfl (Nat.le_of_ble_eq_true rfl) (fun kk h => h) ⟨Nat.le_of_ble_eq_true rfl, ?_⟩
  show wz (38) mt_X12_isTown.2.2.2.2.1 _ mt_X12_isTown.2.2.2.2.1 [some (.inr (.inr (some m))), some (.inl z1)] [] _ _ _ _
  refine w_iln rfl ?_
  refine w_ic ?_
  refine w_aln rfl ?_
  refine w_gr gm rfl (by decide) rfl (m6) ?_
  refine w_ic ?_
  refine w_iald (v := (M.1 s 0)) gs rfl (by show (0 : Int) ≤ 0; omega) (by show 0 < ((537 : Nat) : Int); omega) ((hn_n (Or.inl (hn_ne gs gm (by decide)))).trans (congrArg (M.1 s) (by show (0 : Int).toNat = 0; omega))) ?_
  refine w_ic ?_
  refine w_sub ⟨by show (-2147483648 : Int) ≤ (M.1 s 0) - 1; omega, by show (M.1 s 0) - 1 < (2147483648 : Int); omega⟩ ?_
  refine w_cs (st := []) rfl (Nat.le_of_ble_eq_true rfl) (fun kk h => h) ⟨Nat.le_of_ble_eq_true rfl, ?_⟩
  show wz (37) mt_X12_isIn.2.2.2.2.1 _ mt_X12_isIn.2.2.2.2.1 [some (.inl z1), some (.inl 0), some (.inl ((M.1 s 0) - 1))] [] _ _ _ _
  refine w_iln rfl ?_
  refine w_iln rfl ?_
  refine w_cmlt (fun c1 => ?_) (fun c1 => ?_)
  · skip
    refine w_ic ?_
    refine w_iret (fun _ => Or.inl rfl) ?_
    refine w_iret (fun _ => Or.inl rfl) ?_
    refine w_ifeq (fun c2 => ?_) (fun c2 => ?_)
    · skip
      refine w_ic ?_
      exact w_iret (fun q => by cases q) (by have q := h _ hK0; unfold lr_shores at q; rw [if_neg (by omega)] at q; exact q)
    · exfalso; omega
  · skip
    refine w_iln rfl ?_
    refine w_iln rfl ?_
    refine w_cmgt (fun c3 => ?_) (fun c3 => ?_)
    · skip
      refine w_ic ?_
      refine w_iret (fun _ => Or.inl rfl) ?_
      refine w_iret (fun _ => Or.inl rfl) ?_
      refine w_ifeq (fun c4 => ?_) (fun c4 => ?_)
      · skip
        refine w_ic ?_
        exact w_iret (fun q => by cases q) (by have q := h _ hK0; unfold lr_shores at q; rw [if_neg (by omega)] at q; exact q)
      · exfalso; omega
    · skip
      refine w_ic ?_
      refine w_goto ?_
      refine w_iret (fun _ => Or.inr rfl) ?_
      refine w_iret (fun _ => Or.inr rfl) ?_
      refine w_ifeq (fun c5 => ?_) (fun c5 => ?_)
      · exfalso; omega
      · skip
        refine w_iln rfl ?_
        refine w_ic ?_
        refine w_bp ?_
        refine w_cs (st := []) rfl (Nat.le_of_ble_eq_true rfl) (fun kk h => h) ⟨Nat.le_of_ble_eq_true rfl, ?_⟩
        show wz (38) mt_X12_isIn.2.2.2.2.1 _ mt_X12_isIn.2.2.2.2.1 [some (.inl z2), some (.inl 1), some (.inl 100)] [] _ _ _ _
        refine w_iln rfl ?_
        refine w_iln rfl ?_
        refine w_cmlt (fun c6 => ?_) (fun c6 => ?_)
        · skip
          refine w_ic ?_
          refine w_iret (fun _ => Or.inl rfl) ?_
          refine w_ifne (fun c7 => ?_) (fun c7 => ?_)
          · exfalso; omega
          · skip
            refine w_ic ?_
            exact w_iret (fun q => by cases q) (by have q := h _ hK0; unfold lr_shores at q; rw [if_neg (by omega)] at q; exact q)
        · skip
          refine w_iln rfl ?_
          refine w_iln rfl ?_
          refine w_cmgt (fun c8 => ?_) (fun c8 => ?_)
          · skip
            refine w_ic ?_
            refine w_iret (fun _ => Or.inl rfl) ?_
            refine w_ifne (fun c9 => ?_) (fun c9 => ?_)
            · exfalso; omega
            · skip
              refine w_ic ?_
              exact w_iret (fun q => by cases q) (by have q := h _ hK0; unfold lr_shores at q; rw [if_neg (by omega)] at q; exact q)
          · skip
            refine w_ic ?_
            refine w_goto ?_
            refine w_iret (fun _ => Or.inr rfl) ?_
            refine w_ifne (fun c10 => ?_) (fun c10 => ?_)
            · skip
              refine w_aln rfl ?_
              refine w_cv (st := []) rfl gm rfl (Nat.le_of_ble_eq_true rfl) (fun kk h => h) (r_X12_thinksC (M0 := mj_p0 M m 0 0) (d := 37) gm gs gf m6 m45 (fun M2 t1 t2 t3 => ?_))
              have hM2 : rq_M s m bf M M2 := ⟨t1, fun a a1 a2 a3 => (t2 a a3).trans (wz_c a2), fun j _ => (congrFun (t2 s nbs.symm) j).trans (congrFun es j), fun k k0 _ _ _ _ => (congrFun (t2 m nbm.symm) k).trans (hn_n (Or.inr k0)), fun k hk => (t3 k hk).trans (congrFun es _)⟩
              have e26 : M2.2.2 m 6 = some s := by rw [hM2.1]; exact m6
              refine w_ic ?_
              refine w_is ?_
              refine w_ic ?_
              refine w_is ?_
              refine r_ysh (k := z1) (n := z2) (z := z3) (H := M.1 s) hL gf hH (by omega) (by omega) (by omega) (by omega) z2.toNat 0 M2 _ _ (by omega) hM2 (fun M3 cb sb hM3 => ?_)
              refine w_aln rfl ?_
              refine w_cv (st := []) rfl gm rfl (Nat.le_of_ble_eq_true rfl) (fun kk h => h) (r_X12_forgetsC (d := 37) gm gs gf (by rw [hM3.1]; exact m6) (by rw [hM3.1]; exact m45) (fun M4 f1 f2 f3 => ?_))
              have hK := hM3.end nbs sm.symm f1 f2 f3
              refine w_il rfl ?_
              refine w_iret (fun q => by cases q) ?_
              have q := h M4 hK
              unfold lr_shores at q
              rw [if_pos ⟨⟨by omega, by omega⟩, by omega, by omega⟩] at q
              exact q
            · exfalso; omega
end
