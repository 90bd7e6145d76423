/-! ===== YEARS through plain, image, restore, contracts, take, begin, on ===== -/
/-- between plain of the class and of the reference -/
def lq_Wq (G : mj_G) (M : mj_M) (m s kp kc : Nat) (w : Nat → Nat) (y : rv_Om) : Prop := lq_WA G w ∧ lq_WB M w ∧ M.1 m 32 = -1 ∧ (∀ k, k < 2 → M.1 kc k ≠ 0 → yw_F M (M.1 kp) (538 * k) w (lq_yi k)) ∧ (∀ e, y = .inl e → yw_F M (M.1 s) 0 w 61) ∧ (∀ e, y = .inr e → M.1 (w 61) 0 = 0)
/-- image, restore of the class as far as YEARS go -/
def lq_yiy (G : mj_G) (M M' : mj_M) (kc : Nat) (w : Nat → Nat) (z1 : Int) : Prop := (¬ (0 ≤ z1 ∧ z1 ≤ 1) → M' = M) ∧ ∀ k : Nat, k < 2 → z1 = (k : Int) → ∃ M1 M2, ye_al G M M1 ∧ yk_cp w (lq_yi k) 61 M1 M2 ∧ M' = mj_p0 M2 kc k 1
def lq_yry (G : mj_G) (M M' : mj_M) (kc ud : Nat) (w : Nat → Nat) (z1 : Int) : Prop := ((∀ k : Nat, k < 2 → z1 = (k : Int) → M.1 kc k = 0) → M' = M) ∧ ∀ k : Nat, k < 2 → z1 = (k : Int) → M.1 kc k ≠ 0 → ∃ M1 M2, ye_al G M M1 ∧ yk_cp w 61 (lq_yi k) M1 M2 ∧ M' = mj_p0 M2 ud 3 0
def lq_Wi (G : mj_G) (M : mj_M) (m s kp kc : Nat) (w : Nat → Nat) (z1 : Int) : Prop := lq_WA G w ∧ lq_WB M w ∧ M.1 m 32 = -1 ∧ yw_F M (M.1 s) 0 w 61 ∧ (∀ k : Nat, k < 2 → z1 ≠ (k : Int) → M.1 kc k ≠ 0 → yw_F M (M.1 kp) (538 * k) w (lq_yi k)) ∧ (∀ k : Nat, k < 2 → z1 = (k : Int) → yw_F M (M.1 s) 0 w (lq_yi k))
def lq_Wr (G : mj_G) (M : mj_M) (m s kp kc : Nat) (w : Nat → Nat) (z1 : Int) : Prop := lq_WA G w ∧ lq_WB M w ∧ M.1 m 32 = -1 ∧ (∀ k, k < 2 → M.1 kc k ≠ 0 → yw_F M (M.1 kp) (538 * k) w (lq_yi k)) ∧ ((∀ k : Nat, k < 2 → z1 = (k : Int) → M.1 kc k = 0) → yw_F M (M.1 s) 0 w 61) ∧ (∀ k : Nat, k < 2 → z1 = (k : Int) → M.1 kc k ≠ 0 → yw_F M (M.1 kp) (538 * k) w 61)
/-- between begin, on of the class and of the reference -/
def lq_Wo (G : mj_G) (M : mj_M) (m s kp kc : Nat) (w : Nat → Nat) (T : ye_T) : Prop := lq_WA G w ∧ lq_WB M w ∧ M.1 m 32 = -1 ∧ (∀ k, k < 2 → M.1 kc k ≠ 0 → yw_F M (M.1 kp) (538 * k) w (lq_yi k)) ∧ yd_ok (M.1 s) ∧ M.1 (w 61) 0 = 1 ∧ yw_V M w 61 T ∧ ye_okT (M.1 s) T
section YO
variable {G : mj_G} {M M' M1 M2 : mj_M} {x s m kp kc tp ud dn ik r : Nat} {w : Nat → Nat} {z1 z : Int} {H H' R P : Nat → Int} {o o' Y Y' : Nat} {T T' : ye_T} {W : List (Nat × Nat × Nat)}
set_option maxRecDepth 100000 in
theorem lq_W.pl1 {y : rv_Om} (h : lq_W G M m s kp kc w) (hA : lq_A G w) (gx : G x = (1011, 0)) (gm : G m = (1012, 0)) (gtp : G tp = (1008, 0)) (gs : G s = (51100, 537)) (gk : G kp = (70100, 1076)) (gc : G kc = (48102, 2)) (py : lq_py G M M' x tp w y) : lq_Wq G M' m s kp kc w y := by
  obtain ⟨p, q, oa, dl, fa, sa, ca, se, ye, ud, hN, goa, hX, hF, hO⟩ := py
  obtain ⟨⟨-, g74, g29, gse, gye, gud, gdl, gfa, gsa, gca, d0, d1, d2⟩, x_x0, x_x1, x_x2, x_x5, x_sp0, x_nw0, x_nw1, x_nw2, x_nw3⟩ := id hX
  obtain ⟨gq, gqn, -, -, gqw, gqt, gqb⟩ := hA.2.1 q hN.qin.1
  obtain ⟨gA, gB, m32, hn, hk⟩ := id h
  rcases y with e | ⟨PL, WA, OA, TO, BI, nm, r⟩
  · obtain ⟨⟨f2, fl, f1⟩, -⟩ := hF e rfl
    have tg : ∀ {a t u : Nat}, G a = (t, u) → t ≠ 1004 → t ≠ 26100 → t ≠ 28100 → t ≠ 29100 → t ≠ 30100 → t ≠ 1011 → t ≠ 1008 → M'.1 a = M.1 a := fun ga n1 n4 n6 n7 n8 n9 n10 => f1 _ (hn_ne ga gx n9) (hn_ne ga gtp n10) (hn_ne ga gq n1) (hn_ne ga gqw n7) (hn_ne ga goa n8) (fun t ht => hn_ne ga (gqt t ht) n4) (fun t ht => hn_ne ga (gqb t ht) n6)
    have rf : ∀ {a t u : Nat} (j : Nat), G a = (t, u) → t ≠ 1008 → M'.2.2 a j = M.2.2 a j := fun j g h1 => f2 _ j (fun e => hn_ne g gtp h1 e.1)
    obtain ⟨v1, v2, v3, v4, v5⟩ := h.cg (M' := M') (gB.cg (fun Y hY k _ _ => rf k (gA Y hY).1 (by decide)) (fun Y hY t _ => rf t (gA Y hY).2.2.2.2.1 (by decide)) (fun i hi => rf 3 (show G (w i) = (1007, 0) by rcases hi with z | z | z <;> subst z <;> first | exact g29 | exact hA.2.2.2.2.1 | exact hA.2.2.2.2.2.1) (by decide))) (congrFun (tg gm (by decide) (by decide) (by decide) (by decide) (by decide) (by decide) (by decide)) 32) (fun Y hY v hv => by
      obtain ⟨t, n, g, ht⟩ := yw_gv gA hY hv
      exact tg g (by omega) (by omega) (by omega) (by omega) (by omega) (by omega) (by omega)) (fun j _ => congrFun (tg gs (by decide) (by decide) (by decide) (by decide) (by decide) (by decide) (by decide)) j) (tg gk (by decide) (by decide) (by decide) (by decide) (by decide) (by decide) (by decide)) (tg gc (by decide) (by decide) (by decide) (by decide) (by decide) (by decide) (by decide))
    exact ⟨v1, v2, v3, v5, fun _ _ => v4, fun _ e => by cases e⟩
  · obtain ⟨⟨o1, o2, o3, o4, o5, o6, o7, o8, o9, fo⟩, u1, u2, -⟩ := hO _ _ _ _ _ _ _ rfl
    have eye : ye = w 61 := Option.some.inj (x_nw3.symm.trans gB.2.1)
    have rf : ∀ {a t u : Nat} (j : Nat), G a = (t, u) → t ≠ 1008 → (t ≠ 1007 ∨ j ≠ 0) → M'.2.2 a j = M.2.2 a j := fun j g h1 h2 => o8 _ j (fun e => hn_ne g gtp h1 e.1) (fun e => h2.elim (fun z => hn_ne g g29 z e.1) (fun z => z e.2)) (fun e => h2.elim (fun z => hn_ne g g74 z e.1) (fun z => z e.2))
    have tg : ∀ {a t u : Nat}, G a = (t, u) → t ≠ 1004 → t ≠ 26100 → t ≠ 28100 → t ≠ 29100 → t ≠ 30100 → t ≠ 1011 → t ≠ 1008 → t ≠ 1006 → t ≠ 1009 → t ≠ 1002 → t ≠ 16100 → t ≠ 17100 → t ≠ 18100 → a ≠ ye → M'.1 a = M.1 a := fun ga n1 n4 n6 n7 n8 n9 n10 m5 m7 m1 m2 m3 m4 m6 => fo _ (hn_ne ga gx n9) (hn_ne ga gtp n10) (hn_ne ga gq n1) (hn_ne ga gqw n7) (hn_ne ga goa n8) (fun t ht => hn_ne ga (gqt t ht) n4) (fun t ht => hn_ne ga (gqb t ht) n6) (hn_ne ga gdl m1) (hn_ne ga gfa m2) (hn_ne ga gsa m3) (hn_ne ga gca m4) (hn_ne ga gse m5) m6 (hn_ne ga gud m7)
    have im : ∀ k v, v < 13 → M'.1 (w (lq_yi k + v)) = M.1 (w (lq_yi k + v)) := fun k v hv => by
      obtain ⟨t, n, g, ht⟩ := yw_gv gA (lq_yi_in k).1 hv
      exact tg g (by omega) (by omega) (by omega) (by omega) (by omega) (by omega) (by omega) (by omega) (by omega) (by omega) (by omega) (by omega) (by omega) (by rw [eye]; exact yw_w (j := 0) hA (lq_yi_in k).1 (by decide) hv (by decide) (Or.inl (lq_yi_in k).2))
    have ek : M'.1 kp = M.1 kp := tg gk (by decide) (by decide) (by decide) (by decide) (by decide) (by decide) (by decide) (by decide) (by decide) (by decide) (by decide) (by decide) (by decide) (hn_ne gk gye (by decide))
    have ec : M'.1 kc = M.1 kc := tg gc (by decide) (by decide) (by decide) (by decide) (by decide) (by decide) (by decide) (by decide) (by decide) (by decide) (by decide) (by decide) (by decide) (hn_ne gc gye (by decide))
    refine ⟨gA, gB.cg (fun Y hY k _ _ => rf k (gA Y hY).1 (by decide) (Or.inl (by decide))) (fun Y hY t _ => rf t (gA Y hY).2.2.2.2.1 (by decide) (Or.inl (by decide))) (fun i hi => rf 3 (show G (w i) = (1007, 0) by rcases hi with z | z | z <;> subst z <;> first | exact g29 | exact hA.2.2.2.2.1 | exact hA.2.2.2.2.2.1) (by decide) (Or.inr (by decide))), (congrFun (tg gm (by decide) (by decide) (by decide) (by decide) (by decide) (by decide) (by decide) (by decide) (by decide) (by decide) (by decide) (by decide) (by decide) (hn_ne gm gye (by decide))) 32).trans m32, fun k hk2 h0 => ?_, (fun _ e => by cases e), fun _ _ => by rw [← eye]; exact u2⟩
    rw [ec] at h0; rw [ek]
    exact (hk k hk2 h0).cg (yw_q.of (im k)) (fun _ _ => rfl)
theorem yd_ok.of0 (h0 : 0 ≤ H 0) (h : ∀ j, j < 36 → H (184 + j) = 0) : yd_ok H := fun j hj => by
  have e1 := h (3 * j) (by omega)
  have e2 := h (1 + 3 * j) (by omega)
  have e3 := h (2 + 3 * j) (by omega)
  rw [show 184 + (1 + 3 * j) = 185 + 3 * j by omega] at e2
  rw [show 184 + (2 + 3 * j) = 186 + 3 * j by omega] at e3
  rw [e1, e2, e3]
  exact ⟨Int.le_refl 0, Or.inl h0, Int.le_refl 0, h0, fun q => absurd q (Int.lt_irrefl 0), Int.le_refl 0, by decide⟩
theorem lq_Wq.pl2 {y : rv_Om} (h : lq_Wq G M m s kp kc w y) (hA : lq_A G w) (f : ab_frm W G M M') (cW : lq_Wu W) (e32 : M'.1 m 32 = M.1 m 32) (ek : M'.1 kp = M.1 kp) (ec : M'.1 kc = M.1 kc) (o1 : ∀ e, y = .inl e → M'.1 s = M.1 s) (o2 : ∀ e, y = .inr e → ∀ j, 184 ≤ j → j < 537 → M'.1 s j = 0) (b0 : 0 ≤ M'.1 s 0) : lq_W G M' m s kp kc w := by
  obtain ⟨gA, gB, m32, hk, h1, h2⟩ := h
  obtain ⟨hB, hv⟩ := gB.fr gA hA f cW
  refine ⟨gA, hB, e32.trans m32, ?_, fun k hk2 h0 => ?_⟩
  · rcases y with e | e
    · exact (h1 e rfl).cg (yw_q.of (hv 61 (by decide))) (fun j _ => by rw [o1 e rfl])
    · have z := o2 e rfl
      have e221 : M'.1 s (0 + 221) = 0 := z 221 (by decide) (by decide)
      refine ⟨⟨((congrFun (hv 61 (by decide) 0 (by decide)) 0).trans (h2 e rfl)).trans e221.symm, Or.inl e221, fun c => ?_⟩, (yd_ok.of0 b0 (fun j hj => z _ (by omega) (by omega))).zz⟩
      rw [e221] at c; exact absurd c (by decide)
  · rw [ec] at h0; rw [ek]
    exact (hk k hk2 h0).cg (yw_q.of (hv _ (lq_yi_in k).1)) (fun _ _ => rfl)
theorem ye_al.WB (h : ye_al G M M') (hB : lq_WB M w) (gA : lq_WA G w) (hA : lq_A G w) : lq_WB M' w := hB.cg (fun Y hY k _ _ => congrFun ((h _).2 (Or.inl (by rw [(gA Y hY).1]; exact Or.inl rfl))) k) (fun Y hY t _ => congrFun ((h _).2 (Or.inl (by rw [(gA Y hY).2.2.2.2.1]; exact Or.inr (Or.inr (Or.inr (Or.inr (Or.inl rfl))))))) t) (fun i hi => congrFun ((h _).2 (Or.inr (Or.inl (by rcases hi with z | z | z <;> subst z <;> first | rw [hA.2.2.1] | rw [hA.2.2.2.2.1] | rw [hA.2.2.2.2.2.1])))) 3)
theorem ye_al.v (h : ye_al G M M') (gA : lq_WA G w) (hY : Y ∈ yw_Y) {v : Nat} (hv : v < 13) : M'.1 (w (Y + v)) = M.1 (w (Y + v)) := (h _).1 (by
  obtain ⟨t, n, g, ht⟩ := yw_gv gA hY hv
  rw [g]; unfold ye_tg; show t = 1010 ∨ _; omega)
/-- a cell that is none of the YEAR at Y -/
theorem yw_nt (gA : lq_WA G w) (hY : Y ∈ yw_Y) {a t n : Nat} (g : G a = (t, n)) (ht : t ≠ 1010 ∧ t ≠ 42100 ∧ t ≠ 43100 ∧ t ≠ 44100 ∧ t ≠ 45104 ∧ t ≠ 46100) : yw_ne w Y a := fun v hv e => by
  obtain ⟨t', n', g', h'⟩ := yw_gv gA hY hv
  rw [e, g'] at g
  have := congrArg Prod.fst g
  dsimp only at this
  omega
theorem yw_nY (hA : lq_A G w) (hY : Y ∈ yw_Y) (hX : Y' ∈ yw_Y) (n : Y ≠ Y') {v : Nat} (hv : v < 13) : yw_ne w Y' (w (Y + v)) := fun _ hv' => yw_w hA hY hX hv hv' (Or.inl n)
theorem yk_cp.WB (h : yk_cp w Y Y' M M') (hB : lq_WB M w) : lq_WB M' w := hB.cg (fun _ _ _ _ _ => by rw [h.1]) (fun _ _ _ _ => by rw [h.1]) (fun _ _ => by rw [h.1])
theorem yk_cp.q (h : yk_cp w Y Y' M M') : yw_q M M' w Y' Y := ⟨h.2.2.1, h.2.2.2.1, h.2.2.2.2⟩
theorem yw_q.tr (h : yw_q M M1 w Y Y') {Y2 : Nat} (h2 : yw_q M1 M' w Y' Y2) : yw_q M M' w Y Y2 := ⟨fun f a b => (h2.1 f a b).trans (h.1 f a b), fun v a j b => (h2.2.1 v a j b).trans (h.2.1 v a j b), fun t u a b => (h2.2.2 t u a b).trans (h.2.2 t u a b)⟩
theorem lq_W.im1 (h : lq_W G M m s kp kc w) (hA : lq_A G w) (gc : G kc = (48102, 2)) (es : M'.1 s = M.1 s) (ek : M'.1 kp = M.1 kp) (e32 : M'.1 m 32 = M.1 m 32) (iy : lq_yiy G M M' kc w z1) : lq_Wi G M' m s kp kc w z1 := by
  obtain ⟨gA, gB, m32, hn, hk⟩ := h
  obtain ⟨i0, i1⟩ := iy
  by_cases hz : 0 ≤ z1 ∧ z1 ≤ 1
  · have hk0 : z1.toNat < 2 := by omega
    have e0 : z1 = (z1.toNat : Int) := by omega
    generalize z1.toNat = k0 at hk0 e0
    obtain ⟨M1, M2, al, hc, e⟩ := i1 k0 hk0 e0
    have nk : ∀ Y, Y ∈ yw_Y → ∀ v, v < 13 → M'.1 (w (Y + v)) = M2.1 (w (Y + v)) := fun Y hY v hv => by
      rw [e]; exact wz_c (fun q => yw_nt gA hY gc (by decide) v hv q.symm)
    have keep : ∀ Y, Y ∈ yw_Y → Y ≠ lq_yi k0 → ∀ v, v < 13 → M'.1 (w (Y + v)) = M.1 (w (Y + v)) := fun Y hY hne v hv => (nk Y hY v hv).trans ((hc.2.1 _ (yw_nY hA hY (lq_yi_in k0).1 hne hv)).trans (al.v gA hY hv))
    refine ⟨gA, ?_, e32.trans m32, hn.cg (yw_q.of (keep 61 (by decide) (lq_yi_in k0).2.symm)) (fun j _ => by rw [es]), fun k hk2 hz2 h0 => ?_, fun k hk2 hz2 => ?_⟩
    · have b := hc.WB (al.WB gB gA hA)
      rw [e]; exact b
    · have hne : k ≠ k0 := fun q => hz2 (by rw [q]; exact e0)
      have h0' : M.1 kc k ≠ 0 := by
        rw [e, hn_n (Or.inr hne), hc.2.1 kc (yw_nt gA (lq_yi_in k0).1 gc (by decide)), (al kc).1 (by rw [gc]; exact Or.inr (Or.inr (Or.inr (Or.inr (Or.inr (Or.inr rfl))))))] at h0
        exact h0
      rw [ek]
      exact (hk k hk2 h0').cg (yw_q.of (keep _ (lq_yi_in k).1 (by unfold lq_yi; split <;> split <;> omega))) (fun _ _ => rfl)
    · obtain rfl : k = k0 := by omega
      exact hn.cg ((yw_q.of (fun v hv => al.v gA (by decide) hv)).tr (hc.q.tr (yw_q.of (nk _ (lq_yi_in k).1)))) (fun j _ => by rw [es])
  · have e := i0 hz
    subst e
    exact ⟨gA, gB, m32, hn, fun k hk2 _ h0 => hk k hk2 h0, fun k hk2 e => absurd ⟨by omega, by omega⟩ hz⟩
theorem lq_Wi.im2 (h : lq_Wi G M m s kp kc w z1) (hA : lq_A G w) (f : ab_frm W G M M') (cW : lq_Wu W) (e32 : M'.1 m 32 = M.1 m 32) (es : M'.1 s = M.1 s) (ec : M'.1 kc = M.1 kc) (o : (¬ (0 ≤ z1 ∧ z1 ≤ 1) ∧ M'.1 kp = M.1 kp) ∨ (∃ k : Nat, k ≤ 1 ∧ z1 = (k : Int) ∧ (∀ p, p < 537 → M'.1 kp (538 * k + p) = M.1 s p) ∧ (∀ q, q < 538 * k ∨ 538 * k + 538 ≤ q → M'.1 kp q = M.1 kp q))) : lq_W G M' m s kp kc w := by
  obtain ⟨gA, gB, m32, hn, h1, h2⟩ := h
  obtain ⟨hB, hv⟩ := gB.fr gA hA f cW
  refine ⟨gA, hB, e32.trans m32, hn.cg (yw_q.of (hv 61 (by decide))) (fun j _ => by rw [es]), fun k hk2 h0 => ?_⟩
  rw [ec] at h0
  have ev := yw_q.of (M := M) (M' := M') (hv _ (lq_yi_in k).1)
  rcases o with ⟨o1, o2⟩ | ⟨k0, o1, o2, o3, o4⟩
  · exact (h1 k hk2 (fun e => o1 ⟨by omega, by omega⟩) h0).cg ev (fun _ _ => by rw [o2])
  · by_cases e : k = k0
    · subst e
      exact (h2 k hk2 o2).cg ev (fun j hj => by rw [Nat.zero_add]; exact o3 _ (by omega))
    · exact (h1 k hk2 (fun e2 => e (by omega)) h0).cg ev (fun j hj => o4 _ (by omega))
theorem lq_W.re1 (h : lq_W G M m s kp kc w) (hA : lq_A G w) (gud : G ud = (1009, 0)) (es : M'.1 s = M.1 s) (ek : M'.1 kp = M.1 kp) (ec : M'.1 kc = M.1 kc) (e32 : M'.1 m 32 = M.1 m 32) (ry : lq_yry G M M' kc ud w z1) : lq_Wr G M' m s kp kc w z1 := by
  obtain ⟨gA, gB, m32, hn, hk⟩ := h
  obtain ⟨i0, i1⟩ := ry
  by_cases hz : ∃ k : Nat, k < 2 ∧ z1 = (k : Int) ∧ M.1 kc k ≠ 0
  · obtain ⟨k0, hk0, e0, hc0⟩ := hz
    obtain ⟨M1, M2, al, hc, e⟩ := i1 k0 hk0 e0 hc0
    have nk : ∀ Y, Y ∈ yw_Y → ∀ v, v < 13 → M'.1 (w (Y + v)) = M2.1 (w (Y + v)) := fun Y hY v hv => by
      rw [e]; exact wz_c (fun q => yw_nt gA hY gud (by decide) v hv q.symm)
    have keep : ∀ Y, Y ∈ yw_Y → Y ≠ 61 → ∀ v, v < 13 → M'.1 (w (Y + v)) = M.1 (w (Y + v)) := fun Y hY hne v hv => (nk Y hY v hv).trans ((hc.2.1 _ (yw_nY hA hY (by decide) hne hv)).trans (al.v gA hY hv))
    refine ⟨gA, ?_, e32.trans m32, fun k hk2 h0 => ?_, fun hno => absurd (by rw [← ec]; exact hno k0 hk0 e0) hc0, fun k hk2 hz2 h0 => ?_⟩
    · have b := hc.WB (al.WB gB gA hA)
      rw [e]; exact b
    · rw [ec] at h0; rw [ek]
      exact (hk k hk2 h0).cg (yw_q.of (keep _ (lq_yi_in k).1 (lq_yi_in k).2)) (fun _ _ => rfl)
    · obtain rfl : k = k0 := by omega
      rw [ek]
      exact (hk k hk0 hc0).cg ((yw_q.of (fun v hv => al.v gA (lq_yi_in k).1 hv)).tr (hc.q.tr (yw_q.of (nk 61 (by decide))))) (fun _ _ => rfl)
  · have hno : ∀ k : Nat, k < 2 → z1 = (k : Int) → M.1 kc k = 0 := fun k hk2 e => Classical.byContradiction (fun z => hz ⟨k, hk2, e, z⟩)
    have e := i0 hno
    subst e
    exact ⟨gA, gB, m32, hk, fun _ => hn, fun k hk2 e h0 => absurd (hno k hk2 e) h0⟩
theorem lq_Wr.re2 (h : lq_Wr G M m s kp kc w z1) (hA : lq_A G w) (f : ab_frm W G M M') (cW : lq_Wu W) (e32 : M'.1 m 32 = M.1 m 32) (ek : M'.1 kp = M.1 kp) (ec : M'.1 kc = M.1 kc) (mk : ∀ k, k < 2 → M.1 kc k = M.1 ik k) (o : ((¬ (0 ≤ z1 ∧ z1 ≤ 1) ∨ M.1 ik z1.toNat = 0) ∧ M'.1 s = M.1 s) ∨ (∃ k : Nat, k ≤ 1 ∧ z1 = (k : Int) ∧ M.1 ik k ≠ 0 ∧ (∀ p, p < 537 → M'.1 s p = M.1 kp (538 * k + p)))) : lq_W G M' m s kp kc w := by
  obtain ⟨gA, gB, m32, hk, h1, h2⟩ := h
  obtain ⟨hB, hv⟩ := gB.fr gA hA f cW
  have ev := yw_q.of (M := M) (M' := M') (hv 61 (by decide))
  refine ⟨gA, hB, e32.trans m32, ?_, fun k hk2 h0 => ?_⟩
  · rcases o with ⟨oz, oe⟩ | ⟨k0, o1, o2, o3, o4⟩
    · have hno : ∀ k : Nat, k < 2 → z1 = (k : Int) → M.1 kc k = 0 := fun k hk2 e => by
        rcases oz with oz | oz
        · omega
        · rw [mk k hk2, show k = z1.toNat by omega]; exact oz
      exact (h1 hno).cg ev (fun j _ => by rw [oe])
    · have hc1 : M.1 kc k0 ≠ 0 := by rw [mk k0 (by omega)]; exact o3
      exact (h2 k0 (by omega) o2 hc1).cg ev (fun j hj => by rw [Nat.zero_add]; exact o4 _ (by omega))
  · rw [ec] at h0; rw [ek]
    exact (hk k hk2 h0).cg (yw_q.of (hv _ (lq_yi_in k).1)) (fun _ _ => rfl)
/-- CONTRACTS told, CONTRACTS taken: in order -/
theorem yd_ok.ct (h : rv_db (M.1 s 0) R) (b0 : 0 ≤ M.1 s 0) (q : rq_O s R r M M') : yd_ok (M'.1 s) := fun j hj => by
  have k := h j hj
  have e1 := q.1 (3 * j) (by omega)
  have e2 := q.1 (3 * j + 1) (by omega)
  have e3 := q.1 (3 * j + 2) (by omega)
  rw [show 184 + (3 * j + 1) = 185 + 3 * j by omega] at e2
  rw [show 184 + (3 * j + 2) = 186 + 3 * j by omega] at e3
  rw [q.2.2 0 (Or.inl (by decide)), e1, e2, e3]
  unfold rv_d3 at k
  exact ⟨by omega, by omega, by omega, by omega, fun _ => ⟨by omega, by omega, by omega⟩, by omega, by omega⟩
theorem yd_ok.tk (h6 : rv_r6 (M.1 s) 0) (hP : ∀ j, j < 12 → P j = 8 ∨ (0 ≤ P j ∧ P j < M.1 s 0)) (e0 : M'.1 s 0 = M.1 s 0) (q : rq_T s P M M') : yd_ok (M'.1 s) := fun j hj => by
  obtain ⟨t1, t2, t3⟩ := q.1 j hj
  have b0 : 0 ≤ M.1 s 0 ∧ M.1 s 0 ≤ 8 := h6.1.1
  have p := hP j hj
  have hc : 0 ≤ tk_c (M.1 s) P j ∧ tk_c (M.1 s) P j ≤ 999 := by
    unfold tk_c
    split
    · have q := h6.2.1 (P j).toNat j (by omega) hj
      rw [Nat.zero_add] at q
      exact ⟨q.1, q.2.1⟩
    · exact ⟨Int.le_refl 0, by decide⟩
  rw [e0, t1, t2, t3]
  exact ⟨by omega, by omega, Int.le_refl 0, b0.1, fun q => absurd q (Int.lt_irrefl 0), hc.1, hc.2⟩
/-- begin, on -/
theorem lq_W.on1 (h : lq_W G M m s kp kc w) (hA : lq_A G w) (gm : G m = (1012, 0)) (gs : G s = (51100, 537)) (gk : G kp = (70100, 1076)) (gc : G kc = (48102, 2)) (c : yw_o w M M') (hC : yw_C M' w 1 T) (hk : ye_okT (M.1 s) T) : lq_Wo G M' m s kp kc w T := by
  obtain ⟨gA, gB, m32, hn, hi⟩ := h
  have es := c.2 s (yw_nt gA (by decide) gs (by decide))
  have ek := c.2 kp (yw_nt gA (by decide) gk (by decide))
  have ec := c.2 kc (yw_nt gA (by decide) gc (by decide))
  refine ⟨gA, gB.cg (fun _ _ _ _ _ => by rw [c.1]) (fun _ _ _ _ => by rw [c.1]) (fun _ _ => by rw [c.1]), (congrFun (c.2 m (yw_nt gA (by decide) gm (by decide))) 32).trans m32, fun k hk2 h0 => ?_, by rw [es]; exact hn.2.zy, hC.1, hC.2, by rw [es]; exact hk⟩
  rw [ec] at h0; rw [ek]
  exact (hi k hk2 h0).cg (yw_q.of (fun v hv => c.2 _ (yw_nY hA (lq_yi_in k).1 (by decide) (lq_yi_in k).2 hv))) (fun _ _ => rfl)
theorem lq_Wo.on2 (h : lq_Wo G M m s kp kc w T) (hA : lq_A G w) (f : ab_frm W G M M') (cW : lq_Wu W) (ek : M'.1 kp = M.1 kp) (ec : M'.1 kc = M.1 kc) (q : yw_R s m 1 T M M') : lq_W G M' m s kp kc w := by
  obtain ⟨gA, gB, m32, hi, hd, h61, hV, hk⟩ := h
  obtain ⟨hB, hv⟩ := gB.fr gA hA f cW
  obtain ⟨r1, r2, r3, r4, r5, r6⟩ := q
  have he : ye_eq T (ye_S (M'.1 s) 0) := ⟨fun j j1 j2 => by show M'.1 s (0 + j) = _; rw [Nat.zero_add]; exact r3 j j1 j2, fun j hj => by
    obtain ⟨a, b, c⟩ := r4 j hj
    exact ⟨by show M'.1 s (0 + (320 + 3 * j)) = _; rw [Nat.zero_add]; exact a, by show M'.1 s (0 + (321 + 3 * j)) = _; rw [Nat.zero_add]; exact b, by show M'.1 s (0 + (322 + 3 * j)) = _; rw [Nat.zero_add]; exact c⟩, fun t u ht hu => by show M'.1 s (0 + (232 + 11 * t + u)) = _; rw [Nat.zero_add]; exact r5 t u ht hu⟩
  have e221 : M'.1 s (0 + 221) = 1 := r2
  refine ⟨gA, hB, r6.trans m32, ⟨⟨((congrFun (hv 61 (by decide) 0 (by decide)) 0).trans h61).trans e221.symm, Or.inr e221, fun _ => ⟨hV.cg (yw_q.of (hv 61 (by decide))) he, hk.cg (r1 0 (Or.inl (by decide))) (fun t ht => by show M'.1 s (0 + (5 + 9 * t)) = _; rw [Nat.zero_add]; exact r1 _ (Or.inl (by omega))) he⟩⟩, (hd.cg (r1 0 (Or.inl (by decide))) (fun j hj => r1 _ (Or.inl (by omega)))).zz⟩, fun k hk2 h0 => ?_⟩
  rw [ec] at h0; rw [ek]
  exact (hi k hk2 h0).cg (yw_q.of (hv _ (lq_yi_in k).1)) (fun _ _ => rfl)
end YO
