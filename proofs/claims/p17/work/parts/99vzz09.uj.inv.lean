/-! ===== SENTENCES now and of the images, alike on both sides ===== -/
/-- how high the values stand behind codes -/
def se_hg : (List (Nat × Int × Int)) → Nat → Option Nat
  | [], h => some h
  | c :: t, h => if c.1 < 14 then (if 2 ≤ h then se_hg t (h - 1) else none) else if c.1 = 14 then (if 1 ≤ h then se_hg t h else none) else se_hg t (h + 1)
theorem se_hg_app : ∀ (X Y : (List (Nat × Int × Int))) (h h2 : Nat), se_hg X h = some h2 → se_hg (X ++ Y) h = se_hg Y h2
  | [], Y, h, h2, e => by rw [Option.some.inj e]; rfl
  | c :: X, Y, h, h2, e => by
    have e : (if c.1 < 14 then (if 2 ≤ h then se_hg X (h - 1) else none) else if c.1 = 14 then (if 1 ≤ h then se_hg X h else none) else se_hg X (h + 1)) = some h2 := e
    show (if c.1 < 14 then (if 2 ≤ h then se_hg (X ++ Y) (h - 1) else none) else if c.1 = 14 then (if 1 ≤ h then se_hg (X ++ Y) h else none) else se_hg (X ++ Y) (h + 1)) = _
    by_cases c1 : c.1 < 14
    · rw [if_pos c1] at e ⊢
      by_cases c2 : 2 ≤ h
      · rw [if_pos c2] at e ⊢; exact se_hg_app X Y _ _ e
      · rw [if_neg c2] at e; cases e
    · rw [if_neg c1] at e ⊢
      by_cases c3 : c.1 = 14
      · rw [if_pos c3] at e ⊢
        by_cases c2 : 1 ≤ h
        · rw [if_pos c2] at e ⊢; exact se_hg_app X Y _ _ e
        · rw [if_neg c2] at e; cases e
      · rw [if_neg c3] at e ⊢; exact se_hg_app X Y _ _ e
def se_gw (X : (List (Nat × Int × Int))) : Prop := ∀ c ∈ X, 12 ≤ c.1 ∧ c.1 < 24
/-- codes that bring one value more; that bring none more, one being there -/
def se_g1 (X : (List (Nat × Int × Int))) : Prop := se_gw X ∧ ∀ h, se_hg X h = some (h + 1)
def se_g0 (X : (List (Nat × Int × Int))) : Prop := se_gw X ∧ ∀ h, se_hg X (h + 1) = some (h + 1)
theorem se_gw.app {X Y : (List (Nat × Int × Int))} (h1 : se_gw X) (h2 : se_gw Y) : se_gw (X ++ Y) := fun c hc => (List.mem_append.mp hc).elim (h1 c) (h2 c)
theorem se_gw.one {w : Nat} {z v : Int} (h1 : 12 ≤ w) (h2 : w < 24) : se_gw [(w, z, v)] := fun c hc => by rw [List.mem_singleton.mp hc]; exact ⟨h1, h2⟩
theorem se_g0.nil : se_g0 [] := ⟨fun c hc => by cases hc, fun _ => rfl⟩
theorem se_g1.leaf {w : Nat} {z v : Int} (h1 : 15 ≤ w) (h2 : w < 24) : se_g1 [(w, z, v)] := ⟨se_gw.one (by omega) h2, fun h => by
  show (if w < 14 then _ else if w = 14 then _ else _) = _
  rw [if_neg (by omega), if_neg (by omega)]; rfl⟩
theorem se_g1.not {X : (List (Nat × Int × Int))} (h : se_g1 X) : se_g1 (X ++ [(14, 0, 0)]) := ⟨h.1.app (se_gw.one (by decide) (by decide)), fun k => by
  rw [se_hg_app X _ k _ (h.2 k)]
  show (if 14 < 14 then _ else if 14 = 14 then (if 1 ≤ k + 1 then _ else none) else _) = _
  rw [if_neg (by decide), if_pos rfl, if_pos (by omega)]; rfl⟩
theorem se_g1.app {X Y : (List (Nat × Int × Int))} (h : se_g1 X) (h2 : se_g0 Y) : se_g1 (X ++ Y) := ⟨h.1.app h2.1, fun k => by rw [se_hg_app X _ k _ (h.2 k)]; exact h2.2 k⟩
theorem se_g1.join {X Y : (List (Nat × Int × Int))} {w : Nat} (h : se_g1 X) (h2 : se_g0 Y) (w1 : 12 ≤ w) (w2 : w < 14) : se_g0 ((X ++ [(w, 0, 0)]) ++ Y) := ⟨(h.1.app (se_gw.one w1 (by omega))).app h2.1, fun k => by
  have e : se_hg (X ++ [(w, 0, 0)]) (k + 1) = some (k + 1) := by
    rw [se_hg_app X _ (k + 1) _ (h.2 (k + 1))]
    show (if w < 14 then (if 2 ≤ k + 1 + 1 then _ else none) else _) = _
    rw [if_pos w2, if_pos (by omega)]; rfl
  rw [se_hg_app _ Y _ _ e]; exact h2.2 k⟩
def se_gm (mo : Nat) (X : (List (Nat × Int × Int))) : Prop := (mo = 1 ∨ 4 ≤ mo → se_g0 X) ∧ (¬ (mo = 1 ∨ 4 ≤ mo) → se_g1 X)
/-- what is told is in order -/
theorem se_P.ok {T : Nat → (Nat × Nat × Int × List Int × Nat)} {Kf : Int → Nat → Prop} : ∀ (N mo d : Nat) (Ko : Nat → Nat → (List (Nat × Int × Int)) → Prop) (q o : Nat) (cs : (List (Nat × Int × Int))), se_P T Kf N mo d Ko q o cs → se_P T Kf N mo d (fun q' o' cs' => Ko q' o' cs' ∧ ∃ X, cs' = cs ++ X ∧ se_gm mo X) q o cs
  | 0, _, _, _, _, _, _, h => False.elim h
  | N + 1, 0, d, Ko, q, o, cs, h => by
    have g : ∀ {X : (List (Nat × Int × Int))}, se_g1 X → se_gm 0 X := fun hX => ⟨fun e => by exfalso; omega, fun _ => hX⟩
    refine ⟨fun cb => ⟨(h.1 cb).1, fun nf => ⟨fun c => ?_, fun c => ?_, fun c => ?_, fun c c2 => ?_⟩⟩, h.2⟩
    · refine se_P.mono (fun _ _ k => k) N 3 (d + 1) _ _ _ _ _ (fun q' o' cs' k => ?_) (se_P.ok N 3 (d + 1) _ _ _ _ (((h.1 cb).2 nf).1 c))
      obtain ⟨k1, X, eX, gX⟩ := k
      exact ⟨fun c41 => ⟨k1.1 c41, X, eX, g (gX.2 (by decide))⟩, k1.2⟩
    · refine se_P.mono (fun _ _ k => k) N 0 (d + 1) _ _ _ _ _ (fun q' o' cs' k => ?_) (se_P.ok N 0 (d + 1) _ _ _ _ (((h.1 cb).2 nf).2.1 c))
      obtain ⟨k1, X, eX, gX⟩ := k
      exact ⟨k1, X ++ [(14, 0, 0)], by rw [eX, List.append_assoc], g (gX.2 (by decide)).not⟩
    · exact ⟨((h.1 cb).2 nf).2.2.1 c, _, rfl, g (se_g1.leaf (by omega) (by omega))⟩
    · exact (((h.1 cb).2 nf).2.2.2 c c2).mono (fun _ _ k => k) (fun z v q' k => ⟨k, _, rfl, g (se_g1.leaf (by omega) c2)⟩)
  | N + 1, 1, d, Ko, q, o, cs, h => by
    have g : ∀ {X : (List (Nat × Int × Int))}, se_g0 X → se_gm 1 X := fun hX => ⟨fun _ => hX, fun e => absurd (Or.inl rfl) e⟩
    refine ⟨fun c => ?_, fun c => ⟨h.2 c, [], (List.append_nil cs).symm, g se_g0.nil⟩⟩
    refine se_P.mono (fun _ _ k => k) N 0 d _ _ _ _ _ (fun q' o' cs' k => ?_) (se_P.ok N 0 d _ _ _ _ (h.1 c))
    obtain ⟨k1, X, eX, gX⟩ := k
    refine se_P.mono (fun _ _ k => k) N 1 d _ _ _ _ _ (fun q2 o2 cs2 k2 => ?_) (se_P.ok N 1 d _ _ _ _ k1)
    obtain ⟨k3, Y, eY, gY⟩ := k2
    exact ⟨k3, (X ++ [(13, 0, 0)]) ++ Y, by rw [eY, eX]; simp only [List.append_assoc], g ((gX.2 (by decide)).join (gY.1 (Or.inl rfl)) (by decide) (by decide))⟩
  | N + 1, 2, d, Ko, q, o, cs, h => by
    refine se_P.mono (fun _ _ k => k) N 0 d _ _ _ _ _ (fun q' o' cs' k => ?_) (se_P.ok N 0 d _ _ _ _ h)
    obtain ⟨k1, X, eX, gX⟩ := k
    refine se_P.mono (fun _ _ k => k) N 1 d _ _ _ _ _ (fun q2 o2 cs2 k2 => ?_) (se_P.ok N 1 d _ _ _ _ k1)
    obtain ⟨k3, Y, eY, gY⟩ := k2
    exact ⟨k3, X ++ Y, by rw [eY, eX]; simp only [List.append_assoc], ⟨fun e => by exfalso; omega, fun _ => (gX.2 (by decide)).app (gY.1 (Or.inl rfl))⟩⟩
  | N + 1, 3, d, Ko, q, o, cs, h => by
    refine se_P.mono (fun _ _ k => k) N 2 d _ _ _ _ _ (fun q' o' cs' k => ?_) (se_P.ok N 2 d _ _ _ _ h)
    obtain ⟨k1, X, eX, gX⟩ := k
    refine se_P.mono (fun _ _ k => k) N 4 d _ _ _ _ _ (fun q2 o2 cs2 k2 => ?_) (se_P.ok N 4 d _ _ _ _ k1)
    obtain ⟨k3, Y, eY, gY⟩ := k2
    exact ⟨k3, X ++ Y, by rw [eY, eX]; simp only [List.append_assoc], ⟨fun e => by exfalso; omega, fun _ => (gX.2 (by decide)).app (gY.1 (by decide))⟩⟩
  | N + 1, mo + 4, d, Ko, q, o, cs, h => by
    have g : ∀ {X : (List (Nat × Int × Int))}, se_g0 X → se_gm (mo + 4) X := fun hX => ⟨fun _ => hX, fun e => absurd (Or.inr (by omega)) e⟩
    refine ⟨fun c => ?_, fun c => ⟨h.2 c, [], (List.append_nil cs).symm, g se_g0.nil⟩⟩
    refine se_P.mono (fun _ _ k => k) N 2 d _ _ _ _ _ (fun q' o' cs' k => ?_) (se_P.ok N 2 d _ _ _ _ (h.1 c))
    obtain ⟨k1, X, eX, gX⟩ := k
    refine se_P.mono (fun _ _ k => k) N 4 d _ _ _ _ _ (fun q2 o2 cs2 k2 => ?_) (se_P.ok N 4 d _ _ _ _ k1)
    obtain ⟨k3, Y, eY, gY⟩ := k2
    exact ⟨k3, (X ++ [(12, 0, 0)]) ++ Y, by rw [eY, eX]; simp only [List.append_assoc], g ((gX.2 (by decide)).join (gY.1 (by decide)) (by decide) (by decide))⟩
theorem se_A.mono {T : Nat → (Nat × Nat × Int × List Int × Nat)} {Kf Kf' : Int → Nat → Prop} {K K' : Nat → (List (Nat × Int × Int)) → Prop} {N : Nat} (hf : ∀ f a, Kf f a → Kf' f a) (ho : ∀ o cs, se_g1 cs → K o cs → K' o cs) (h : se_A T Kf K N) : se_A T Kf' K' N := se_P.mono hf N 3 1 _ _ _ _ _ (fun q o cs k => ⟨fun c => ho o cs (by
    obtain ⟨-, X, eX, gX⟩ := k
    rw [eX]; exact gX.2 (by decide)) (k.1.1 c), fun c => hf _ _ (k.1.2 c)⟩) (se_P.ok N 3 1 _ 0 0 [] h)
abbrev se_Od : Type := (Int × Nat) ⊕ (Nat × (List (Nat × Int × Int)))
def se_zd (f : Nat → Int) (n : Nat) (y : se_Od) : Prop := ∀ P : se_Od → Prop, P y → se_A (rv_T (fun k => rv_u8 (f k)) n 200) (fun f a => P (.inl (f, a))) (fun o cs => P (.inr (o, cs))) (4 * n + 7)
def se_vd (y : se_Od) : Int := Sum.elim (fun e => rv_vf e.2) (fun e => ((e.1 : Nat) : Int)) y
theorem se_vd_l (e : Int × Nat) : se_vd (.inl e) = rv_vf e.2 := by unfold se_vd; rw [Sum.elim_inl]
theorem se_vd_r (e : Nat × (List (Nat × Int × Int))) : se_vd (.inr e) = ((e.1 : Nat) : Int) := by unfold se_vd; rw [Sum.elim_inr]
/-- a SENTENCE that can be kept -/
def se_ok (cs : (List (Nat × Int × Int))) (o : Nat) : Prop := (o = 0 ↔ cs = []) ∧ cs.length ≤ 40 ∧ (cs ≠ [] → se_g1 cs)
theorem se_ok.of {cs : (List (Nat × Int × Int))} {o : Nat} (h0 : 0 < o) (h20 : o ≤ 20) (hl : cs.length + 1 ≤ 2 * o) (hg : se_g1 cs) : se_ok cs o := ⟨⟨fun e => by omega, fun e => by
    have q := hg.2 0
    rw [e] at q
    exact absurd (Option.some.inj q) (by decide)⟩, by omega, fun _ => hg⟩
theorem se_ok.nil : se_ok [] 0 := ⟨⟨fun _ => rfl, fun _ => rfl⟩, by decide, fun e => absurd rfl e⟩
def sq_H (H : Nat → Int) (off : Nat) (cs : (List (Nat × Int × Int))) : Prop := H (off + 356) = (cs.length : Int) ∧ ∀ j, j < cs.length → H (off + (357 + 3 * j)) = se_k (cs.getD j (0, 0, 0)).1 ∧ H (off + (358 + 3 * j)) = (cs.getD j (0, 0, 0)).2.1 ∧ H (off + (359 + 3 * j)) = (cs.getD j (0, 0, 0)).2.2
/-- the SENTENCE at E is the one that H tells from off on -/
def sd_1 (G : mj_G) (M : mj_M) (w : Nat → Nat) (E : Nat) (H : Nat → Int) (off : Nat) : Prop := ∃ o cs, se_R G M (w E) (w (E + 1)) (w (E + 2)) (w (E + 3)) cs o ∧ sq_H H off cs ∧ se_ok cs o
def lq_S (G : mj_G) (M : mj_M) (s kp kc : Nat) (w : Nat → Nat) : Prop := lq_SA G w ∧ lq_SB M w ∧ (∃ e e2, lq_SN M w e e2 ∧ sd_1 G M w e (M.1 s) 0) ∧ ∀ k, k < 2 → M.1 kc k ≠ 0 → sd_1 G M w (sd_i k) (M.1 kp) (538 * k)
abbrev lq_Su (W : List (Nat × Nat × Nat)) : Prop := ∀ q ∈ W, q.1 ≠ 1006 ∧ q.1 ≠ 34105 ∧ q.1 ≠ 35100 ∧ q.1 ≠ 36100 ∧ (q.1 ≠ 1007 ∨ q.2.2 < 2 ∨ 2 < q.2.1)
abbrev lq_Sw (W : List (Nat × Nat × Nat)) : Prop := ∀ q ∈ W, (q.1 ≠ 1006 ∧ q.1 ≠ 34105 ∧ q.1 ≠ 35100 ∧ q.1 ≠ 36100 ∧ (q.1 ≠ 1007 ∨ q.2.2 < 2 ∨ 2 < q.2.1)) ∧ (q.1 ≠ 51100 ∨ q.2.2 < 356) ∧ q.1 ≠ 70100 ∧ q.1 ≠ 48102
/-- cells of the SENTENCE at E' against those at E -/
def sd_q (M M' : mj_M) (w : Nat → Nat) (E E' : Nat) : Prop := M'.1 (w E') 4 = M.1 (w E) 4 ∧ M'.1 (w E') 5 = M.1 (w E) 5 ∧ ∀ j, j < 40 → M'.2.2 (w (E' + 1)) j = M.2.2 (w (E + 1)) j ∧ M'.1 (w (E' + 2)) j = M.1 (w (E + 2)) j ∧ M'.1 (w (E' + 3)) j = M.1 (w (E + 3)) j
section UJ
variable {G : mj_G} {M M' M1 M2 M3 : mj_M} {x s m kp kc tp bc bt n ud E E' off off' : Nat} {w : Nat → Nat} {z1 : Int} {H H' : Nat → Int} {W : List (Nat × Nat × Nat)}
theorem sd_q.tr (h : sd_q M M1 w E E') {E2 : Nat} (h2 : sd_q M1 M2 w E' E2) : sd_q M M2 w E E2 := ⟨h2.1.trans h.1, h2.2.1.trans h.2.1, fun j hj => ⟨(h2.2.2 j hj).1.trans (h.2.2 j hj).1, (h2.2.2 j hj).2.1.trans (h.2.2 j hj).2.1, (h2.2.2 j hj).2.2.trans (h.2.2 j hj).2.2⟩⟩
theorem sd_1.cg (h : sd_1 G M w E H off) (q : sd_q M M' w E E') (eH : ∀ j, 356 ≤ j → j < 537 → H' (off' + j) = H (off + j)) : sd_1 G M' w E' H' off' := by
  obtain ⟨o, cs, ⟨r1, r2, r3⟩, ⟨s1, s2⟩, ok⟩ := h
  refine ⟨o, cs, ⟨q.1.trans r1, q.2.1.trans r2, fun j hj => ?_⟩, ⟨(eH 356 (by decide) (by decide)).trans s1, fun j hj => ?_⟩, ok⟩
  · obtain ⟨⟨a, b1, b2⟩, b3, b4⟩ := r3 j hj
    have l := ok.2.1
    obtain ⟨c1, c2, c3⟩ := q.2.2 j (by omega)
    exact ⟨⟨a, c1.trans b1, b2⟩, c2.trans b3, c3.trans b4⟩
  · have l := ok.2.1
    obtain ⟨b1, b2, b3⟩ := s2 j hj
    exact ⟨(eH _ (by omega) (by omega)).trans b1, (eH _ (by omega) (by omega)).trans b2, (eH _ (by omega) (by omega)).trans b3⟩
theorem sd_q.of (h0 : M'.1 (w E) = M.1 (w E)) (h1 : M'.2.2 (w (E + 1)) = M.2.2 (w (E + 1))) (h2 : M'.1 (w (E + 2)) = M.1 (w (E + 2))) (h3 : M'.1 (w (E + 3)) = M.1 (w (E + 3))) : sd_q M M' w E E := ⟨by rw [h0], by rw [h0], fun j _ => ⟨by rw [h1], by rw [h2], by rw [h3]⟩⟩
theorem lq_SB.cg (h : lq_SB M w) (r : ∀ E, E ∈ sd_E → M'.2.2 (w E) = M.2.2 (w E)) (r7 : ∀ k, k < 2 → M'.2.2 (w (lq_sk k)) 2 = M.2.2 (w (lq_sk k)) 2) : lq_SB M' w := ⟨fun E hE => by rw [r E hE]; exact h.1 E hE, fun k hk => (r7 k hk).trans (h.2 k hk)⟩
theorem lq_SN.cg {e e2 : Nat} (h : lq_SN M w e e2) (r1 : M'.2.2 (w 29) 2 = M.2.2 (w 29) 2) (r2 : M'.2.2 (w 74) 2 = M.2.2 (w 74) 2) : lq_SN M' w e e2 := ⟨r1.trans h.1, r2.trans h.2.1, h.2.2⟩
theorem lq_sk7 (hA : lq_A G w) (k : Nat) : G (w (lq_sk k)) = (1007, 0) := by
  unfold lq_sk
  split
  · exact hA.2.2.2.2.1
  · exact hA.2.2.2.2.2.1
/-- what a frame that leaves SENTENCES leaves -/
theorem lq_SA.fr (gA : lq_SA G w) (hA : lq_A G w) (f : ab_frm W G M M') (cW : lq_Su W) : (∀ E, E ∈ sd_E → M'.2.2 (w E) = M.2.2 (w E) ∧ sd_q M M' w E E) ∧ (∀ a, G a = (1007, 0) → M'.2.2 a 2 = M.2.2 a 2) := by
  have fr : ∀ {a t n : Nat} (k : Nat), G a = (t, n) → (∀ q ∈ W, q.1 ≠ t) → M'.1 a k = M.1 a k ∧ M'.2.2 a k = M.2.2 a k := fun k g hh => f _ k (by rw [g]; rintro ⟨r, hr, e1, e2, e3⟩; exact hh r hr e1)
  refine ⟨fun E hE => ?_, fun a g => (f a 2 (by rw [g]; rintro ⟨r, hr, e1, e2, e3⟩; have := (cW r hr).2.2.2.2; omega)).2⟩
  obtain ⟨g1, g2, g3, g4⟩ := gA E hE
  exact ⟨funext fun k => (fr k g1 (fun q hq => (cW q hq).1)).2, sd_q.of (funext fun k => (fr k g1 (fun q hq => (cW q hq).1)).1) (funext fun k => (fr k g2 (fun q hq => (cW q hq).2.1)).2) (funext fun k => (fr k g3 (fun q hq => (cW q hq).2.2.1)).1) (funext fun k => (fr k g4 (fun q hq => (cW q hq).2.2.2.1)).1)⟩
theorem lq_S.go (h : lq_S G M s kp kc w) (hA : lq_A G w) (gs : G s = (51100, 537)) (gk : G kp = (70100, 1076)) (gc : G kc = (48102, 2)) (f : ab_frm W G M M') (cW : lq_Sw W) : lq_S G M' s kp kc w := by
  obtain ⟨gA, gB, ⟨e, e2, hN, h1⟩, hk⟩ := h
  obtain ⟨r1, r2⟩ := gA.fr hA f (fun q hq => (cW q hq).1)
  have ek : M'.1 kp = M.1 kp := funext fun k => (f kp k (by rw [gk]; rintro ⟨r, hr, e1, -⟩; exact (cW r hr).2.2.1 e1)).1
  have ec : M'.1 kc = M.1 kc := funext fun k => (f kc k (by rw [gc]; rintro ⟨r, hr, e1, -⟩; exact (cW r hr).2.2.2 e1)).1
  refine ⟨gA, gB.cg (fun E hE => (r1 E hE).1) (fun k hk => r2 _ (lq_sk7 hA k)), ⟨e, e2, hN.cg (r2 _ hA.2.2.1) (r2 _ hA.2.2.2.1), h1.cg (r1 e hN.in1.1).2 (fun j j1 j2 => ?_)⟩, fun k hk2 h0 => ?_⟩
  · exact (f s _ (by rw [gs]; rintro ⟨r, hr, e1, e2, e3⟩; have := (cW r hr).2.1; omega)).1
  · rw [ec] at h0; rw [ek]
    exact (hk k hk2 h0).cg (r1 _ (sd_i_in k)).2 (fun _ _ _ => rfl)
theorem lq_S.mv (h : lq_S G M s kp kc w) (e1 : M'.1 = M.1) (e2 : M'.2.2 = M.2.2) : lq_S G M' s kp kc w := by
  obtain ⟨gA, gB, ⟨e, e', hN, h1⟩, hk⟩ := h
  have q : ∀ E, sd_q M M' w E E := fun E => sd_q.of (by rw [e1]) (by rw [e2]) (by rw [e1]) (by rw [e1])
  refine ⟨gA, gB.cg (fun E _ => by rw [e2]) (fun k _ => by rw [e2]), ⟨e, e', hN.cg (by rw [e2]) (by rw [e2]), h1.cg (q e) (fun j _ _ => by rw [e1])⟩, fun k hk2 h0 => ?_⟩
  rw [e1] at h0 ⊢
  exact (hk k hk2 h0).cg (q _) (fun _ _ _ => rfl)
/-- between plain of the class and of the reference -/
def lq_Sq (G : mj_G) (M : mj_M) (s kp kc : Nat) (w : Nat → Nat) (y : rv_Om) : Prop := lq_SA G w ∧ lq_SB M w ∧ (∀ k, k < 2 → M.1 kc k ≠ 0 → sd_1 G M w (sd_i k) (M.1 kp) (538 * k)) ∧ ∃ e e2, lq_SN M w e e2 ∧ (∀ v, y = .inl v → sd_1 G M w e (M.1 s) 0) ∧ (∀ v, y = .inr v → M.1 (w e) 4 = 0 ∧ M.1 (w e) 5 = 0)
theorem lq_S.pl1 {y : rv_Om} (h : lq_S G M s kp kc w) (hA : lq_A G w) (gx : G x = (1011, 0)) (gtp : G tp = (1008, 0)) (gs : G s = (51100, 537)) (gk : G kp = (70100, 1076)) (gc : G kc = (48102, 2)) (py : lq_py G M M' x tp w y) : lq_Sq G M' s kp kc w y := by
  obtain ⟨p, q, oa, dl, fa, sa, ca, se, ye, ud, hN, goa, hX, hF, hO⟩ := py
  obtain ⟨⟨-, g74, g29, gse, gye, gud, gdl, gfa, gsa, gca, d0, d1, d2⟩, x_x0, x_x1, x_x2, x_x5, x_sp0, x_nw0, x_nw1, x_nw2, x_nw3⟩ := id hX
  obtain ⟨gq, gqn, -, -, gqw, gqt, gqb⟩ := hA.2.1 q hN.qin.1
  obtain ⟨gA, gB, ⟨e0, e0', hSN, h1⟩, hk⟩ := id h
  have ese : se = w e0 := Option.some.inj (x_nw2.symm.trans hSN.1)
  rcases y with e | ⟨PL, WA, OA, TO, BI, nm, r⟩
  · obtain ⟨⟨f2, fl, f1⟩, -⟩ := hF e rfl
    have tg : ∀ {a t u : Nat}, G a = (t, u) → t ≠ 1004 → t ≠ 26100 → t ≠ 28100 → t ≠ 29100 → t ≠ 30100 → t ≠ 1011 → t ≠ 1008 → M'.1 a = M.1 a := fun ga n1 n4 n6 n7 n8 n9 n10 => f1 _ (hn_ne ga gx n9) (hn_ne ga gtp n10) (hn_ne ga gq n1) (hn_ne ga gqw n7) (hn_ne ga goa n8) (fun t ht => hn_ne ga (gqt t ht) n4) (fun t ht => hn_ne ga (gqb t ht) n6)
    have rf : ∀ {a t u : Nat}, G a = (t, u) → t ≠ 1008 → M'.2.2 a = M.2.2 a := fun g h1 => funext fun j => f2 _ j (fun e => hn_ne g gtp h1 e.1)
    have sq : ∀ E, E ∈ sd_E → sd_q M M' w E E := fun E hE => by
      obtain ⟨g1, g2, g3, g4⟩ := gA E hE
      exact sd_q.of (tg g1 (by decide) (by decide) (by decide) (by decide) (by decide) (by decide) (by decide)) (rf g2 (by decide)) (tg g3 (by decide) (by decide) (by decide) (by decide) (by decide) (by decide) (by decide)) (tg g4 (by decide) (by decide) (by decide) (by decide) (by decide) (by decide) (by decide))
    have ek : M'.1 kp = M.1 kp := tg gk (by decide) (by decide) (by decide) (by decide) (by decide) (by decide) (by decide)
    have ec : M'.1 kc = M.1 kc := tg gc (by decide) (by decide) (by decide) (by decide) (by decide) (by decide) (by decide)
    have es : M'.1 s = M.1 s := tg gs (by decide) (by decide) (by decide) (by decide) (by decide) (by decide) (by decide)
    refine ⟨gA, gB.cg (fun E hE => rf (gA E hE).1 (by decide)) (fun k hk => congrFun (rf (lq_sk7 hA k) (by decide)) 2), fun k hk2 h0 => ?_, e0, e0', hSN.cg (congrFun (rf g29 (by decide)) 2) (congrFun (rf g74 (by decide)) 2), fun _ _ => h1.cg (sq e0 hSN.in1.1) (fun _ _ _ => by rw [es]), fun v e => by cases e⟩
    rw [ec] at h0; rw [ek]
    exact (hk k hk2 h0).cg (sq _ (sd_i_in k)) (fun _ _ _ => rfl)
  · obtain ⟨⟨o1, o2, o3, o4, o5, o6, o7, o8, o9, fo⟩, u1, u2, u3, u4, -⟩ := hO _ _ _ _ _ _ _ rfl
    have rf : ∀ {a t u : Nat} (j : Nat), G a = (t, u) → t ≠ 1008 → (t ≠ 1007 ∨ j ≠ 0) → M'.2.2 a j = M.2.2 a j := fun j g h1 h2 => o8 _ j (fun e => hn_ne g gtp h1 e.1) (fun e => h2.elim (fun z => hn_ne g g29 z e.1) (fun z => z e.2)) (fun e => h2.elim (fun z => hn_ne g g74 z e.1) (fun z => z e.2))
    have tg : ∀ {a t u : Nat}, G a = (t, u) → t ≠ 1004 → t ≠ 26100 → t ≠ 28100 → t ≠ 29100 → t ≠ 30100 → t ≠ 1011 → t ≠ 1008 → t ≠ 1010 → t ≠ 1009 → t ≠ 1002 → t ≠ 16100 → t ≠ 17100 → t ≠ 18100 → a ≠ se → M'.1 a = M.1 a := fun ga n1 n4 n6 n7 n8 n9 n10 m6 m7 m1 m2 m3 m4 m5 => fo _ (hn_ne ga gx n9) (hn_ne ga gtp n10) (hn_ne ga gq n1) (hn_ne ga gqw n7) (hn_ne ga goa n8) (fun t ht => hn_ne ga (gqt t ht) n4) (fun t ht => hn_ne ga (gqb t ht) n6) (hn_ne ga gdl m1) (hn_ne ga gfa m2) (hn_ne ga gsa m3) (hn_ne ga gca m4) m5 (hn_ne ga gye m6) (hn_ne ga gud m7)
    have tt : ∀ {a t u : Nat}, G a = (t, u) → (t = 35100 ∨ t = 36100 ∨ t = 70100 ∨ t = 48102) → M'.1 a = M.1 a := fun g ht => tg g (by omega) (by omega) (by omega) (by omega) (by omega) (by omega) (by omega) (by omega) (by omega) (by omega) (by omega) (by omega) (by omega) (hn_ne g gse (by omega))
    have sq : ∀ k, sd_q M M' w (sd_i k) (sd_i k) := fun k => by
      obtain ⟨g1, g2, g3, g4⟩ := gA (sd_i k) (sd_i_in k)
      have ne : w (sd_i k) ≠ se := by rw [ese]; exact sd_w (i := 0) (j := 0) hA (sd_i_in k) hSN.in1.1 (by decide) (by decide) (Or.inl (hSN.in1.2.2.2.1 k))
      exact sd_q.of (tg g1 (by decide) (by decide) (by decide) (by decide) (by decide) (by decide) (by decide) (by decide) (by decide) (by decide) (by decide) (by decide) (by decide) ne) (funext fun j => rf j g2 (by decide) (Or.inl (by decide))) (tt g3 (by decide)) (tt g4 (by decide))
    have ek : M'.1 kp = M.1 kp := tt gk (by decide)
    have ec : M'.1 kc = M.1 kc := tt gc (by decide)
    refine ⟨gA, gB.cg (fun E hE => funext fun j => rf j (gA E hE).1 (by decide) (Or.inl (by decide))) (fun k hk => rf 2 (lq_sk7 hA k) (by decide) (Or.inr (by decide))), fun k hk2 h0 => ?_, e0, e0', hSN.cg (rf 2 g29 (by decide) (Or.inr (by decide))) (rf 2 g74 (by decide) (Or.inr (by decide))), (fun v e => by cases e), fun v _ => by rw [← ese]; exact ⟨u3, u4⟩⟩
    rw [ec] at h0; rw [ek]
    exact (hk k hk2 h0).cg (sq k) (fun _ _ _ => rfl)
theorem lq_Sq.pl2 {y : rv_Om} (h : lq_Sq G M s kp kc w y) (hA : lq_A G w) (f : ab_frm W G M M') (cW : lq_Su W) (ek : M'.1 kp = M.1 kp) (ec : M'.1 kc = M.1 kc) (o1 : ∀ e, y = .inl e → M'.1 s = M.1 s) (o2 : ∀ e, y = .inr e → ∀ j, 184 ≤ j → j < 537 → M'.1 s j = 0) : lq_S G M' s kp kc w := by
  obtain ⟨gA, gB, hk, e, e2, hN, h1, h2⟩ := h
  obtain ⟨r1, r2⟩ := gA.fr hA f cW
  refine ⟨gA, gB.cg (fun E hE => (r1 E hE).1) (fun k hk => r2 _ (lq_sk7 hA k)), ⟨e, e2, hN.cg (r2 _ hA.2.2.1) (r2 _ hA.2.2.2.1), ?_⟩, fun k hk2 h0 => ?_⟩
  · have q := (r1 e hN.in1.1).2
    rcases y with v | v
    · exact (h1 v rfl).cg q (fun j _ _ => by rw [o1 v rfl])
    · have z := o2 v rfl
      obtain ⟨u4, u5⟩ := h2 v rfl
      exact ⟨0, [], ⟨q.1.trans u4, q.2.1.trans u5, fun j hj => absurd hj (Nat.not_lt_zero j)⟩, ⟨z _ (by decide) (by decide), fun j hj => absurd hj (Nat.not_lt_zero j)⟩, se_ok.nil⟩
  · rw [ec] at h0; rw [ek]
    exact (hk k hk2 h0).cg (r1 _ (sd_i_in k)).2 (fun _ _ _ => rfl)
/-- between image, restore of the class and of the reference -/
def sd_iy (G : mj_G) (M M' : mj_M) (kc : Nat) (w : Nat → Nat) (z1 : Int) (e : Nat) : Prop := (¬ (0 ≤ z1 ∧ z1 ≤ 1) → M' = M) ∧ ∀ k : Nat, k < 2 → z1 = (k : Int) → ∃ M1 M2 M3, sd_al G M M1 ∧ sd_cp w (sd_i k) e M1 M2 ∧ sd_al G M2 M3 ∧ M' = mj_p0 M3 kc k 1
def sd_ry (G : mj_G) (M M' : mj_M) (kc ud : Nat) (w : Nat → Nat) (z1 : Int) (e : Nat) : Prop := ((∀ k : Nat, k < 2 → z1 = (k : Int) → M.1 kc k = 0) → M' = M) ∧ ∀ k : Nat, k < 2 → z1 = (k : Int) → M.1 kc k ≠ 0 → ∃ M1 M2 M3, sd_al G M M1 ∧ sd_cp w e (sd_i k) M1 M2 ∧ sd_al G M2 M3 ∧ M' = mj_p0 M3 ud 3 0
def lq_Si (G : mj_G) (M : mj_M) (s kp kc : Nat) (w : Nat → Nat) (z1 : Int) : Prop := lq_SA G w ∧ lq_SB M w ∧ (∃ e e2, lq_SN M w e e2 ∧ sd_1 G M w e (M.1 s) 0) ∧ (∀ k : Nat, k < 2 → z1 ≠ (k : Int) → M.1 kc k ≠ 0 → sd_1 G M w (sd_i k) (M.1 kp) (538 * k)) ∧ (∀ k : Nat, k < 2 → z1 = (k : Int) → sd_1 G M w (sd_i k) (M.1 s) 0)
def lq_Sr (G : mj_G) (M : mj_M) (s kp kc : Nat) (w : Nat → Nat) (z1 : Int) : Prop := lq_SA G w ∧ lq_SB M w ∧ (∀ k : Nat, k < 2 → M.1 kc k ≠ 0 → sd_1 G M w (sd_i k) (M.1 kp) (538 * k)) ∧ ∃ e e2, lq_SN M w e e2 ∧ ((∀ k : Nat, k < 2 → z1 = (k : Int) → M.1 kc k = 0) → sd_1 G M w e (M.1 s) 0) ∧ (∀ k : Nat, k < 2 → z1 = (k : Int) → M.1 kc k ≠ 0 → sd_1 G M w e (M.1 kp) (538 * k))
theorem sd_al.q (h : sd_al G M M') (gA : lq_SA G w) (hE : E ∈ sd_E) : sd_q M M' w E E := by
  obtain ⟨g1, g2, g3, g4⟩ := gA E hE
  exact sd_q.of ((h _).1 (by rw [g1]; exact Or.inl rfl)) ((h _).2 (Or.inl (by rw [g2]; exact Or.inr (Or.inl rfl)))) ((h _).1 (by rw [g3]; exact Or.inr (Or.inr (Or.inl rfl)))) ((h _).1 (by rw [g4]; exact Or.inr (Or.inr (Or.inr (Or.inl rfl)))))
theorem sd_al.r (h : sd_al G M M') (gA : lq_SA G w) (hE : E ∈ sd_E) : M'.2.2 (w E) = M.2.2 (w E) := (h _).2 (Or.inl (by rw [(gA E hE).1]; exact Or.inl rfl))
theorem sd_al.r7 {a : Nat} (h : sd_al G M M') (g : G a = (1007, 0)) : M'.2.2 a = M.2.2 a := (h _).2 (Or.inr (Or.inl (by rw [g])))
theorem sd_al.kc (h : sd_al G M M') (g : G kc = (48102, 2)) : M'.1 kc = M.1 kc := (h _).1 (by rw [g]; exact Or.inr (Or.inr (Or.inr (Or.inr rfl))))
theorem sd_cp.q {X : Nat} (h : sd_cp w E X M M') : sd_q M M' w X E := ⟨h.2.2.2.2.1, h.2.2.2.2.2, fun j hj => h.2.2.2.1 j hj⟩
theorem sd_cp.o {X Y : Nat} (h : sd_cp w E X M M') (hA : lq_A G w) (gA : lq_SA G w) (hE : E ∈ sd_E) (hY : Y ∈ sd_E) (n : Y ≠ E) : sd_q M M' w Y Y := by
  obtain ⟨g1, g2, g3, g4⟩ := gA E hE
  obtain ⟨k1, k2, k3, k4⟩ := gA Y hY
  exact sd_q.of (h.2.1 _ (sd_w (i := 0) (j := 0) hA hY hE (by decide) (by decide) (Or.inl n)) (hn_ne k1 g3 (by decide)) (hn_ne k1 g4 (by decide))) (h.2.2.1 _ (sd_w hA hY hE (by decide) (by decide) (Or.inl n))) (h.2.1 _ (hn_ne k3 g1 (by decide)) (sd_w hA hY hE (by decide) (by decide) (Or.inl n)) (hn_ne k3 g4 (by decide))) (h.2.1 _ (hn_ne k4 g1 (by decide)) (hn_ne k4 g3 (by decide)) (sd_w hA hY hE (by decide) (by decide) (Or.inl n)))
theorem sd_cp.r {X a t n : Nat} (h : sd_cp w E X M M') (gA : lq_SA G w) (hE : E ∈ sd_E) (g : G a = (t, n)) (ht : t ≠ 34105) : M'.2.2 a = M.2.2 a := h.2.2.1 a (hn_ne g (gA E hE).2.1 ht)
theorem sd_cp.kc {X : Nat} (h : sd_cp w E X M M') (gA : lq_SA G w) (hE : E ∈ sd_E) (g : G kc = (48102, 2)) : M'.1 kc = M.1 kc := h.2.1 kc (hn_ne g (gA E hE).1 (by decide)) (hn_ne g (gA E hE).2.2.1 (by decide)) (hn_ne g (gA E hE).2.2.2 (by decide))
theorem sd_pk {k : Nat} {v : Int} (gA : lq_SA G w) (hE : E ∈ sd_E) {a t n : Nat} (g : G a = (t, n)) (ht : t ≠ 1006 ∧ t ≠ 35100 ∧ t ≠ 36100) : sd_q M (mj_p0 M a k v) w E E := by
  obtain ⟨g1, g2, g3, g4⟩ := gA E hE
  exact sd_q.of (wz_c (hn_ne g1 g ht.1.symm)) rfl (wz_c (hn_ne g3 g ht.2.1.symm)) (wz_c (hn_ne g4 g ht.2.2.symm))
/-- one copy, all that there is -/
theorem sd_all {X a t n k : Nat} {v : Int} (hA : lq_A G w) (gA : lq_SA G w) (gB : lq_SB M w) (hE : E ∈ sd_E) (al : sd_al G M M1) (hc : sd_cp w E X M1 M2) (al2 : sd_al G M2 M3) (g : G a = (t, n)) (ht : t ≠ 1006 ∧ t ≠ 35100 ∧ t ≠ 36100) (hX : X ∈ sd_E) : lq_SB (mj_p0 M3 a k v) w ∧ (∀ c, G c = (1007, 0) → (mj_p0 M3 a k v).2.2 c 2 = M.2.2 c 2) ∧ sd_q M (mj_p0 M3 a k v) w X E ∧ ∀ Y, Y ∈ sd_E → Y ≠ E → sd_q M (mj_p0 M3 a k v) w Y Y := by
  have rE : ∀ Y, Y ∈ sd_E → M3.2.2 (w Y) = M.2.2 (w Y) := fun Y hY => (al2.r gA hY).trans ((hc.r gA hE (gA Y hY).1 (by decide)).trans (al.r gA hY))
  have r7 : ∀ c, G c = (1007, 0) → M3.2.2 c = M.2.2 c := fun c gc => (al2.r7 gc).trans ((hc.r gA hE gc (by decide)).trans (al.r7 gc))
  exact ⟨gB.cg rE (fun k _ => congrFun (r7 _ (lq_sk7 hA k)) 2), fun c gc => congrFun (r7 c gc) 2, ((al.q gA hX).tr hc.q).tr ((al2.q gA hE).tr (sd_pk gA hE g ht)), fun Y hY nY => ((al.q gA hY).tr (hc.o hA gA hE hY nY)).tr ((al2.q gA hY).tr (sd_pk gA hY g ht))⟩
theorem lq_S.im1 (h : lq_S G M s kp kc w) (hA : lq_A G w) (gc : G kc = (48102, 2)) (es : M'.1 s = M.1 s) (ek : M'.1 kp = M.1 kp) (iy : ∀ e e2, lq_SN M w e e2 → sd_iy G M M' kc w z1 e) : lq_Si G M' s kp kc w z1 := by
  obtain ⟨gA, gB, ⟨e, e2, hN, h1⟩, hk⟩ := h
  obtain ⟨i0, i1⟩ := iy e e2 hN
  by_cases hz : 0 ≤ z1 ∧ z1 ≤ 1
  · have hk0 : z1.toNat < 2 := by omega
    have e0 : z1 = (z1.toNat : Int) := by omega
    generalize z1.toNat = k0 at hk0 e0
    obtain ⟨M1, M2, M3, al, hc, al2, eM⟩ := i1 k0 hk0 e0
    obtain ⟨b1, b2, b3, b4⟩ := sd_all (k := k0) (v := 1) hA gA gB (sd_i_in k0) al hc al2 gc (by decide) hN.in1.1
    rw [← eM] at b1 b2 b3 b4
    have ec : ∀ k, k ≠ k0 → M'.1 kc k = M.1 kc k := fun k hne => by
      rw [eM, hn_n (Or.inr hne), al2.kc gc, hc.kc gA (sd_i_in k0) gc, al.kc gc]
    refine ⟨gA, b1, ⟨e, e2, hN.cg (b2 _ hA.2.2.1) (b2 _ hA.2.2.2.1), h1.cg (b4 e hN.in1.1 (fun q => hN.in1.2.2.2.1 k0 q.symm)) (fun j _ _ => by rw [es])⟩, fun k hk2 hz2 h0 => ?_, fun k hk2 hz2 => ?_⟩
    · have hne : k ≠ k0 := fun q => hz2 (by rw [q]; exact e0)
      rw [ec k hne] at h0
      rw [ek]
      exact (hk k hk2 h0).cg (b4 _ (sd_i_in k) (by unfold sd_i; split <;> split <;> omega)) (fun _ _ _ => rfl)
    · obtain rfl : k = k0 := by omega
      exact h1.cg b3 (fun j _ _ => by rw [es])
  · have e := i0 hz
    subst e
    exact ⟨gA, gB, ⟨_, e2, hN, h1⟩, fun k hk2 _ h0 => hk k hk2 h0, fun k hk2 e => absurd ⟨by omega, by omega⟩ hz⟩
theorem lq_Si.im2 (h : lq_Si G M s kp kc w z1) (hA : lq_A G w) (f : ab_frm W G M M') (cW : lq_Su W) (es : M'.1 s = M.1 s) (ec : M'.1 kc = M.1 kc) (o : (¬ (0 ≤ z1 ∧ z1 ≤ 1) ∧ M'.1 kp = M.1 kp) ∨ (∃ k : Nat, k ≤ 1 ∧ z1 = (k : Int) ∧ (∀ p, p < 537 → M'.1 kp (538 * k + p) = M.1 s p) ∧ (∀ q, q < 538 * k ∨ 538 * k + 538 ≤ q → M'.1 kp q = M.1 kp q))) : lq_S G M' s kp kc w := by
  obtain ⟨gA, gB, ⟨e, e2, hN, h0⟩, h1, h2⟩ := h
  obtain ⟨r1, r2⟩ := gA.fr hA f cW
  refine ⟨gA, gB.cg (fun E hE => (r1 E hE).1) (fun k hk => r2 _ (lq_sk7 hA k)), ⟨e, e2, hN.cg (r2 _ hA.2.2.1) (r2 _ hA.2.2.2.1), h0.cg (r1 e hN.in1.1).2 (fun j _ _ => by rw [es])⟩, fun k hk2 hc => ?_⟩
  rw [ec] at hc
  have q := (r1 _ (sd_i_in k)).2
  rcases o with ⟨hz, ek⟩ | ⟨k0, hk0, e0, o1, o3⟩
  · rw [ek]
    exact (h1 k hk2 (by omega) hc).cg q (fun _ _ _ => rfl)
  · by_cases ee : k = k0
    · subst ee
      exact (h2 k hk2 e0).cg q (fun j _ j2 => by rw [Nat.zero_add]; exact o1 j j2)
    · exact (h1 k hk2 (by omega) hc).cg q (fun j j1 j2 => o3 _ (by omega))
theorem lq_S.re1 (h : lq_S G M s kp kc w) (hA : lq_A G w) (gud : G ud = (1009, 0)) (es : M'.1 s = M.1 s) (ek : M'.1 kp = M.1 kp) (ec : M'.1 kc = M.1 kc) (ry : ∀ e e2, lq_SN M w e e2 → sd_ry G M M' kc ud w z1 e) : lq_Sr G M' s kp kc w z1 := by
  obtain ⟨gA, gB, ⟨e, e2, hN, h1⟩, hk⟩ := h
  obtain ⟨i0, i1⟩ := ry e e2 hN
  by_cases hz : ∀ k : Nat, k < 2 → z1 = (k : Int) → M.1 kc k = 0
  · have e := i0 hz
    subst e
    exact ⟨gA, gB, hk, _, e2, hN, fun _ => h1, fun k hk2 ez h0 => absurd (hz k hk2 ez) h0⟩
  · obtain ⟨k0, hk0, e0, c0⟩ : ∃ k : Nat, k < 2 ∧ z1 = (k : Int) ∧ M.1 kc k ≠ 0 := Classical.byContradiction (fun g => hz (fun k hk2 ez => Classical.byContradiction (fun g2 => g ⟨k, hk2, ez, g2⟩)))
    obtain ⟨M1, M2, M3, al, hc, al2, eM⟩ := i1 k0 hk0 e0 c0
    obtain ⟨b1, b2, b3, b4⟩ := sd_all (k := 3) (v := 0) hA gA gB hN.in1.1 al hc al2 gud (by decide) (sd_i_in k0)
    rw [← eM] at b1 b2 b3 b4
    refine ⟨gA, b1, fun k hk2 h0 => ?_, e, e2, hN.cg (b2 _ hA.2.2.1) (b2 _ hA.2.2.2.1), fun g => ?_, fun k hk2 ez h0 => ?_⟩
    · rw [ec] at h0; rw [ek]
      exact (hk k hk2 h0).cg (b4 _ (sd_i_in k) (hN.in1.2.2.2.1 k)) (fun _ _ _ => rfl)
    · have := g k0 hk0 e0
      rw [ec] at this
      exact absurd this c0
    · obtain rfl : k = k0 := by omega
      rw [ek]
      exact (hk k hk2 c0).cg b3 (fun _ _ _ => rfl)
theorem lq_Sr.re2 {ik : Nat} (h : lq_Sr G M s kp kc w z1) (hA : lq_A G w) (f : ab_frm W G M M') (cW : lq_Su W) (ek : M'.1 kp = M.1 kp) (ec : M'.1 kc = M.1 kc) (mk : ∀ k, k < 2 → M.1 kc k = M.1 ik k) (o : ((¬ (0 ≤ z1 ∧ z1 ≤ 1) ∨ M.1 ik z1.toNat = 0) ∧ M'.1 s = M.1 s) ∨ (∃ k : Nat, k ≤ 1 ∧ z1 = (k : Int) ∧ M.1 ik k ≠ 0 ∧ ∀ p, p < 537 → M'.1 s p = M.1 kp (538 * k + p))) : lq_S G M' s kp kc w := by
  obtain ⟨gA, gB, hk, e, e2, hN, h1, h2⟩ := h
  obtain ⟨r1, r2⟩ := gA.fr hA f cW
  refine ⟨gA, gB.cg (fun E hE => (r1 E hE).1) (fun k hk => r2 _ (lq_sk7 hA k)), ⟨e, e2, hN.cg (r2 _ hA.2.2.1) (r2 _ hA.2.2.2.1), ?_⟩, fun k hk2 hc => ?_⟩
  · have q := (r1 e hN.in1.1).2
    rcases o with ⟨hz, es⟩ | ⟨k0, hk0, e0, c0, o1⟩
    · refine (h1 (fun k hk2 ez => ?_)).cg q (fun j _ _ => by rw [es])
      rcases hz with hz | hz
      · exact absurd ⟨by omega, by omega⟩ hz
      · rw [ez] at hz
        rw [mk k hk2]; exact hz
    · exact (h2 k0 (by omega) e0 (by rw [mk k0 (by omega)]; exact c0)).cg q (fun j _ j2 => by rw [Nat.zero_add]; exact o1 j j2)
  · rw [ec] at hc; rw [ek]
    exact (hk k hk2 hc).cg (r1 _ (sd_i_in k)).2 (fun _ _ _ => rfl)
/-- all that the class's sentence tells, raw -/
def lq_sy (G : mj_G) (M M' : mj_M) (x tp : Nat) (w : Nat → Nat) (y : se_Od) : Prop := ∀ e e2, lq_SN M w e e2 → (∀ f, y = .inl f → sc_F G x tp (w e2) (w (e2 + 1)) (w (e2 + 2)) (w (e2 + 3)) (w 74) (w 29) (w e) f.1 M M') ∧ (∀ o cs, y = .inr (o, cs) → se_ok cs o ∧ sc_O G x tp (w e2) (w (e2 + 1)) (w (e2 + 2)) (w (e2 + 3)) (w 74) (w 29) (w e) cs o M M')
def lq_sz (M M' : mj_M) (s m : Nat) (y : se_Od) : Prop := (∀ f, y = .inl f → M'.1 s = M.1 s ∧ M'.1 m 15 = f.1) ∧ (∀ o cs, y = .inr (o, cs) → sq_O m s cs M M')
theorem lq_se1 (inv : ab_Inv G M) (gx : G x = (1011, 0)) (gtp : G tp = (1008, 0)) (x0 : M.2.2 x 0 = some tp) (h6 : lp_6 G M tp m bc bt) (hJ : lq_J G M x s kp kc w) (hnz : nz G M s m kp kc w) (hS : lq_S G M s kp kc w) (hn : n ≤ 940) (hs : M.1 tp 1 = (n : Int)) : mj_R mj_tab 40 147 [.inr (.inr (some x))] G M (fun r G' M' => ∃ y, r = some (.inl (se_vd y)) ∧ G' = G ∧ se_zd (M.1 bc) n y ∧ lq_sy G M M' x tp w y) := by
  obtain ⟨gbc, gbt, t0, m1, wl, l5⟩ := h6
  obtain ⟨hA, hB, p, q, hN, h1, h2⟩ := hJ
  have hp := hN.pin.1
  have g29 := hA.2.2.1
  have g74 := hA.2.2.2.1
  obtain ⟨gpl, gna, gta, gba, gwa, gtr, gbr, itr, ibr, p0, p1, p2, p3, rt, rb⟩ := lq_K hA hB hp
  obtain ⟨oa, p10, goa⟩ := hn_rf (k := 10) (q := (30100, 8)) inv gpl rfl (by decide) (by decide) (by decide) (fun e => absurd e (by decide))
  obtain ⟨ns, nk, ⟨r1, r2, -, -⟩, hNN, -⟩ := hnz
  obtain ⟨nm, a1, a2⟩ := hNN p q hN
  obtain ⟨gA, gB, ⟨e, e2, hSN, -⟩, -⟩ := hS
  have hAT : rv_AT G M (fun k => rv_u8 (M.1 bc k)) n 200 tp bc (w p) (w (p + 1)) (w (p + 2)) (w (p + 11)) (w (p + 20)) oa (fun t => w (p + 3 + t)) (fun t => w (p + 12 + t)) (rv_T (fun k => rv_u8 (M.1 bc k)) n 200) :=
    ⟨⟨gtp, gbc, gpl, gna, gta, gba, gwa, goa, gtr, gbr, itr, ibr, t0, p0, p1, p2, p3, p10, rt, rb, fun _ => rfl, wl, hn, by decide, inv.2.2.2.1⟩, rfl⟩
  have hX : sc_X G M x tp (w 74) (w 29) (w e2) (w e) := ⟨⟨gx, g74, g29, fun e => absurd (hA.1 _ _ (by decide) (by decide) e) (by decide)⟩, x0, hB.2.1, hB.2.2.1, hSN.2.1, hSN.1⟩
  obtain ⟨y, hy⟩ := dg_A (T := rv_T (fun k => rv_u8 (M.1 bc k)) n 200) (n := n) (fun q hq => rv_T_w hq)
  have uniq : ∀ e' e2', lq_SN M w e' e2' → e' = e ∧ e2' = e2 := fun e' e2' h => by
    have c1 := Option.some.inj (h.1.symm.trans hSN.1)
    have i1 := sd_E4 h.in1.1
    have i2 := sd_E4 hSN.in1.1
    have c2 := hA.1 _ _ (by omega) (by omega) c1
    have b1 := h.2.2
    have b2 := hSN.2.2
    omega
  refine r_X11_sentence (d := 6) (n := n) hAT hX (lq_SD gA gB.1 hSN.in1.2.1) hs a1 (se_A.mono (fun f a hf M' hM => ?_) (fun o cs hg hk o1 o2 o3 M' hM => ?_) (hy (fun y' => y' = y) rfl))
  · subst hf
    exact ⟨_, by rw [se_vd_l], rfl, hy, fun e' e2' h => by
      obtain ⟨rfl, rfl⟩ := uniq e' e2' h
      exact ⟨fun f' ef => by cases ef; exact hM, fun o cs ef => by cases ef⟩⟩
  · subst hk
    exact ⟨_, by rw [se_vd_r], rfl, hy, fun e' e2' h => by
      obtain ⟨rfl, rfl⟩ := uniq e' e2' h
      exact ⟨fun f' ef => (by cases ef), fun o' cs' ef => by cases ef; exact ⟨se_ok.of o1 o2 o3 hg, hM⟩⟩⟩
theorem lq_se2 {f : Nat → Int} {y : se_Od} (hV : lw_V G M x m tp s kp) (gbt : G bt = (50101, 940)) (m1 : M.2.2 m 1 = some bt) (et : M.1 bt = f) (hn : n ≤ 940) (hs : M.1 m 2 = (n : Int)) (hzd : se_zd f n y) : mj_R mj_tab 40 239 [.inr (.inr (some m))] G M (fun r G' M' => r = some (.inl (se_vd y)) ∧ G' = G ∧ lq_sz M M' s m y) := by
  obtain ⟨inv, ⟨gx, gm, gtp, gs, -⟩, ⟨x0, m6, -⟩, -⟩ := hV
  obtain ⟨rd, m8, grd⟩ := hn_rf (k := 8) (q := (53100, 135)) inv gm rfl (by decide) (by decide) (by decide) (fun e => absurd e (by decide))
  obtain ⟨sk, m52, gsk⟩ := hn_rf (k := 52) (q := (68100, 45)) inv gm rfl (by decide) (by decide) (by decide) (fun e => absurd e (by decide))
  refine r_X12_sentence (d := 36) (n := n) (B := fun k => rv_u8 (f k)) gm gbt grd gsk gs m1 m6 m8 m52 (fun k => by rw [et]) hn hs rfl (se_A.mono (fun f' a hf M' hM => ?_) (fun o cs hg hk o1 o2 o3 M' hM => ?_) (hzd (fun y' => y' = y) rfl))
  · subst hf
    exact ⟨by rw [se_vd_l], rfl, fun g eg => by cases eg; exact hM, fun o cs eg => by cases eg⟩
  · subst hk
    exact ⟨by rw [se_vd_r], rfl, fun g eg => (by cases eg), fun o' cs' eg => by cases eg; exact hM⟩
/-- between sentence of the class and of the reference -/
def lq_Sy (G : mj_G) (M : mj_M) (s kp kc : Nat) (w : Nat → Nat) (y : se_Od) : Prop := lq_SA G w ∧ lq_SB M w ∧ (∀ k, k < 2 → M.1 kc k ≠ 0 → sd_1 G M w (sd_i k) (M.1 kp) (538 * k)) ∧ ∃ e e2, lq_SN M w e e2 ∧ (∀ v, y = .inl v → sd_1 G M w e (M.1 s) 0) ∧ (∀ o cs, y = .inr (o, cs) → se_R G M (w e) (w (e + 1)) (w (e + 2)) (w (e + 3)) cs o ∧ se_ok cs o)
theorem lq_S.sy {y : se_Od} (h : lq_S G M s kp kc w) (hA : lq_A G w) (gx : G x = (1011, 0)) (gtp : G tp = (1008, 0)) (gs : G s = (51100, 537)) (gk : G kp = (70100, 1076)) (gc : G kc = (48102, 2)) (sy : lq_sy G M M' x tp w y) : lq_Sy G M' s kp kc w y := by
  obtain ⟨gA, gB, ⟨e, e2, hN, h1⟩, hk⟩ := h
  obtain ⟨s1, s2⟩ := sy e e2 hN
  have i1 := hN.in1
  obtain ⟨k1, k2, k3, k4⟩ := gA e2 i1.2.1
  have fr : sc_fr G tp (w e2) (w (e2 + 1)) (w (e2 + 2)) (w (e2 + 3)) (w 74) (w 29) M M' := by
    rcases y with f | ⟨o, cs⟩
    · exact (s1 f rfl).2.2.2
    · exact (s2 o cs rfl).2.2.2.2.2
  have tg : ∀ {a t u : Nat}, G a = (t, u) → (t = 1006 ∨ t = 35100 ∨ t = 36100 ∨ t = 51100 ∨ t = 70100 ∨ t = 48102) → a ≠ w e2 → a ≠ w (e2 + 2) → a ≠ w (e2 + 3) → M'.1 a = M.1 a := fun g ht n1 n2 n3 => fr.1 _ _ _ g (by omega) (by omega) (by omega) (by omega) (by omega) (by omega) (by omega) n1 n2 n3
  have rf : ∀ {a t u : Nat} (j : Nat), G a = (t, u) → t ≠ 1008 → (t ≠ 1007 ∨ j ≠ 2) → a ≠ w (e2 + 1) → M'.2.2 a j = M.2.2 a j := fun j g c1 c2 n1 => fr.2 _ j n1 (fun q => hn_ne g gtp c1 q.1) (fun q => c2.elim (fun z => hn_ne g hA.2.2.2.1 z q.1) (fun z => z q.2)) (fun q => c2.elim (fun z => hn_ne g hA.2.2.1 z q.1) (fun z => z q.2))
  have sq : ∀ E, E ∈ sd_E → E ≠ e2 → sd_q M M' w E E := fun E hE nE => by
    obtain ⟨g1, g2, g3, g4⟩ := gA E hE
    exact sd_q.of (tg g1 (by decide) (sd_w (i := 0) (j := 0) hA hE i1.2.1 (by decide) (by decide) (Or.inl nE)) (hn_ne g1 k3 (by decide)) (hn_ne g1 k4 (by decide))) (funext fun j => rf j g2 (by decide) (Or.inl (by decide)) (sd_w hA hE i1.2.1 (by decide) (by decide) (Or.inl nE))) (tg g3 (by decide) (hn_ne g3 k1 (by decide)) (sd_w hA hE i1.2.1 (by decide) (by decide) (Or.inl nE)) (hn_ne g3 k4 (by decide))) (tg g4 (by decide) (hn_ne g4 k1 (by decide)) (hn_ne g4 k3 (by decide)) (sd_w hA hE i1.2.1 (by decide) (by decide) (Or.inl nE)))
  have ot : ∀ {a t u : Nat}, G a = (t, u) → (t = 51100 ∨ t = 70100 ∨ t = 48102) → M'.1 a = M.1 a := fun g ht => tg g (by omega) (hn_ne g k1 (by omega)) (hn_ne g k3 (by omega)) (hn_ne g k4 (by omega))
  have ek : M'.1 kp = M.1 kp := ot gk (by decide)
  have ec : M'.1 kc = M.1 kc := ot gc (by decide)
  have es : M'.1 s = M.1 s := ot gs (by decide)
  have b : lq_SB M' w := gB.cg (fun E hE => funext fun j => rf j (gA E hE).1 (by decide) (Or.inl (by decide)) (hn_ne (gA E hE).1 k2 (by decide))) (fun k hk => by
    have g7 := lq_sk7 hA k
    refine fr.2 _ 2 (hn_ne g7 k2 (by decide)) (fun q => hn_ne g7 gtp (by decide) q.1) (fun q => ?_) (fun q => ?_)
    · have i := hA.1 _ _ (by unfold lq_sk; split <;> decide) (by decide) q.1
      revert i; unfold lq_sk; split <;> decide
    · have i := hA.1 _ _ (by unfold lq_sk; split <;> decide) (by decide) q.1
      revert i; unfold lq_sk; split <;> decide)
  refine ⟨gA, b, fun k hk2 h0 => ?_, ?_⟩
  · rw [ec] at h0; rw [ek]
    exact (hk k hk2 h0).cg (sq _ (sd_i_in k) (i1.2.2.2.2 k)) (fun _ _ _ => rfl)
  · rcases y with f | ⟨o, cs⟩
    · obtain ⟨c1, c2, -⟩ := s1 f rfl
      exact ⟨e, e2, ⟨c1, c2, hN.2.2⟩, fun _ _ => h1.cg (sq e i1.1 i1.2.2.1) (fun _ _ _ => by rw [es]), fun o cs q => by cases q⟩
    · obtain ⟨ok, c1, c2, c3, -⟩ := s2 o cs rfl
      refine ⟨e2, e, ⟨c1, c2, hN.2.2.elim (fun q => Or.inr ⟨q.2, q.1⟩) (fun q => Or.inl ⟨q.2, q.1⟩)⟩, fun v q => (by cases q), fun o' cs' q => by cases q; exact ⟨c3, ok⟩⟩
theorem lq_Sy.sz {y : se_Od} (h : lq_Sy G M s kp kc w y) (hA : lq_A G w) (f : ab_frm W G M M') (cW : lq_Su W) (ek : M'.1 kp = M.1 kp) (ec : M'.1 kc = M.1 kc) (sz : lq_sz M M' s m y) : lq_S G M' s kp kc w := by
  obtain ⟨gA, gB, hk, e, e2, hN, h1, h2⟩ := h
  obtain ⟨r1, r2⟩ := gA.fr hA f cW
  refine ⟨gA, gB.cg (fun E hE => (r1 E hE).1) (fun k hk => r2 _ (lq_sk7 hA k)), ⟨e, e2, hN.cg (r2 _ hA.2.2.1) (r2 _ hA.2.2.2.1), ?_⟩, fun k hk2 h0 => ?_⟩
  · have q := (r1 e hN.in1.1).2
    rcases y with v | ⟨o, cs⟩
    · exact (h1 v rfl).cg q (fun j _ _ => by rw [(sz.1 v rfl).1])
    · obtain ⟨⟨u1, u2, u3⟩, ok⟩ := h2 o cs rfl
      obtain ⟨⟨v1, v2⟩, -⟩ := sz.2 o cs rfl
      refine ⟨o, cs, ⟨q.1.trans u1, q.2.1.trans u2, fun j hj => ?_⟩, ⟨by rw [Nat.zero_add]; exact v1, fun j hj => by rw [Nat.zero_add, Nat.zero_add, Nat.zero_add]; exact v2 j hj⟩, ok⟩
      obtain ⟨⟨a, b1, b2⟩, b3, b4⟩ := u3 j hj
      have l := ok.2.1
      obtain ⟨c1, c2, c3⟩ := q.2.2 j (by omega)
      exact ⟨⟨a, c1.trans b1, b2⟩, c2.trans b3, c3.trans b4⟩
  · rw [ec] at h0; rw [ek]
    exact (hk k hk2 h0).cg (r1 _ (sd_i_in k)).2 (fun _ _ _ => rfl)
theorem lq_imgS (hI : ab_Inv G M) (gx : G x = (1011, 0)) (hA : lq_A G w) (hB : lq_B M w x) (hS : lq_S G M s kp kc w) (x4 : M.2.2 x 4 = some kc) (gkc : G kc = (48102, 2)) : mj_R mj_tab 40 127 [.inr (.inr (some x)), .inl z1] G M (fun _ _ M' => ∀ e e2, lq_SN M w e e2 → sd_iy G M M' kc w z1 e) := by
  obtain ⟨gA, gB, ⟨e, e2, hN, -⟩, -⟩ := hS
  have uniq : ∀ e' e2', lq_SN M w e' e2' → e' = e := fun e' e2' h => by
    have c1 := Option.some.inj (h.1.symm.trans hN.1)
    have i1 := sd_E4 h.in1.1
    have i2 := sd_E4 hN.in1.1
    exact hA.1 _ _ (by omega) (by omega) c1
  exact r_X11_imageS hI gx hA hB gA gB hN x4 gkc (fun hz e' e2' h => ⟨fun _ => rfl, fun k hk e => absurd ⟨by omega, by omega⟩ hz⟩) (fun k hk e M1 M2 M3 al hc al2 e' e2' h => ⟨fun hz => absurd ⟨by omega, by omega⟩ hz, fun k' hk' ez => by
    obtain rfl : k' = k := by omega
    rw [uniq e' e2' h]
    exact ⟨M1, M2, M3, al, hc, al2, rfl⟩⟩)
theorem lq_rstS (hI : ab_Inv G M) (gx : G x = (1011, 0)) (hA : lq_A G w) (hB : lq_B M w x) (hS : lq_S G M s kp kc w) (x4 : M.2.2 x 4 = some kc) (gkc : G kc = (48102, 2)) (x5 : M.2.2 x 5 = some ud) (gud : G ud = (1009, 0)) : mj_R mj_tab 40 144 [.inr (.inr (some x)), .inl z1] G M (fun _ _ M' => ∀ e e2, lq_SN M w e e2 → sd_ry G M M' kc ud w z1 e) := by
  obtain ⟨gA, gB, ⟨e, e2, hN, -⟩, -⟩ := hS
  have uniq : ∀ e' e2', lq_SN M w e' e2' → e' = e := fun e' e2' h => by
    have c1 := Option.some.inj (h.1.symm.trans hN.1)
    have i1 := sd_E4 h.in1.1
    have i2 := sd_E4 hN.in1.1
    exact hA.1 _ _ (by omega) (by omega) c1
  exact r_X11_restoreS hI gx hA hB gA gB hN x4 gkc x5 gud (fun hz e' e2' h => ⟨fun _ => rfl, fun k hk ez h0 => by
    rcases hz with hz | ⟨k2, a, b, e0⟩
    · exact absurd ⟨by omega, by omega⟩ hz
    · obtain rfl : k2 = k := by omega
      exact absurd e0 h0⟩) (fun k hk ez h0 M1 M2 M3 al hc al2 e' e2' h => ⟨fun hz => absurd (hz k hk ez) h0, fun k' hk' ez' _ => by
    obtain rfl : k' = k := by omega
    rw [uniq e' e2' h]
    exact ⟨M1, M2, M3, al, hc, al2, rfl⟩⟩)
def lp_N (G : mj_G) (M : mj_M) (x m tp s kp bc bt kc kr : Nat) (w : Nat → Nat) (c : Int) : Prop := lp_U G M x m tp s kp bc bt kc kr w c ∧ lq_S G M s kp kc w
theorem lp_N.le {kr : Nat} {c c' : Int} (h : lp_N G M x m tp s kp bc bt kc kr w c) (hc : c ≤ c') : lp_N G M x m tp s kp bc bt kc kr w c' := ⟨h.1.le hc, h.2⟩
theorem lp_N.mv {kr : Nat} {c : Int} (h : lp_N G M x m tp s kp bc bt kc kr w c) (e1 : M'.1 = M.1) (e2 : M'.2.2 = M.2.2) (e3 : ∀ y k, (G y).1 ≠ 90103 → M'.2.1 y k = M.2.1 y k) : lp_N G M' x m tp s kp bc bt kc kr w c := ⟨h.1.mv e1 e2 e3, h.2.mv e1 e2⟩
theorem sz_headS {w : sx_w} {h : sx_H} {G : mj_G} {M : mj_M} (hR : sx_RH w h G M) (k2 : sz_hk h = true) : lq_S (sz_G w h G) (sz_M w h G M) (w.2.2.2 338) (w.2.2.2 357) (w.2.2.2 120) w.2.2.2 := by
  have n1 := (sz_hk_s k2).1
  obtain ⟨ya, yb, -, -, -⟩ := sz_hy_s k2
  have tg : ∀ i t n, (i, t, n) ∈ sz_lt → sz_G w h G (w.2.2.2 i) = (t, n) := fun i t n he => sz_tg_s (yb (i, t, n) he) hR (by have := sz_lt_lt _ he; omega)
  have rq : ∀ i k j, (i, k, j) ∈ sz_lr → (sz_M w h G M).2.2 (w.2.2.2 i) k = some (w.2.2.2 j) := fun i k j he => sz_rq_s (ya (i, k, j) he) hR (by have := (sz_lr_lt _ he).1; omega) (sz_lr_lt _ he).2
  have c0 : (sz_M w h G M).1 (w.2.2.2 120) 0 = 0 := sz_q_s hR k2 (by decide +kernel)
  have c1 : (sz_M w h G M).1 (w.2.2.2 120) 1 = 0 := sz_q_s hR k2 (by decide +kernel)
  have e4 : (sz_M w h G M).1 (w.2.2.2 56) 4 = 0 := sz_q_s hR k2 (by decide +kernel)
  have e5 : (sz_M w h G M).1 (w.2.2.2 56) 5 = 0 := sz_q_s hR k2 (by decide +kernel)
  have s0 : (sz_M w h G M).1 (w.2.2.2 338) 356 = 0 := sz_q_s hR k2 (by decide +kernel)
  refine ⟨fun E hE => ?_, ⟨fun E hE => ?_, fun k hk => ?_⟩, ⟨56, 101, ⟨rq 29 2 56 (by decide +kernel), rq 74 2 101 (by decide +kernel), Or.inl ⟨rfl, rfl⟩⟩, 0, [], ⟨e4, e5, fun j hj => absurd hj (Nat.not_lt_zero j)⟩, ⟨s0, fun j hj => absurd hj (Nat.not_lt_zero j)⟩, se_ok.nil⟩, fun k hk h0 => ?_⟩
  · rcases sd_E4 hE with e | e | e | e <;> subst e
    · exact ⟨tg _ _ _ (by decide +kernel), tg _ _ _ (by decide +kernel), tg _ _ _ (by decide +kernel), tg _ _ _ (by decide +kernel)⟩
    · exact ⟨tg _ _ _ (by decide +kernel), tg _ _ _ (by decide +kernel), tg _ _ _ (by decide +kernel), tg _ _ _ (by decide +kernel)⟩
    · exact ⟨tg _ _ _ (by decide +kernel), tg _ _ _ (by decide +kernel), tg _ _ _ (by decide +kernel), tg _ _ _ (by decide +kernel)⟩
    · exact ⟨tg _ _ _ (by decide +kernel), tg _ _ _ (by decide +kernel), tg _ _ _ (by decide +kernel), tg _ _ _ (by decide +kernel)⟩
  · rcases sd_E4 hE with e | e | e | e <;> subst e
    · exact ⟨rq _ _ _ (by decide +kernel), rq _ _ _ (by decide +kernel), rq _ _ _ (by decide +kernel)⟩
    · exact ⟨rq _ _ _ (by decide +kernel), rq _ _ _ (by decide +kernel), rq _ _ _ (by decide +kernel)⟩
    · exact ⟨rq _ _ _ (by decide +kernel), rq _ _ _ (by decide +kernel), rq _ _ _ (by decide +kernel)⟩
    · exact ⟨rq _ _ _ (by decide +kernel), rq _ _ _ (by decide +kernel), rq _ _ _ (by decide +kernel)⟩
  · rcases (by omega : k = 0 ∨ k = 1) with e | e <;> subst e
    · exact rq 246 2 273 (by decide +kernel)
    · exact rq 291 2 318 (by decide +kernel)
  · exfalso
    rcases (by omega : k = 0 ∨ k = 1) with e | e <;> subst e
    · exact h0 c0
    · exact h0 c1
end UJ
