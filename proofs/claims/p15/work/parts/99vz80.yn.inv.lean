/-! ===== YEARS now and of the images, alike on both sides ===== -/
/-- the cells of the YEAR at Y tell T -/
def yw_V (M : mj_M) (w : Nat → Nat) (Y : Nat) (T : ye_T) : Prop := (∀ j, 222 ≤ j → j < 232 → M.1 (w Y) (ye_f j) = T.1 j) ∧ (∀ j : Nat, j < 12 → (j : Int) < T.1 222 → M.1 (w (Y + 1)) j = T.2.1 j ∧ M.1 (w (Y + 2)) j = T.2.2.1 j ∧ M.1 (w (Y + 3)) j = T.2.2.2.1 j) ∧ (∀ t u, t < 8 → u < 11 → M.1 (w (Y + 5 + t)) u = T.2.2.2.2 t u)
def yw_E (M : mj_M) (H : Nat → Int) (o : Nat) (w : Nat → Nat) (Y : Nat) : Prop := M.1 (w Y) 0 = H (o + 221) ∧ (H (o + 221) = 0 ∨ H (o + 221) = 1) ∧ (H (o + 221) = 1 → yw_V M w Y (ye_S H o) ∧ ye_okT (fun j => H (o + j)) (ye_S H o))
/-- the YEAR at Y is the one that H tells from o on; the CONTRACTS there are in order -/
def yw_F (M : mj_M) (H : Nat → Int) (o : Nat) (w : Nat → Nat) (Y : Nat) : Prop := yw_E M H o w Y ∧ yd_ok (fun j => H (o + j))
def ye_eq (T T' : ye_T) : Prop := (∀ j, 222 ≤ j → j < 232 → T'.1 j = T.1 j) ∧ (∀ j, j < 12 → T'.2.1 j = T.2.1 j ∧ T'.2.2.1 j = T.2.2.1 j ∧ T'.2.2.2.1 j = T.2.2.2.1 j) ∧ (∀ t u, t < 8 → u < 11 → T'.2.2.2.2 t u = T.2.2.2.2 t u)
def yw_q (M M' : mj_M) (w : Nat → Nat) (Y Y' : Nat) : Prop := (∀ f, f < 15 → f < 3 ∨ 7 ≤ f → M'.1 (w Y') f = M.1 (w Y) f) ∧ (∀ v, v < 3 → ∀ j, j < 12 → M'.1 (w (Y' + (1 + v))) j = M.1 (w (Y + (1 + v))) j) ∧ (∀ t u, t < 8 → u < 11 → M'.1 (w (Y' + 5 + t)) u = M.1 (w (Y + 5 + t)) u)
def lq_W (G : mj_G) (M : mj_M) (m s kp kc : Nat) (w : Nat → Nat) : Prop := lq_WA G w ∧ lq_WB M w ∧ M.1 m 32 = -1 ∧ yw_F M (M.1 s) 0 w 61 ∧ ∀ k, k < 2 → M.1 kc k ≠ 0 → yw_F M (M.1 kp) (538 * k) w (lq_yi k)
/-- frames that leave YEARS of the class -/
abbrev lq_Wu (W : List (Nat × Nat × Nat)) : Prop := ∀ q ∈ W, q.1 ≠ 1010 ∧ q.1 ≠ 42100 ∧ q.1 ≠ 43100 ∧ q.1 ≠ 44100 ∧ q.1 ≠ 45104 ∧ q.1 ≠ 46100 ∧ (q.1 ≠ 1007 ∨ q.2.2 < 3 ∨ 3 < q.2.1)
abbrev lq_Ww (W : List (Nat × Nat × Nat)) : Prop := ∀ q ∈ W, (q.1 ≠ 1010 ∧ q.1 ≠ 42100 ∧ q.1 ≠ 43100 ∧ q.1 ≠ 44100 ∧ q.1 ≠ 45104 ∧ q.1 ≠ 46100 ∧ (q.1 ≠ 1007 ∨ q.2.2 < 3 ∨ 3 < q.2.1)) ∧ (q.1 ≠ 51100 ∨ (88 ≤ q.2.1 ∧ q.2.2 < 184) ∨ 356 ≤ q.2.1) ∧ q.1 ≠ 70100 ∧ q.1 ≠ 48102 ∧ (q.1 ≠ 1012 ∨ q.2.2 < 32 ∨ 32 < q.2.1)
section YN
variable {G : mj_G} {M M' M1 M2 : mj_M} {x s m kp kc tp ud dn : Nat} {w : Nat → Nat} {z1 z : Int} {H H' : Nat → Int} {o o' Y Y' : Nat} {T T' : ye_T}
theorem ye_okT.cg (h : ye_okT H T) (e0 : H' 0 = H 0) (e5 : ∀ t, t < 8 → H' (5 + 9 * t) = H (5 + 9 * t)) (e : ye_eq T T') : ye_okT H' T' := by
  obtain ⟨eg, ea, er⟩ := e
  obtain ⟨a1, a2, a3, a4, a5, a6, a7, a8, a9, a10, a11, a12, a13⟩ := h
  have g2 := eg 222 (by decide) (by decide)
  have g3 := eg 223 (by decide) (by decide)
  have g4 := eg 224 (by decide) (by decide)
  have g5 := eg 225 (by decide) (by decide)
  have g6 := eg 226 (by decide) (by decide)
  have g7 := eg 227 (by decide) (by decide)
  have g8 := eg 228 (by decide) (by decide)
  have g9 := eg 229 (by decide) (by decide)
  have ga := eg 230 (by decide) (by decide)
  have gb := eg 231 (by decide) (by decide)
  refine ⟨by rw [g2]; exact a1, by rw [g3, e0]; exact a2, by rw [g4, g2]; exact a3, by rw [g5]; exact a4, by rw [g6, g2]; exact a5, by rw [g7, g2]; exact a6, by rw [g8, g2]; exact a7, by rw [g9, g2]; exact a8, by rw [ga, g2]; exact a9, by rw [gb, g2]; exact a10, fun t ht => ?_, fun t ht hn u hu => ?_, fun j hj => ?_⟩
  · have q := a11 t ht
    unfold ye_rk at q ⊢
    rw [e5 t ht, g2, er t 0 ht (by decide), er t 1 ht (by decide), er t 2 ht (by decide), er t 3 ht (by decide), er t 4 ht (by decide), er t 5 ht (by decide), er t 6 ht (by decide), er t 7 ht (by decide), er t 8 ht (by decide), er t 9 ht (by decide), er t 10 ht (by decide)]
    exact q
  · rw [er t u ht hu]; exact a12 t ht (by rw [e0] at hn; exact hn) u hu
  · rw [g2] at hj
    have q := a13 j hj
    obtain ⟨b1, b2, b3⟩ := ea j (by omega)
    rw [b1, b2, b3, e0]; exact q
theorem ye_f_b {j : Nat} (h1 : 222 ≤ j) (h2 : j < 232) : ye_f j < 15 ∧ (ye_f j < 3 ∨ 7 ≤ ye_f j) := by
  obtain ⟨k, rfl⟩ : ∃ k, j = 222 + k := ⟨j - 222, by omega⟩
  exact (by decide : ∀ k, k < 10 → ye_f (222 + k) < 15 ∧ (ye_f (222 + k) < 3 ∨ 7 ≤ ye_f (222 + k))) k (by omega)
theorem yw_V.cg (h : yw_V M w Y T) (q : yw_q M M' w Y Y') (e : ye_eq T T') : yw_V M' w Y' T' := by
  obtain ⟨h1, h2, h3⟩ := h
  obtain ⟨q1, q2, q3⟩ := q
  obtain ⟨eg, ea, er⟩ := e
  refine ⟨fun j j1 j2 => ?_, fun j hj hjm => ?_, fun t u ht hu => ?_⟩
  · have hf := ye_f_b j1 j2
    rw [q1 _ hf.1 hf.2, eg j j1 j2]; exact h1 j j1 j2
  · rw [eg 222 (by decide) (by decide)] at hjm
    obtain ⟨c1, c2, c3⟩ := h2 j hj hjm
    obtain ⟨b1, b2, b3⟩ := ea j hj
    exact ⟨(q2 0 (by decide) j hj).trans (c1.trans b1.symm), (q2 1 (by decide) j hj).trans (c2.trans b2.symm), (q2 2 (by decide) j hj).trans (c3.trans b3.symm)⟩
  · exact (q3 t u ht hu).trans ((h3 t u ht hu).trans (er t u ht hu).symm)
theorem ye_S.eq (eH : ∀ j, j < 88 ∨ (184 ≤ j ∧ j < 356) → H' (o' + j) = H (o + j)) : ye_eq (ye_S H o) (ye_S H' o') := ⟨fun j j1 j2 => eH j (by omega), fun j hj => ⟨eH (320 + 3 * j) (by omega), eH (321 + 3 * j) (by omega), eH (322 + 3 * j) (by omega)⟩, fun t u ht hu => eH (232 + 11 * t + u) (by omega)⟩
theorem yd_ok.cg (h : yd_ok H) (e0 : H' 0 = H 0) (e : ∀ j, j < 36 → H' (184 + j) = H (184 + j)) : yd_ok H' := fun j hj => by
  have k := h j hj
  have e1 := e (3 * j) (by omega)
  have e2 := e (1 + 3 * j) (by omega)
  have e3 := e (2 + 3 * j) (by omega)
  rw [show 184 + (1 + 3 * j) = 185 + 3 * j by omega] at e2
  rw [show 184 + (2 + 3 * j) = 186 + 3 * j by omega] at e3
  rw [e0, e1, e2, e3]; exact k
theorem yw_E.cg (h : yw_E M H o w Y) (q : yw_q M M' w Y Y') (eH : ∀ j, j < 88 ∨ (184 ≤ j ∧ j < 356) → H' (o' + j) = H (o + j)) : yw_E M' H' o' w Y' := by
  obtain ⟨h1, h2, h3⟩ := h
  have e221 := eH 221 (by omega)
  refine ⟨((q.1 0 (by decide) (by decide)).trans h1).trans e221.symm, by rw [e221]; exact h2, fun c => ?_⟩
  rw [e221] at c
  obtain ⟨a, b⟩ := h3 c
  exact ⟨a.cg q (ye_S.eq eH), b.cg (eH 0 (by omega)) (fun t ht => eH (5 + 9 * t) (by omega)) (ye_S.eq eH)⟩
theorem yw_F.cg (h : yw_F M H o w Y) (q : yw_q M M' w Y Y') (eH : ∀ j, j < 88 ∨ (184 ≤ j ∧ j < 356) → H' (o' + j) = H (o + j)) : yw_F M' H' o' w Y' := ⟨h.1.cg q eH, h.2.cg (eH 0 (by omega)) (fun j hj => eH (184 + j) (by omega))⟩
theorem yw_q.of (e : ∀ v, v < 13 → M'.1 (w (Y + v)) = M.1 (w (Y + v))) : yw_q M M' w Y Y := ⟨fun f _ _ => congrFun (e 0 (by decide)) f, fun v hv j _ => congrFun (e (1 + v) (by omega)) j, fun t u ht _ => by rw [Nat.add_assoc]; exact congrFun (e (5 + t) (by omega)) u⟩
theorem yw_gv (gA : lq_WA G w) (hY : Y ∈ yw_Y) {v : Nat} (hv : v < 13) : ∃ t n, G (w (Y + v)) = (t, n) ∧ (t = 1010 ∨ t = 42100 ∨ t = 43100 ∨ t = 44100 ∨ t = 45104 ∨ t = 46100) := by
  obtain ⟨g0, g1, g2, g3, g4, g5⟩ := gA Y hY
  by_cases c : v < 5
  · rcases (by omega : v = 0 ∨ v = 1 ∨ v = 2 ∨ v = 3 ∨ v = 4) with e | e | e | e | e <;> subst e
    · exact ⟨_, _, g0, Or.inl rfl⟩
    · exact ⟨_, _, g1, Or.inr (Or.inl rfl)⟩
    · exact ⟨_, _, g2, Or.inr (Or.inr (Or.inl rfl))⟩
    · exact ⟨_, _, g3, Or.inr (Or.inr (Or.inr (Or.inl rfl)))⟩
    · exact ⟨_, _, g4, Or.inr (Or.inr (Or.inr (Or.inr (Or.inl rfl))))⟩
  · have q := g5 (v - 5) (by omega)
    rw [show Y + 5 + (v - 5) = Y + v by omega] at q
    exact ⟨_, _, q, Or.inr (Or.inr (Or.inr (Or.inr (Or.inr rfl))))⟩
theorem lq_WB.cg (h : lq_WB M w) (r : ∀ Y, Y ∈ yw_Y → ∀ k, 3 ≤ k → k < 7 → M'.2.2 (w Y) k = M.2.2 (w Y) k) (r4 : ∀ Y, Y ∈ yw_Y → ∀ t, t < 8 → M'.2.2 (w (Y + 4)) t = M.2.2 (w (Y + 4)) t) (r7 : ∀ i, i = 29 ∨ i = 246 ∨ i = 291 → M'.2.2 (w i) 3 = M.2.2 (w i) 3) : lq_WB M' w := ⟨fun Y hY => by
  obtain ⟨b1, b2, b3, b4, b5⟩ := h.1 Y hY
  exact ⟨(r Y hY 3 (by decide) (by decide)).trans b1, (r Y hY 4 (by decide) (by decide)).trans b2, (r Y hY 5 (by decide) (by decide)).trans b3, (r Y hY 6 (by decide) (by decide)).trans b4, fun t ht => (r4 Y hY t ht).trans (b5 t ht)⟩, (r7 29 (by omega)).trans h.2.1, fun k hk => (r7 _ (by unfold lq_sk; split <;> omega)).trans (h.2.2 k hk)⟩
theorem lq_W.cg (h : lq_W G M m s kp kc w) (b : lq_WB M' w) (e32 : M'.1 m 32 = M.1 m 32) (e : ∀ Y, Y ∈ yw_Y → ∀ v, v < 13 → M'.1 (w (Y + v)) = M.1 (w (Y + v))) (es : ∀ j, j < 88 ∨ (184 ≤ j ∧ j < 356) → M'.1 s j = M.1 s j) (ek : M'.1 kp = M.1 kp) (ec : M'.1 kc = M.1 kc) : lq_W G M' m s kp kc w := ⟨h.1, b, e32.trans h.2.2.1, h.2.2.2.1.cg (yw_q.of (e 61 (by decide))) (fun j hj => by rw [Nat.zero_add]; exact es j hj), fun k hk h0 => by
  rw [ec] at h0; rw [ek]
  exact (h.2.2.2.2 k hk h0).cg (yw_q.of (e _ (lq_yi_in k).1)) (fun _ _ => rfl)⟩
/-- cells and references of YEARS by a frame that leaves them -/
theorem lq_WB.fr {W : List (Nat × Nat × Nat)} (hB : lq_WB M w) (gA : lq_WA G w) (hA : lq_A G w) (f : ab_frm W G M M') (cW : lq_Wu W) : lq_WB M' w ∧ ∀ Y, Y ∈ yw_Y → ∀ v, v < 13 → M'.1 (w (Y + v)) = M.1 (w (Y + v)) := by
  have fr : ∀ {a t n : Nat} (k : Nat), G a = (t, n) → (∀ q ∈ W, q.1 ≠ t) → M'.1 a k = M.1 a k ∧ M'.2.2 a k = M.2.2 a k := fun k g hh => f _ k (by rw [g]; rintro ⟨r, hr, e1, e2, e3⟩; exact hh r hr e1)
  have f7 : ∀ i, G (w i) = (1007, 0) → M'.2.2 (w i) 3 = M.2.2 (w i) 3 := fun i g => (f _ 3 (by rw [g]; rintro ⟨r, hr, e1, e2, e3⟩; have := (cW r hr).2.2.2.2.2.2; omega)).2
  refine ⟨hB.cg (fun Y hY k _ _ => (fr k (gA Y hY).1 (fun q hq => (cW q hq).1)).2) (fun Y hY t _ => (fr t (gA Y hY).2.2.2.2.1 (fun q hq => (cW q hq).2.2.2.2.1)).2) (fun i hi => f7 i (by rcases hi with z | z | z <;> subst z <;> first | exact hA.2.2.1 | exact hA.2.2.2.2.1 | exact hA.2.2.2.2.2.1)), fun Y hY v hv => funext fun k => ?_⟩
  obtain ⟨t, n, g, ht⟩ := yw_gv gA hY hv
  refine (fr k g (fun q hq => ?_)).1
  have c := cW q hq
  omega
theorem lq_W.go {W : List (Nat × Nat × Nat)} (h : lq_W G M m s kp kc w) (hA : lq_A G w) (gm : G m = (1012, 0)) (gs : G s = (51100, 537)) (gk : G kp = (70100, 1076)) (gc : G kc = (48102, 2)) (f : ab_frm W G M M') (cW : lq_Ww W) : lq_W G M' m s kp kc w := by
  obtain ⟨hB, hv⟩ := h.2.1.fr h.1 hA f (fun q hq => (cW q hq).1)
  have fr : ∀ {a t n : Nat} (k : Nat), G a = (t, n) → (∀ q ∈ W, q.1 ≠ t) → M'.1 a k = M.1 a k ∧ M'.2.2 a k = M.2.2 a k := fun k g hh => f _ k (by rw [g]; rintro ⟨r, hr, e1, e2, e3⟩; exact hh r hr e1)
  exact h.cg hB (f m 32 (by rw [gm]; rintro ⟨r, hr, e1, e2, e3⟩; have := (cW r hr).2.2.2.2; omega)).1 hv (fun j hj => (f s j (by rw [gs]; rintro ⟨r, hr, e1, e2, e3⟩; have := (cW r hr).2.1; omega)).1) (funext fun k => (fr k gk (fun q hq => (cW q hq).2.2.1)).1) (funext fun k => (fr k gc (fun q hq => (cW q hq).2.2.2.1)).1)
/-- a call of the reference that tells s back -/
theorem lq_W.tr {W : List (Nat × Nat × Nat)} (h : lq_W G M m s kp kc w) (hA : lq_A G w) (f : ab_frm W G M M') (cW : lq_Wu W) (e32 : M'.1 m 32 = M.1 m 32) (es : ∀ j, j < 537 → M'.1 s j = M.1 s j) (ek : M'.1 kp = M.1 kp) (ec : M'.1 kc = M.1 kc) : lq_W G M' m s kp kc w := by
  obtain ⟨hB, hv⟩ := h.2.1.fr h.1 hA f cW
  exact h.cg hB e32 hv (fun j hj => es j (by omega)) ek ec
theorem yd_ok.zz (h : yd_ok H) : yd_ok (fun j => H (0 + j)) := by
  have e : (fun j => H (0 + j)) = H := funext fun j => by rw [Nat.zero_add]
  rw [e]; exact h
theorem yd_ok.zy (h : yd_ok (fun j => H (0 + j))) : yd_ok H := by
  have e : (fun j => H (0 + j)) = H := funext fun j => by rw [Nat.zero_add]
  rw [e] at h; exact h
/-- a call of the reference that tells CONTRACTS anew -/
theorem lq_W.dl {W : List (Nat × Nat × Nat)} (h : lq_W G M m s kp kc w) (hA : lq_A G w) (f : ab_frm W G M M') (cW : lq_Wu W) (e32 : M'.1 m 32 = M.1 m 32) (es : ∀ j, j < 88 ∨ (221 ≤ j ∧ j < 356) → M'.1 s j = M.1 s j) (ek : M'.1 kp = M.1 kp) (ec : M'.1 kc = M.1 kc) (hd : yd_ok (M'.1 s)) : lq_W G M' m s kp kc w := by
  obtain ⟨gA, gB, m32, ⟨⟨h1, h2, h3⟩, -⟩, hk⟩ := h
  obtain ⟨hB, hv⟩ := gB.fr gA hA f cW
  have e221 : M'.1 s (0 + 221) = M.1 s (0 + 221) := es 221 (by omega)
  have he : ye_eq (ye_S (M.1 s) 0) (ye_S (M'.1 s) 0) := ⟨fun j j1 j2 => es _ (by omega), fun j hj => ⟨es _ (by omega), es _ (by omega), es _ (by omega)⟩, fun t u ht hu => es _ (by omega)⟩
  refine ⟨gA, hB, e32.trans m32, ⟨⟨((congrFun (hv 61 (by decide) 0 (by decide)) 0).trans h1).trans e221.symm, by rw [e221]; exact h2, fun c => ?_⟩, hd.zz⟩, fun k hk2 h0 => ?_⟩
  · rw [e221] at c
    obtain ⟨a, b⟩ := h3 c
    exact ⟨a.cg (yw_q.of (hv 61 (by decide))) he, b.cg (es _ (by omega)) (fun t ht => es _ (by omega)) he⟩
  · rw [ec] at h0; rw [ek]
    exact (hk k hk2 h0).cg (yw_q.of (hv _ (lq_yi_in k).1)) (fun _ _ => rfl)
theorem lq_W.mv (h : lq_W G M m s kp kc w) (e1 : M'.1 = M.1) (e2 : M'.2.2 = M.2.2) : lq_W G M' m s kp kc w := h.cg (h.2.1.cg (fun _ _ _ _ _ => by rw [e2]) (fun _ _ _ _ => by rw [e2]) (fun _ _ => by rw [e2])) (by rw [e1]) (fun _ _ _ _ => by rw [e1]) (fun _ _ => by rw [e1]) (by rw [e1]) (by rw [e1])
/-- all that a MONTH asks of s -/
theorem ye_H.ofs (h : rv_r6 (M.1 s) 0) (hd : yd_ok (M.1 s)) : ye_H2 (M.1 s) := by
  obtain ⟨⟨h0, h1, h2, h3, hT, hw⟩, hB, -⟩ := h
  have tv : ∀ j, 4 ≤ j → j < 76 → 0 ≤ M.1 s j ∧ M.1 s j ≤ 999 ∧ (((j - 4) / 9 : Nat) < M.1 s 0 ∨ M.1 s j = 0) := fun j j1 j2 => by
    have q := hT ((j - 4) / 9) ((j - 4) % 9) (by omega) (by omega)
    rw [Nat.zero_add, show 4 + 9 * ((j - 4) / 9) + (j - 4) % 9 = j by omega] at q
    exact q
  refine ⟨⟨h0, by rw [Nat.zero_add] at h1; exact h1, by rw [Nat.zero_add] at h2; exact h2, by rw [Nat.zero_add] at h3; exact h3, fun j j1 j2 => ⟨(tv j j1 j2).1, (tv j j1 j2).2.1⟩, fun j hj => by have q := hw j hj; rw [Nat.zero_add] at q; exact q, fun t j ht hj => by have q := hB t j ht hj; rw [Nat.zero_add] at q; exact ⟨q.1, q.2.1⟩, hd⟩, fun t ht hn => ?_⟩
  have q := hT t 3 ht (by decide)
  rw [Nat.zero_add, show 4 + 9 * t + 3 = 7 + 9 * t by omega] at q
  omega
end YN
