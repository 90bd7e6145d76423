/-! ===== said of both sides ===== -/
def sv_v (H : Nat → Int) (t c : Nat) : Int := if c = 17 then H (232 + 11 * t + 0) else if c = 18 then H (232 + 11 * t + 1) else if c = 19 then H (232 + 11 * t + 5) else if c = 20 then H (232 + 11 * t + 7) else if c = 21 then H (232 + 11 * t + 4) else if c = 22 then H (232 + 11 * t + 8) else (t : Int)
/-- what a leaf says of the town t -/
def sv_l (H : Nat → Int) (t : Nat) (c : Nat × Int × Int) : Int := if c.1 = 15 then (if H (232 + 11 * t + 3) = 1 then 1 else 0) else if c.1 = 16 then (if H (232 + 11 * t + 6) < H (8 + 9 * t) then 1 else 0) else if c.2.1 = 60 then (if sv_v H t c.1 < c.2.2 then 1 else 0) else if c.2.1 = 61 then (if sv_v H t c.1 = c.2.2 then 1 else 0) else (if c.2.2 < sv_v H t c.1 then 1 else 0)
def sv_F (F : Nat → Int) (k : Nat) (v : Int) : Nat → Int := fun j => if j = k then v else F j
def sv_n (z : Int) : Int := if z = 0 then 1 else 0
def sv_a (y z : Int) : Int := if y = 0 then 0 else if z = 0 then 0 else 1
def sv_o (y z : Int) : Int := if y = 0 then (if z = 0 then 0 else 1) else 1
/-- what the codes say of the town t, the values F standing h high -/
def sv_e (H : Nat → Int) (t : Nat) : (List (Nat × Int × Int)) → Nat → (Nat → Int) → Int
  | [], _, F => F 0
  | c :: X, h, F => if c.1 = 14 then sv_e H t X h (sv_F F (h - 1) (sv_n (F (h - 1)))) else if c.1 = 13 then sv_e H t X (h - 1) (sv_F F (h - 2) (sv_a (F (h - 2)) (F (h - 1)))) else if c.1 = 12 then sv_e H t X (h - 1) (sv_F F (h - 2) (sv_o (F (h - 2)) (F (h - 1)))) else sv_e H t X (h + 1) (sv_F F h (sv_l H t c))
/-- over the towns: which one is the z-th, or how many -/
def sv_r (b : Nat → Int) (z : Int) : Nat → Nat → Nat → Int
  | 0, _, n => if z = -1 then (n : Int) else -1
  | f + 1, t, n => if b t = 0 then sv_r b z f (t + 1) n else if (n : Int) = z then (t : Int) else sv_r b z f (t + 1) (n + 1)
def lr_said (H : Nat → Int) (cs : (List (Nat × Int × Int))) (z : Int) : Int := if H 356 = 0 ∨ H 221 = 0 ∨ z < -1 then -1 else sv_r (fun t => sv_e H t cs 0 (fun _ => 0)) z (H 0).toNat 0 0
theorem sv_r_lt {b : Nat → Int} {z : Int} (hz : z < -1) : ∀ f t n, sv_r b z f t n = -1
  | 0, t, n => by show (if z = -1 then (n : Int) else -1) = -1; rw [if_neg (by omega)]
  | f + 1, t, n => by
    show (if b t = 0 then sv_r b z f (t + 1) n else if (n : Int) = z then (t : Int) else sv_r b z f (t + 1) (n + 1)) = -1
    rw [sv_r_lt hz f, if_neg (show ¬ (n : Int) = z by omega), sv_r_lt hz f]
    split <;> rfl
theorem sv_l_b {H : Nat → Int} {t : Nat} {c : Nat × Int × Int} : sv_l H t c = 0 ∨ sv_l H t c = 1 := by
  unfold sv_l
  by_cases c1 : c.1 = 15
  · rw [if_pos c1]; split <;> first | exact Or.inr rfl | exact Or.inl rfl
  · rw [if_neg c1]
    by_cases c2 : c.1 = 16
    · rw [if_pos c2]; split <;> first | exact Or.inr rfl | exact Or.inl rfl
    · rw [if_neg c2]
      by_cases c3 : c.2.1 = 60
      · rw [if_pos c3]; split <;> first | exact Or.inr rfl | exact Or.inl rfl
      · rw [if_neg c3]
        by_cases c4 : c.2.1 = 61
        · rw [if_pos c4]; split <;> first | exact Or.inr rfl | exact Or.inl rfl
        · rw [if_neg c4]; split <;> first | exact Or.inr rfl | exact Or.inl rfl
theorem sv_dr : ∀ (cs : (List (Nat × Int × Int))) (i : Nat) (c : Nat × Int × Int) (X : (List (Nat × Int × Int))), cs.drop i = c :: X → i < cs.length ∧ cs.getD i (0, 0, 0) = c ∧ cs.drop (i + 1) = X
  | [], i, c, X, e => by cases i <;> cases e
  | a :: cs, 0, c, X, e => by
    have e : a :: cs = c :: X := e
    cases e
    exact ⟨Nat.succ_pos _, rfl, rfl⟩
  | a :: cs, i + 1, c, X, e => by
    obtain ⟨h1, h2, h3⟩ := sv_dr cs i c X e
    exact ⟨Nat.succ_lt_succ h1, h2, h3⟩
theorem sv_dn : ∀ (cs : (List (Nat × Int × Int))) (i : Nat), cs.drop i = [] → cs.length ≤ i
  | [], i, e => Nat.zero_le _
  | a :: cs, 0, e => by cases e
  | a :: cs, i + 1, e => Nat.succ_le_succ (sv_dn cs i e)
theorem sv_hg {c : Nat × Int × Int} {X : (List (Nat × Int × Int))} {h : Nat} (e : se_hg (c :: X) h = some 1) : (c.1 < 14 → 2 ≤ h ∧ se_hg X (h - 1) = some 1) ∧ (c.1 = 14 → 1 ≤ h ∧ se_hg X h = some 1) ∧ (14 < c.1 → se_hg X (h + 1) = some 1) := by
  have e : (if c.1 < 14 then (if 2 ≤ h then se_hg X (h - 1) else none) else if c.1 = 14 then (if 1 ≤ h then se_hg X h else none) else se_hg X (h + 1)) = some 1 := e
  refine ⟨fun q => ?_, fun q => ?_, fun q => ?_⟩
  · rw [if_pos q] at e
    by_cases q2 : 2 ≤ h
    · rw [if_pos q2] at e; exact ⟨q2, e⟩
    · rw [if_neg q2] at e; cases e
  · rw [if_neg (by omega), if_pos q] at e
    by_cases q2 : 1 ≤ h
    · rw [if_pos q2] at e; exact ⟨q2, e⟩
    · rw [if_neg q2] at e; cases e
  · rw [if_neg (by omega), if_neg (by omega)] at e; exact e
theorem sv_i {H : Nat → Int} {i : Int} {k : Nat} {v : Int} (e : i = (k : Int)) (h : H k = v) : H i.toNat = v := by subst e; exact h
section VA
variable {G : mj_G} {M M' M1 M2 : mj_M} {w : Nat → Nat} {a p t h h' i k d se st sg nu sk s m vl : Nat} {H F : Nat → Int} {c : Nat × Int × Int} {cs X : (List (Nat × Int × Int))} {v z : Int} {Q : mj_P}
theorem sv_e14 (e : c.1 = 14) : sv_e H t (c :: X) h F = sv_e H t X h (sv_F F (h - 1) (sv_n (F (h - 1)))) := by
  show (if c.1 = 14 then _ else _) = _
  rw [if_pos e]
theorem sv_e13 (e : c.1 = 13) : sv_e H t (c :: X) h F = sv_e H t X (h - 1) (sv_F F (h - 2) (sv_a (F (h - 2)) (F (h - 1)))) := by
  show (if c.1 = 14 then _ else if c.1 = 13 then _ else _) = _
  rw [if_neg (by omega), if_pos e]
theorem sv_e12 (e : c.1 = 12) : sv_e H t (c :: X) h F = sv_e H t X (h - 1) (sv_F F (h - 2) (sv_o (F (h - 2)) (F (h - 1)))) := by
  show (if c.1 = 14 then _ else if c.1 = 13 then _ else if c.1 = 12 then _ else _) = _
  rw [if_neg (by omega), if_neg (by omega), if_pos e]
theorem sv_el (e : 14 < c.1) : sv_e H t (c :: X) h F = sv_e H t X (h + 1) (sv_F F h (sv_l H t c)) := by
  show (if c.1 = 14 then _ else if c.1 = 13 then _ else if c.1 = 12 then _ else _) = _
  rw [if_neg (by omega), if_neg (by omega), if_neg (by omega)]
/-- the memory is as it was but for the ints of one cell -/
def sv_x (a : Nat) (M M' : mj_M) : Prop := (∀ b, b ≠ a → M'.1 b = M.1 b) ∧ M'.2 = M.2
theorem sv_x.refl : sv_x a M M := ⟨fun _ _ => rfl, rfl⟩
theorem sv_x.trans (h1 : sv_x a M M1) (h2 : sv_x a M1 M2) : sv_x a M M2 := ⟨fun b hb => (h2.1 b hb).trans (h1.1 b hb), h2.2.trans h1.2⟩
theorem sv_x.put (h : sv_x a M M') : sv_x a M (mj_p0 M' a k v) := ⟨fun b hb => (wz_c hb).trans (h.1 b hb), h.2⟩
/-- the values stand there -/
def sv_K (a h : Nat) (F : Nat → Int) (M : mj_M) : Prop := ∀ j, j < h → M.1 a j = F j ∧ (F j = 0 ∨ F j = 1)
theorem sv_K.put (hK : sv_K a h F M) (hv : v = 0 ∨ v = 1) (hh : ∀ j, j < h' → j ≠ k → j < h) : sv_K a h' (sv_F F k v) (mj_p0 M a k v) := fun j hj => by
  unfold sv_F
  by_cases e : j = k
  · subst e; rw [if_pos rfl]; exact ⟨hn_s, hv⟩
  · rw [if_neg e]
    exact ⟨(hn_n (Or.inr e)).trans (hK j (hh j hj e)).1, (hK j (hh j hj e)).2⟩
/-- where the class finds the YEAR now, the PLAIN now -/
def sv_Y (G : mj_G) (M : mj_M) (w : Nat → Nat) (p : Nat) (H : Nat → Int) : Prop := G (w 61) = (1010, 0) ∧ G (w 65) = (45104, 8) ∧ (∀ t, t < 8 → G (w (66 + t)) = (46100, 11)) ∧ M.2.2 (w 61) 6 = some (w 65) ∧ (∀ t, t < 8 → M.2.2 (w 65) t = some (w (66 + t))) ∧ (∀ t u, t < 8 → u < 11 → M.1 (w (66 + t)) u = H (232 + 11 * t + u)) ∧ G (w p) = (1004, 0) ∧ G (w (p + 2)) = (25104, 8) ∧ (∀ t, t < 8 → G (w (p + 3 + t)) = (26100, 9)) ∧ M.2.2 (w p) 1 = some (w (p + 2)) ∧ (∀ t, t < 8 → M.2.2 (w (p + 2)) t = some (w (p + 3 + t))) ∧ ∀ t, t < 8 → M.1 (w (p + 3 + t)) 4 = H (8 + 9 * t)
theorem sv_Y.x (h : sv_Y G M w p H) (q : sv_x sk M M') (g : G sk = (37102, 40)) : sv_Y G M' w p H := by
  obtain ⟨y1, y2, y3, y4, y5, y6, y7, y8, y9, y10, y11, y12⟩ := h
  exact ⟨y1, y2, y3, by rw [q.2]; exact y4, fun t ht => by rw [q.2]; exact y5 t ht, fun t u ht hu => by rw [q.1 _ (hn_ne (y3 t ht) g (by decide))]; exact y6 t u ht hu, y7, y8, y9, by rw [q.2]; exact y10, fun t ht => by rw [q.2]; exact y11 t ht, fun t ht => by rw [q.1 _ (hn_ne (y9 t ht) g (by decide))]; exact y12 t ht⟩
/-- where the class finds the SENTENCE now -/
def sv_S (G : mj_G) (M : mj_M) (se st sg nu sk : Nat) (cs : (List (Nat × Int × Int))) : Prop := (G se = (1006, 0) ∧ G st = (34105, 40) ∧ G sg = (35100, 40) ∧ G nu = (36100, 40) ∧ G sk = (37102, 40)) ∧ (M.2.2 se 0 = some st ∧ M.2.2 se 1 = some sg ∧ M.2.2 se 2 = some nu ∧ M.2.2 se 3 = some sk) ∧ M.1 se 4 = (cs.length : Int) ∧ cs.length ≤ 40 ∧ ∀ j, j < cs.length → (∃ a, M.2.2 st j = some a ∧ G a = (900050 + 1000 * (cs.getD j (0, 0, 0)).1, 0)) ∧ M.1 sg j = (cs.getD j (0, 0, 0)).2.1 ∧ M.1 nu j = (cs.getD j (0, 0, 0)).2.2
theorem sv_S.x (h : sv_S G M se st sg nu sk cs) (q : sv_x sk M M') : sv_S G M' se st sg nu sk cs := by
  obtain ⟨⟨g1, g2, g3, g4, g5⟩, ⟨e0, e1, e2, e3⟩, s4, l, r⟩ := h
  refine ⟨⟨g1, g2, g3, g4, g5⟩, ⟨by rw [q.2]; exact e0, by rw [q.2]; exact e1, by rw [q.2]; exact e2, by rw [q.2]; exact e3⟩, by rw [q.1 _ (hn_ne g1 g5 (by decide))]; exact s4, l, fun j hj => ?_⟩
  obtain ⟨r1, r2, r3⟩ := r j hj
  exact ⟨by rw [q.2]; exact r1, by rw [q.1 _ (hn_ne g3 g5 (by decide))]; exact r2, by rw [q.1 _ (hn_ne g4 g5 (by decide))]; exact r3⟩
/-- the reference's reading of a number of a town's YEAR, of a town -/
theorem sv_of {j : Int} (gm : G m = (1012, 0)) (gs : G s = (51100, 537)) (m6 : M.2.2 m 6 = some s) (ht : t < 8) (j0 : 0 ≤ j) (j1 : j ≤ 10) (e : M.1 s (232 + 11 * t + j.toNat) = v) (hQ : Q (some (.inl v)) G M) : mj_R mj_tab (d + 1) 219 [.inr (.inr (some m)), .inl (t : Int), .inl j] G M Q := by
  refine ⟨Nat.le_of_ble_eq_true rfl, ?_⟩
  show wz d mt_X12_of.2.2.2.2.1 Q mt_X12_of.2.2.2.2.1 [some (.inr (.inr (some m))), some (.inl (t : Int)), some (.inl j)] [] G M _ _
  refine w_aln rfl ?_
  refine w_gr gm rfl (by decide) rfl m6 ?_
  refine w_sp ?_
  refine w_bp ?_
  refine w_iln rfl ?_
  refine w_mul ⟨by omega, by omega⟩ ?_
  refine w_add ⟨by omega, by omega⟩ ?_
  refine w_iln rfl ?_
  refine w_add ⟨by omega, by omega⟩ ?_
  refine w_iald (v := v) gs rfl (by omega) (by show (232 : Int) + 11 * (t : Int) + j < ((537 : Nat) : Int); omega) (sv_i (k := 232 + 11 * t + j.toNat) (by omega) e) ?_
  exact w_iret (fun q => by cases q) hQ
theorem sv_tof (gm : G m = (1012, 0)) (gs : G s = (51100, 537)) (m6 : M.2.2 m 6 = some s) (ht : t < 8) (e : M.1 s (8 + 9 * t) = v) (hQ : Q (some (.inl v)) G M) : mj_R mj_tab (d + 1) 251 [.inr (.inr (some m)), .inl (t : Int), .inl 4] G M Q := by
  refine ⟨Nat.le_of_ble_eq_true rfl, ?_⟩
  show wz d mt_X12_toldOf.2.2.2.2.1 Q mt_X12_toldOf.2.2.2.2.1 [some (.inr (.inr (some m))), some (.inl (t : Int)), some (.inl 4)] [] G M _ _
  refine w_aln rfl ?_
  refine w_gr gm rfl (by decide) rfl m6 ?_
  refine w_ic ?_
  refine w_bp ?_
  refine w_iln rfl ?_
  refine w_mul ⟨by omega, by omega⟩ ?_
  refine w_add ⟨by omega, by omega⟩ ?_
  refine w_iln rfl ?_
  refine w_add ⟨by omega, by omega⟩ ?_
  refine w_iald (v := v) gs rfl (by omega) (by show (4 : Int) + 9 * (t : Int) + 4 < ((537 : Nat) : Int); omega) (sv_i (k := 8 + 9 * t) (by omega) e) ?_
  exact w_iret (fun q => by cases q) hQ
/-- the reference's leaf -/
theorem r_isLeaf (gm : G m = (1012, 0)) (gs : G s = (51100, 537)) (m6 : M.2.2 m 6 = some s) (eH : M.1 s = H) (ht : t < 8) (c1 : 15 ≤ c.1) (c2 : c.1 < 24) (hz : z = se_k c.1) (hQ : Q (some (.inl (sv_l H t c))) G M) : mj_R mj_tab (d + 2) 199 [.inr (.inr (some m)), .inl (t : Int), .inl z, .inl c.2.1, .inl c.2.2] G M Q := by
  have out : ∀ (v : Int) (cb sb : Nat), v = sv_v H t c.1 → 17 ≤ c.1 → wz (d + 1) mt_X12_isLeaf.2.2.2.2.1 Q (mt_X12_isLeaf.2.2.2.2.1.drop 77) [some (.inr (.inr (some m))), some (.inl (t : Int)), some (.inl z), some (.inl c.2.1), some (.inl c.2.2), none] [.inl v] G M cb sb := by
    intro v cb sb ev c17
    refine w_is ?_
    refine w_iln rfl ?_
    refine w_bp ?_
    refine w_cmne (fun c60 => ?_) (fun c60 => ?_)
    · refine w_iln rfl ?_
      refine w_bp ?_
      refine w_cmne (fun c61 => ?_) (fun c61 => ?_)
      · refine w_il rfl ?_
        refine w_il rfl ?_
        refine w_cmle (fun q => ?_) (fun q => ?_)
        · refine w_ic ?_
          exact w_iret (fun _ => Or.inl rfl) (by have h := hQ; unfold sv_l at h; rw [if_neg (by omega), if_neg (by omega), if_neg c60, if_neg c61, ← ev, if_neg (by omega)] at h; exact h)
        · refine w_ic ?_
          refine w_goto ?_
          exact w_iret (fun _ => Or.inr rfl) (by have h := hQ; unfold sv_l at h; rw [if_neg (by omega), if_neg (by omega), if_neg c60, if_neg c61, ← ev, if_pos (by omega)] at h; exact h)
      · refine w_il rfl ?_
        refine w_il rfl ?_
        refine w_cmne (fun q => ?_) (fun q => ?_)
        · refine w_ic ?_
          refine w_goto ?_
          exact w_iret (fun _ => Or.inl rfl) (by have h := hQ; unfold sv_l at h; rw [if_neg (by omega), if_neg (by omega), if_neg c60, if_pos c61, ← ev, if_neg q] at h; exact h)
        · refine w_ic ?_
          refine w_goto ?_
          exact w_iret (fun _ => Or.inr rfl) (by have h := hQ; unfold sv_l at h; rw [if_neg (by omega), if_neg (by omega), if_neg c60, if_pos c61, ← ev, if_pos q] at h; exact h)
    · refine w_il rfl ?_
      refine w_il rfl ?_
      refine w_cmge (fun q => ?_) (fun q => ?_)
      · refine w_ic ?_
        refine w_goto ?_
        exact w_iret (fun _ => Or.inl rfl) (by have h := hQ; unfold sv_l at h; rw [if_neg (by omega), if_neg (by omega), if_pos c60, ← ev, if_neg (by omega)] at h; exact h)
      · refine w_ic ?_
        refine w_goto ?_
        exact w_iret (fun _ => Or.inr rfl) (by have h := hQ; unfold sv_l at h; rw [if_neg (by omega), if_neg (by omega), if_pos c60, ← ev, if_pos (by omega)] at h; exact h)
  refine ⟨Nat.le_of_ble_eq_true rfl, ?_⟩
  show wz (d + 1) mt_X12_isLeaf.2.2.2.2.1 Q mt_X12_isLeaf.2.2.2.2.1 [some (.inr (.inr (some m))), some (.inl (t : Int)), some (.inl z), some (.inl c.2.1), some (.inl c.2.2), none] [] G M _ _
  have cc : c.1 = 15 ∨ c.1 = 16 ∨ c.1 = 17 ∨ c.1 = 18 ∨ c.1 = 19 ∨ c.1 = 20 ∨ c.1 = 21 ∨ c.1 = 22 ∨ c.1 = 23 := by omega
  rcases cc with e | e | e | e | e | e | e | e | e
  · obtain rfl : z = 0 := by rw [hz, e]; decide +kernel
    refine w_iln rfl ?_
    refine w_ifne (fun q => absurd rfl q) (fun _ => ?_)
    refine w_aln rfl ?_
    refine w_iln rfl ?_
    refine w_ic ?_
    refine w_cv (st := []) rfl gm rfl (Nat.le_of_ble_eq_true rfl) (fun kk h => h) (sv_of (d := d) (v := H (232 + 11 * t + 3)) gm gs m6 ht (by decide) (by decide) (congrFun eH _) ?_)
    refine w_ic ?_
    refine w_cmne (fun q => ?_) (fun q => ?_)
    · refine w_ic ?_
      exact w_iret (fun _ => Or.inl rfl) (by have h := hQ; unfold sv_l at h; rw [if_pos e, if_neg q] at h; exact h)
    · refine w_ic ?_
      refine w_goto ?_
      exact w_iret (fun _ => Or.inr rfl) (by have h := hQ; unfold sv_l at h; rw [if_pos e, if_pos q] at h; exact h)
  · obtain rfl : z = 1 := by rw [hz, e]; decide +kernel
    refine w_iln rfl ?_
    refine w_ifne (fun _ => ?_) (fun q => absurd q (by decide))
    refine w_iln rfl ?_
    refine w_ic ?_
    refine w_cmne (fun q => absurd rfl q) (fun _ => ?_)
    refine w_aln rfl ?_
    refine w_iln rfl ?_
    refine w_bp ?_
    refine w_cv (st := []) rfl gm rfl (Nat.le_of_ble_eq_true rfl) (fun kk h => h) (sv_of (d := d) (v := H (232 + 11 * t + 6)) gm gs m6 ht (by decide) (by decide) (congrFun eH _) ?_)
    refine w_aln rfl ?_
    refine w_iln rfl ?_
    refine w_ic ?_
    refine w_cv (st := [.inl (H (232 + 11 * t + 6))]) rfl gm rfl (Nat.le_of_ble_eq_true rfl) (fun kk h => h) (sv_tof (d := d) (v := H (8 + 9 * t)) gm gs m6 ht (congrFun eH _) ?_)
    refine w_cmge (fun q => ?_) (fun q => ?_)
    · refine w_ic ?_
      exact w_iret (fun _ => Or.inl rfl) (by have h := hQ; unfold sv_l at h; rw [if_neg (by omega), if_pos e, if_neg (by omega)] at h; exact h)
    · refine w_ic ?_
      refine w_goto ?_
      exact w_iret (fun _ => Or.inr rfl) (by have h := hQ; unfold sv_l at h; rw [if_neg (by omega), if_pos e, if_pos q] at h; exact h)
  · obtain rfl : z = 2 := by rw [hz, e]; decide +kernel
    refine w_iln rfl ?_
    refine w_ifne (fun _ => ?_) (fun q => absurd q (by decide))
    refine w_iln rfl ?_
    refine w_ic ?_
    refine w_cmne (fun _ => ?_) (fun q => absurd q (by decide))
    refine w_iln rfl ?_
    refine w_ic ?_
    refine w_cmne (fun q => absurd rfl q) (fun _ => ?_)
    refine w_aln rfl ?_
    refine w_iln rfl ?_
    refine w_ic ?_
    refine w_cv (st := []) rfl gm rfl (Nat.le_of_ble_eq_true rfl) (fun kk h => h) (sv_of (d := d) (v := H (232 + 11 * t + 0)) gm gs m6 ht (by decide) (by decide) (congrFun eH _) ?_)
    refine w_goto ?_
    exact out _ _ _ (by unfold sv_v; rw [e]; first | done | rfl) (by omega)
  · obtain rfl : z = 3 := by rw [hz, e]; decide +kernel
    refine w_iln rfl ?_
    refine w_ifne (fun _ => ?_) (fun q => absurd q (by decide))
    refine w_iln rfl ?_
    refine w_ic ?_
    refine w_cmne (fun _ => ?_) (fun q => absurd q (by decide))
    refine w_iln rfl ?_
    refine w_ic ?_
    refine w_cmne (fun _ => ?_) (fun q => absurd q (by decide))
    refine w_iln rfl ?_
    refine w_ic ?_
    refine w_cmne (fun q => absurd rfl q) (fun _ => ?_)
    refine w_aln rfl ?_
    refine w_iln rfl ?_
    refine w_ic ?_
    refine w_cv (st := []) rfl gm rfl (Nat.le_of_ble_eq_true rfl) (fun kk h => h) (sv_of (d := d) (v := H (232 + 11 * t + 1)) gm gs m6 ht (by decide) (by decide) (congrFun eH _) ?_)
    refine w_goto ?_
    exact out _ _ _ (by unfold sv_v; rw [e]; first | done | rfl) (by omega)
  · obtain rfl : z = 4 := by rw [hz, e]; decide +kernel
    refine w_iln rfl ?_
    refine w_ifne (fun _ => ?_) (fun q => absurd q (by decide))
    refine w_iln rfl ?_
    refine w_ic ?_
    refine w_cmne (fun _ => ?_) (fun q => absurd q (by decide))
    refine w_iln rfl ?_
    refine w_ic ?_
    refine w_cmne (fun _ => ?_) (fun q => absurd q (by decide))
    refine w_iln rfl ?_
    refine w_ic ?_
    refine w_cmne (fun _ => ?_) (fun q => absurd q (by decide))
    refine w_iln rfl ?_
    refine w_ic ?_
    refine w_cmne (fun q => absurd rfl q) (fun _ => ?_)
    refine w_aln rfl ?_
    refine w_iln rfl ?_
    refine w_ic ?_
    refine w_cv (st := []) rfl gm rfl (Nat.le_of_ble_eq_true rfl) (fun kk h => h) (sv_of (d := d) (v := H (232 + 11 * t + 5)) gm gs m6 ht (by decide) (by decide) (congrFun eH _) ?_)
    refine w_goto ?_
    exact out _ _ _ (by unfold sv_v; rw [e]; first | done | rfl) (by omega)
  · obtain rfl : z = 5 := by rw [hz, e]; decide +kernel
    refine w_iln rfl ?_
    refine w_ifne (fun _ => ?_) (fun q => absurd q (by decide))
    refine w_iln rfl ?_
    refine w_ic ?_
    refine w_cmne (fun _ => ?_) (fun q => absurd q (by decide))
    refine w_iln rfl ?_
    refine w_ic ?_
    refine w_cmne (fun _ => ?_) (fun q => absurd q (by decide))
    refine w_iln rfl ?_
    refine w_ic ?_
    refine w_cmne (fun _ => ?_) (fun q => absurd q (by decide))
    refine w_iln rfl ?_
    refine w_ic ?_
    refine w_cmne (fun _ => ?_) (fun q => absurd q (by decide))
    refine w_iln rfl ?_
    refine w_ic ?_
    refine w_cmne (fun q => absurd rfl q) (fun _ => ?_)
    refine w_aln rfl ?_
    refine w_iln rfl ?_
    refine w_bp ?_
    refine w_cv (st := []) rfl gm rfl (Nat.le_of_ble_eq_true rfl) (fun kk h => h) (sv_of (d := d) (v := H (232 + 11 * t + 7)) gm gs m6 ht (by decide) (by decide) (congrFun eH _) ?_)
    refine w_goto ?_
    exact out _ _ _ (by unfold sv_v; rw [e]; first | done | rfl) (by omega)
  · obtain rfl : z = 6 := by rw [hz, e]; decide +kernel
    refine w_iln rfl ?_
    refine w_ifne (fun _ => ?_) (fun q => absurd q (by decide))
    refine w_iln rfl ?_
    refine w_ic ?_
    refine w_cmne (fun _ => ?_) (fun q => absurd q (by decide))
    refine w_iln rfl ?_
    refine w_ic ?_
    refine w_cmne (fun _ => ?_) (fun q => absurd q (by decide))
    refine w_iln rfl ?_
    refine w_ic ?_
    refine w_cmne (fun _ => ?_) (fun q => absurd q (by decide))
    refine w_iln rfl ?_
    refine w_ic ?_
    refine w_cmne (fun _ => ?_) (fun q => absurd q (by decide))
    refine w_iln rfl ?_
    refine w_ic ?_
    refine w_cmne (fun _ => ?_) (fun q => absurd q (by decide))
    refine w_iln rfl ?_
    refine w_bp ?_
    refine w_cmne (fun q => absurd rfl q) (fun _ => ?_)
    refine w_aln rfl ?_
    refine w_iln rfl ?_
    refine w_ic ?_
    refine w_cv (st := []) rfl gm rfl (Nat.le_of_ble_eq_true rfl) (fun kk h => h) (sv_of (d := d) (v := H (232 + 11 * t + 4)) gm gs m6 ht (by decide) (by decide) (congrFun eH _) ?_)
    refine w_goto ?_
    exact out _ _ _ (by unfold sv_v; rw [e]; first | done | rfl) (by omega)
  · obtain rfl : z = 7 := by rw [hz, e]; decide +kernel
    refine w_iln rfl ?_
    refine w_ifne (fun _ => ?_) (fun q => absurd q (by decide))
    refine w_iln rfl ?_
    refine w_ic ?_
    refine w_cmne (fun _ => ?_) (fun q => absurd q (by decide))
    refine w_iln rfl ?_
    refine w_ic ?_
    refine w_cmne (fun _ => ?_) (fun q => absurd q (by decide))
    refine w_iln rfl ?_
    refine w_ic ?_
    refine w_cmne (fun _ => ?_) (fun q => absurd q (by decide))
    refine w_iln rfl ?_
    refine w_ic ?_
    refine w_cmne (fun _ => ?_) (fun q => absurd q (by decide))
    refine w_iln rfl ?_
    refine w_ic ?_
    refine w_cmne (fun _ => ?_) (fun q => absurd q (by decide))
    refine w_iln rfl ?_
    refine w_bp ?_
    refine w_cmne (fun _ => ?_) (fun q => absurd q (by decide))
    refine w_iln rfl ?_
    refine w_bp ?_
    refine w_cmne (fun q => absurd rfl q) (fun _ => ?_)
    refine w_aln rfl ?_
    refine w_iln rfl ?_
    refine w_bp ?_
    refine w_cv (st := []) rfl gm rfl (Nat.le_of_ble_eq_true rfl) (fun kk h => h) (sv_of (d := d) (v := H (232 + 11 * t + 8)) gm gs m6 ht (by decide) (by decide) (congrFun eH _) ?_)
    refine w_goto ?_
    exact out _ _ _ (by unfold sv_v; rw [e]; first | done | rfl) (by omega)
  · obtain rfl : z = 8 := by rw [hz, e]; decide +kernel
    refine w_iln rfl ?_
    refine w_ifne (fun _ => ?_) (fun q => absurd q (by decide))
    refine w_iln rfl ?_
    refine w_ic ?_
    refine w_cmne (fun _ => ?_) (fun q => absurd q (by decide))
    refine w_iln rfl ?_
    refine w_ic ?_
    refine w_cmne (fun _ => ?_) (fun q => absurd q (by decide))
    refine w_iln rfl ?_
    refine w_ic ?_
    refine w_cmne (fun _ => ?_) (fun q => absurd q (by decide))
    refine w_iln rfl ?_
    refine w_ic ?_
    refine w_cmne (fun _ => ?_) (fun q => absurd q (by decide))
    refine w_iln rfl ?_
    refine w_ic ?_
    refine w_cmne (fun _ => ?_) (fun q => absurd q (by decide))
    refine w_iln rfl ?_
    refine w_bp ?_
    refine w_cmne (fun _ => ?_) (fun q => absurd q (by decide))
    refine w_iln rfl ?_
    refine w_bp ?_
    refine w_cmne (fun _ => ?_) (fun q => absurd q (by decide))
    refine w_iln rfl ?_
    exact out _ _ _ (by unfold sv_v; rw [e]; first | done | rfl) (by omega)
theorem r_isSaid_l (gm : G m = (1012, 0)) (gs : G s = (51100, 537)) (gv : G vl = (69102, 45)) (m6 : M.2.2 m 6 = some s) (m58 : M.2.2 m 58 = some vl) (eH : M.1 s = H) (ht : t < 8) (hq : sq_H H 0 cs) (hl : cs.length ≤ 40) : ∀ (X : (List (Nat × Int × Int))) (i h : Nat) (F : Nat → Int) (M' : mj_M) (o4 : Option mj_V) (cb sb : Nat), sv_x vl M M' → sv_K vl h F M' → h ≤ i → cs.drop i = X → i ≤ cs.length → se_gw X → se_hg X h = some 1 → (∀ M2, sv_x vl M M2 → Q (some (.inl (sv_e H t X h F))) G M2) → wz (d + 2) mt_X12_isSaid.2.2.2.2.1 Q (mt_X12_isSaid.2.2.2.2.1.drop 4) [some (.inr (.inr (some m))), some (.inl (t : Int)), some (.inl (h : Int)), some (.inl (i : Int)), o4] [] G M' cb sb
  | [], i, h, F, M', o4, cb, sb, hx, hK, hi, hd, hil, hw, hg, hQ => by
    have m6 : M'.2.2 m 6 = some s := by rw [hx.2]; exact m6
    have m58 : M'.2.2 m 58 = some vl := by rw [hx.2]; exact m58
    have es : M'.1 s = H := (hx.1 s (hn_ne gs gv (by decide))).trans eH
    have ei : i = cs.length := Nat.le_antisymm hil (sv_dn cs i hd)
    have eh : h = 1 := Option.some.inj hg
    have q356 : H 356 = (cs.length : Int) := hq.1
    have v0 := hK 0 (by omega)
    refine w_iln rfl ?_
    refine w_aln rfl ?_
    refine w_gr gm rfl (by decide) rfl m6 ?_
    refine w_sp ?_
    refine w_iald (v := (cs.length : Int)) gs rfl (by decide) (by decide) (by rw [es]; exact q356) ?_
    refine w_cmge (fun _ => ?_) (fun q => by exfalso; omega)
    refine w_aln rfl ?_
    refine w_gr gm rfl (by decide) rfl m58 ?_
    refine w_ic ?_
    refine w_zald (v := F 0) gv rfl (by decide) (by decide) v0.1 ?_
    exact w_iret (fun _ => v0.2) (hQ M' hx)
  | c :: X, i, h, F, M', o4, cb, sb, hx, hK, hi, hd, hil, hw, hg, hQ => by
    have M6 := m6
    have M58 := m58
    have m6 : M'.2.2 m 6 = some s := by rw [hx.2]; exact m6
    have m58 : M'.2.2 m 58 = some vl := by rw [hx.2]; exact m58
    have es : M'.1 s = H := (hx.1 s (hn_ne gs gv (by decide))).trans eH
    obtain ⟨il, ec, hd'⟩ := sv_dr cs i c X hd
    have q356 : H 356 = (cs.length : Int) := hq.1
    obtain ⟨k0, k1, k2⟩ := hq.2 i il
    rw [ec] at k0 k1 k2
    rw [show 0 + (357 + 3 * i) = 357 + 3 * i by omega] at k0
    rw [show 0 + (358 + 3 * i) = 358 + 3 * i by omega] at k1
    rw [show 0 + (359 + 3 * i) = 359 + 3 * i by omega] at k2
    rw [← es] at k0 k1 k2
    obtain ⟨g1, g2, g3⟩ := sv_hg hg
    have cw := hw c (List.mem_cons_self ..)
    have hw' : se_gw X := fun y hy => hw y (List.mem_cons_of_mem _ hy)
    have nx : ∀ (h' : Nat) (F' : Nat → Int) (M1 : mj_M) (o5 : Option mj_V) (cb sb : Nat), sv_x vl M M1 → sv_K vl h' F' M1 → h' ≤ i + 1 → se_hg X h' = some 1 → sv_e H t X h' F' = sv_e H t (c :: X) h F → wz (d + 2) mt_X12_isSaid.2.2.2.2.1 Q (mt_X12_isSaid.2.2.2.2.1.drop 120) [some (.inr (.inr (some m))), some (.inl (t : Int)), some (.inl (h' : Int)), some (.inl (i : Int)), o5] [] G M1 cb sb := by
      intro h' F' M1 o5 cb sb x1 K1 l1 e1 e2
      refine w_ii rfl ⟨by omega, by omega⟩ ?_
      refine w_goto ?_
      rw [show (i : Int) + 1 = ((i + 1 : Nat) : Int) from rfl]
      exact r_isSaid_l gm gs gv M6 M58 eH ht hq hl X (i + 1) h' F' M1 o5 _ _ x1 K1 l1 hd' (by omega) hw' e1 (fun M2 x2 => by rw [e2]; exact hQ M2 x2)
    refine w_iln rfl ?_
    refine w_aln rfl ?_
    refine w_gr gm rfl (by decide) rfl m6 ?_
    refine w_sp ?_
    refine w_iald (v := (cs.length : Int)) gs rfl (by decide) (by decide) (by rw [es]; exact q356) ?_
    refine w_cmge (fun q => by exfalso; omega) (fun _ => ?_)
    refine w_sp ?_
    refine w_ic ?_
    refine w_iln rfl ?_
    refine w_mul ⟨by omega, by omega⟩ ?_
    refine w_add ⟨by omega, by omega⟩ ?_
    refine w_is ?_
    refine w_aln rfl ?_
    refine w_gr gm rfl (by decide) rfl m6 ?_
    refine w_il rfl ?_
    refine w_iald (v := se_k c.1) gs rfl (by omega) (by show (357 : Int) + 3 * (i : Int) < ((537 : Nat) : Int); omega) (sv_i (k := 357 + 3 * i) (by omega) k0) ?_
    refine w_bp ?_
    have kc : c.1 = 14 ∨ c.1 = 13 ∨ c.1 = 12 ∨ 14 < c.1 := by omega
    have ek : (se_k c.1 = 10 ↔ c.1 = 14) ∧ (se_k c.1 = 11 ↔ c.1 = 13) ∧ (se_k c.1 = 12 ↔ c.1 = 12) := by
      unfold se_k
      by_cases q : c.1 < 15
      · rw [if_pos q]; omega
      · rw [if_neg q]; omega
    refine w_cmne (fun n14 => ?_) (fun e14 => ?_)
    · have n14 : c.1 ≠ 14 := fun q => n14 (ek.1.2 q)
      have bin : c.1 = 13 ∨ c.1 = 12 → ∀ cb sb : Nat, wz (d + 2) mt_X12_isSaid.2.2.2.2.1 Q (mt_X12_isSaid.2.2.2.2.1.drop 51) [some (.inr (.inr (some m))), some (.inl (t : Int)), some (.inl (h : Int)), some (.inl (i : Int)), some (.inl (357 + 3 * (i : Int)))] [] G M' cb sb := by
        intro b1 cb sb
        obtain ⟨h2, hg2⟩ := g1 (by omega)
        have va := hK (h - 2) (by omega)
        have vb := hK (h - 1) (by omega)
        refine w_ii rfl ⟨by omega, by omega⟩ ?_
        rw [show (h : Int) + -1 = ((h - 1 : Nat) : Int) by omega]
        refine w_aln rfl ?_
        refine w_gr gm rfl (by decide) rfl m58 ?_
        refine w_iln rfl ?_
        refine w_ic ?_
        refine w_sub ⟨by omega, by omega⟩ ?_
        refine w_aln rfl ?_
        refine w_gr gm rfl (by decide) rfl m6 ?_
        refine w_il rfl ?_
        refine w_iald (v := se_k c.1) gs rfl (by omega) (by show (357 : Int) + 3 * (i : Int) < ((537 : Nat) : Int); omega) (sv_i (k := 357 + 3 * i) (by omega) k0) ?_
        refine w_bp ?_
        have st : ∀ (v : Int) (cb sb : Nat), (v = 0 ∨ v = 1) → sv_e H t X (h - 1) (sv_F F (h - 2) v) = sv_e H t (c :: X) h F → wz (d + 2) mt_X12_isSaid.2.2.2.2.1 Q (mt_X12_isSaid.2.2.2.2.1.drop 94) [some (.inr (.inr (some m))), some (.inl (t : Int)), some (.inl ((h - 1 : Nat) : Int)), some (.inl (i : Int)), some (.inl (357 + 3 * (i : Int)))] [.inl v, .inl (((h - 1 : Nat) : Int) - 1), .inr (.inr (some vl))] G M' cb sb := by
          intro v cb sb hv e2
          refine w_zast hv gv rfl (by decide) (by omega) (by show ((h - 1 : Nat) : Int) - 1 < ((45 : Nat) : Int); omega) ?_
          rw [show (((h - 1 : Nat) : Int) - 1).toNat = h - 2 by omega]
          refine w_goto ?_
          exact nx (h - 1) _ _ _ _ _ hx.put (hK.put hv (fun j hj _ => by omega)) (by omega) hg2 e2
        refine w_cmne (fun n13 => ?_) (fun e13 => ?_)
        · have e12 : c.1 = 12 := b1.resolve_left (fun q => n13 (ek.2.1.2 q))
          have E := sv_e12 (H := H) (t := t) (X := X) (h := h) (F := F) e12
          unfold sv_o at E
          refine w_aln rfl ?_
          refine w_gr gm rfl (by decide) rfl m58 ?_
          refine w_iln rfl ?_
          refine w_ic ?_
          refine w_sub ⟨by omega, by omega⟩ ?_
          refine w_zald (v := F (h - 2)) gv rfl (by omega) (by show ((h - 1 : Nat) : Int) - 1 < ((45 : Nat) : Int); omega) (sv_i (k := h - 2) (by omega) va.1) ?_
          refine w_ifne (fun q => ?_) (fun q => ?_)
          · refine w_ic ?_
            refine w_goto ?_
            exact st 1 _ _ (Or.inr rfl) (by rw [E, if_neg q])
          · refine w_aln rfl ?_
            refine w_gr gm rfl (by decide) rfl m58 ?_
            refine w_iln rfl ?_
            refine w_zald (v := F (h - 1)) gv rfl (by omega) (by show ((h - 1 : Nat) : Int) < ((45 : Nat) : Int); omega) (sv_i (k := h - 1) (by omega) vb.1) ?_
            refine w_ifeq (fun q2 => ?_) (fun q2 => ?_)
            · refine w_ic ?_
              exact st 0 _ _ (Or.inl rfl) (by rw [E, if_pos q, if_pos q2])
            · refine w_ic ?_
              refine w_goto ?_
              exact st 1 _ _ (Or.inr rfl) (by rw [E, if_pos q, if_neg q2])
        · have e13 : c.1 = 13 := ek.2.1.1 e13
          have E := sv_e13 (H := H) (t := t) (X := X) (h := h) (F := F) e13
          unfold sv_a at E
          refine w_aln rfl ?_
          refine w_gr gm rfl (by decide) rfl m58 ?_
          refine w_iln rfl ?_
          refine w_ic ?_
          refine w_sub ⟨by omega, by omega⟩ ?_
          refine w_zald (v := F (h - 2)) gv rfl (by omega) (by show ((h - 1 : Nat) : Int) - 1 < ((45 : Nat) : Int); omega) (sv_i (k := h - 2) (by omega) va.1) ?_
          refine w_ifeq (fun q => ?_) (fun q => ?_)
          · refine w_ic ?_
            refine w_goto ?_
            exact st 0 _ _ (Or.inl rfl) (by rw [E, if_pos q])
          · refine w_aln rfl ?_
            refine w_gr gm rfl (by decide) rfl m58 ?_
            refine w_iln rfl ?_
            refine w_zald (v := F (h - 1)) gv rfl (by omega) (by show ((h - 1 : Nat) : Int) < ((45 : Nat) : Int); omega) (sv_i (k := h - 1) (by omega) vb.1) ?_
            refine w_ifeq (fun q2 => ?_) (fun q2 => ?_)
            · refine w_ic ?_
              refine w_goto ?_
              exact st 0 _ _ (Or.inl rfl) (by rw [E, if_neg q, if_pos q2])
            · refine w_ic ?_
              refine w_goto ?_
              exact st 1 _ _ (Or.inr rfl) (by rw [E, if_neg q, if_neg q2])
      refine w_aln rfl ?_
      refine w_gr gm rfl (by decide) rfl m6 ?_
      refine w_il rfl ?_
      refine w_iald (v := se_k c.1) gs rfl (by omega) (by show (357 : Int) + 3 * (i : Int) < ((537 : Nat) : Int); omega) (sv_i (k := 357 + 3 * i) (by omega) k0) ?_
      refine w_bp ?_
      refine w_cmeq (fun e13 => bin (Or.inl (ek.2.1.1 e13)) _ _) (fun n13 => ?_)
      refine w_aln rfl ?_
      refine w_gr gm rfl (by decide) rfl m6 ?_
      refine w_il rfl ?_
      refine w_iald (v := se_k c.1) gs rfl (by omega) (by show (357 : Int) + 3 * (i : Int) < ((537 : Nat) : Int); omega) (sv_i (k := 357 + 3 * i) (by omega) k0) ?_
      refine w_bp ?_
      refine w_cmne (fun n12 => ?_) (fun e12 => bin (Or.inr (ek.2.2.1 e12)) _ _)
      have cl : 14 < c.1 := by
        rcases kc with q | q | q | q
        · exact absurd q n14
        · exact absurd (ek.2.1.2 q) n13
        · exact absurd (ek.2.2.2 q) n12
        · exact q
      refine w_aln rfl ?_
      refine w_gr gm rfl (by decide) rfl m58 ?_
      refine w_iln rfl ?_
      refine w_aln rfl ?_
      refine w_iln rfl ?_
      refine w_aln rfl ?_
      refine w_gr gm rfl (by decide) rfl m6 ?_
      refine w_il rfl ?_
      refine w_iald (v := se_k c.1) gs rfl (by omega) (by show (357 : Int) + 3 * (i : Int) < ((537 : Nat) : Int); omega) (sv_i (k := 357 + 3 * i) (by omega) k0) ?_
      refine w_aln rfl ?_
      refine w_gr gm rfl (by decide) rfl m6 ?_
      refine w_il rfl ?_
      refine w_ic ?_
      refine w_add ⟨by omega, by omega⟩ ?_
      refine w_iald (v := c.2.1) gs rfl (by omega) (by show (357 : Int) + 3 * (i : Int) + 1 < ((537 : Nat) : Int); omega) (sv_i (k := 358 + 3 * i) (by omega) k1) ?_
      refine w_aln rfl ?_
      refine w_gr gm rfl (by decide) rfl m6 ?_
      refine w_il rfl ?_
      refine w_ic ?_
      refine w_add ⟨by omega, by omega⟩ ?_
      refine w_iald (v := c.2.2) gs rfl (by omega) (by show (357 : Int) + 3 * (i : Int) + 2 < ((537 : Nat) : Int); omega) (sv_i (k := 359 + 3 * i) (by omega) k2) ?_
      refine w_cv (st := [.inl (h : Int), .inr (.inr (some vl))]) rfl gm rfl (Nat.le_of_ble_eq_true rfl) (fun kk h => h) (r_isLeaf (d := d) gm gs m6 es ht (by omega) cw.2 rfl ?_)
      refine w_zast sv_l_b gv rfl (by decide) (by omega) (by show (h : Int) < ((45 : Nat) : Int); omega) ?_
      rw [show ((h : Nat) : Int).toNat = h from rfl]
      refine w_ii rfl ⟨by omega, by omega⟩ ?_
      rw [show (h : Int) + 1 = ((h + 1 : Nat) : Int) from rfl]
      exact nx (h + 1) _ _ _ _ _ hx.put (hK.put sv_l_b (fun j hj hne => by omega)) (by omega) (g3 cl) (sv_el cl).symm
    · have e14 : c.1 = 14 := ek.1.1 e14
      obtain ⟨h1, hg1⟩ := g2 e14
      have vb := hK (h - 1) (by omega)
      have E := sv_e14 (H := H) (t := t) (X := X) (h := h) (F := F) e14
      unfold sv_n at E
      have st : ∀ (v : Int) (cb sb : Nat), (v = 0 ∨ v = 1) → sv_e H t X h (sv_F F (h - 1) v) = sv_e H t (c :: X) h F → wz (d + 2) mt_X12_isSaid.2.2.2.2.1 Q (mt_X12_isSaid.2.2.2.2.1.drop 37) [some (.inr (.inr (some m))), some (.inl (t : Int)), some (.inl (h : Int)), some (.inl (i : Int)), some (.inl (357 + 3 * (i : Int)))] [.inl v, .inl ((h : Int) - 1), .inr (.inr (some vl))] G M' cb sb := by
        intro v cb sb hv e2
        refine w_zast hv gv rfl (by decide) (by omega) (by show (h : Int) - 1 < ((45 : Nat) : Int); omega) ?_
        rw [show ((h : Int) - 1).toNat = h - 1 by omega]
        refine w_goto ?_
        exact nx h _ _ _ _ _ hx.put (hK.put hv (fun j hj _ => hj)) (by omega) hg1 e2
      refine w_aln rfl ?_
      refine w_gr gm rfl (by decide) rfl m58 ?_
      refine w_iln rfl ?_
      refine w_ic ?_
      refine w_sub ⟨by omega, by omega⟩ ?_
      refine w_aln rfl ?_
      refine w_gr gm rfl (by decide) rfl m58 ?_
      refine w_iln rfl ?_
      refine w_ic ?_
      refine w_sub ⟨by omega, by omega⟩ ?_
      refine w_zald (v := F (h - 1)) gv rfl (by omega) (by show (h : Int) - 1 < ((45 : Nat) : Int); omega) (sv_i (k := h - 1) (by omega) vb.1) ?_
      refine w_ifne (fun q => ?_) (fun q => ?_)
      · refine w_ic ?_
        exact st 0 _ _ (Or.inl rfl) (by rw [E, if_neg q])
      · refine w_ic ?_
        refine w_goto ?_
        exact st 1 _ _ (Or.inr rfl) (by rw [E, if_pos q])
/-- the reference: what the SENTENCE says of the town t -/
theorem r_isSaid (gm : G m = (1012, 0)) (gs : G s = (51100, 537)) (gv : G vl = (69102, 45)) (m6 : M.2.2 m 6 = some s) (m58 : M.2.2 m 58 = some vl) (eH : M.1 s = H) (ht : t < 8) (hq : sq_H H 0 cs) (hl : cs.length ≤ 40) (hg : se_g1 cs) (hQ : ∀ M2, sv_x vl M M2 → Q (some (.inl (sv_e H t cs 0 (fun _ => 0)))) G M2) : mj_R mj_tab (d + 3) 202 [.inr (.inr (some m)), .inl (t : Int)] G M Q := by
  refine ⟨Nat.le_of_ble_eq_true rfl, ?_⟩
  show wz (d + 2) mt_X12_isSaid.2.2.2.2.1 Q mt_X12_isSaid.2.2.2.2.1 [some (.inr (.inr (some m))), some (.inl (t : Int)), none, none, none] [] G M _ _
  refine w_ic ?_
  refine w_isn ?_
  refine w_ic ?_
  refine w_isn ?_
  exact r_isSaid_l gm gs gv m6 m58 eH ht hq hl cs 0 0 (fun _ => 0) M none _ _ sv_x.refl (fun j hj => absurd hj (Nat.not_lt_zero j)) (Nat.le_refl 0) rfl (Nat.zero_le _) hg.1 (hg.2 0) hQ
/-- the class's leaf -/
theorem r_holdsOne (hI : ∀ a b, (G a).1 % 1000 = 50 → G a = G b → a = b) (hS : sv_S G M se st sg nu sk cs) (hY : sv_Y G M w p H) (ht : t < 8) (hi : i < cs.length) (c1 : 15 ≤ (cs.getD i (0, 0, 0)).1) (c2 : (cs.getD i (0, 0, 0)).1 < 24) (hQ : Q (some (.inl (sv_l H t (cs.getD i (0, 0, 0))))) G M) : mj_R mj_tab (d + 2) 59 [.inr (.inr (some se)), .inr (.inr (some (w p))), .inr (.inr (some (w 61))), .inl (t : Int), .inl (i : Int)] G M Q := by
  obtain ⟨⟨g1, g2, g3, g4, g5⟩, ⟨e0, e1, e2, e3⟩, s4, l40, r⟩ := hS
  obtain ⟨⟨a, r1, ga⟩, r2, r3⟩ := r i hi
  obtain ⟨y1, y2, y3, y4, y5, y6, y7, y8, y9, y10, y11, y12⟩ := hY
  have out : ∀ (v : Int) (o6 : Option mj_V) (cb sb : Nat), v = sv_v H t (cs.getD i (0, 0, 0)).1 → 17 ≤ (cs.getD i (0, 0, 0)).1 → wz (d + 1) mt_X5_holdsOne.2.2.2.2.1 Q (mt_X5_holdsOne.2.2.2.2.1.drop 54) [some (.inr (.inr (some se))), some (.inr (.inr (some (w p)))), some (.inr (.inr (some (w 61)))), some (.inl (t : Int)), some (.inl (i : Int)), some (.inr (.inr (some a))), o6, none] [.inl v] G M cb sb := by
    intro v o6 cb sb ev c17
    refine w_is ?_
    refine w_aln rfl ?_
    refine w_gr g1 rfl (by decide) rfl e1 ?_
    refine w_il rfl ?_
    refine w_iald (v := (cs.getD i (0, 0, 0)).2.1) g3 rfl (by omega) (by show (i : Int) < ((40 : Nat) : Int); omega) r2 ?_
    refine w_bp ?_
    refine w_cmne (fun c60 => ?_) (fun c60 => ?_)
    · refine w_aln rfl ?_
      refine w_gr g1 rfl (by decide) rfl e1 ?_
      refine w_il rfl ?_
      refine w_iald (v := (cs.getD i (0, 0, 0)).2.1) g3 rfl (by omega) (by show (i : Int) < ((40 : Nat) : Int); omega) r2 ?_
      refine w_bp ?_
      refine w_cmne (fun c61 => ?_) (fun c61 => ?_)
      · refine w_il rfl ?_
        refine w_aln rfl ?_
        refine w_gr g1 rfl (by decide) rfl e2 ?_
        refine w_il rfl ?_
        refine w_iald (v := (cs.getD i (0, 0, 0)).2.2) g4 rfl (by omega) (by show (i : Int) < ((40 : Nat) : Int); omega) r3 ?_
        refine w_cmle (fun q => ?_) (fun q => ?_)
        · refine w_ic ?_
          exact w_iret (fun _ => Or.inl rfl) (by have h := hQ; unfold sv_l at h; rw [if_neg (by omega), if_neg (by omega), if_neg c60, if_neg c61, ← ev, if_neg (by omega)] at h; exact h)
        · refine w_ic ?_
          refine w_goto ?_
          exact w_iret (fun _ => Or.inr rfl) (by have h := hQ; unfold sv_l at h; rw [if_neg (by omega), if_neg (by omega), if_neg c60, if_neg c61, ← ev, if_pos (by omega)] at h; exact h)
      · refine w_il rfl ?_
        refine w_aln rfl ?_
        refine w_gr g1 rfl (by decide) rfl e2 ?_
        refine w_il rfl ?_
        refine w_iald (v := (cs.getD i (0, 0, 0)).2.2) g4 rfl (by omega) (by show (i : Int) < ((40 : Nat) : Int); omega) r3 ?_
        refine w_cmne (fun q => ?_) (fun q => ?_)
        · refine w_ic ?_
          refine w_goto ?_
          exact w_iret (fun _ => Or.inl rfl) (by have h := hQ; unfold sv_l at h; rw [if_neg (by omega), if_neg (by omega), if_neg c60, if_pos c61, ← ev, if_neg q] at h; exact h)
        · refine w_ic ?_
          refine w_goto ?_
          exact w_iret (fun _ => Or.inr rfl) (by have h := hQ; unfold sv_l at h; rw [if_neg (by omega), if_neg (by omega), if_neg c60, if_pos c61, ← ev, if_pos q] at h; exact h)
    · refine w_il rfl ?_
      refine w_aln rfl ?_
      refine w_gr g1 rfl (by decide) rfl e2 ?_
      refine w_il rfl ?_
      refine w_iald (v := (cs.getD i (0, 0, 0)).2.2) g4 rfl (by omega) (by show (i : Int) < ((40 : Nat) : Int); omega) r3 ?_
      refine w_cmge (fun q => ?_) (fun q => ?_)
      · refine w_ic ?_
        exact w_iret (fun _ => Or.inl rfl) (by have h := hQ; unfold sv_l at h; rw [if_neg (by omega), if_neg (by omega), if_pos c60, ← ev, if_neg (by omega)] at h; exact h)
      · refine w_ic ?_
        refine w_goto ?_
        exact w_iret (fun _ => Or.inr rfl) (by have h := hQ; unfold sv_l at h; rw [if_neg (by omega), if_neg (by omega), if_pos c60, ← ev, if_pos (by omega)] at h; exact h)
  refine ⟨Nat.le_of_ble_eq_true rfl, ?_⟩
  show wz (d + 1) mt_X5_holdsOne.2.2.2.2.1 Q mt_X5_holdsOne.2.2.2.2.1 [some (.inr (.inr (some se))), some (.inr (.inr (some (w p)))), some (.inr (.inr (some (w 61)))), some (.inl (t : Int)), some (.inl (i : Int)), none, none, none] [] G M _ _
  refine w_aln rfl ?_
  refine w_gr g1 rfl (by decide) rfl e0 ?_
  refine w_il rfl ?_
  refine w_aald (b := a) g2 rfl (by omega) (by show (i : Int) < ((40 : Nat) : Int); omega) r1 ?_
  refine w_as ?_
  refine w_al rfl ?_
  refine w_ifnn (fun _ => ?_) (fun q => by cases q)
  refine w_al rfl ?_
  refine w_gs ?_
  intro a15 ga15
  have e15 := se_eq (k := 15) hI ga ga15
  refine w_acne (fun q => ?_) (fun q => ?_)
  · have n15 : (cs.getD i (0, 0, 0)).1 ≠ 15 := fun h => q (e15.2 h)
    refine w_al rfl ?_
    refine w_gs ?_
    intro a16 ga16
    have e16 := se_eq (k := 16) hI ga ga16
    refine w_acne (fun q => ?_) (fun q => ?_)
    · have n16 : (cs.getD i (0, 0, 0)).1 ≠ 16 := fun h => q (e16.2 h)
      have cc : (cs.getD i (0, 0, 0)).1 = 17 ∨ (cs.getD i (0, 0, 0)).1 = 18 ∨ (cs.getD i (0, 0, 0)).1 = 19 ∨ (cs.getD i (0, 0, 0)).1 = 20 ∨ (cs.getD i (0, 0, 0)).1 = 21 ∨ (cs.getD i (0, 0, 0)).1 = 22 ∨ (cs.getD i (0, 0, 0)).1 = 23 := by omega
      rcases cc with e | e | e | e | e | e | e
      all_goals rw [e] at ga
      · have ew : mj_ww.getD 17 0 = 0 := by decide +kernel
        refine w_al rfl ?_
        refine w_gww ga ?_
        rw [ew]
        refine w_iflt (fun q => absurd q (by decide)) (fun _ => ?_)
        refine w_al rfl ?_
        refine w_gww ga ?_
        rw [ew]
        refine w_bp ?_
        refine w_cmge (fun q => absurd q (by decide)) (fun _ => ?_)
        refine w_ic ?_
        refine w_goto ?_
        refine w_is ?_
        refine w_il rfl ?_
        refine w_ifeq (fun q => absurd q (by decide)) (fun _ => ?_)
        refine w_aln rfl ?_
        refine w_gr y1 rfl (by decide) rfl y4 ?_
        refine w_iln rfl ?_
        refine w_aald (b := w (66 + t)) y2 rfl (by omega) (by show (t : Int) < ((8 : Nat) : Int); omega) (y5 t ht) ?_
        refine w_al rfl ?_
        refine w_gww ga ?_
        rw [ew]
        refine w_iald (v := H (232 + 11 * t + 0)) (y3 t ht) rfl (by decide) (by decide) (y6 t 0 ht (by decide)) ?_
        refine w_goto ?_
        exact out _ _ _ _ (by unfold sv_v; rw [e]; first | done | rfl) (by omega)
      · have ew : mj_ww.getD 18 0 = 1 := by decide +kernel
        refine w_al rfl ?_
        refine w_gww ga ?_
        rw [ew]
        refine w_iflt (fun q => absurd q (by decide)) (fun _ => ?_)
        refine w_al rfl ?_
        refine w_gww ga ?_
        rw [ew]
        refine w_bp ?_
        refine w_cmge (fun q => absurd q (by decide)) (fun _ => ?_)
        refine w_ic ?_
        refine w_goto ?_
        refine w_is ?_
        refine w_il rfl ?_
        refine w_ifeq (fun q => absurd q (by decide)) (fun _ => ?_)
        refine w_aln rfl ?_
        refine w_gr y1 rfl (by decide) rfl y4 ?_
        refine w_iln rfl ?_
        refine w_aald (b := w (66 + t)) y2 rfl (by omega) (by show (t : Int) < ((8 : Nat) : Int); omega) (y5 t ht) ?_
        refine w_al rfl ?_
        refine w_gww ga ?_
        rw [ew]
        refine w_iald (v := H (232 + 11 * t + 1)) (y3 t ht) rfl (by decide) (by decide) (y6 t 1 ht (by decide)) ?_
        refine w_goto ?_
        exact out _ _ _ _ (by unfold sv_v; rw [e]; first | done | rfl) (by omega)
      · have ew : mj_ww.getD 19 0 = 5 := by decide +kernel
        refine w_al rfl ?_
        refine w_gww ga ?_
        rw [ew]
        refine w_iflt (fun q => absurd q (by decide)) (fun _ => ?_)
        refine w_al rfl ?_
        refine w_gww ga ?_
        rw [ew]
        refine w_bp ?_
        refine w_cmge (fun q => absurd q (by decide)) (fun _ => ?_)
        refine w_ic ?_
        refine w_goto ?_
        refine w_is ?_
        refine w_il rfl ?_
        refine w_ifeq (fun q => absurd q (by decide)) (fun _ => ?_)
        refine w_aln rfl ?_
        refine w_gr y1 rfl (by decide) rfl y4 ?_
        refine w_iln rfl ?_
        refine w_aald (b := w (66 + t)) y2 rfl (by omega) (by show (t : Int) < ((8 : Nat) : Int); omega) (y5 t ht) ?_
        refine w_al rfl ?_
        refine w_gww ga ?_
        rw [ew]
        refine w_iald (v := H (232 + 11 * t + 5)) (y3 t ht) rfl (by decide) (by decide) (y6 t 5 ht (by decide)) ?_
        refine w_goto ?_
        exact out _ _ _ _ (by unfold sv_v; rw [e]; first | done | rfl) (by omega)
      · have ew : mj_ww.getD 20 0 = 7 := by decide +kernel
        refine w_al rfl ?_
        refine w_gww ga ?_
        rw [ew]
        refine w_iflt (fun q => absurd q (by decide)) (fun _ => ?_)
        refine w_al rfl ?_
        refine w_gww ga ?_
        rw [ew]
        refine w_bp ?_
        refine w_cmge (fun q => absurd q (by decide)) (fun _ => ?_)
        refine w_ic ?_
        refine w_goto ?_
        refine w_is ?_
        refine w_il rfl ?_
        refine w_ifeq (fun q => absurd q (by decide)) (fun _ => ?_)
        refine w_aln rfl ?_
        refine w_gr y1 rfl (by decide) rfl y4 ?_
        refine w_iln rfl ?_
        refine w_aald (b := w (66 + t)) y2 rfl (by omega) (by show (t : Int) < ((8 : Nat) : Int); omega) (y5 t ht) ?_
        refine w_al rfl ?_
        refine w_gww ga ?_
        rw [ew]
        refine w_iald (v := H (232 + 11 * t + 7)) (y3 t ht) rfl (by decide) (by decide) (y6 t 7 ht (by decide)) ?_
        refine w_goto ?_
        exact out _ _ _ _ (by unfold sv_v; rw [e]; first | done | rfl) (by omega)
      · have ew : mj_ww.getD 21 0 = 4 := by decide +kernel
        refine w_al rfl ?_
        refine w_gww ga ?_
        rw [ew]
        refine w_iflt (fun q => absurd q (by decide)) (fun _ => ?_)
        refine w_al rfl ?_
        refine w_gww ga ?_
        rw [ew]
        refine w_bp ?_
        refine w_cmge (fun q => absurd q (by decide)) (fun _ => ?_)
        refine w_ic ?_
        refine w_goto ?_
        refine w_is ?_
        refine w_il rfl ?_
        refine w_ifeq (fun q => absurd q (by decide)) (fun _ => ?_)
        refine w_aln rfl ?_
        refine w_gr y1 rfl (by decide) rfl y4 ?_
        refine w_iln rfl ?_
        refine w_aald (b := w (66 + t)) y2 rfl (by omega) (by show (t : Int) < ((8 : Nat) : Int); omega) (y5 t ht) ?_
        refine w_al rfl ?_
        refine w_gww ga ?_
        rw [ew]
        refine w_iald (v := H (232 + 11 * t + 4)) (y3 t ht) rfl (by decide) (by decide) (y6 t 4 ht (by decide)) ?_
        refine w_goto ?_
        exact out _ _ _ _ (by unfold sv_v; rw [e]; first | done | rfl) (by omega)
      · have ew : mj_ww.getD 22 0 = 8 := by decide +kernel
        refine w_al rfl ?_
        refine w_gww ga ?_
        rw [ew]
        refine w_iflt (fun q => absurd q (by decide)) (fun _ => ?_)
        refine w_al rfl ?_
        refine w_gww ga ?_
        rw [ew]
        refine w_bp ?_
        refine w_cmge (fun q => absurd q (by decide)) (fun _ => ?_)
        refine w_ic ?_
        refine w_goto ?_
        refine w_is ?_
        refine w_il rfl ?_
        refine w_ifeq (fun q => absurd q (by decide)) (fun _ => ?_)
        refine w_aln rfl ?_
        refine w_gr y1 rfl (by decide) rfl y4 ?_
        refine w_iln rfl ?_
        refine w_aald (b := w (66 + t)) y2 rfl (by omega) (by show (t : Int) < ((8 : Nat) : Int); omega) (y5 t ht) ?_
        refine w_al rfl ?_
        refine w_gww ga ?_
        rw [ew]
        refine w_iald (v := H (232 + 11 * t + 8)) (y3 t ht) rfl (by decide) (by decide) (y6 t 8 ht (by decide)) ?_
        refine w_goto ?_
        exact out _ _ _ _ (by unfold sv_v; rw [e]; first | done | rfl) (by omega)
      · have ew : mj_ww.getD 23 0 = 11 := by decide +kernel
        refine w_al rfl ?_
        refine w_gww ga ?_
        rw [ew]
        refine w_iflt (fun q => absurd q (by decide)) (fun _ => ?_)
        refine w_al rfl ?_
        refine w_gww ga ?_
        rw [ew]
        refine w_bp ?_
        refine w_cmge (fun _ => ?_) (fun q => absurd q (by decide))
        refine w_ic ?_
        refine w_is ?_
        refine w_il rfl ?_
        refine w_ifeq (fun _ => ?_) (fun q => absurd rfl q)
        refine w_iln rfl ?_
        exact out _ _ _ _ (by unfold sv_v; rw [e]; first | done | rfl) (by omega)
    · have e : (cs.getD i (0, 0, 0)).1 = 16 := e16.1 q
      refine w_aln rfl ?_
      refine w_aln rfl ?_
      refine w_iln rfl ?_
      refine w_cv (st := []) rfl y1 rfl (Nat.le_of_ble_eq_true rfl) (fun kk h => h) ⟨Nat.le_of_ble_eq_true rfl, ?_⟩
      show wz d mt_X10_lacks.2.2.2.2.1 _ mt_X10_lacks.2.2.2.2.1 [some (.inr (.inr (some (w 61)))), some (.inr (.inr (some (w p)))), some (.inl (t : Int))] [] _ _ _ _
      refine w_aln rfl ?_
      refine w_gr y1 rfl (by decide) rfl y4 ?_
      refine w_iln rfl ?_
      refine w_aald (b := w (66 + t)) y2 rfl (by omega) (by show (t : Int) < ((8 : Nat) : Int); omega) (y5 t ht) ?_
      refine w_bp ?_
      refine w_iald (v := H (232 + 11 * t + 6)) (y3 t ht) rfl (by decide) (by decide) (y6 t 6 ht (by decide)) ?_
      refine w_aln rfl ?_
      refine w_gr y7 rfl (by decide) rfl y10 ?_
      refine w_iln rfl ?_
      refine w_aald (b := w (p + 3 + t)) y8 rfl (by omega) (by show (t : Int) < ((8 : Nat) : Int); omega) (y11 t ht) ?_
      refine w_ic ?_
      refine w_iald (v := H (8 + 9 * t)) (y9 t ht) rfl (by decide) (by decide) (y12 t ht) ?_
      refine w_cmge (fun q => ?_) (fun q => ?_)
      · refine w_ic ?_
        refine w_iret (fun _ => Or.inl rfl) ?_
        exact w_iret (fun _ => Or.inl rfl) (by have h := hQ; unfold sv_l at h; rw [if_neg n15, if_pos e, if_neg (by omega)] at h; exact h)
      · refine w_ic ?_
        refine w_goto ?_
        refine w_iret (fun _ => Or.inr rfl) ?_
        exact w_iret (fun _ => Or.inr rfl) (by have h := hQ; unfold sv_l at h; rw [if_neg n15, if_pos e, if_pos q] at h; exact h)
  · have e : (cs.getD i (0, 0, 0)).1 = 15 := e15.1 q
    refine w_aln rfl ?_
    refine w_gr y1 rfl (by decide) rfl y4 ?_
    refine w_iln rfl ?_
    refine w_aald (b := w (66 + t)) y2 rfl (by omega) (by show (t : Int) < ((8 : Nat) : Int); omega) (y5 t ht) ?_
    refine w_ic ?_
    refine w_iald (v := H (232 + 11 * t + 3)) (y3 t ht) rfl (by decide) (by decide) (y6 t 3 ht (by decide)) ?_
    refine w_ic ?_
    refine w_cmne (fun q => ?_) (fun q => ?_)
    · refine w_ic ?_
      exact w_iret (fun _ => Or.inl rfl) (by have h := hQ; unfold sv_l at h; rw [if_pos e, if_neg q] at h; exact h)
    · refine w_ic ?_
      refine w_goto ?_
      exact w_iret (fun _ => Or.inr rfl) (by have h := hQ; unfold sv_l at h; rw [if_pos e, if_pos q] at h; exact h)
theorem r_holds_l (hI : ∀ a b, (G a).1 % 1000 = 50 → G a = G b → a = b) (hS0 : sv_S G M se st sg nu sk cs) (hY0 : sv_Y G M w p H) (ht : t < 8) : ∀ (X : (List (Nat × Int × Int))) (i h : Nat) (F : Nat → Int) (M' : mj_M) (o6 : Option mj_V) (cb sb : Nat), sv_x sk M M' → sv_K sk h F M' → h ≤ i → cs.drop i = X → i ≤ cs.length → se_gw X → se_hg X h = some 1 → (∀ M2, sv_x sk M M2 → Q (some (.inl (sv_e H t X h F))) G M2) → wz (d + 2) mt_X5_holds.2.2.2.2.1 Q (mt_X5_holds.2.2.2.2.1.drop 4) [some (.inr (.inr (some se))), some (.inr (.inr (some (w p)))), some (.inr (.inr (some (w 61)))), some (.inl (t : Int)), some (.inl (h : Int)), some (.inl (i : Int)), o6] [] G M' cb sb
  | [], i, h, F, M', o6, cb, sb, hx, hK, hi, hd, hil, hw, hg, hQ => by
    obtain ⟨⟨g1, g2, g3, g4, g5⟩, ⟨e0, e1, e2, e3⟩, s4, l40, r⟩ := hS0.x hx
    have ei : i = cs.length := Nat.le_antisymm hil (sv_dn cs i hd)
    have eh : h = 1 := Option.some.inj hg
    have v0 := hK 0 (by omega)
    refine w_il rfl ?_
    refine w_aln rfl ?_
    refine w_gi g1 rfl (by decide) rfl s4 ?_
    refine w_cmge (fun _ => ?_) (fun q => by exfalso; omega)
    refine w_il rfl ?_
    refine w_ifle (fun q => by exfalso; omega) (fun _ => ?_)
    refine w_aln rfl ?_
    refine w_gr g1 rfl (by decide) rfl e3 ?_
    refine w_il rfl ?_
    refine w_ic ?_
    refine w_sub ⟨by omega, by omega⟩ ?_
    refine w_zald (v := F 0) g5 rfl (by omega) (by show (h : Int) - 1 < ((40 : Nat) : Int); omega) (sv_i (k := 0) (by omega) v0.1) ?_
    have hq := hQ M' hx
    refine w_ifeq (fun q => ?_) (fun q => ?_)
    · refine w_ic ?_
      refine w_iret (fun _ => Or.inl rfl) ?_
      have q : sv_e H t [] h F = 0 := q
      rw [q] at hq
      exact hq
    · refine w_ic ?_
      refine w_goto ?_
      refine w_iret (fun _ => Or.inr rfl) ?_
      have q : sv_e H t [] h F = 1 := v0.2.resolve_left q
      rw [q] at hq
      exact hq
  | c :: X, i, h, F, M', o6, cb, sb, hx, hK, hi, hd, hil, hw, hg, hQ => by
    have hS := hS0.x hx
    obtain ⟨⟨g1, g2, g3, g4, g5⟩, ⟨e0, e1, e2, e3⟩, s4, l40, r⟩ := id hS
    obtain ⟨il, ec, hd'⟩ := sv_dr cs i c X hd
    obtain ⟨⟨a, r1, ga⟩, r2, r3⟩ := r i il
    rw [ec] at ga
    obtain ⟨q1, q2, q3⟩ := sv_hg hg
    have cw := hw c (List.mem_cons_self ..)
    have hw' : se_gw X := fun y hy => hw y (List.mem_cons_of_mem _ hy)
    have nx : ∀ (h' : Nat) (F' : Nat → Int) (M1 : mj_M) (o7 : Option mj_V) (cb sb : Nat), sv_x sk M M1 → sv_K sk h' F' M1 → h' ≤ i + 1 → se_hg X h' = some 1 → sv_e H t X h' F' = sv_e H t (c :: X) h F → wz (d + 2) mt_X5_holds.2.2.2.2.1 Q (mt_X5_holds.2.2.2.2.1.drop 111) [some (.inr (.inr (some se))), some (.inr (.inr (some (w p)))), some (.inr (.inr (some (w 61)))), some (.inl (t : Int)), some (.inl (h' : Int)), some (.inl (i : Int)), o7] [] G M1 cb sb := by
      intro h' F' M1 o7 cb sb x1 K1 l1 w1 w2
      refine w_ii rfl ⟨by omega, by omega⟩ ?_
      refine w_goto ?_
      rw [show (i : Int) + 1 = ((i + 1 : Nat) : Int) from rfl]
      exact r_holds_l hI hS0 hY0 ht X (i + 1) h' F' M1 o7 _ _ x1 K1 l1 hd' (by omega) hw' w1 (fun M2 x2 => by rw [w2]; exact hQ M2 x2)
    refine w_il rfl ?_
    refine w_aln rfl ?_
    refine w_gi g1 rfl (by decide) rfl s4 ?_
    refine w_cmge (fun q => by exfalso; omega) (fun _ => ?_)
    refine w_il rfl ?_
    refine w_bp ?_
    refine w_cmge (fun q => by exfalso; omega) (fun _ => ?_)
    refine w_aln rfl ?_
    refine w_gr g1 rfl (by decide) rfl e0 ?_
    refine w_il rfl ?_
    refine w_aald (b := a) g2 rfl (by omega) (by show (i : Int) < ((40 : Nat) : Int); omega) r1 ?_
    refine w_as ?_
    refine w_al rfl ?_
    refine w_gs ?_
    intro a14 ga14
    have e14 := se_eq (k := 14) hI ga ga14
    refine w_acne (fun q => ?_) (fun q => ?_)
    · have n14 : c.1 ≠ 14 := fun h => q (e14.2 h)
      refine w_al rfl ?_
      refine w_gs ?_
      intro a13 ga13
      have e13 := se_eq (k := 13) hI ga ga13
      refine w_acne (fun q => ?_) (fun q => ?_)
      · have n13 : c.1 ≠ 13 := fun h => q (e13.2 h)
        refine w_al rfl ?_
        refine w_gs ?_
        intro a12 ga12
        have e12 := se_eq (k := 12) hI ga ga12
        refine w_acne (fun q => ?_) (fun q => ?_)
        · have n12 : c.1 ≠ 12 := fun h => q (e12.2 h)
          have cl : 14 < c.1 := by omega
          refine w_il rfl ?_
          refine w_bp ?_
          refine w_cmge (fun q => by exfalso; omega) (fun _ => ?_)
          refine w_aln rfl ?_
          refine w_gr g1 rfl (by decide) rfl e3 ?_
          refine w_il rfl ?_
          refine w_aln rfl ?_
          refine w_aln rfl ?_
          refine w_aln rfl ?_
          refine w_iln rfl ?_
          refine w_il rfl ?_
          refine w_cv (st := [.inl (h : Int), .inr (.inr (some sk))]) rfl g1 rfl (Nat.le_of_ble_eq_true rfl) (fun kk h => h) (r_holdsOne (d := d) hI hS (hY0.x hx g5) ht il (by rw [ec]; omega) (by rw [ec]; exact cw.2) ?_)
          rw [ec]
          refine w_zast sv_l_b g5 rfl (by decide) (by omega) (by show (h : Int) < ((40 : Nat) : Int); omega) ?_
          rw [show ((h : Nat) : Int).toNat = h from rfl]
          refine w_ii rfl ⟨by omega, by omega⟩ ?_
          rw [show (h : Int) + 1 = ((h + 1 : Nat) : Int) from rfl]
          exact nx (h + 1) _ _ _ _ _ hx.put (hK.put sv_l_b (fun j hj hne => by omega)) (by omega) (q3 cl) (sv_el cl).symm
        · have ew : c.1 = 12 := e12.1 q
          obtain ⟨h2, hg2⟩ := q1 (by omega)
          have va := hK (h - 2) (by omega)
          have vb := hK (h - 1) (by omega)
          have st12 : ∀ (v : Int) (cb sb : Nat), (v = 0 ∨ v = 1) → sv_e H t X (h - 1) (sv_F F (h - 2) v) = sv_e H t (c :: X) h F → wz (d + 2) mt_X5_holds.2.2.2.2.1 Q (mt_X5_holds.2.2.2.2.1.drop 95) [some (.inr (.inr (some se))), some (.inr (.inr (some (w p)))), some (.inr (.inr (some (w 61)))), some (.inl (t : Int)), some (.inl ((h - 1 : Nat) : Int)), some (.inl (i : Int)), some (.inr (.inr (some a)))] [.inl v, .inl (((h - 1 : Nat) : Int) - 1), .inr (.inr (some sk))] G M' cb sb := by
            intro v cb sb hv e2
            refine w_zast hv g5 rfl (by decide) (by omega) (by show ((h - 1 : Nat) : Int) - 1 < ((40 : Nat) : Int); omega) ?_
            rw [show (((h - 1 : Nat) : Int) - 1).toNat = h - 2 by omega]
            refine w_goto ?_
            exact nx (h - 1) _ _ _ _ _ hx.put (hK.put hv (fun j hj _ => by omega)) (by omega) hg2 e2
          have E := sv_e12 (H := H) (t := t) (X := X) (h := h) (F := F) ew
          unfold sv_o at E
          refine w_il rfl ?_
          refine w_ic ?_
          refine w_cmlt (fun q => by exfalso; omega) (fun _ => ?_)
          refine w_ii rfl ⟨by omega, by omega⟩ ?_
          rw [show (h : Int) + -1 = ((h - 1 : Nat) : Int) by omega]
          refine w_aln rfl ?_
          refine w_gr g1 rfl (by decide) rfl e3 ?_
          refine w_il rfl ?_
          refine w_ic ?_
          refine w_sub ⟨by omega, by omega⟩ ?_
          refine w_aln rfl ?_
          refine w_gr g1 rfl (by decide) rfl e3 ?_
          refine w_il rfl ?_
          refine w_ic ?_
          refine w_sub ⟨by omega, by omega⟩ ?_
          refine w_zald (v := F (h - 2)) g5 rfl (by omega) (by show ((h - 1 : Nat) : Int) - 1 < ((40 : Nat) : Int); omega) (sv_i (k := h - 2) (by omega) va.1) ?_
          refine w_ifne (fun q => ?_) (fun q => ?_)
          · refine w_ic ?_
            refine w_goto ?_
            exact st12 1 _ _ (Or.inr rfl) (by rw [E, if_neg q])
          · refine w_aln rfl ?_
            refine w_gr g1 rfl (by decide) rfl e3 ?_
            refine w_il rfl ?_
            refine w_zald (v := F (h - 1)) g5 rfl (by omega) (by show ((h - 1 : Nat) : Int) < ((40 : Nat) : Int); omega) (sv_i (k := h - 1) (by omega) vb.1) ?_
            refine w_ifeq (fun q2 => ?_) (fun q2 => ?_)
            · refine w_ic ?_
              exact st12 0 _ _ (Or.inl rfl) (by rw [E, if_pos q, if_pos q2])
            · refine w_ic ?_
              refine w_goto ?_
              exact st12 1 _ _ (Or.inr rfl) (by rw [E, if_pos q, if_neg q2])
      · have ew : c.1 = 13 := e13.1 q
        obtain ⟨h2, hg2⟩ := q1 (by omega)
        have va := hK (h - 2) (by omega)
        have vb := hK (h - 1) (by omega)
        have st13 : ∀ (v : Int) (cb sb : Nat), (v = 0 ∨ v = 1) → sv_e H t X (h - 1) (sv_F F (h - 2) v) = sv_e H t (c :: X) h F → wz (d + 2) mt_X5_holds.2.2.2.2.1 Q (mt_X5_holds.2.2.2.2.1.drop 66) [some (.inr (.inr (some se))), some (.inr (.inr (some (w p)))), some (.inr (.inr (some (w 61)))), some (.inl (t : Int)), some (.inl ((h - 1 : Nat) : Int)), some (.inl (i : Int)), some (.inr (.inr (some a)))] [.inl v, .inl (((h - 1 : Nat) : Int) - 1), .inr (.inr (some sk))] G M' cb sb := by
          intro v cb sb hv e2
          refine w_zast hv g5 rfl (by decide) (by omega) (by show ((h - 1 : Nat) : Int) - 1 < ((40 : Nat) : Int); omega) ?_
          rw [show (((h - 1 : Nat) : Int) - 1).toNat = h - 2 by omega]
          refine w_goto ?_
          exact nx (h - 1) _ _ _ _ _ hx.put (hK.put hv (fun j hj _ => by omega)) (by omega) hg2 e2
        have E := sv_e13 (H := H) (t := t) (X := X) (h := h) (F := F) ew
        unfold sv_a at E
        refine w_il rfl ?_
        refine w_ic ?_
        refine w_cmlt (fun q => by exfalso; omega) (fun _ => ?_)
        refine w_ii rfl ⟨by omega, by omega⟩ ?_
        rw [show (h : Int) + -1 = ((h - 1 : Nat) : Int) by omega]
        refine w_aln rfl ?_
        refine w_gr g1 rfl (by decide) rfl e3 ?_
        refine w_il rfl ?_
        refine w_ic ?_
        refine w_sub ⟨by omega, by omega⟩ ?_
        refine w_aln rfl ?_
        refine w_gr g1 rfl (by decide) rfl e3 ?_
        refine w_il rfl ?_
        refine w_ic ?_
        refine w_sub ⟨by omega, by omega⟩ ?_
        refine w_zald (v := F (h - 2)) g5 rfl (by omega) (by show ((h - 1 : Nat) : Int) - 1 < ((40 : Nat) : Int); omega) (sv_i (k := h - 2) (by omega) va.1) ?_
        refine w_ifeq (fun q => ?_) (fun q => ?_)
        · refine w_ic ?_
          exact st13 0 _ _ (Or.inl rfl) (by rw [E, if_pos q])
        · refine w_aln rfl ?_
          refine w_gr g1 rfl (by decide) rfl e3 ?_
          refine w_il rfl ?_
          refine w_zald (v := F (h - 1)) g5 rfl (by omega) (by show ((h - 1 : Nat) : Int) < ((40 : Nat) : Int); omega) (sv_i (k := h - 1) (by omega) vb.1) ?_
          refine w_ifeq (fun q2 => ?_) (fun q2 => ?_)
          · refine w_ic ?_
            exact st13 0 _ _ (Or.inl rfl) (by rw [E, if_neg q, if_pos q2])
          · refine w_ic ?_
            refine w_goto ?_
            exact st13 1 _ _ (Or.inr rfl) (by rw [E, if_neg q, if_neg q2])
    · have ew : c.1 = 14 := e14.1 q
      obtain ⟨h1, hg1⟩ := q2 ew
      have vb := hK (h - 1) (by omega)
      have E := sv_e14 (H := H) (t := t) (X := X) (h := h) (F := F) ew
      unfold sv_n at E
      have st14 : ∀ (v : Int) (cb sb : Nat), (v = 0 ∨ v = 1) → sv_e H t X h (sv_F F (h - 1) v) = sv_e H t (c :: X) h F → wz (d + 2) mt_X5_holds.2.2.2.2.1 Q (mt_X5_holds.2.2.2.2.1.drop 37) [some (.inr (.inr (some se))), some (.inr (.inr (some (w p)))), some (.inr (.inr (some (w 61)))), some (.inl (t : Int)), some (.inl (h : Int)), some (.inl (i : Int)), some (.inr (.inr (some a)))] [.inl v, .inl ((h : Int) - 1), .inr (.inr (some sk))] G M' cb sb := by
        intro v cb sb hv e2
        refine w_zast hv g5 rfl (by decide) (by omega) (by show (h : Int) - 1 < ((40 : Nat) : Int); omega) ?_
        rw [show ((h : Int) - 1).toNat = h - 1 by omega]
        refine w_goto ?_
        exact nx h _ _ _ _ _ hx.put (hK.put hv (fun j hj _ => hj)) (by omega) hg1 e2
      refine w_il rfl ?_
      refine w_ic ?_
      refine w_cmlt (fun q => by exfalso; omega) (fun _ => ?_)
      refine w_aln rfl ?_
      refine w_gr g1 rfl (by decide) rfl e3 ?_
      refine w_il rfl ?_
      refine w_ic ?_
      refine w_sub ⟨by omega, by omega⟩ ?_
      refine w_aln rfl ?_
      refine w_gr g1 rfl (by decide) rfl e3 ?_
      refine w_il rfl ?_
      refine w_ic ?_
      refine w_sub ⟨by omega, by omega⟩ ?_
      refine w_zald (v := F (h - 1)) g5 rfl (by omega) (by show (h : Int) - 1 < ((40 : Nat) : Int); omega) (sv_i (k := h - 1) (by omega) vb.1) ?_
      refine w_ifne (fun q => ?_) (fun q => ?_)
      · refine w_ic ?_
        exact st14 0 _ _ (Or.inl rfl) (by rw [E, if_neg q])
      · refine w_ic ?_
        refine w_goto ?_
        exact st14 1 _ _ (Or.inr rfl) (by rw [E, if_pos q])
/-- the class: what the SENTENCE says of the town t -/
theorem r_holds (hI : ∀ a b, (G a).1 % 1000 = 50 → G a = G b → a = b) (hS : sv_S G M se st sg nu sk cs) (hY : sv_Y G M w p H) (ht : t < 8) (hg : se_g1 cs) (hQ : ∀ M2, sv_x sk M M2 → Q (some (.inl (sv_e H t cs 0 (fun _ => 0)))) G M2) : mj_R mj_tab (d + 3) 58 [.inr (.inr (some se)), .inr (.inr (some (w p))), .inr (.inr (some (w 61))), .inl (t : Int)] G M Q := by
  refine ⟨Nat.le_of_ble_eq_true rfl, ?_⟩
  show wz (d + 2) mt_X5_holds.2.2.2.2.1 Q mt_X5_holds.2.2.2.2.1 [some (.inr (.inr (some se))), some (.inr (.inr (some (w p)))), some (.inr (.inr (some (w 61)))), some (.inl (t : Int)), none, none, none] [] G M _ _
  refine w_ic ?_
  refine w_is ?_
  refine w_ic ?_
  refine w_is ?_
  exact r_holds_l hI hS hY ht cs 0 0 (fun _ => 0) M none _ _ sv_x.refl (fun j hj => absurd hj (Nat.not_lt_zero j)) (Nat.le_refl 0) rfl (Nat.zero_le _) hg.1 (hg.2 0) hQ
end VA
set_option maxRecDepth 100000 in
theorem lr_X11_said {G : mj_G} {M : mj_M} {x m tp s kp bc bt kc kr : Nat} {w : Nat → Nat} {z1 : Int} (hS : lq_S G M s kp kc w) (hK : lq_W G M m s kp kc w) (hI : lp_I G M x m tp s kp bc bt kc kr w) (hz1 : mj_in z1) : mj_R mj_tab 40 146 [.inr (.inr (some x)), .inl z1] G M (fun r _ _ => ∃ cs o, se_ok cs o ∧ sq_H (M.1 s) 0 cs ∧ r = some (.inl (lr_said (M.1 s) cs z1))) := by
  obtain ⟨gA, gB, ⟨e, e2, hN, o, cs, hR, hH, ok⟩, -⟩ := hS
  obtain ⟨hA, hB, p, q, hNp, hG6, -⟩ := hI.J
  obtain ⟨gpl, gna, gta, gba, gwa, gtr, gbr, itr, ibr, p0, p1, p2, p3, rt, rb⟩ := lq_K hA hB hNp.pin.1
  have gx := hI.gx
  have gnw := hA.2.2.1
  have x1 := hB.2.1
  have b0 := hI.b0
  have gy := hK.1 61 (by decide)
  have rY := hK.2.1.1 61 (by decide)
  have y29 := hK.2.1.2.1
  have h221 : M.1 (w 61) 0 = M.1 s 221 := hK.2.2.2.1.1.1
  obtain ⟨ge, ge1, ge2, ge3⟩ := gA e hN.in1.1
  obtain ⟨r0, r1, r2⟩ := gB.1 e hN.in1.1
  obtain ⟨sk, r3, gsk⟩ := hn_rf (k := 3) (q := (37102, 40)) hI.1.1.1.1 ge rfl (by decide) (by decide) (by decide) (fun e => absurd e (by decide))
  have hw4 : M.1 (w p) 4 = M.1 s 0 := hG6.1.1.symm
  have q356 : M.1 s 356 = (cs.length : Int) := hH.1
  have hSS : sv_S G M (w e) (w (e + 1)) (w (e + 2)) (w (e + 3)) sk cs := ⟨⟨ge, ge1, ge2, ge3, gsk⟩, ⟨r0, r1, r2, r3⟩, hR.1, ok.2.1, hR.2.2⟩
  have fin : ∀ {r : Option mj_V}, r = some (.inl (lr_said (M.1 s) cs z1)) → ∃ cs o, se_ok cs o ∧ sq_H (M.1 s) 0 cs ∧ r = some (.inl (lr_said (M.1 s) cs z1)) := fun hr => ⟨cs, o, ok, hH, hr⟩
  refine ⟨Nat.le_of_ble_eq_true rfl, ?_⟩
  show wz 39 mt_X11_said.2.2.2.2.1 _ mt_X11_said.2.2.2.2.1 [some (.inr (.inr (some x))), some (.inl z1), none, none] [] G M _ _
  refine w_aln rfl ?_
  refine w_gr gx rfl (by decide) rfl x1 ?_
  refine w_gr gnw rfl (by decide) rfl hN.1 ?_
  refine w_gi ge rfl (by decide) rfl hR.2.1 ?_
  have no : ∀ cb sb : Nat, (M.1 s 356 = 0 ∨ M.1 s 221 = 0 ∨ z1 < -1) → wz 39 mt_X11_said.2.2.2.2.1 (fun r _ _ => ∃ cs o, se_ok cs o ∧ sq_H (M.1 s) 0 cs ∧ r = some (.inl (lr_said (M.1 s) cs z1))) (mt_X11_said.2.2.2.2.1.drop 10) [some (.inr (.inr (some x))), some (.inl z1), none, none] [] G M cb sb := by
    intro cb sb h
    refine w_ic ?_
    refine w_iret (fun q => by cases q) (fin ?_)
    unfold lr_said
    rw [if_pos h]
  refine w_ifeq (fun c0 => no _ _ (Or.inl (by
    have ec : cs = [] := ok.1.1 (by omega)
    rw [q356, ec]; first | done | rfl))) (fun c0 => ?_)
  have cn : cs ≠ [] := fun h => c0 (by have := ok.1.2 h; omega)
  have ln : cs.length ≠ 0 := fun h => cn (List.eq_nil_of_length_eq_zero h)
  refine w_aln rfl ?_
  refine w_gr gx rfl (by decide) rfl x1 ?_
  refine w_gr gnw rfl (by decide) rfl y29 ?_
  refine w_gi gy.1 rfl (by decide) rfl h221 ?_
  refine w_ifne (fun c1 => ?_) (fun c1 => no _ _ (Or.inr (Or.inl c1)))
  have hV := hK.yV c1
  have hYY : sv_Y G M w p (M.1 s) := ⟨gy.1, gy.2.2.2.2.1, gy.2.2.2.2.2, rY.2.2.2.1, rY.2.2.2.2, fun t u ht hu => hV.rw_ ht hu rfl, gpl, gta, gtr, p1, rt, fun t ht => ((hG6.1.2.2.2.2.1 t 4 ht (by decide)).symm.trans (congrArg (M.1 s) (by omega)))⟩
  have hr0 : sv_r (fun t => sv_e (M.1 s) t cs 0 (fun _ => 0)) z1 (M.1 s 0).toNat 0 0 = lr_said (M.1 s) cs z1 := by
    unfold lr_said
    by_cases c : z1 < -1
    · rw [if_pos (Or.inr (Or.inr c))]; exact sv_r_lt c _ _ _
    · rw [if_neg]
      intro h
      rcases h with h | h | h
      · rw [q356] at h; omega
      · exact c1 h
      · exact c h
  have key : ∀ (f t n : Nat) (M' : mj_M) (cb sb : Nat), (f : Int) + t = M.1 s 0 → n ≤ t → sv_x sk M M' → sv_r (fun t => sv_e (M.1 s) t cs 0 (fun _ => 0)) z1 f t n = lr_said (M.1 s) cs z1 → wz 39 mt_X11_said.2.2.2.2.1 (fun r _ _ => ∃ cs o, se_ok cs o ∧ sq_H (M.1 s) 0 cs ∧ r = some (.inl (lr_said (M.1 s) cs z1))) (mt_X11_said.2.2.2.2.1.drop 16) [some (.inr (.inr (some x))), some (.inl z1), some (.inl (n : Int)), some (.inl (t : Int))] [] G M' cb sb := by
    intro f
    induction f with
    | zero =>
      intro t n M' cb sb ht hn hx hr
      have x1 : M'.2.2 x 1 = some (w 29) := by rw [hx.2]; exact x1
      have np : M'.2.2 (w 29) 0 = some (w p) := by rw [hx.2]; exact hNp.1
      have p4 : M'.1 (w p) 4 = M.1 s 0 := by rw [hx.1 _ (hn_ne gpl gsk (by decide))]; exact hw4
      refine w_iln rfl ?_
      refine w_aln rfl ?_
      refine w_gr gx rfl (by decide) rfl x1 ?_
      refine w_gr gnw rfl (by decide) rfl np ?_
      refine w_gi gpl rfl (by decide) rfl p4 ?_
      refine w_cmge (fun _ => ?_) (fun q => by exfalso; omega)
      refine w_iln rfl ?_
      refine w_ic ?_
      have q : sv_r (fun t => sv_e (M.1 s) t cs 0 (fun _ => 0)) z1 0 t n = if z1 = -1 then (n : Int) else -1 := rfl
      refine w_cmne (fun e => ?_) (fun e => ?_)
      · refine w_ic ?_
        exact w_iret (fun q => by cases q) (fin (by rw [← hr, q, if_neg e]))
      · refine w_iln rfl ?_
        refine w_goto ?_
        exact w_iret (fun q => by cases q) (fin (by rw [← hr, q, if_pos e]))
    | succ f ih =>
      intro t n M' cb sb ht hn hx hr
      have x1 : M'.2.2 x 1 = some (w 29) := by rw [hx.2]; exact x1
      have np : M'.2.2 (w 29) 0 = some (w p) := by rw [hx.2]; exact hNp.1
      have ns : M'.2.2 (w 29) 2 = some (w e) := by rw [hx.2]; exact hN.1
      have ny : M'.2.2 (w 29) 3 = some (w 61) := by rw [hx.2]; exact y29
      have p4 : M'.1 (w p) 4 = M.1 s 0 := by rw [hx.1 _ (hn_ne gpl gsk (by decide))]; exact hw4
      have t8 : t < 8 := by omega
      have er : sv_r (fun t => sv_e (M.1 s) t cs 0 (fun _ => 0)) z1 (f + 1) t n = if sv_e (M.1 s) t cs 0 (fun _ => 0) = 0 then sv_r (fun t => sv_e (M.1 s) t cs 0 (fun _ => 0)) z1 f (t + 1) n else if (n : Int) = z1 then (t : Int) else sv_r (fun t => sv_e (M.1 s) t cs 0 (fun _ => 0)) z1 f (t + 1) (n + 1) := rfl
      rw [er] at hr
      refine w_iln rfl ?_
      refine w_aln rfl ?_
      refine w_gr gx rfl (by decide) rfl x1 ?_
      refine w_gr gnw rfl (by decide) rfl np ?_
      refine w_gi gpl rfl (by decide) rfl p4 ?_
      refine w_cmge (fun q => by exfalso; omega) (fun _ => ?_)
      refine w_aln rfl ?_
      refine w_gr gx rfl (by decide) rfl x1 ?_
      refine w_gr gnw rfl (by decide) rfl ns ?_
      refine w_aln rfl ?_
      refine w_gr gx rfl (by decide) rfl x1 ?_
      refine w_gr gnw rfl (by decide) rfl np ?_
      refine w_aln rfl ?_
      refine w_gr gx rfl (by decide) rfl x1 ?_
      refine w_gr gnw rfl (by decide) rfl ny ?_
      refine w_iln rfl ?_
      refine w_cv (st := []) rfl ge rfl (Nat.le_of_ble_eq_true rfl) (fun kk h => h) (r_holds (d := 36) hI.1.1.1.1.2.2.2.1 (hSS.x hx) (hYY.x hx gsk) t8 (ok.2.2 cn) (fun M2 hx2 => ?_))
      have hx3 := hx.trans hx2
      have nx : ∀ (n' : Nat) (cb sb : Nat), n' ≤ t + 1 → sv_r (fun t => sv_e (M.1 s) t cs 0 (fun _ => 0)) z1 f (t + 1) n' = lr_said (M.1 s) cs z1 → wz 39 mt_X11_said.2.2.2.2.1 (fun r _ _ => ∃ cs o, se_ok cs o ∧ sq_H (M.1 s) 0 cs ∧ r = some (.inl (lr_said (M.1 s) cs z1))) (mt_X11_said.2.2.2.2.1.drop 40) [some (.inr (.inr (some x))), some (.inl z1), some (.inl (n' : Int)), some (.inl (t : Int))] [] G M2 cb sb := by
        intro n' cb sb l1 e1
        refine w_ii rfl ⟨by omega, by omega⟩ ?_
        refine w_goto ?_
        rw [show (t : Int) + 1 = ((t + 1 : Nat) : Int) from rfl]
        exact ih (t + 1) n' M2 _ _ (by omega) l1 hx3 e1
      refine w_ifeq (fun c => ?_) (fun c => ?_)
      · rw [if_pos c] at hr
        exact nx n _ _ (by omega) hr
      · rw [if_neg c] at hr
        refine w_iln rfl ?_
        refine w_iln rfl ?_
        refine w_cmne (fun e => ?_) (fun e => ?_)
        · rw [if_neg e] at hr
          refine w_ii rfl ⟨by omega, by omega⟩ ?_
          rw [show (n : Int) + 1 = ((n + 1 : Nat) : Int) from rfl]
          exact nx (n + 1) _ _ (by omega) hr
        · rw [if_pos e] at hr
          refine w_iln rfl ?_
          exact w_iret (fun q => by cases q) (fin (by rw [← hr]))
  refine w_ic ?_
  refine w_isn ?_
  refine w_ic ?_
  refine w_isn ?_
  exact key (M.1 s 0).toNat 0 0 M _ _ (by omega) (Nat.le_refl 0) sv_x.refl hr0
set_option maxRecDepth 100000 in
theorem lr_X12_said {G : mj_G} {M : mj_M} {x m tp s kp bc bt kc kr : Nat} {w : Nat → Nat} {z1 : Int} {cs : (List (Nat × Int × Int))} {o : Nat} (ok : se_ok cs o) (hH : sq_H (M.1 s) 0 cs) (hI : lp_I G M x m tp s kp bc bt kc kr w) : mj_R mj_tab 40 238 [.inr (.inr (some m)), .inl z1] G M (fun r _ _ => r = some (.inl (lr_said (M.1 s) cs z1))) := by
  have gm := hI.gm
  have gs := hI.gs
  have b0 := hI.b0
  obtain ⟨vl, m58, gv⟩ := hn_rf (k := 58) (q := (69102, 45)) hI.1.1.1.1 gm rfl (by decide) (by decide) (by decide) (fun e => absurd e (by decide))
  have q356 : M.1 s 356 = (cs.length : Int) := hH.1
  refine ⟨Nat.le_of_ble_eq_true rfl, ?_⟩
  show wz 39 mt_X12_said.2.2.2.2.1 _ mt_X12_said.2.2.2.2.1 [some (.inr (.inr (some m))), some (.inl z1), none, none] [] G M _ _
  refine w_aln rfl ?_
  refine w_ic ?_
  refine w_pi gm rfl (by decide) rfl (fun q => by cases q) ?_
  have es0 : (mj_p0 M m 0 0).1 s = M.1 s := wz_c (hn_ne gs gm (by decide))
  have m60 : (mj_p0 M m 0 0).2.2 m 6 = some s := hI.m6
  have m580 : (mj_p0 M m 0 0).2.2 m 58 = some vl := m58
  generalize mj_p0 M m 0 0 = Mb at es0 m60 m580 ⊢
  refine w_aln rfl ?_
  refine w_gr gm rfl (by decide) rfl m60 ?_
  refine w_sp ?_
  refine w_iald (v := (cs.length : Int)) gs rfl (by decide) (by decide) (by rw [es0]; exact q356) ?_
  have no : ∀ cb sb : Nat, (M.1 s 356 = 0 ∨ M.1 s 221 = 0 ∨ z1 < -1) → wz 39 mt_X12_said.2.2.2.2.1 (fun r _ _ => r = some (.inl (lr_said (M.1 s) cs z1))) (mt_X12_said.2.2.2.2.1.drop 16) [some (.inr (.inr (some m))), some (.inl z1), none, none] [] G Mb cb sb := by
    intro cb sb h
    refine w_ic ?_
    refine w_iret (fun q => by cases q) ?_
    unfold lr_said
    rw [if_pos h]
  refine w_ifeq (fun c0 => no _ _ (Or.inl (by rw [q356]; exact c0))) (fun c0 => ?_)
  have cn : cs ≠ [] := fun h => c0 (by subst h; rfl)
  refine w_aln rfl ?_
  refine w_gr gm rfl (by decide) rfl m60 ?_
  refine w_sp ?_
  refine w_iald (v := M.1 s 221) gs rfl (by decide) (by decide) (by rw [es0]; first | done | rfl) ?_
  refine w_ifeq (fun c1 => no _ _ (Or.inr (Or.inl c1))) (fun c1 => ?_)
  refine w_iln rfl ?_
  refine w_ic ?_
  refine w_cmge (fun c2 => ?_) (fun c2 => no _ _ (Or.inr (Or.inr c2)))
  have hr0 : sv_r (fun t => sv_e (M.1 s) t cs 0 (fun _ => 0)) z1 (M.1 s 0).toNat 0 0 = lr_said (M.1 s) cs z1 := by
    unfold lr_said
    rw [if_neg]
    intro h
    rcases h with h | h | h
    · rw [q356] at h; exact c0 h
    · exact c1 h
    · omega
  have key : ∀ (f t n : Nat) (M' : mj_M) (cb sb : Nat), (f : Int) + t = M.1 s 0 → n ≤ t → sv_x vl Mb M' → sv_r (fun t => sv_e (M.1 s) t cs 0 (fun _ => 0)) z1 f t n = lr_said (M.1 s) cs z1 → wz 39 mt_X12_said.2.2.2.2.1 (fun r _ _ => r = some (.inl (lr_said (M.1 s) cs z1))) (mt_X12_said.2.2.2.2.1.drop 22) [some (.inr (.inr (some m))), some (.inl z1), some (.inl (n : Int)), some (.inl (t : Int))] [] G M' cb sb := by
    intro f
    induction f with
    | zero =>
      intro t n M' cb sb ht hn hx hr
      have m6 : M'.2.2 m 6 = some s := by rw [hx.2]; exact m60
      have es : M'.1 s = M.1 s := (hx.1 s (hn_ne gs gv (by decide))).trans es0
      refine w_iln rfl ?_
      refine w_aln rfl ?_
      refine w_gr gm rfl (by decide) rfl m6 ?_
      refine w_ic ?_
      refine w_iald (v := M.1 s 0) gs rfl (by decide) (by decide) (by rw [es]; first | done | rfl) ?_
      refine w_cmge (fun _ => ?_) (fun q => by exfalso; omega)
      refine w_iln rfl ?_
      refine w_ic ?_
      have q : sv_r (fun t => sv_e (M.1 s) t cs 0 (fun _ => 0)) z1 0 t n = if z1 = -1 then (n : Int) else -1 := rfl
      refine w_cmne (fun e => ?_) (fun e => ?_)
      · refine w_ic ?_
        exact w_iret (fun q => by cases q) (by rw [← hr, q, if_neg e])
      · refine w_iln rfl ?_
        refine w_goto ?_
        exact w_iret (fun q => by cases q) (by rw [← hr, q, if_pos e])
    | succ f ih =>
      intro t n M' cb sb ht hn hx hr
      have m6 : M'.2.2 m 6 = some s := by rw [hx.2]; exact m60
      have m58 : M'.2.2 m 58 = some vl := by rw [hx.2]; exact m580
      have es : M'.1 s = M.1 s := (hx.1 s (hn_ne gs gv (by decide))).trans es0
      have t8 : t < 8 := by omega
      have er : sv_r (fun t => sv_e (M.1 s) t cs 0 (fun _ => 0)) z1 (f + 1) t n = if sv_e (M.1 s) t cs 0 (fun _ => 0) = 0 then sv_r (fun t => sv_e (M.1 s) t cs 0 (fun _ => 0)) z1 f (t + 1) n else if (n : Int) = z1 then (t : Int) else sv_r (fun t => sv_e (M.1 s) t cs 0 (fun _ => 0)) z1 f (t + 1) (n + 1) := rfl
      rw [er] at hr
      refine w_iln rfl ?_
      refine w_aln rfl ?_
      refine w_gr gm rfl (by decide) rfl m6 ?_
      refine w_ic ?_
      refine w_iald (v := M.1 s 0) gs rfl (by decide) (by decide) (by rw [es]; first | done | rfl) ?_
      refine w_cmge (fun q => by exfalso; omega) (fun _ => ?_)
      refine w_aln rfl ?_
      refine w_iln rfl ?_
      refine w_cv (st := []) rfl gm rfl (Nat.le_of_ble_eq_true rfl) (fun kk h => h) (r_isSaid (d := 36) gm gs gv m6 m58 es t8 hH ok.2.1 (ok.2.2 cn) (fun M2 hx2 => ?_))
      have hx3 := hx.trans hx2
      have nx : ∀ (n' : Nat) (cb sb : Nat), n' ≤ t + 1 → sv_r (fun t => sv_e (M.1 s) t cs 0 (fun _ => 0)) z1 f (t + 1) n' = lr_said (M.1 s) cs z1 → wz 39 mt_X12_said.2.2.2.2.1 (fun r _ _ => r = some (.inl (lr_said (M.1 s) cs z1))) (mt_X12_said.2.2.2.2.1.drop 39) [some (.inr (.inr (some m))), some (.inl z1), some (.inl (n' : Int)), some (.inl (t : Int))] [] G M2 cb sb := by
        intro n' cb sb l1 e1
        refine w_ii rfl ⟨by omega, by omega⟩ ?_
        refine w_goto ?_
        rw [show (t : Int) + 1 = ((t + 1 : Nat) : Int) from rfl]
        exact ih (t + 1) n' M2 _ _ (by omega) l1 hx3 e1
      refine w_ifne (fun c => ?_) (fun c => ?_)
      · rw [if_neg c] at hr
        refine w_iln rfl ?_
        refine w_iln rfl ?_
        refine w_cmne (fun e => ?_) (fun e => ?_)
        · rw [if_neg e] at hr
          refine w_ii rfl ⟨by omega, by omega⟩ ?_
          rw [show (n : Int) + 1 = ((n + 1 : Nat) : Int) from rfl]
          exact nx (n + 1) _ _ (by omega) hr
        · rw [if_pos e] at hr
          refine w_iln rfl ?_
          exact w_iret (fun q => by cases q) (by rw [← hr])
      · rw [if_pos c] at hr
        refine w_goto ?_
        exact nx n _ _ (by omega) hr
  refine w_ic ?_
  refine w_isn ?_
  refine w_ic ?_
  refine w_isn ?_
  exact key (M.1 s 0).toNat 0 0 Mb _ _ (by omega) (Nat.le_refl 0) sv_x.refl hr0
