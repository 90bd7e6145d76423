/-! ===== the law's calls by contracts with the widest entry ===== -/
theorem lw_RR {G : mj_G} {o t n : Nat} {f : Nat → Int} (ho : G o = (t, 0)) (h0 : t ≠ 0) (h1 : t ≠ 1) (h50 : t ≠ 50) : ab_RR (n, f, 1, fun _ => some o) G [(t, 0)] := ⟨rfl, fun i q h => by
  cases i with
  | zero =>
    cases h
    exact Or.inr (Or.inr (Or.inr ⟨h0, h1, h50, o, rfl, ho⟩))
  | succ i => cases h⟩
def lw_ii (p : Option (ab_X ⊕ (Unit ⊕ (Nat × Nat)))) : Bool := match p with
  | some (.inl _) => true
  | _ => false
theorem lw_r {w : ab_wd} {G : mj_G} {po : ab_po} {r : Option mj_V} {M : mj_M} (h : lw_ii po.1 = true) (hp : ab_ph w G po r M) : ∃ z, r = some (.inl z) := by
  obtain ⟨p, ms⟩ := po
  rcases p with _ | X | l
  · cases h
  · obtain ⟨⟨z, e, -⟩, -⟩ := hp
    exact ⟨z, e⟩
  · cases h
abbrev lw_yy : ab_S := (.negSucc 2147483647, .ofNat 2147483647, [])
theorem lw_c0 {c : ab_co} {t o dd : Nat} {G : mj_G} {M : mj_M} {Q : mj_P} (hok : ab_ok c) (hp : ab_p c = ([], [(t, 0)], [], [some (.inr (.inr 0))])) (hd : ab_h c ≤ dd) (ho : G o = (t, 0)) (h0 : t ≠ 0) (h1 : t ≠ 1) (h50 : t ≠ 50) (hr : (ab_o c).all (fun po => lw_ii po.1) = true) (hI : ab_Inv G M) (hQ : ∀ z M', ab_Inv G M' → ab_frm (ab_w c) G M M' → Q (some (.inl z)) G M') : mj_R mj_tab (dd + 1) (ab_y c) [.inr (.inr (some o))] G M Q := by
  refine hok dd hd G M (0, hn_g [], 1, fun _ => some o) _ Q (by rw [hp]; exact hn_Y0) (by rw [hp]; exact lw_RR ho h0 h1 h50) (by rw [hp]; exact fun e he => by cases he) (by rw [hp]; exact ⟨_, _, rfl, ⟨Nat.zero_lt_one, rfl⟩, rfl⟩) hI (fun r M' i f ⟨po, hpo, h⟩ => ?_)
  obtain ⟨z, rfl⟩ := lw_r (List.all_eq_true.mp hr po hpo) h
  exact hQ z M' i f
theorem lw_c1 {c : ab_co} {t o dd : Nat} {z1 : Int} {G : mj_G} {M : mj_M} {Q : mj_P} (hok : ab_ok c) (hp : ab_p c = ([lw_yy], [(t, 0)], [], [some (.inr (.inr 0)), some (.inl (.inr (0, 1, .ofNat 0)))])) (hd : ab_h c ≤ dd) (ho : G o = (t, 0)) (h0 : t ≠ 0) (h1 : t ≠ 1) (h50 : t ≠ 50) (hr : (ab_o c).all (fun po => lw_ii po.1) = true) (hI : ab_Inv G M) (hz1 : mj_in z1) (hQ : ∀ z M', ab_Inv G M' → ab_frm (ab_w c) G M M' → Q (some (.inl z)) G M') : mj_R mj_tab (dd + 1) (ab_y c) [.inr (.inr (some o)), .inl z1] G M Q := by
  refine hok dd hd G M (1, hn_g [z1], 1, fun _ => some o) _ Q (by rw [hp]; exact hn_Y1 (hn_ii hz1)) (by rw [hp]; exact lw_RR ho h0 h1 h50) (by rw [hp]; exact fun e he => by cases he) (by rw [hp]; exact ⟨_, _, rfl, ⟨Nat.zero_lt_one, rfl⟩, _, _, rfl, ⟨_, rfl, hn_I (Nat.le_of_ble_eq_true rfl) rfl⟩, rfl⟩) hI (fun r M' i f ⟨po, hpo, h⟩ => ?_)
  obtain ⟨z, rfl⟩ := lw_r (List.all_eq_true.mp hr po hpo) h
  exact hQ z M' i f
theorem lw_c2 {c : ab_co} {t o dd : Nat} {z1 z2 : Int} {G : mj_G} {M : mj_M} {Q : mj_P} (hok : ab_ok c) (hp : ab_p c = ([lw_yy, lw_yy], [(t, 0)], [], [some (.inr (.inr 0)), some (.inl (.inr (0, 1, .ofNat 0))), some (.inl (.inr (1, 1, .ofNat 0)))])) (hd : ab_h c ≤ dd) (ho : G o = (t, 0)) (h0 : t ≠ 0) (h1 : t ≠ 1) (h50 : t ≠ 50) (hr : (ab_o c).all (fun po => lw_ii po.1) = true) (hI : ab_Inv G M) (hz1 : mj_in z1) (hz2 : mj_in z2) (hQ : ∀ z M', ab_Inv G M' → ab_frm (ab_w c) G M M' → Q (some (.inl z)) G M') : mj_R mj_tab (dd + 1) (ab_y c) [.inr (.inr (some o)), .inl z1, .inl z2] G M Q := by
  refine hok dd hd G M (2, hn_g [z1, z2], 1, fun _ => some o) _ Q (by rw [hp]; exact hn_Y2 (hn_ii hz1) (hn_ii hz2)) (by rw [hp]; exact lw_RR ho h0 h1 h50) (by rw [hp]; exact fun e he => by cases he) (by rw [hp]; exact ⟨_, _, rfl, ⟨Nat.zero_lt_one, rfl⟩, _, _, rfl, ⟨_, rfl, hn_I (Nat.le_of_ble_eq_true rfl) rfl⟩, _, _, rfl, ⟨_, rfl, hn_I (Nat.le_of_ble_eq_true rfl) rfl⟩, rfl⟩) hI (fun r M' i f ⟨po, hpo, h⟩ => ?_)
  obtain ⟨z, rfl⟩ := lw_r (List.all_eq_true.mp hr po hpo) h
  exact hQ z M' i f
theorem lw_Y3 {z z2 z3 : Int} {q : Nat × (Nat → Option Nat)} (h : mj_in z) (h2 : mj_in z2) (h3 : mj_in z3) : ab_RY (3, hn_g [z, z2, z3], q) [lw_yy, lw_yy, lw_yy] := hn_Y (zs := [z, z2, z3]) rfl (fun i lo hi r e => by
  cases i with
  | zero => cases e; exact ⟨rfl, hn_ii h⟩
  | succ i => cases i with
    | zero => cases e; exact ⟨rfl, hn_ii h2⟩
    | succ i => cases i with
      | zero => cases e; exact ⟨rfl, hn_ii h3⟩
      | succ i => cases e)
theorem lw_c3 {c : ab_co} {t o dd : Nat} {z1 z2 z3 : Int} {G : mj_G} {M : mj_M} {Q : mj_P} (hok : ab_ok c) (hp : ab_p c = ([lw_yy, lw_yy, lw_yy], [(t, 0)], [], [some (.inr (.inr 0)), some (.inl (.inr (0, 1, .ofNat 0))), some (.inl (.inr (1, 1, .ofNat 0))), some (.inl (.inr (2, 1, .ofNat 0)))])) (hd : ab_h c ≤ dd) (ho : G o = (t, 0)) (h0 : t ≠ 0) (h1 : t ≠ 1) (h50 : t ≠ 50) (hr : (ab_o c).all (fun po => lw_ii po.1) = true) (hI : ab_Inv G M) (hz1 : mj_in z1) (hz2 : mj_in z2) (hz3 : mj_in z3) (hQ : ∀ z M', ab_Inv G M' → ab_frm (ab_w c) G M M' → Q (some (.inl z)) G M') : mj_R mj_tab (dd + 1) (ab_y c) [.inr (.inr (some o)), .inl z1, .inl z2, .inl z3] G M Q := by
  refine hok dd hd G M (3, hn_g [z1, z2, z3], 1, fun _ => some o) _ Q (by rw [hp]; exact lw_Y3 hz1 hz2 hz3) (by rw [hp]; exact lw_RR ho h0 h1 h50) (by rw [hp]; exact fun e he => by cases he) (by rw [hp]; exact ⟨_, _, rfl, ⟨Nat.zero_lt_one, rfl⟩, _, _, rfl, ⟨_, rfl, hn_I (Nat.le_of_ble_eq_true rfl) rfl⟩, _, _, rfl, ⟨_, rfl, hn_I (Nat.le_of_ble_eq_true rfl) rfl⟩, _, _, rfl, ⟨_, rfl, hn_I (Nat.le_of_ble_eq_true rfl) rfl⟩, rfl⟩) hI (fun r M' i f ⟨po, hpo, h⟩ => ?_)
  obtain ⟨z, rfl⟩ := lw_r (List.all_eq_true.mp hr po hpo) h
  exact hQ z M' i f
/-! what the law's loop keeps: both objects, the tape, the reference's codes -/
def lw_V (G : mj_G) (M : mj_M) (x m tp s kp : Nat) : Prop := ab_Inv G M ∧ (G x = (1011, 0) ∧ G m = (1012, 0) ∧ G tp = (1008, 0) ∧ G s = (51100, 537) ∧ G kp = (70100, 1076)) ∧ (M.2.2 x 0 = some tp ∧ M.2.2 m 6 = some s ∧ M.2.2 m 59 = some kp) ∧ hn_F M s 356 ∧ hn_F M kp 356 ∧ hn_F M kp 894
def lw_ck (W : List (Nat × Nat × Nat)) : Bool := W.all (fun q => !(Nat.beq q.1 1011 && Nat.beq q.2.1 0) && (!(Nat.beq q.1 1012 && (Nat.ble q.2.1 6 && Nat.ble 6 q.2.2)) && (!(Nat.beq q.1 1012 && (Nat.ble q.2.1 59 && Nat.ble 59 q.2.2)) && (!(Nat.beq q.1 51100 && Nat.ble 356 q.2.2) && !(Nat.beq q.1 70100)))))
def lw_sz (W : List (Nat × Nat × Nat)) : Bool := W.all (fun q => !(Nat.beq q.1 1008 && (Nat.ble q.2.1 1 && Nat.ble 1 q.2.2)) && !(Nat.beq q.1 1012 && (Nat.ble q.2.1 2 && Nat.ble 2 q.2.2)))
theorem lw_not {a : Bool} (h : (!a) = true) : a ≠ true := fun e => by rw [e] at h; cases h
theorem lw_V.fr {W : List (Nat × Nat × Nat)} {G : mj_G} {M M' : mj_M} {x m tp s kp : Nat} (hV : lw_V G M x m tp s kp) (hI : ab_Inv G M') (f : ab_frm W G M M') (hc : lw_ck W = true) : lw_V G M' x m tp s kp := by
  obtain ⟨-, ⟨g1, g2, g3, g4, g5⟩, ⟨r1, r2, r3⟩, f1, f2, f3⟩ := hV
  have ck : ∀ q ∈ W, ¬ (q.1 = 1011 ∧ q.2.1 = 0) ∧ ¬ (q.1 = 1012 ∧ q.2.1 ≤ 6 ∧ 6 ≤ q.2.2) ∧ ¬ (q.1 = 1012 ∧ q.2.1 ≤ 59 ∧ 59 ≤ q.2.2) ∧ ¬ (q.1 = 51100 ∧ 356 ≤ q.2.2) ∧ q.1 ≠ 70100 := fun q hq => by
    have h := List.all_eq_true.mp hc q hq
    obtain ⟨h1, h⟩ := sx_nd h
    obtain ⟨h2, h⟩ := sx_nd h
    obtain ⟨h3, h⟩ := sx_nd h
    obtain ⟨h4, h5⟩ := sx_nd h
    refine ⟨fun e => lw_not h1 ?_, fun e => lw_not h2 ?_, fun e => lw_not h3 ?_, fun e => lw_not h4 ?_, fun e => lw_not h5 ?_⟩
    · rw [e.1, e.2]; rfl
    · rw [e.1, Nat.ble_eq_true_of_le e.2.1, Nat.ble_eq_true_of_le e.2.2]; rfl
    · rw [e.1, Nat.ble_eq_true_of_le e.2.1, Nat.ble_eq_true_of_le e.2.2]; rfl
    · rw [e.1, Nat.ble_eq_true_of_le e.2]; rfl
    · rw [e]; rfl
  refine ⟨hI, ⟨g1, g2, g3, g4, g5⟩, ⟨?_, ?_, ?_⟩, ?_, ?_, ?_⟩
  · rw [(f x 0 (by rw [g1]; rintro ⟨q, hq, q1, q2, q3⟩; exact (ck q hq).1 ⟨q1, by omega⟩)).2]; exact r1
  · rw [(f m 6 (by rw [g2]; rintro ⟨q, hq, q1, q2, q3⟩; exact (ck q hq).2.1 ⟨q1, q2, q3⟩)).2]; exact r2
  · rw [(f m 59 (by rw [g2]; rintro ⟨q, hq, q1, q2, q3⟩; exact (ck q hq).2.2.1 ⟨q1, q2, q3⟩)).2]; exact r3
  · exact f1.cg (fun k hk => (f s k (by rw [g4]; rintro ⟨q, hq, q1, q2, q3⟩; exact (ck q hq).2.2.2.1 ⟨q1, by omega⟩)).1)
  · exact f2.cg (fun k hk => (f kp k (by rw [g5]; rintro ⟨q, hq, q1, q2, q3⟩; exact (ck q hq).2.2.2.2 q1)).1)
  · exact f3.cg (fun k hk => (f kp k (by rw [g5]; rintro ⟨q, hq, q1, q2, q3⟩; exact (ck q hq).2.2.2.2 q1)).1)
theorem lw_V.sz {W : List (Nat × Nat × Nat)} {G : mj_G} {M M' : mj_M} {x m tp s kp : Nat} (hV : lw_V G M x m tp s kp) (f : ab_frm W G M M') (hc : lw_sz W = true) : M'.1 tp 1 = M.1 tp 1 ∧ M'.1 m 2 = M.1 m 2 := by
  obtain ⟨-, ⟨g1, g2, g3, g4, g5⟩, -⟩ := hV
  have ck : ∀ q ∈ W, ¬ (q.1 = 1008 ∧ q.2.1 ≤ 1 ∧ 1 ≤ q.2.2) ∧ ¬ (q.1 = 1012 ∧ q.2.1 ≤ 2 ∧ 2 ≤ q.2.2) := fun q hq => by
    have h := List.all_eq_true.mp hc q hq
    obtain ⟨h1, h2⟩ := sx_nd h
    refine ⟨fun e => lw_not h1 ?_, fun e => lw_not h2 ?_⟩
    · rw [e.1, Nat.ble_eq_true_of_le e.2.1, Nat.ble_eq_true_of_le e.2.2]; rfl
    · rw [e.1, Nat.ble_eq_true_of_le e.2.1, Nat.ble_eq_true_of_le e.2.2]; rfl
  exact ⟨(f tp 1 (by rw [g3]; rintro ⟨q, hq, q1, q2, q3⟩; exact (ck q hq).1 ⟨q1, q2, q3⟩)).1, (f m 2 (by rw [g2]; rintro ⟨q, hq, q1, q2, q3⟩; exact (ck q hq).2 ⟨q1, q2, q3⟩)).1⟩
