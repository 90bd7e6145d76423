/-! ===== the reference's plain, sentence, said keep the loop's invariant ===== -/
def lw_ck2 (W : List (Nat × Nat × Nat)) : Bool := W.all (fun q => !(Nat.beq q.1 1011) && (!(Nat.beq q.1 1012 && (Nat.ble q.2.1 6 && Nat.ble 6 q.2.2)) && (!(Nat.beq q.1 1012 && (Nat.ble q.2.1 59 && Nat.ble 59 q.2.2)) && (!(Nat.beq q.1 1008) && !(Nat.beq q.1 70100)))))
theorem lw_V.fs {W : List (Nat × Nat × Nat)} {G : mj_G} {M M' : mj_M} {x m tp s kp : Nat} (hV : lw_V G M x m tp s kp) (hI : ab_Inv G M') (f : ab_frm W G M M') (hc : lw_ck2 W = true) (hF : hn_F M' s 356) : lw_V G M' x m tp s kp ∧ M'.1 tp 1 = M.1 tp 1 := by
  obtain ⟨-, ⟨g1, g2, g3, g4, g5⟩, ⟨r1, r2, r3⟩, f1, f2, f3⟩ := hV
  have ck : ∀ q ∈ W, q.1 ≠ 1011 ∧ ¬ (q.1 = 1012 ∧ q.2.1 ≤ 6 ∧ 6 ≤ q.2.2) ∧ ¬ (q.1 = 1012 ∧ q.2.1 ≤ 59 ∧ 59 ≤ q.2.2) ∧ q.1 ≠ 1008 ∧ q.1 ≠ 70100 := fun q hq => by
    have h := List.all_eq_true.mp hc q hq
    obtain ⟨h1, h⟩ := sx_nd h
    obtain ⟨h2, h⟩ := sx_nd h
    obtain ⟨h3, h⟩ := sx_nd h
    obtain ⟨h4, h5⟩ := sx_nd h
    refine ⟨fun e => lw_not h1 ?_, fun e => lw_not h2 ?_, fun e => lw_not h3 ?_, fun e => lw_not h4 ?_, fun e => lw_not h5 ?_⟩
    · rw [e]; rfl
    · rw [e.1, Nat.ble_eq_true_of_le e.2.1, Nat.ble_eq_true_of_le e.2.2]; rfl
    · rw [e.1, Nat.ble_eq_true_of_le e.2.1, Nat.ble_eq_true_of_le e.2.2]; rfl
    · rw [e]; rfl
    · rw [e]; rfl
  refine ⟨⟨hI, ⟨g1, g2, g3, g4, g5⟩, ⟨?_, ?_, ?_⟩, hF, ?_, ?_⟩, ?_⟩
  · rw [(f x 0 (by rw [g1]; rintro ⟨q, hq, q1, q2, q3⟩; exact (ck q hq).1 q1)).2]; exact r1
  · rw [(f m 6 (by rw [g2]; rintro ⟨q, hq, q1, q2, q3⟩; exact (ck q hq).2.1 ⟨q1, q2, q3⟩)).2]; exact r2
  · rw [(f m 59 (by rw [g2]; rintro ⟨q, hq, q1, q2, q3⟩; exact (ck q hq).2.2.1 ⟨q1, q2, q3⟩)).2]; exact r3
  · exact f2.cg (fun k hk => (f kp k (by rw [g5]; rintro ⟨q, hq, q1, q2, q3⟩; exact (ck q hq).2.2.2.2 q1)).1)
  · exact f3.cg (fun k hk => (f kp k (by rw [g5]; rintro ⟨q, hq, q1, q2, q3⟩; exact (ck q hq).2.2.2.2 q1)).1)
  · exact (f tp 1 (by rw [g3]; rintro ⟨q, hq, q1, q2, q3⟩; exact (ck q hq).2.2.2.1 q1)).1
theorem lc_X12_plain {d x m tp s kp : Nat} {G : mj_G} {M : mj_M} {Q : mj_P} (hV : lw_V G M x m tp s kp) (hQ : ∀ z M', lw_V G M' x m tp s kp → M'.1 m 2 = 0 → M'.1 tp 1 = M.1 tp 1 → ab_frm hn_WP G M M' → Q (some (.inl z)) G M') : mj_R mj_tab (d + 31) 226 [.inr (.inr (some m))] G M Q :=
  r_plain (d := d + 25) hV.2.1.2.1 hV.2.1.2.2.2.1 hV.2.2.1.2.1 hV.1 hV.2.2.2.1 (fun z M' i f e2 hF => hQ z M' (hV.fs i f (by decide +kernel) hF).1 e2 (hV.fs i f (by decide +kernel) hF).2 f)
theorem lc_X12_sentence {d x m tp s kp : Nat} {G : mj_G} {M : mj_M} {Q : mj_P} (hV : lw_V G M x m tp s kp) (hQ : ∀ z M', lw_V G M' x m tp s kp → M'.1 m 2 = 0 → M'.1 tp 1 = M.1 tp 1 → ab_frm hn_WX G M M' → Q (some (.inl z)) G M') : mj_R mj_tab (d + 31) 239 [.inr (.inr (some m))] G M Q :=
  r_sentence (d := d + 27) hV.2.1.2.1 hV.2.1.2.2.2.1 hV.2.2.1.2.1 hV.1 hV.2.2.2.1 (fun z M' i hX => hQ z M' (hV.fs i hX.1 (by decide +kernel) hX.2.2.1).1 hX.2.1 (hV.fs i hX.1 (by decide +kernel) hX.2.2.1).2 hX.1)
theorem lc_X12_said {d x m tp s kp : Nat} {z1 : Int} {G : mj_G} {M : mj_M} {Q : mj_P} (hV : lw_V G M x m tp s kp) (hQ : ∀ z M', lw_V G M' x m tp s kp → (M'.1 tp 1 = M.1 tp 1 ∧ M'.1 m 2 = M.1 m 2) → ab_frm hn_WD G M M' → Q (some (.inl z)) G M') : mj_R mj_tab (d + 31) 238 [.inr (.inr (some m)), .inl z1] G M Q :=
  r_said (d := d + 27) hV.2.1.2.1 hV.2.1.2.2.2.1 hV.2.2.1.2.1 hV.1 hV.2.2.2.1 (fun z M' i f => hQ z M' (hV.fr i f (by decide +kernel)) (hV.sz f (by decide +kernel)) f)
