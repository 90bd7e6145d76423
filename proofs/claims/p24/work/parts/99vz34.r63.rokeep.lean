/-! ===== what ROUNDS keep, on both sides; has, price (laid by a program) ===== -/
def lq_Ro (G : mj_G) (M : mj_M) (x m : Nat) (w : Nat → Nat) : Prop := ro_GA G w ∧ ro_GB M w x m ∧ M.1 (w 146) 0 = M.1 m 44 ∧ (0 ≤ M.1 m 43 ∧ M.1 m 43 ≤ 8) ∧ (M.1 m 44 ≠ 0 → (∀ k, k < 8 → M.1 (w 147) k = M.1 (w 349) k) ∧ (∀ k, k < 12 → M.1 (w 148) k = M.1 (w 350) k) ∧ (∀ k : Nat, M.1 m 43 ≤ (k : Int) → k < 8 → M.1 (w 349) k = -1))
abbrev lq_Roc (W : List (Nat × Nat × Nat)) : Prop := ∀ q ∈ W, q.1 ≠ 31100 ∧ q.1 ≠ 32100 ∧ q.1 ≠ 62100 ∧ q.1 ≠ 63100 ∧ ¬ (q.1 = 1005 ∧ q.2.1 ≤ 3) ∧ ¬ (q.1 = 1011 ∧ q.2.1 ≤ 7 ∧ 7 ≤ q.2.2) ∧ ¬ (q.1 = 1012 ∧ q.2.1 ≤ 44 ∧ 41 ≤ q.2.2)
section LRO
variable {G : mj_G} {M M' : mj_M} {x m : Nat} {w : Nat → Nat} {W : List (Nat × Nat × Nat)}
theorem lq_Ro.go (h : lq_Ro G M x m w) (gx : G x = (1011, 0)) (gm : G m = (1012, 0)) (f : ab_frm W G M M') (c : lq_Roc W) : lq_Ro G M' x m w := by
  obtain ⟨ga, ⟨b1, b2, b3, b4, b5, b6⟩, h1, h2, h3⟩ := h
  have ec : ∀ a, G a = (31100, 8) ∨ G a = (32100, 12) ∨ G a = (62100, 8) ∨ G a = (63100, 12) → M'.1 a = M.1 a := fun a ha => funext fun k => (f a k (by
    rintro ⟨r, hr, e1, -⟩
    rcases ha with ha | ha | ha | ha <;> rw [ha] at e1
    · exact (c r hr).1 e1
    · exact (c r hr).2.1 e1
    · exact (c r hr).2.2.1 e1
    · exact (c r hr).2.2.2.1 e1)).1
  have e7 := ec _ (Or.inl ga.2.1)
  have e8 := ec _ (Or.inr (Or.inl ga.2.2.1))
  have eh := ec _ (Or.inr (Or.inr (Or.inl ga.2.2.2.2.1)))
  have ep := ec _ (Or.inr (Or.inr (Or.inr ga.2.2.2.2.2)))
  have e6 : ∀ k, k < 4 → M'.1 (w 146) k = M.1 (w 146) k ∧ M'.2.2 (w 146) k = M.2.2 (w 146) k := fun k hk => f _ k (by
    rw [ga.1]; rintro ⟨r, hr, e1, e2, e3⟩; exact (c r hr).2.2.2.2.1 ⟨e1, by omega⟩)
  have em : ∀ k, 41 ≤ k → k ≤ 44 → M'.1 m k = M.1 m k ∧ M'.2.2 m k = M.2.2 m k := fun k h1 h2 => f _ k (by
    rw [gm]; rintro ⟨r, hr, e1, e2, e3⟩; exact (c r hr).2.2.2.2.2.2 ⟨e1, by omega, by omega⟩)
  have ex : M'.2.2 x 7 = M.2.2 x 7 := (f _ 7 (by
    rw [gx]; rintro ⟨r, hr, e1, e2, e3⟩; exact (c r hr).2.2.2.2.2.1 ⟨e1, e2, e3⟩)).2
  refine ⟨ga, ⟨ex.trans b1, (e6 1 (by decide)).2.trans b2, (e6 2 (by decide)).2.trans b3, (e6 3 (by decide)).2.trans b4, (em 41 (by decide) (by decide)).2.trans b5, (em 42 (by decide) (by decide)).2.trans b6⟩, ?_, ?_, ?_⟩
  · rw [(e6 0 (by decide)).1, (em 44 (by decide) (by decide)).1]; exact h1
  · rw [(em 43 (by decide) (by decide)).1]; exact h2
  · rw [(em 44 (by decide) (by decide)).1, (em 43 (by decide) (by decide)).1, e7, e8, eh, ep]; exact h3
theorem lq_Ro.mv (h : lq_Ro G M x m w) (e1 : M'.1 = M.1) (e2 : M'.2.2 = M.2.2) : lq_Ro G M' x m w := by
  unfold lq_Ro ro_GB; rw [e1, e2]; exact h
end LRO
abbrev ro_q (H : Nat → Int) (z1 : Int) : Int × (Nat → Int) × (Nat → Int) := ro_rs H (H 0).toNat z1 1000 0 (fun _ => -1) (fun _ => 0)
abbrev ro_ok (H : Nat → Int) (z1 : Int) : Prop := (1 ≤ z1 ∧ z1 ≤ 99) ∧ H 0 ≠ 0
/-- between rounds of the class and of the reference -/
def lq_Rm (G : mj_G) (M : mj_M) (x m : Nat) (w : Nat → Nat) (z1 : Int) (H : Nat → Int) : Prop := ro_GA G w ∧ ro_GB M w x m ∧ (¬ ro_ok H z1 → lq_Ro G M x m w) ∧ (ro_ok H z1 → M.1 (w 146) 0 = 1 ∧ (∀ k, k < 8 → M.1 (w 147) k = (ro_q H z1).2.1 k) ∧ (∀ k, k < 12 → M.1 (w 148) k = (ro_q H z1).2.2 k) ∧ ro_I (H 0).toNat (ro_q H z1).2.1 (ro_q H z1).2.2)
theorem lq_ro1 {G : mj_G} {M : mj_M} {x m tp s kp bc bt kc kr : Nat} {w : Nat → Nat} {z1 : Int} (hI : lp_I G M x m tp s kp bc bt kc kr w) (hE : lq_Ro G M x m w) (hz1 : mj_in z1) : mj_R mj_tab 40 145 [.inr (.inr (some x)), .inl z1] G M (fun r G' M' => ∃ z, r = some (.inl z) ∧ G' = G ∧ (z = lr_rounds (M.1 s) z1 ∧ M'.1 s = M.1 s ∧ lq_Rm G M' x m w z1 (M.1 s))) := by
  obtain ⟨hA, hB, p, q, hN, hG6, -⟩ := hI.J
  have ga := hE.1
  have gs := hI.gs
  refine r_X11_rounds (d := 36) ga hE.2.1 hA hB hN hG6 hI.2.2.2.2.1.1 hI.gx hz1 (fun h0 => ?_) (fun h0 OW' M' hC hi => ?_)
  · exact ⟨-1, rfl, rfl, by unfold lr_rounds; rw [if_neg h0], rfl, ga, hE.2.1, fun _ => hE, fun h => absurd h h0⟩
  · refine ⟨_, rfl, rfl, by unfold lr_rounds; rw [if_pos h0], hC.2.1 s ⟨hn_ne gs ga.1 (by decide), hn_ne gs ga.2.1 (by decide), hn_ne gs ga.2.2.1 (by decide), hn_ne gs ga.2.2.2.1 (by decide)⟩, ga, ?_, fun h => absurd h0 h, fun _ => ⟨hC.2.2.1, hC.2.2.2.1, hC.2.2.2.2.1, hi⟩⟩
    have e2 : M'.2.2 = M.2.2 := by rw [hC.1]
    unfold ro_GB; rw [e2]; exact hE.2.1
theorem lq_ro2 {G : mj_G} {M : mj_M} {x m tp s kp bc bt kc kr : Nat} {w : Nat → Nat} {z1 : Int} (hI : lp_I G M x m tp s kp bc bt kc kr w) (hE : lq_Rm G M x m w z1 (M.1 s)) (hz1 : mj_in z1) : mj_R mj_tab 40 236 [.inr (.inr (some m)), .inl z1] G M (fun r G' M' => ∃ z, r = some (.inl z) ∧ G' = G ∧ (z = lr_rounds (M.1 s) z1 ∧ lq_Ro G M' x m w)) := by
  obtain ⟨ga, gb, hno, hyes⟩ := hE
  have gm := hI.gm
  have gs := hI.gs
  refine r_X12_rounds (d := 38) ga gb gm gs hI.m6 hI.2.2.2.2.1.1 hz1 (fun h0 => ?_) (fun h0 M' hD hi => ?_)
  · obtain ⟨-, -, k1, k2, k3⟩ := hno h0
    have o : ∀ a, a ≠ m → (mj_p0 M m 0 0).1 a = M.1 a := fun a ha => wz_c ha
    have n1 := o _ (hn_ne ga.1 gm (by decide))
    have n2 := o _ (hn_ne ga.2.1 gm (by decide))
    have n3 := o _ (hn_ne ga.2.2.1 gm (by decide))
    have n4 := o _ (hn_ne ga.2.2.2.2.1 gm (by decide))
    have n5 := o _ (hn_ne ga.2.2.2.2.2 gm (by decide))
    have m3 : (mj_p0 M m 0 0).1 m 43 = M.1 m 43 := hn_n (Or.inr (by decide))
    have m4 : (mj_p0 M m 0 0).1 m 44 = M.1 m 44 := hn_n (Or.inr (by decide))
    exact ⟨-1, rfl, rfl, by unfold lr_rounds; rw [if_neg h0], ga, gb, by rw [n1, m4]; exact k1, by rw [m3]; exact k2, by rw [m4, m3, n2, n3, n4, n5]; exact k3⟩
  · obtain ⟨k1, k2, k3, k4⟩ := hyes h0
    have o : ∀ a, a ≠ m → a ≠ w 349 → a ≠ w 350 → M'.1 a = M.1 a := fun a h1 h2 h3 => hD.2.1 a ⟨h1, h2, h3⟩
    have n1 := o _ (hn_ne ga.1 gm (by decide)) (hn_ne ga.1 ga.2.2.2.2.1 (by decide)) (hn_ne ga.1 ga.2.2.2.2.2 (by decide))
    have n2 := o _ (hn_ne ga.2.1 gm (by decide)) (hn_ne ga.2.1 ga.2.2.2.2.1 (by decide)) (hn_ne ga.2.1 ga.2.2.2.2.2 (by decide))
    have n3 := o _ (hn_ne ga.2.2.1 gm (by decide)) (hn_ne ga.2.2.1 ga.2.2.2.2.1 (by decide)) (hn_ne ga.2.2.1 ga.2.2.2.2.2 (by decide))
    have b0 := hI.b0
    have m3 := hD.2.2.2.2.2.1
    have m4 := hD.2.2.2.2.2.2
    refine ⟨_, rfl, rfl, by unfold lr_rounds; rw [if_pos h0], ga, ?_, by rw [n1, m4]; exact k1, by rw [m3]; exact b0, fun _ => ⟨fun k hk => ?_, fun k hk => ?_, fun k hk h8 => ?_⟩⟩
    · have e2 : M'.2.2 = M.2.2 := by rw [hD.1]
      unfold ro_GB; rw [e2]; exact gb
    · rw [n2, hD.2.2.1 k hk]; exact k2 k hk
    · rw [n3, hD.2.2.2.1 k hk]; exact k3 k hk
    · rw [hD.2.2.1 k h8]
      rw [m3] at hk
      exact ((k4.1 k h8).2.2).elim (fun q => by omega) id
def lr_has (Mm HM : Nat → Int) (z1 : Int) : Int := if Mm 44 ≠ 0 ∧ 0 ≤ z1 ∧ z1 ≤ Mm 43 - 1 then HM z1.toNat else -1
def lr_price (Mm PR : Nat → Int) (z1 : Int) : Int := if Mm 44 ≠ 0 ∧ 0 ≤ z1 ∧ z1 ≤ 11 then PR z1.toNat else -1
theorem lr_X11_has {G : mj_G} {M : mj_M} {x m tp s kp bc bt kc kr : Nat} {w : Nat → Nat} {z1 : Int} (hI : lp_I G M x m tp s kp bc bt kc kr w) (hE : lq_Ro G M x m w) (hz1 : mj_in z1) : mj_R mj_tab 40 126 [.inr (.inr (some x)), .inl z1] G M (fun r _ _ => r = some (.inl (lr_has (M.1 m) (M.1 (w 349)) z1))) := by
  have gx := hI.gx
  have gm := hI.gm
  have ga := hE.1
  have gb := hE.2.1
  have b43 := hE.2.2.2.1
  have bz1 : (-2147483648 : Int) ≤ z1 ∧ z1 < 2147483648 := hz1
  refine ⟨Nat.le_of_ble_eq_true rfl, ?_⟩
  show wz 39 mt_X11_has.2.2.2.2.1 _ mt_X11_has.2.2.2.2.1 [some (.inr (.inr (some x))), some (.inl z1)] [] G M _ _
  refine w_iln rfl ?_
  refine w_iflt (fun c1 => ?_) (fun c1 => ?_)
  · skip
    refine w_ic ?_
    exact w_iret (fun q => by cases q) (by show some (Sum.inl _) = some (Sum.inl _); unfold lr_has; rw [if_neg (by omega)])
  · skip
    refine w_iln rfl ?_
    refine w_bp ?_
    refine w_cmge (fun c2 => ?_) (fun c2 => ?_)
    · skip
      refine w_ic ?_
      exact w_iret (fun q => by cases q) (by show some (Sum.inl _) = some (Sum.inl _); unfold lr_has; rw [if_neg (by omega)])
    · skip
      refine w_aln rfl ?_
      refine w_gr gx rfl (by decide) rfl (gb.1) ?_
      refine w_gi ga.1 rfl (by decide) rfl (hE.2.2.1) ?_
      refine w_ifeq (fun c3 => ?_) (fun c3 => ?_)
      · skip
        refine w_ic ?_
        exact w_iret (fun q => by cases q) (by show some (Sum.inl _) = some (Sum.inl _); unfold lr_has; rw [if_neg (by omega)])
      · skip
        refine w_aln rfl ?_
        refine w_gr gx rfl (by decide) rfl (gb.1) ?_
        refine w_gr ga.1 rfl (by decide) rfl (gb.2.1) ?_
        refine w_iln rfl ?_
        refine w_iald (v := (M.1 (w 349) z1.toNat)) ga.2.1 rfl (by show (0 : Int) ≤ z1; omega) (by show z1 < ((8 : Nat) : Int); omega) ((hE.2.2.2.2 (by omega)).1 _ (by show z1.toNat < 8; omega)) ?_
        refine w_goto ?_
        have e9 : (M.1 (w 349) z1.toNat) = lr_has (M.1 m) (M.1 (w 349)) z1 := by
          unfold lr_has
          split
          · rfl
          · exact (hE.2.2.2.2 (by omega)).2.2 _ (by omega) (by omega)
        rw [e9]
        exact w_iret (fun q => by cases q) rfl
theorem lr_X12_has {G : mj_G} {M : mj_M} {x m tp s kp bc bt kc kr : Nat} {w : Nat → Nat} {z1 : Int} (hI : lp_I G M x m tp s kp bc bt kc kr w) (hE : lq_Ro G M x m w) (hz1 : mj_in z1) : mj_R mj_tab 40 193 [.inr (.inr (some m)), .inl z1] G M (fun r _ _ => r = some (.inl (lr_has (M.1 m) (M.1 (w 349)) z1))) := by
  have gx := hI.gx
  have gm := hI.gm
  have ga := hE.1
  have gb := hE.2.1
  have b43 := hE.2.2.2.1
  have bz1 : (-2147483648 : Int) ≤ z1 ∧ z1 < 2147483648 := hz1
  refine ⟨Nat.le_of_ble_eq_true rfl, ?_⟩
  show wz 39 mt_X12_has.2.2.2.2.1 _ mt_X12_has.2.2.2.2.1 [some (.inr (.inr (some m))), some (.inl z1)] [] G M _ _
  refine w_aln rfl ?_
  refine w_ic ?_
  refine w_pi gm rfl (by decide) rfl (fun q => by cases q) ?_
  refine w_aln rfl ?_
  refine w_gi gm rfl (by decide) rfl (hn_n (Or.inr (by decide))) ?_
  refine w_ifeq (fun c1 => ?_) (fun c1 => ?_)
  · skip
    refine w_ic ?_
    exact w_iret (fun q => by cases q) (by show some (Sum.inl _) = some (Sum.inl _); unfold lr_has; rw [if_neg (by omega)])
  · skip
    refine w_iln rfl ?_
    refine w_ic ?_
    refine w_aln rfl ?_
    refine w_gi gm rfl (by decide) rfl (hn_n (Or.inr (by decide))) ?_
    refine w_ic ?_
    refine w_sub ⟨by show (-2147483648 : Int) ≤ (M.1 m 43) - 1; omega, by show (M.1 m 43) - 1 < (2147483648 : Int); omega⟩ ?_
    refine w_cs (st := []) rfl (Nat.le_of_ble_eq_true rfl) (fun kk h => h) ⟨Nat.le_of_ble_eq_true rfl, ?_⟩
    show wz (38) mt_X12_isIn.2.2.2.2.1 _ mt_X12_isIn.2.2.2.2.1 [some (.inl z1), some (.inl 0), some (.inl ((M.1 m 43) - 1))] [] _ _ _ _
    refine w_iln rfl ?_
    refine w_iln rfl ?_
    refine w_cmlt (fun c2 => ?_) (fun c2 => ?_)
    · skip
      refine w_ic ?_
      refine w_iret (fun _ => Or.inl rfl) ?_
      refine w_ifeq (fun c3 => ?_) (fun c3 => ?_)
      · skip
        refine w_ic ?_
        exact w_iret (fun q => by cases q) (by show some (Sum.inl _) = some (Sum.inl _); unfold lr_has; rw [if_neg (by omega)])
      · exfalso; omega
    · skip
      refine w_iln rfl ?_
      refine w_iln rfl ?_
      refine w_cmgt (fun c4 => ?_) (fun c4 => ?_)
      · skip
        refine w_ic ?_
        refine w_iret (fun _ => Or.inl rfl) ?_
        refine w_ifeq (fun c5 => ?_) (fun c5 => ?_)
        · skip
          refine w_ic ?_
          exact w_iret (fun q => by cases q) (by show some (Sum.inl _) = some (Sum.inl _); unfold lr_has; rw [if_neg (by omega)])
        · exfalso; omega
      · skip
        refine w_ic ?_
        refine w_goto ?_
        refine w_iret (fun _ => Or.inr rfl) ?_
        refine w_ifeq (fun c6 => ?_) (fun c6 => ?_)
        · exfalso; omega
        · skip
          refine w_aln rfl ?_
          refine w_gr gm rfl (by decide) rfl (gb.2.2.2.2.1) ?_
          refine w_iln rfl ?_
          refine w_iald (v := (M.1 (w 349) z1.toNat)) ga.2.2.2.2.1 rfl (by show (0 : Int) ≤ z1; omega) (by show z1 < ((8 : Nat) : Int); omega) (hn_n (Or.inl (hn_ne ga.2.2.2.2.1 gm (by decide)))) ?_
          refine w_goto ?_
          exact w_iret (fun q => by cases q) (by show some (Sum.inl _) = some (Sum.inl _); unfold lr_has; rw [if_pos (by omega)])
theorem lr_X11_price {G : mj_G} {M : mj_M} {x m tp s kp bc bt kc kr : Nat} {w : Nat → Nat} {z1 : Int} (hI : lp_I G M x m tp s kp bc bt kc kr w) (hE : lq_Ro G M x m w) (hz1 : mj_in z1) : mj_R mj_tab 40 140 [.inr (.inr (some x)), .inl z1] G M (fun r _ _ => r = some (.inl (lr_price (M.1 m) (M.1 (w 350)) z1))) := by
  have gx := hI.gx
  have gm := hI.gm
  have ga := hE.1
  have gb := hE.2.1
  have b43 := hE.2.2.2.1
  have bz1 : (-2147483648 : Int) ≤ z1 ∧ z1 < 2147483648 := hz1
  refine ⟨Nat.le_of_ble_eq_true rfl, ?_⟩
  show wz 39 mt_X11_price.2.2.2.2.1 _ mt_X11_price.2.2.2.2.1 [some (.inr (.inr (some x))), some (.inl z1)] [] G M _ _
  refine w_iln rfl ?_
  refine w_cs (st := []) rfl (Nat.le_of_ble_eq_true rfl) (fun kk h => h) ⟨Nat.le_of_ble_eq_true rfl, ?_⟩
  show wz (38) mt_X11_isMonth.2.2.2.2.1 _ mt_X11_isMonth.2.2.2.2.1 [some (.inl z1)] [] _ _ _ _
  refine w_iln rfl ?_
  refine w_iflt (fun c1 => ?_) (fun c1 => ?_)
  · skip
    refine w_ic ?_
    refine w_iret (fun _ => Or.inl rfl) ?_
    refine w_ifeq (fun c2 => ?_) (fun c2 => ?_)
    · skip
      refine w_ic ?_
      exact w_iret (fun q => by cases q) (by show some (Sum.inl _) = some (Sum.inl _); unfold lr_price; rw [if_neg (by omega)])
    · exfalso; omega
  · skip
    refine w_iln rfl ?_
    refine w_bp ?_
    refine w_cmge (fun c3 => ?_) (fun c3 => ?_)
    · skip
      refine w_ic ?_
      refine w_iret (fun _ => Or.inl rfl) ?_
      refine w_ifeq (fun c4 => ?_) (fun c4 => ?_)
      · skip
        refine w_ic ?_
        exact w_iret (fun q => by cases q) (by show some (Sum.inl _) = some (Sum.inl _); unfold lr_price; rw [if_neg (by omega)])
      · exfalso; omega
    · skip
      refine w_ic ?_
      refine w_goto ?_
      refine w_iret (fun _ => Or.inr rfl) ?_
      refine w_ifeq (fun c5 => ?_) (fun c5 => ?_)
      · exfalso; omega
      · skip
        refine w_aln rfl ?_
        refine w_gr gx rfl (by decide) rfl (gb.1) ?_
        refine w_gi ga.1 rfl (by decide) rfl (hE.2.2.1) ?_
        refine w_ifeq (fun c6 => ?_) (fun c6 => ?_)
        · skip
          refine w_ic ?_
          exact w_iret (fun q => by cases q) (by show some (Sum.inl _) = some (Sum.inl _); unfold lr_price; rw [if_neg (by omega)])
        · skip
          refine w_aln rfl ?_
          refine w_gr gx rfl (by decide) rfl (gb.1) ?_
          refine w_gr ga.1 rfl (by decide) rfl (gb.2.2.1) ?_
          refine w_iln rfl ?_
          refine w_iald (v := (M.1 (w 350) z1.toNat)) ga.2.2.1 rfl (by show (0 : Int) ≤ z1; omega) (by show z1 < ((12 : Nat) : Int); omega) ((hE.2.2.2.2 (by omega)).2.1 _ (by show z1.toNat < 12; omega)) ?_
          refine w_goto ?_
          exact w_iret (fun q => by cases q) (by show some (Sum.inl _) = some (Sum.inl _); unfold lr_price; rw [if_pos (by omega)])
theorem lr_X12_price {G : mj_G} {M : mj_M} {x m tp s kp bc bt kc kr : Nat} {w : Nat → Nat} {z1 : Int} (hI : lp_I G M x m tp s kp bc bt kc kr w) (hE : lq_Ro G M x m w) (hz1 : mj_in z1) : mj_R mj_tab 40 228 [.inr (.inr (some m)), .inl z1] G M (fun r _ _ => r = some (.inl (lr_price (M.1 m) (M.1 (w 350)) z1))) := by
  have gx := hI.gx
  have gm := hI.gm
  have ga := hE.1
  have gb := hE.2.1
  have b43 := hE.2.2.2.1
  have bz1 : (-2147483648 : Int) ≤ z1 ∧ z1 < 2147483648 := hz1
  refine ⟨Nat.le_of_ble_eq_true rfl, ?_⟩
  show wz 39 mt_X12_price.2.2.2.2.1 _ mt_X12_price.2.2.2.2.1 [some (.inr (.inr (some m))), some (.inl z1)] [] G M _ _
  refine w_aln rfl ?_
  refine w_ic ?_
  refine w_pi gm rfl (by decide) rfl (fun q => by cases q) ?_
  refine w_aln rfl ?_
  refine w_gi gm rfl (by decide) rfl (hn_n (Or.inr (by decide))) ?_
  refine w_ifeq (fun c1 => ?_) (fun c1 => ?_)
  · skip
    refine w_ic ?_
    exact w_iret (fun q => by cases q) (by show some (Sum.inl _) = some (Sum.inl _); unfold lr_price; rw [if_neg (by omega)])
  · skip
    refine w_iln rfl ?_
    refine w_cs (st := []) rfl (Nat.le_of_ble_eq_true rfl) (fun kk h => h) ⟨Nat.le_of_ble_eq_true rfl, ?_⟩
    show wz (38) mt_X12_isMonth.2.2.2.2.1 _ mt_X12_isMonth.2.2.2.2.1 [some (.inl z1)] [] _ _ _ _
    refine w_iln rfl ?_
    refine w_ic ?_
    refine w_bp ?_
    refine w_cs (st := []) rfl (Nat.le_of_ble_eq_true rfl) (fun kk h => h) ⟨Nat.le_of_ble_eq_true rfl, ?_⟩
    show wz (37) mt_X12_isIn.2.2.2.2.1 _ mt_X12_isIn.2.2.2.2.1 [some (.inl z1), some (.inl 0), some (.inl 11)] [] _ _ _ _
    refine w_iln rfl ?_
    refine w_iln rfl ?_
    refine w_cmlt (fun c2 => ?_) (fun c2 => ?_)
    · skip
      refine w_ic ?_
      refine w_iret (fun _ => Or.inl rfl) ?_
      refine w_iret (fun _ => Or.inl rfl) ?_
      refine w_ifeq (fun c3 => ?_) (fun c3 => ?_)
      · skip
        refine w_ic ?_
        exact w_iret (fun q => by cases q) (by show some (Sum.inl _) = some (Sum.inl _); unfold lr_price; rw [if_neg (by omega)])
      · exfalso; omega
    · skip
      refine w_iln rfl ?_
      refine w_iln rfl ?_
      refine w_cmgt (fun c4 => ?_) (fun c4 => ?_)
      · skip
        refine w_ic ?_
        refine w_iret (fun _ => Or.inl rfl) ?_
        refine w_iret (fun _ => Or.inl rfl) ?_
        refine w_ifeq (fun c5 => ?_) (fun c5 => ?_)
        · skip
          refine w_ic ?_
          exact w_iret (fun q => by cases q) (by show some (Sum.inl _) = some (Sum.inl _); unfold lr_price; rw [if_neg (by omega)])
        · exfalso; omega
      · skip
        refine w_ic ?_
        refine w_goto ?_
        refine w_iret (fun _ => Or.inr rfl) ?_
        refine w_iret (fun _ => Or.inr rfl) ?_
        refine w_ifeq (fun c6 => ?_) (fun c6 => ?_)
        · exfalso; omega
        · skip
          refine w_aln rfl ?_
          refine w_gr gm rfl (by decide) rfl (gb.2.2.2.2.2) ?_
          refine w_iln rfl ?_
          refine w_iald (v := (M.1 (w 350) z1.toNat)) ga.2.2.2.2.2 rfl (by show (0 : Int) ≤ z1; omega) (by show z1 < ((12 : Nat) : Int); omega) (hn_n (Or.inl (hn_ne ga.2.2.2.2.2 gm (by decide)))) ?_
          refine w_goto ?_
          exact w_iret (fun q => by cases q) (by show some (Sum.inl _) = some (Sum.inl _); unfold lr_price; rw [if_pos (by omega)])
/-! the parts of the invariant beside the PLAINS -/
def lp_E (G : mj_G) (M : mj_M) (x m : Nat) (w : Nat → Nat) : Prop := lq_Ro G M x m w
abbrev lp_Ec (W : List (Nat × Nat × Nat)) : Prop := lq_Roc W
theorem lp_E.go {G : mj_G} {M M' : mj_M} {x m tp s kp : Nat} {w : Nat → Nat} {W : List (Nat × Nat × Nat)} (h : lp_E G M x m w) (g : G x = (1011, 0) ∧ G m = (1012, 0) ∧ G tp = (1008, 0) ∧ G s = (51100, 537) ∧ G kp = (70100, 1076)) (f : ab_frm W G M M') (c : lp_Ec W) : lp_E G M' x m w := lq_Ro.go h g.1 g.2.1 f c
theorem lp_E.mv {G : mj_G} {M M' : mj_M} {x m : Nat} {w : Nat → Nat} (h : lp_E G M x m w) (e1 : M'.1 = M.1) (e2 : M'.2.2 = M.2.2) : lp_E G M' x m w := lq_Ro.mv h e1 e2
def lp_X (G : mj_G) (M : mj_M) (x m tp s kp bc bt kc kr : Nat) (w : Nat → Nat) : Prop := lp_I G M x m tp s kp bc bt kc kr w ∧ lp_E G M x m w
theorem lp_X.mv {G : mj_G} {M : mj_M} {x m tp s kp bc bt kc kr : Nat} {w : Nat → Nat} {M' : mj_M} (h : lp_X G M x m tp s kp bc bt kc kr w) (e1 : M'.1 = M.1) (e2 : M'.2.2 = M.2.2) (e3 : ∀ y k, (G y).1 = 55103 → M'.2.1 y k = M.2.1 y k) : lp_X G M' x m tp s kp bc bt kc kr w := ⟨h.1.mv e1 e2 e3, h.2.mv e1 e2⟩
theorem lv_C.and {y : Nat} {av : List mj_V} {G : mj_G} {M : mj_M} {P P' : Int → mj_M → Prop} (hk : an_ok mj_tab 40 y = true) (h1 : lv_C y av G M P) (h2 : lv_C y av G M P') : lv_C y av G M (fun z M' => P z M' ∧ P' z M') := fun Q hQ =>
  lp_and hk (h1 (fun r G' M' => ∃ z, r = some (.inl z) ∧ G' = G ∧ P z M') (fun z M' p => ⟨z, rfl, rfl, p⟩)) (h2 (fun r G' M' => ∃ z, r = some (.inl z) ∧ G' = G ∧ P' z M') (fun z M' p => ⟨z, rfl, rfl, p⟩)) (fun r G' M' g1 g2 => by
    obtain ⟨z, e1, rfl, p1⟩ := g1
    obtain ⟨z2, e2, -, p2⟩ := g2
    obtain rfl : z2 = z := Sum.inl.inj (Option.some.inj (e2.symm.trans e1))
    rw [e1]; exact hQ _ M' ⟨p1, p2⟩)
theorem lv_C.imp {y : Nat} {av : List mj_V} {G : mj_G} {M : mj_M} {P P' : Int → mj_M → Prop} (h1 : lv_C y av G M P) (h : ∀ z M', P z M' → P' z M') : lv_C y av G M P' := fun Q hQ => h1 Q (fun z M' p => hQ z M' (h z M' p))
theorem lv_C.of {y : Nat} {av : List mj_V} {G : mj_G} {M : mj_M} {P : Int → mj_M → Prop} (h : mj_R mj_tab 40 y av G M (fun r G' M' => ∃ z, r = some (.inl z) ∧ G' = G ∧ P z M')) : lv_C y av G M P := fun Q hQ => mj_R_mo mj_tab 40 _ _ _ _ _ _ (fun r G' M' q => by
    obtain ⟨z, rfl, rfl, p⟩ := q
    exact hQ z M' p) h
theorem lv_C.val {y : Nat} {av : List mj_V} {G : mj_G} {M : mj_M} {P : Int → mj_M → Prop} {v : Int} (hk : an_ok mj_tab 40 y = true) (h1 : lv_C y av G M P) (h2 : mj_R mj_tab 40 y av G M (fun r _ _ => r = some (.inl v))) : lv_C y av G M (fun z M' => P z M' ∧ z = v) := fun Q hQ =>
  lp_and hk (h1 (fun r G' M' => ∃ z, r = some (.inl z) ∧ G' = G ∧ P z M') (fun z M' p => ⟨z, rfl, rfl, p⟩)) h2 (fun r G' M' g1 g2 => by
    obtain ⟨z, e1, rfl, p1⟩ := g1
    rw [e1]; exact hQ _ M' ⟨p1, Sum.inl.inj (Option.some.inj (e1.symm.trans g2))⟩)
theorem sz_headE {w : sx_w} {h : sx_H} {G : mj_G} {M : mj_M} (hR : sx_RH w h G M) (k2 : sz_hk h = true) : lp_E (sz_G w h G) (sz_M w h G M) (w.2.2.2 26) (w.2.2.2 336) w.2.2.2 := by
  have n1 := (sz_hk_s k2).1
  obtain ⟨ya, yb, -, -, -⟩ := sz_hy_s k2
  have tg : ∀ i t n, (i, t, n) ∈ sz_lt → sz_G w h G (w.2.2.2 i) = (t, n) := fun i t n he => sz_tg_s (yb (i, t, n) he) hR (by have := sz_lt_lt _ he; omega)
  have rq : ∀ i k j, (i, k, j) ∈ sz_lr → (sz_M w h G M).2.2 (w.2.2.2 i) k = some (w.2.2.2 j) := fun i k j he => sz_rq_s (ya (i, k, j) he) hR (by have := (sz_lr_lt _ he).1; omega) (sz_lr_lt _ he).2
  have z44 : (sz_M w h G M).1 (w.2.2.2 336) 44 = 0 := sz_q_s hR k2 (by decide +kernel)
  have z43 : (sz_M w h G M).1 (w.2.2.2 336) 43 = 0 := sz_q_s hR k2 (by decide +kernel)
  refine ⟨⟨tg _ _ _ (by decide +kernel), tg _ _ _ (by decide +kernel), tg _ _ _ (by decide +kernel), tg _ _ _ (by decide +kernel), tg _ _ _ (by decide +kernel), tg _ _ _ (by decide +kernel)⟩, ⟨rq _ _ _ (by decide +kernel), rq _ _ _ (by decide +kernel), rq _ _ _ (by decide +kernel), rq _ _ _ (by decide +kernel), rq _ _ _ (by decide +kernel), rq _ _ _ (by decide +kernel)⟩, ?_, by rw [z43]; decide, fun h => absurd z44 h⟩
  rw [z44]; exact sz_q_s hR k2 (by decide +kernel)
