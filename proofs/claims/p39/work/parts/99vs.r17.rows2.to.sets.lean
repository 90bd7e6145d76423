section
/-! ===== the class's readRow, readRows (laid by a program) ===== -/
theorem rv_T_0 {B : Nat → Int} {n lim p : Nat} : ((rv_T B n lim p).1 = 0 → n ≤ lim) ∧ ((rv_T B n lim p).1 = 5 → lim < n) := by
  generalize hq : rv_sk B (min n lim) (min n lim - p) p = q
  rcases Nat.lt_or_ge q (min n lim) with c1 | c1
  · by_cases c2 : rv_an (B q) = true
    · unfold rv_T
      rw [hq, if_neg (Nat.not_le.mpr c1), if_pos c2]
      show ((if _ then 1 else if _ then 2 else 4) = 0 → _) ∧ ((if _ then 1 else if _ then 2 else 4) = 5 → _)
      split
      · exact ⟨fun e => absurd e (by decide), fun e => absurd e (by decide)⟩
      · split <;> exact ⟨fun e => absurd e (by decide), fun e => absurd e (by decide)⟩
    · rw [rv_T_s hq c1 c2]; exact ⟨fun e => absurd e (by show ¬ (3 : Nat) = 0; decide), fun e => absurd e (by show ¬ (3 : Nat) = 5; decide)⟩
  · rw [rv_T_e hq c1]
    show ((if n ≤ lim then 0 else 5) = 0 → _) ∧ ((if n ≤ lim then 0 else 5) = 5 → _)
    split
    · rename_i c; exact ⟨fun _ => c, fun e => absurd e (by decide)⟩
    · rename_i c; exact ⟨fun e => absurd e (by decide), fun _ => by omega⟩
set_option maxHeartbeats 8000000 in
theorem r_row_n {G : mj_G} {M0 M : mj_M} {B : Nat → Int} {n lim tp bc pl na ta ba wa oa : Nat} {tr br : Nat → Nat} {T : Nat → Nat × Nat × Int × List Int × Nat} {PL WA OA : Nat → Int} {TO BI : Nat → Nat → Int} {nm : Nat → List Int} {Q : mj_P} {d q : Nat} (hA : rv_AT G M0 B n lim tp bc pl na ta ba wa oa tr br T) (hS : rv_S G M0 n lim tp pl na wa oa tr br (T q) PL WA OA TO BI nm M) (hqn : q ≤ n) (hb : rv_pb PL) (e9 : M.2.2 tp 9 = none) (h10 : ∀ M', rv_F tp pl na wa oa tr br M0 1 (T q).2.1 M' → Q (some (.inl 0)) G M') : mj_R mj_tab (d + 6) 43 [.inr (.inr (some pl)), .inr (.inr (some tp))] G M Q := by
  obtain ⟨⟨gtp, gbc, gpl, gna, gta, gba, gwa, goa, gtr, gbr, itr, ibr, r1, r2, r3, r4, r5, r6, r7, r8, rb, rw0, n1, n2, hIw⟩, hT⟩ := id hA
  refine ⟨Nat.le_of_ble_eq_true rfl, ?_⟩
  show wz (d + 5) mt_X3_readRow.2.2.2.2.1 Q mt_X3_readRow.2.2.2.2.1 [some (.inr (.inr (some pl))), some (.inr (.inr (some tp))), none] [] G M _ _
  refine w_aln rfl ?_
  refine w_gro gtp rfl (by decide) rfl (e9) ?_
  refine w_asn ?_
  show wz _ _ _ _ [some (.inr (.inr (some pl))), some (.inr (.inr (some tp))), some (.inr (.inr none))] _ _ _ _ _
  refine w_aln rfl ?_
  refine w_ifnn (fun c1 => ?_) (fun c1 => ?_)
  · exact absurd rfl c1
  · skip
    refine w_aln rfl ?_
    refine w_ic ?_
    refine w_cv (st := []) rfl gtp rfl (Nat.le_of_ble_eq_true rfl) (fun kk h => h) (r_X7_refuse (d := d + 4) hA hS (by decide) (fun MF2 F2 => ?_))
    exact w_iret (fun _ => Or.inl rfl) (h10 _ F2)
set_option maxHeartbeats 8000000 in
theorem r_row_0 {G : mj_G} {M0 M : mj_M} {B : Nat → Int} {n lim tp bc pl na ta ba wa oa : Nat} {tr br : Nat → Nat} {T : Nat → Nat × Nat × Int × List Int × Nat} {PL WA OA : Nat → Int} {TO BI : Nat → Nat → Int} {nm : Nat → List Int} {Q : mj_P} {d q : Nat} (hA : rv_AT G M0 B n lim tp bc pl na ta ba wa oa tr br T) (hS : rv_S G M0 n lim tp pl na wa oa tr br (T q) PL WA OA TO BI nm M) (hqn : q ≤ n) (hb : rv_pb PL) {w : Nat} (gw : G w = (900050, 0)) (e9 : M.2.2 tp 9 = some w) (h0 : 0 = 0 → sp_town T PL WA OA TO BI nm q (fun f a => ∀ M', rv_F tp pl na wa oa tr br M0 f a M' → Q (some (.inl 0)) G M') (fun PL WA OA TO BI nm q' => q ≤ q' → q' ≤ n → rv_pb PL → ∀ M', rv_S G M0 n lim tp pl na wa oa tr br (T q') PL WA OA TO BI nm M' → Q (some (.inl 1)) G M')) : mj_R mj_tab (d + 6) 43 [.inr (.inr (some pl)), .inr (.inr (some tp))] G M Q := by
  obtain ⟨⟨gtp, gbc, gpl, gna, gta, gba, gwa, goa, gtr, gbr, itr, ibr, r1, r2, r3, r4, r5, r6, r7, r8, rb, rw0, n1, n2, hIw⟩, hT⟩ := id hA
  refine ⟨Nat.le_of_ble_eq_true rfl, ?_⟩
  show wz (d + 5) mt_X3_readRow.2.2.2.2.1 Q mt_X3_readRow.2.2.2.2.1 [some (.inr (.inr (some pl))), some (.inr (.inr (some tp))), none] [] G M _ _
  refine w_aln rfl ?_
  refine w_gr gtp rfl (by decide) rfl (e9) ?_
  refine w_asn ?_
  show wz _ _ _ _ [some (.inr (.inr (some pl))), some (.inr (.inr (some tp))), some (.inr (.inr (some w)))] _ _ _ _ _
  refine w_aln rfl ?_
  refine w_ifnn (fun c1 => ?_) (fun c1 => ?_)
  · skip
    refine w_aln rfl ?_
    refine w_gs ?_
    intro a2 ga2
    have ga2 : G a2 = (900050, 0) := ga2
    refine w_acne (fun c3 => ?_) (fun c3 => ?_)
    · exact absurd (congrArg some (hIw _ _ ((congrArg (fun x => x.1 % 1000) gw).trans rfl) (gw.trans ga2.symm))) c3
    · skip
      refine w_aln rfl ?_
      refine w_aln rfl ?_
      refine w_cv (st := []) rfl gpl rfl (Nat.le_of_ble_eq_true rfl) (fun kk h => h) (r_X3_readTown (d := d) hA hS hqn hb ((h0 rfl).mono (fun f a hf M1 F1 => ?_) (fun PL1 WA1 OA1 TO1 BI1 nm1 q1 hk1 g1 g2 hb1 M1 s1 => ?_)))
      · skip
        exact w_iret (fun _ => Or.inl rfl) (hf _ F1)
      · skip
        exact w_iret (fun _ => Or.inr rfl) (hk1 g1 g2 hb1 _ s1)
  · cases c1
set_option maxHeartbeats 8000000 in
theorem r_row_1 {G : mj_G} {M0 M : mj_M} {B : Nat → Int} {n lim tp bc pl na ta ba wa oa : Nat} {tr br : Nat → Nat} {T : Nat → Nat × Nat × Int × List Int × Nat} {PL WA OA : Nat → Int} {TO BI : Nat → Nat → Int} {nm : Nat → List Int} {Q : mj_P} {d q : Nat} (hA : rv_AT G M0 B n lim tp bc pl na ta ba wa oa tr br T) (hS : rv_S G M0 n lim tp pl na wa oa tr br (T q) PL WA OA TO BI nm M) (hqn : q ≤ n) (hb : rv_pb PL) {w : Nat} (gw : G w = (901050, 0)) (e9 : M.2.2 tp 9 = some w) (h1 : 0 = 0 → sp_water T PL WA OA TO BI nm q (fun f a => ∀ M', rv_F tp pl na wa oa tr br M0 f a M' → Q (some (.inl 0)) G M') (fun PL WA OA TO BI nm q' => q ≤ q' → q' ≤ n → rv_pb PL → ∀ M', rv_S G M0 n lim tp pl na wa oa tr br (T q') PL WA OA TO BI nm M' → Q (some (.inl 1)) G M')) : mj_R mj_tab (d + 6) 43 [.inr (.inr (some pl)), .inr (.inr (some tp))] G M Q := by
  obtain ⟨⟨gtp, gbc, gpl, gna, gta, gba, gwa, goa, gtr, gbr, itr, ibr, r1, r2, r3, r4, r5, r6, r7, r8, rb, rw0, n1, n2, hIw⟩, hT⟩ := id hA
  refine ⟨Nat.le_of_ble_eq_true rfl, ?_⟩
  show wz (d + 5) mt_X3_readRow.2.2.2.2.1 Q mt_X3_readRow.2.2.2.2.1 [some (.inr (.inr (some pl))), some (.inr (.inr (some tp))), none] [] G M _ _
  refine w_aln rfl ?_
  refine w_gr gtp rfl (by decide) rfl (e9) ?_
  refine w_asn ?_
  show wz _ _ _ _ [some (.inr (.inr (some pl))), some (.inr (.inr (some tp))), some (.inr (.inr (some w)))] _ _ _ _ _
  refine w_aln rfl ?_
  refine w_ifnn (fun c1 => ?_) (fun c1 => ?_)
  · skip
    refine w_aln rfl ?_
    refine w_gs ?_
    intro a2 ga2
    have ga2 : G a2 = (900050, 0) := ga2
    refine w_acne (fun c3 => ?_) (fun c3 => ?_)
    · skip
      refine w_aln rfl ?_
      refine w_gs ?_
      intro a4 ga4
      have ga4 : G a4 = (901050, 0) := ga4
      refine w_acne (fun c5 => ?_) (fun c5 => ?_)
      · exact absurd (congrArg some (hIw _ _ ((congrArg (fun x => x.1 % 1000) gw).trans rfl) (gw.trans ga4.symm))) c5
      · skip
        refine w_aln rfl ?_
        refine w_aln rfl ?_
        refine w_cv (st := []) rfl gpl rfl (Nat.le_of_ble_eq_true rfl) (fun kk h => h) (r_X3_readWater (d := d) hA hS hqn hb ((h1 rfl).mono (fun f a hf M1 F1 => ?_) (fun PL1 WA1 OA1 TO1 BI1 nm1 q1 hk1 g1 g2 hb1 M1 s1 => ?_)))
        · skip
          exact w_iret (fun _ => Or.inl rfl) (hf _ F1)
        · skip
          exact w_iret (fun _ => Or.inr rfl) (hk1 g1 g2 hb1 _ s1)
    · exact absurd (Option.some.inj c3) (hn_ne gw ga2 (by decide))
  · cases c1
set_option maxHeartbeats 8000000 in
theorem r_row_2 {G : mj_G} {M0 M : mj_M} {B : Nat → Int} {n lim tp bc pl na ta ba wa oa : Nat} {tr br : Nat → Nat} {T : Nat → Nat × Nat × Int × List Int × Nat} {PL WA OA : Nat → Int} {TO BI : Nat → Nat → Int} {nm : Nat → List Int} {Q : mj_P} {d q : Nat} (hA : rv_AT G M0 B n lim tp bc pl na ta ba wa oa tr br T) (hS : rv_S G M0 n lim tp pl na wa oa tr br (T q) PL WA OA TO BI nm M) (hqn : q ≤ n) (hb : rv_pb PL) {w : Nat} (gw : G w = (902050, 0)) (e9 : M.2.2 tp 9 = some w) (h2 : 0 = 0 → sp_bid T PL WA OA TO BI nm q (fun f a => ∀ M', rv_F tp pl na wa oa tr br M0 f a M' → Q (some (.inl 0)) G M') (fun PL WA OA TO BI nm q' => q ≤ q' → q' ≤ n → rv_pb PL → ∀ M', rv_S G M0 n lim tp pl na wa oa tr br (T q') PL WA OA TO BI nm M' → Q (some (.inl 1)) G M')) : mj_R mj_tab (d + 6) 43 [.inr (.inr (some pl)), .inr (.inr (some tp))] G M Q := by
  obtain ⟨⟨gtp, gbc, gpl, gna, gta, gba, gwa, goa, gtr, gbr, itr, ibr, r1, r2, r3, r4, r5, r6, r7, r8, rb, rw0, n1, n2, hIw⟩, hT⟩ := id hA
  refine ⟨Nat.le_of_ble_eq_true rfl, ?_⟩
  show wz (d + 5) mt_X3_readRow.2.2.2.2.1 Q mt_X3_readRow.2.2.2.2.1 [some (.inr (.inr (some pl))), some (.inr (.inr (some tp))), none] [] G M _ _
  refine w_aln rfl ?_
  refine w_gr gtp rfl (by decide) rfl (e9) ?_
  refine w_asn ?_
  show wz _ _ _ _ [some (.inr (.inr (some pl))), some (.inr (.inr (some tp))), some (.inr (.inr (some w)))] _ _ _ _ _
  refine w_aln rfl ?_
  refine w_ifnn (fun c1 => ?_) (fun c1 => ?_)
  · skip
    refine w_aln rfl ?_
    refine w_gs ?_
    intro a2 ga2
    have ga2 : G a2 = (900050, 0) := ga2
    refine w_acne (fun c3 => ?_) (fun c3 => ?_)
    · skip
      refine w_aln rfl ?_
      refine w_gs ?_
      intro a4 ga4
      have ga4 : G a4 = (901050, 0) := ga4
      refine w_acne (fun c5 => ?_) (fun c5 => ?_)
      · skip
        refine w_aln rfl ?_
        refine w_gs ?_
        intro a6 ga6
        have ga6 : G a6 = (902050, 0) := ga6
        refine w_acne (fun c7 => ?_) (fun c7 => ?_)
        · exact absurd (congrArg some (hIw _ _ ((congrArg (fun x => x.1 % 1000) gw).trans rfl) (gw.trans ga6.symm))) c7
        · skip
          refine w_aln rfl ?_
          refine w_aln rfl ?_
          refine w_cv (st := []) rfl gpl rfl (Nat.le_of_ble_eq_true rfl) (fun kk h => h) (r_X3_readBid (d := d) hA hS hqn hb ((h2 rfl).mono (fun f a hf M1 F1 => ?_) (fun PL1 WA1 OA1 TO1 BI1 nm1 q1 hk1 g1 g2 hb1 M1 s1 => ?_)))
          · skip
            exact w_iret (fun _ => Or.inl rfl) (hf _ F1)
          · skip
            exact w_iret (fun _ => Or.inr rfl) (hk1 g1 g2 hb1 _ s1)
      · exact absurd (Option.some.inj c5) (hn_ne gw ga4 (by decide))
    · exact absurd (Option.some.inj c3) (hn_ne gw ga2 (by decide))
  · cases c1
set_option maxHeartbeats 8000000 in
theorem r_row_3 {G : mj_G} {M0 M : mj_M} {B : Nat → Int} {n lim tp bc pl na ta ba wa oa : Nat} {tr br : Nat → Nat} {T : Nat → Nat × Nat × Int × List Int × Nat} {PL WA OA : Nat → Int} {TO BI : Nat → Nat → Int} {nm : Nat → List Int} {Q : mj_P} {d q : Nat} (hA : rv_AT G M0 B n lim tp bc pl na ta ba wa oa tr br T) (hS : rv_S G M0 n lim tp pl na wa oa tr br (T q) PL WA OA TO BI nm M) (hqn : q ≤ n) (hb : rv_pb PL) {w : Nat} (gw : G w = (903050, 0)) (e9 : M.2.2 tp 9 = some w) (h3 : 0 = 0 → sp_need T PL WA OA TO BI nm q (fun f a => ∀ M', rv_F tp pl na wa oa tr br M0 f a M' → Q (some (.inl 0)) G M') (fun PL WA OA TO BI nm q' => q ≤ q' → q' ≤ n → rv_pb PL → ∀ M', rv_S G M0 n lim tp pl na wa oa tr br (T q') PL WA OA TO BI nm M' → Q (some (.inl 1)) G M')) : mj_R mj_tab (d + 6) 43 [.inr (.inr (some pl)), .inr (.inr (some tp))] G M Q := by
  obtain ⟨⟨gtp, gbc, gpl, gna, gta, gba, gwa, goa, gtr, gbr, itr, ibr, r1, r2, r3, r4, r5, r6, r7, r8, rb, rw0, n1, n2, hIw⟩, hT⟩ := id hA
  refine ⟨Nat.le_of_ble_eq_true rfl, ?_⟩
  show wz (d + 5) mt_X3_readRow.2.2.2.2.1 Q mt_X3_readRow.2.2.2.2.1 [some (.inr (.inr (some pl))), some (.inr (.inr (some tp))), none] [] G M _ _
  refine w_aln rfl ?_
  refine w_gr gtp rfl (by decide) rfl (e9) ?_
  refine w_asn ?_
  show wz _ _ _ _ [some (.inr (.inr (some pl))), some (.inr (.inr (some tp))), some (.inr (.inr (some w)))] _ _ _ _ _
  refine w_aln rfl ?_
  refine w_ifnn (fun c1 => ?_) (fun c1 => ?_)
  · skip
    refine w_aln rfl ?_
    refine w_gs ?_
    intro a2 ga2
    have ga2 : G a2 = (900050, 0) := ga2
    refine w_acne (fun c3 => ?_) (fun c3 => ?_)
    · skip
      refine w_aln rfl ?_
      refine w_gs ?_
      intro a4 ga4
      have ga4 : G a4 = (901050, 0) := ga4
      refine w_acne (fun c5 => ?_) (fun c5 => ?_)
      · skip
        refine w_aln rfl ?_
        refine w_gs ?_
        intro a6 ga6
        have ga6 : G a6 = (902050, 0) := ga6
        refine w_acne (fun c7 => ?_) (fun c7 => ?_)
        · skip
          refine w_aln rfl ?_
          refine w_cv (st := []) rfl gw rfl (Nat.le_of_ble_eq_true rfl) (fun kk h => h) ⟨Nat.le_of_ble_eq_true rfl, ?_⟩
          show wz (d + 4) mt_X9_isAboutTown.2.2.2.2.1 _ mt_X9_isAboutTown.2.2.2.2.1 [some (.inr (.inr (some w)))] [] _ _ _ _
          refine w_aln rfl ?_
          refine w_gs ?_
          intro a8 ga8
          have ga8 : G a8 = (903050, 0) := ga8
          refine w_aceq (fun c9 => ?_) (fun c9 => ?_)
          · skip
            refine w_ic ?_
            refine w_goto ?_
            refine w_iret (fun _ => Or.inr rfl) ?_
            refine w_ifeq (fun c10 => ?_) (fun c10 => ?_)
            · exfalso; omega
            · skip
              refine w_aln rfl ?_
              refine w_aln rfl ?_
              refine w_aln rfl ?_
              refine w_cv (st := []) rfl gpl rfl (Nat.le_of_ble_eq_true rfl) (fun kk h => h) (r_X3_readAboutTown_need (d := d) gw hA hS hqn hb ((h3 rfl).mono (fun f a hf M1 F1 => ?_) (fun PL1 WA1 OA1 TO1 BI1 nm1 q1 hk1 g1 g2 hb1 M1 s1 => ?_)))
              · skip
                exact w_iret (fun _ => Or.inl rfl) (hf _ F1)
              · skip
                exact w_iret (fun _ => Or.inr rfl) (hk1 g1 g2 hb1 _ s1)
          · exact absurd (congrArg some (hIw _ _ ((congrArg (fun x => x.1 % 1000) gw).trans rfl) (gw.trans ga8.symm))) c9
        · exact absurd (Option.some.inj c7) (hn_ne gw ga6 (by decide))
      · exact absurd (Option.some.inj c5) (hn_ne gw ga4 (by decide))
    · exact absurd (Option.some.inj c3) (hn_ne gw ga2 (by decide))
  · cases c1
set_option maxHeartbeats 8000000 in
theorem r_row_4 {G : mj_G} {M0 M : mj_M} {B : Nat → Int} {n lim tp bc pl na ta ba wa oa : Nat} {tr br : Nat → Nat} {T : Nat → Nat × Nat × Int × List Int × Nat} {PL WA OA : Nat → Int} {TO BI : Nat → Nat → Int} {nm : Nat → List Int} {Q : mj_P} {d q : Nat} (hA : rv_AT G M0 B n lim tp bc pl na ta ba wa oa tr br T) (hS : rv_S G M0 n lim tp pl na wa oa tr br (T q) PL WA OA TO BI nm M) (hqn : q ≤ n) (hb : rv_pb PL) {w : Nat} (gw : G w = (904050, 0)) (e9 : M.2.2 tp 9 = some w) (h4 : 0 = 0 → sp_mill T PL WA OA TO BI nm q (fun f a => ∀ M', rv_F tp pl na wa oa tr br M0 f a M' → Q (some (.inl 0)) G M') (fun PL WA OA TO BI nm q' => q ≤ q' → q' ≤ n → rv_pb PL → ∀ M', rv_S G M0 n lim tp pl na wa oa tr br (T q') PL WA OA TO BI nm M' → Q (some (.inl 1)) G M')) : mj_R mj_tab (d + 6) 43 [.inr (.inr (some pl)), .inr (.inr (some tp))] G M Q := by
  obtain ⟨⟨gtp, gbc, gpl, gna, gta, gba, gwa, goa, gtr, gbr, itr, ibr, r1, r2, r3, r4, r5, r6, r7, r8, rb, rw0, n1, n2, hIw⟩, hT⟩ := id hA
  refine ⟨Nat.le_of_ble_eq_true rfl, ?_⟩
  show wz (d + 5) mt_X3_readRow.2.2.2.2.1 Q mt_X3_readRow.2.2.2.2.1 [some (.inr (.inr (some pl))), some (.inr (.inr (some tp))), none] [] G M _ _
  refine w_aln rfl ?_
  refine w_gr gtp rfl (by decide) rfl (e9) ?_
  refine w_asn ?_
  show wz _ _ _ _ [some (.inr (.inr (some pl))), some (.inr (.inr (some tp))), some (.inr (.inr (some w)))] _ _ _ _ _
  refine w_aln rfl ?_
  refine w_ifnn (fun c1 => ?_) (fun c1 => ?_)
  · skip
    refine w_aln rfl ?_
    refine w_gs ?_
    intro a2 ga2
    have ga2 : G a2 = (900050, 0) := ga2
    refine w_acne (fun c3 => ?_) (fun c3 => ?_)
    · skip
      refine w_aln rfl ?_
      refine w_gs ?_
      intro a4 ga4
      have ga4 : G a4 = (901050, 0) := ga4
      refine w_acne (fun c5 => ?_) (fun c5 => ?_)
      · skip
        refine w_aln rfl ?_
        refine w_gs ?_
        intro a6 ga6
        have ga6 : G a6 = (902050, 0) := ga6
        refine w_acne (fun c7 => ?_) (fun c7 => ?_)
        · skip
          refine w_aln rfl ?_
          refine w_cv (st := []) rfl gw rfl (Nat.le_of_ble_eq_true rfl) (fun kk h => h) ⟨Nat.le_of_ble_eq_true rfl, ?_⟩
          show wz (d + 4) mt_X9_isAboutTown.2.2.2.2.1 _ mt_X9_isAboutTown.2.2.2.2.1 [some (.inr (.inr (some w)))] [] _ _ _ _
          refine w_aln rfl ?_
          refine w_gs ?_
          intro a8 ga8
          have ga8 : G a8 = (903050, 0) := ga8
          refine w_aceq (fun c9 => ?_) (fun c9 => ?_)
          · exact absurd (Option.some.inj c9) (hn_ne gw ga8 (by decide))
          · skip
            refine w_aln rfl ?_
            refine w_gs ?_
            intro a10 ga10
            have ga10 : G a10 = (904050, 0) := ga10
            refine w_aceq (fun c11 => ?_) (fun c11 => ?_)
            · skip
              refine w_ic ?_
              refine w_goto ?_
              refine w_iret (fun _ => Or.inr rfl) ?_
              refine w_ifeq (fun c12 => ?_) (fun c12 => ?_)
              · exfalso; omega
              · skip
                refine w_aln rfl ?_
                refine w_aln rfl ?_
                refine w_aln rfl ?_
                refine w_cv (st := []) rfl gpl rfl (Nat.le_of_ble_eq_true rfl) (fun kk h => h) (r_X3_readAboutTown_mill (d := d) gw hA hS hqn hb ((h4 rfl).mono (fun f a hf M1 F1 => ?_) (fun PL1 WA1 OA1 TO1 BI1 nm1 q1 hk1 g1 g2 hb1 M1 s1 => ?_)))
                · skip
                  exact w_iret (fun _ => Or.inl rfl) (hf _ F1)
                · skip
                  exact w_iret (fun _ => Or.inr rfl) (hk1 g1 g2 hb1 _ s1)
            · exact absurd (congrArg some (hIw _ _ ((congrArg (fun x => x.1 % 1000) gw).trans rfl) (gw.trans ga10.symm))) c11
        · exact absurd (Option.some.inj c7) (hn_ne gw ga6 (by decide))
      · exact absurd (Option.some.inj c5) (hn_ne gw ga4 (by decide))
    · exact absurd (Option.some.inj c3) (hn_ne gw ga2 (by decide))
  · cases c1
set_option maxHeartbeats 8000000 in
theorem r_row_5 {G : mj_G} {M0 M : mj_M} {B : Nat → Int} {n lim tp bc pl na ta ba wa oa : Nat} {tr br : Nat → Nat} {T : Nat → Nat × Nat × Int × List Int × Nat} {PL WA OA : Nat → Int} {TO BI : Nat → Nat → Int} {nm : Nat → List Int} {Q : mj_P} {d q : Nat} (hA : rv_AT G M0 B n lim tp bc pl na ta ba wa oa tr br T) (hS : rv_S G M0 n lim tp pl na wa oa tr br (T q) PL WA OA TO BI nm M) (hqn : q ≤ n) (hb : rv_pb PL) {w : Nat} (gw : G w = (905050, 0)) (e9 : M.2.2 tp 9 = some w) (h5 : 0 = 0 → sp_bridge T PL WA OA TO BI nm q (fun f a => ∀ M', rv_F tp pl na wa oa tr br M0 f a M' → Q (some (.inl 0)) G M') (fun PL WA OA TO BI nm q' => q ≤ q' → q' ≤ n → rv_pb PL → ∀ M', rv_S G M0 n lim tp pl na wa oa tr br (T q') PL WA OA TO BI nm M' → Q (some (.inl 1)) G M')) : mj_R mj_tab (d + 6) 43 [.inr (.inr (some pl)), .inr (.inr (some tp))] G M Q := by
  obtain ⟨⟨gtp, gbc, gpl, gna, gta, gba, gwa, goa, gtr, gbr, itr, ibr, r1, r2, r3, r4, r5, r6, r7, r8, rb, rw0, n1, n2, hIw⟩, hT⟩ := id hA
  refine ⟨Nat.le_of_ble_eq_true rfl, ?_⟩
  show wz (d + 5) mt_X3_readRow.2.2.2.2.1 Q mt_X3_readRow.2.2.2.2.1 [some (.inr (.inr (some pl))), some (.inr (.inr (some tp))), none] [] G M _ _
  refine w_aln rfl ?_
  refine w_gr gtp rfl (by decide) rfl (e9) ?_
  refine w_asn ?_
  show wz _ _ _ _ [some (.inr (.inr (some pl))), some (.inr (.inr (some tp))), some (.inr (.inr (some w)))] _ _ _ _ _
  refine w_aln rfl ?_
  refine w_ifnn (fun c1 => ?_) (fun c1 => ?_)
  · skip
    refine w_aln rfl ?_
    refine w_gs ?_
    intro a2 ga2
    have ga2 : G a2 = (900050, 0) := ga2
    refine w_acne (fun c3 => ?_) (fun c3 => ?_)
    · skip
      refine w_aln rfl ?_
      refine w_gs ?_
      intro a4 ga4
      have ga4 : G a4 = (901050, 0) := ga4
      refine w_acne (fun c5 => ?_) (fun c5 => ?_)
      · skip
        refine w_aln rfl ?_
        refine w_gs ?_
        intro a6 ga6
        have ga6 : G a6 = (902050, 0) := ga6
        refine w_acne (fun c7 => ?_) (fun c7 => ?_)
        · skip
          refine w_aln rfl ?_
          refine w_cv (st := []) rfl gw rfl (Nat.le_of_ble_eq_true rfl) (fun kk h => h) ⟨Nat.le_of_ble_eq_true rfl, ?_⟩
          show wz (d + 4) mt_X9_isAboutTown.2.2.2.2.1 _ mt_X9_isAboutTown.2.2.2.2.1 [some (.inr (.inr (some w)))] [] _ _ _ _
          refine w_aln rfl ?_
          refine w_gs ?_
          intro a8 ga8
          have ga8 : G a8 = (903050, 0) := ga8
          refine w_aceq (fun c9 => ?_) (fun c9 => ?_)
          · exact absurd (Option.some.inj c9) (hn_ne gw ga8 (by decide))
          · skip
            refine w_aln rfl ?_
            refine w_gs ?_
            intro a10 ga10
            have ga10 : G a10 = (904050, 0) := ga10
            refine w_aceq (fun c11 => ?_) (fun c11 => ?_)
            · exact absurd (Option.some.inj c11) (hn_ne gw ga10 (by decide))
            · skip
              refine w_aln rfl ?_
              refine w_gs ?_
              intro a12 ga12
              have ga12 : G a12 = (905050, 0) := ga12
              refine w_aceq (fun c13 => ?_) (fun c13 => ?_)
              · skip
                refine w_ic ?_
                refine w_goto ?_
                refine w_iret (fun _ => Or.inr rfl) ?_
                refine w_ifeq (fun c14 => ?_) (fun c14 => ?_)
                · exfalso; omega
                · skip
                  refine w_aln rfl ?_
                  refine w_aln rfl ?_
                  refine w_aln rfl ?_
                  refine w_cv (st := []) rfl gpl rfl (Nat.le_of_ble_eq_true rfl) (fun kk h => h) (r_X3_readAboutTown_bridge (d := d) gw hA hS hqn hb ((h5 rfl).mono (fun f a hf M1 F1 => ?_) (fun PL1 WA1 OA1 TO1 BI1 nm1 q1 hk1 g1 g2 hb1 M1 s1 => ?_)))
                  · skip
                    exact w_iret (fun _ => Or.inl rfl) (hf _ F1)
                  · skip
                    exact w_iret (fun _ => Or.inr rfl) (hk1 g1 g2 hb1 _ s1)
              · exact absurd (congrArg some (hIw _ _ ((congrArg (fun x => x.1 % 1000) gw).trans rfl) (gw.trans ga12.symm))) c13
        · exact absurd (Option.some.inj c7) (hn_ne gw ga6 (by decide))
      · exact absurd (Option.some.inj c5) (hn_ne gw ga4 (by decide))
    · exact absurd (Option.some.inj c3) (hn_ne gw ga2 (by decide))
  · cases c1
set_option maxHeartbeats 8000000 in
theorem r_row_6 {G : mj_G} {M0 M : mj_M} {B : Nat → Int} {n lim tp bc pl na ta ba wa oa : Nat} {tr br : Nat → Nat} {T : Nat → Nat × Nat × Int × List Int × Nat} {PL WA OA : Nat → Int} {TO BI : Nat → Nat → Int} {nm : Nat → List Int} {Q : mj_P} {d q : Nat} (hA : rv_AT G M0 B n lim tp bc pl na ta ba wa oa tr br T) (hS : rv_S G M0 n lim tp pl na wa oa tr br (T q) PL WA OA TO BI nm M) (hqn : q ≤ n) (hb : rv_pb PL) {w : Nat} (gw : G w = (906050, 0)) (e9 : M.2.2 tp 9 = some w) (h6 : 0 = 0 → sp_field T PL WA OA TO BI nm q (fun f a => ∀ M', rv_F tp pl na wa oa tr br M0 f a M' → Q (some (.inl 0)) G M') (fun PL WA OA TO BI nm q' => q ≤ q' → q' ≤ n → rv_pb PL → ∀ M', rv_S G M0 n lim tp pl na wa oa tr br (T q') PL WA OA TO BI nm M' → Q (some (.inl 1)) G M')) : mj_R mj_tab (d + 6) 43 [.inr (.inr (some pl)), .inr (.inr (some tp))] G M Q := by
  obtain ⟨⟨gtp, gbc, gpl, gna, gta, gba, gwa, goa, gtr, gbr, itr, ibr, r1, r2, r3, r4, r5, r6, r7, r8, rb, rw0, n1, n2, hIw⟩, hT⟩ := id hA
  refine ⟨Nat.le_of_ble_eq_true rfl, ?_⟩
  show wz (d + 5) mt_X3_readRow.2.2.2.2.1 Q mt_X3_readRow.2.2.2.2.1 [some (.inr (.inr (some pl))), some (.inr (.inr (some tp))), none] [] G M _ _
  refine w_aln rfl ?_
  refine w_gr gtp rfl (by decide) rfl (e9) ?_
  refine w_asn ?_
  show wz _ _ _ _ [some (.inr (.inr (some pl))), some (.inr (.inr (some tp))), some (.inr (.inr (some w)))] _ _ _ _ _
  refine w_aln rfl ?_
  refine w_ifnn (fun c1 => ?_) (fun c1 => ?_)
  · skip
    refine w_aln rfl ?_
    refine w_gs ?_
    intro a2 ga2
    have ga2 : G a2 = (900050, 0) := ga2
    refine w_acne (fun c3 => ?_) (fun c3 => ?_)
    · skip
      refine w_aln rfl ?_
      refine w_gs ?_
      intro a4 ga4
      have ga4 : G a4 = (901050, 0) := ga4
      refine w_acne (fun c5 => ?_) (fun c5 => ?_)
      · skip
        refine w_aln rfl ?_
        refine w_gs ?_
        intro a6 ga6
        have ga6 : G a6 = (902050, 0) := ga6
        refine w_acne (fun c7 => ?_) (fun c7 => ?_)
        · skip
          refine w_aln rfl ?_
          refine w_cv (st := []) rfl gw rfl (Nat.le_of_ble_eq_true rfl) (fun kk h => h) ⟨Nat.le_of_ble_eq_true rfl, ?_⟩
          show wz (d + 4) mt_X9_isAboutTown.2.2.2.2.1 _ mt_X9_isAboutTown.2.2.2.2.1 [some (.inr (.inr (some w)))] [] _ _ _ _
          refine w_aln rfl ?_
          refine w_gs ?_
          intro a8 ga8
          have ga8 : G a8 = (903050, 0) := ga8
          refine w_aceq (fun c9 => ?_) (fun c9 => ?_)
          · exact absurd (Option.some.inj c9) (hn_ne gw ga8 (by decide))
          · skip
            refine w_aln rfl ?_
            refine w_gs ?_
            intro a10 ga10
            have ga10 : G a10 = (904050, 0) := ga10
            refine w_aceq (fun c11 => ?_) (fun c11 => ?_)
            · exact absurd (Option.some.inj c11) (hn_ne gw ga10 (by decide))
            · skip
              refine w_aln rfl ?_
              refine w_gs ?_
              intro a12 ga12
              have ga12 : G a12 = (905050, 0) := ga12
              refine w_aceq (fun c13 => ?_) (fun c13 => ?_)
              · exact absurd (Option.some.inj c13) (hn_ne gw ga12 (by decide))
              · skip
                refine w_aln rfl ?_
                refine w_gs ?_
                intro a14 ga14
                have ga14 : G a14 = (906050, 0) := ga14
                refine w_acne (fun c15 => ?_) (fun c15 => ?_)
                · exact absurd (congrArg some (hIw _ _ ((congrArg (fun x => x.1 % 1000) gw).trans rfl) (gw.trans ga14.symm))) c15
                · skip
                  refine w_ic ?_
                  refine w_goto ?_
                  refine w_iret (fun _ => Or.inr rfl) ?_
                  refine w_ifeq (fun c16 => ?_) (fun c16 => ?_)
                  · exfalso; omega
                  · skip
                    refine w_aln rfl ?_
                    refine w_aln rfl ?_
                    refine w_aln rfl ?_
                    refine w_cv (st := []) rfl gpl rfl (Nat.le_of_ble_eq_true rfl) (fun kk h => h) (r_X3_readAboutTown_field (d := d) gw hA hS hqn hb ((h6 rfl).mono (fun f a hf M1 F1 => ?_) (fun PL1 WA1 OA1 TO1 BI1 nm1 q1 hk1 g1 g2 hb1 M1 s1 => ?_)))
                    · skip
                      exact w_iret (fun _ => Or.inl rfl) (hf _ F1)
                    · skip
                      exact w_iret (fun _ => Or.inr rfl) (hk1 g1 g2 hb1 _ s1)
        · exact absurd (Option.some.inj c7) (hn_ne gw ga6 (by decide))
      · exact absurd (Option.some.inj c5) (hn_ne gw ga4 (by decide))
    · exact absurd (Option.some.inj c3) (hn_ne gw ga2 (by decide))
  · cases c1
set_option maxHeartbeats 8000000 in
theorem r_row_7 {G : mj_G} {M0 M : mj_M} {B : Nat → Int} {n lim tp bc pl na ta ba wa oa : Nat} {tr br : Nat → Nat} {T : Nat → Nat × Nat × Int × List Int × Nat} {PL WA OA : Nat → Int} {TO BI : Nat → Nat → Int} {nm : Nat → List Int} {Q : mj_P} {d q : Nat} (hA : rv_AT G M0 B n lim tp bc pl na ta ba wa oa tr br T) (hS : rv_S G M0 n lim tp pl na wa oa tr br (T q) PL WA OA TO BI nm M) (hqn : q ≤ n) (hb : rv_pb PL) {w : Nat} (gw : G w = (907050, 0)) (e9 : M.2.2 tp 9 = some w) (h7 : 0 = 0 → sp_move T PL WA OA TO BI nm q (fun f a => ∀ M', rv_F tp pl na wa oa tr br M0 f a M' → Q (some (.inl 0)) G M') (fun PL WA OA TO BI nm q' => q ≤ q' → q' ≤ n → rv_pb PL → ∀ M', rv_S G M0 n lim tp pl na wa oa tr br (T q') PL WA OA TO BI nm M' → Q (some (.inl 1)) G M')) : mj_R mj_tab (d + 6) 43 [.inr (.inr (some pl)), .inr (.inr (some tp))] G M Q := by
  obtain ⟨⟨gtp, gbc, gpl, gna, gta, gba, gwa, goa, gtr, gbr, itr, ibr, r1, r2, r3, r4, r5, r6, r7, r8, rb, rw0, n1, n2, hIw⟩, hT⟩ := id hA
  refine ⟨Nat.le_of_ble_eq_true rfl, ?_⟩
  show wz (d + 5) mt_X3_readRow.2.2.2.2.1 Q mt_X3_readRow.2.2.2.2.1 [some (.inr (.inr (some pl))), some (.inr (.inr (some tp))), none] [] G M _ _
  refine w_aln rfl ?_
  refine w_gr gtp rfl (by decide) rfl (e9) ?_
  refine w_asn ?_
  show wz _ _ _ _ [some (.inr (.inr (some pl))), some (.inr (.inr (some tp))), some (.inr (.inr (some w)))] _ _ _ _ _
  refine w_aln rfl ?_
  refine w_ifnn (fun c1 => ?_) (fun c1 => ?_)
  · skip
    refine w_aln rfl ?_
    refine w_gs ?_
    intro a2 ga2
    have ga2 : G a2 = (900050, 0) := ga2
    refine w_acne (fun c3 => ?_) (fun c3 => ?_)
    · skip
      refine w_aln rfl ?_
      refine w_gs ?_
      intro a4 ga4
      have ga4 : G a4 = (901050, 0) := ga4
      refine w_acne (fun c5 => ?_) (fun c5 => ?_)
      · skip
        refine w_aln rfl ?_
        refine w_gs ?_
        intro a6 ga6
        have ga6 : G a6 = (902050, 0) := ga6
        refine w_acne (fun c7 => ?_) (fun c7 => ?_)
        · skip
          refine w_aln rfl ?_
          refine w_cv (st := []) rfl gw rfl (Nat.le_of_ble_eq_true rfl) (fun kk h => h) ⟨Nat.le_of_ble_eq_true rfl, ?_⟩
          show wz (d + 4) mt_X9_isAboutTown.2.2.2.2.1 _ mt_X9_isAboutTown.2.2.2.2.1 [some (.inr (.inr (some w)))] [] _ _ _ _
          refine w_aln rfl ?_
          refine w_gs ?_
          intro a8 ga8
          have ga8 : G a8 = (903050, 0) := ga8
          refine w_aceq (fun c9 => ?_) (fun c9 => ?_)
          · exact absurd (Option.some.inj c9) (hn_ne gw ga8 (by decide))
          · skip
            refine w_aln rfl ?_
            refine w_gs ?_
            intro a10 ga10
            have ga10 : G a10 = (904050, 0) := ga10
            refine w_aceq (fun c11 => ?_) (fun c11 => ?_)
            · exact absurd (Option.some.inj c11) (hn_ne gw ga10 (by decide))
            · skip
              refine w_aln rfl ?_
              refine w_gs ?_
              intro a12 ga12
              have ga12 : G a12 = (905050, 0) := ga12
              refine w_aceq (fun c13 => ?_) (fun c13 => ?_)
              · exact absurd (Option.some.inj c13) (hn_ne gw ga12 (by decide))
              · skip
                refine w_aln rfl ?_
                refine w_gs ?_
                intro a14 ga14
                have ga14 : G a14 = (906050, 0) := ga14
                refine w_acne (fun c15 => ?_) (fun c15 => ?_)
                · skip
                  refine w_ic ?_
                  refine w_iret (fun _ => Or.inl rfl) ?_
                  refine w_ifeq (fun c16 => ?_) (fun c16 => ?_)
                  · skip
                    refine w_aln rfl ?_
                    refine w_gs ?_
                    intro a17 ga17
                    have ga17 : G a17 = (907050, 0) := ga17
                    refine w_acne (fun c18 => ?_) (fun c18 => ?_)
                    · exact absurd (congrArg some (hIw _ _ ((congrArg (fun x => x.1 % 1000) gw).trans rfl) (gw.trans ga17.symm))) c18
                    · skip
                      refine w_aln rfl ?_
                      refine w_aln rfl ?_
                      refine w_cv (st := []) rfl gpl rfl (Nat.le_of_ble_eq_true rfl) (fun kk h => h) (r_X3_readMove (d := d) hA hS hqn hb ((h7 rfl).mono (fun f a hf M1 F1 => ?_) (fun PL1 WA1 OA1 TO1 BI1 nm1 q1 hk1 g1 g2 hb1 M1 s1 => ?_)))
                      · skip
                        exact w_iret (fun _ => Or.inl rfl) (hf _ F1)
                      · skip
                        exact w_iret (fun _ => Or.inr rfl) (hk1 g1 g2 hb1 _ s1)
                  · exfalso; omega
                · exact absurd (Option.some.inj c15) (hn_ne gw ga14 (by decide))
        · exact absurd (Option.some.inj c7) (hn_ne gw ga6 (by decide))
      · exact absurd (Option.some.inj c5) (hn_ne gw ga4 (by decide))
    · exact absurd (Option.some.inj c3) (hn_ne gw ga2 (by decide))
  · cases c1
set_option maxHeartbeats 8000000 in
theorem r_row_8 {G : mj_G} {M0 M : mj_M} {B : Nat → Int} {n lim tp bc pl na ta ba wa oa : Nat} {tr br : Nat → Nat} {T : Nat → Nat × Nat × Int × List Int × Nat} {PL WA OA : Nat → Int} {TO BI : Nat → Nat → Int} {nm : Nat → List Int} {Q : mj_P} {d q : Nat} (hA : rv_AT G M0 B n lim tp bc pl na ta ba wa oa tr br T) (hS : rv_S G M0 n lim tp pl na wa oa tr br (T q) PL WA OA TO BI nm M) (hqn : q ≤ n) (hb : rv_pb PL) {w : Nat} (gw : G w = (908050, 0)) (e9 : M.2.2 tp 9 = some w) (h8 : 0 = 0 → sp_fish T PL WA OA TO BI nm q (fun f a => ∀ M', rv_F tp pl na wa oa tr br M0 f a M' → Q (some (.inl 0)) G M') (fun PL WA OA TO BI nm q' => q ≤ q' → q' ≤ n → rv_pb PL → ∀ M', rv_S G M0 n lim tp pl na wa oa tr br (T q') PL WA OA TO BI nm M' → Q (some (.inl 1)) G M')) : mj_R mj_tab (d + 6) 43 [.inr (.inr (some pl)), .inr (.inr (some tp))] G M Q := by
  obtain ⟨⟨gtp, gbc, gpl, gna, gta, gba, gwa, goa, gtr, gbr, itr, ibr, r1, r2, r3, r4, r5, r6, r7, r8, rb, rw0, n1, n2, hIw⟩, hT⟩ := id hA
  refine ⟨Nat.le_of_ble_eq_true rfl, ?_⟩
  show wz (d + 5) mt_X3_readRow.2.2.2.2.1 Q mt_X3_readRow.2.2.2.2.1 [some (.inr (.inr (some pl))), some (.inr (.inr (some tp))), none] [] G M _ _
  refine w_aln rfl ?_
  refine w_gr gtp rfl (by decide) rfl (e9) ?_
  refine w_asn ?_
  show wz _ _ _ _ [some (.inr (.inr (some pl))), some (.inr (.inr (some tp))), some (.inr (.inr (some w)))] _ _ _ _ _
  refine w_aln rfl ?_
  refine w_ifnn (fun c1 => ?_) (fun c1 => ?_)
  · skip
    refine w_aln rfl ?_
    refine w_gs ?_
    intro a2 ga2
    have ga2 : G a2 = (900050, 0) := ga2
    refine w_acne (fun c3 => ?_) (fun c3 => ?_)
    · skip
      refine w_aln rfl ?_
      refine w_gs ?_
      intro a4 ga4
      have ga4 : G a4 = (901050, 0) := ga4
      refine w_acne (fun c5 => ?_) (fun c5 => ?_)
      · skip
        refine w_aln rfl ?_
        refine w_gs ?_
        intro a6 ga6
        have ga6 : G a6 = (902050, 0) := ga6
        refine w_acne (fun c7 => ?_) (fun c7 => ?_)
        · skip
          refine w_aln rfl ?_
          refine w_cv (st := []) rfl gw rfl (Nat.le_of_ble_eq_true rfl) (fun kk h => h) ⟨Nat.le_of_ble_eq_true rfl, ?_⟩
          show wz (d + 4) mt_X9_isAboutTown.2.2.2.2.1 _ mt_X9_isAboutTown.2.2.2.2.1 [some (.inr (.inr (some w)))] [] _ _ _ _
          refine w_aln rfl ?_
          refine w_gs ?_
          intro a8 ga8
          have ga8 : G a8 = (903050, 0) := ga8
          refine w_aceq (fun c9 => ?_) (fun c9 => ?_)
          · exact absurd (Option.some.inj c9) (hn_ne gw ga8 (by decide))
          · skip
            refine w_aln rfl ?_
            refine w_gs ?_
            intro a10 ga10
            have ga10 : G a10 = (904050, 0) := ga10
            refine w_aceq (fun c11 => ?_) (fun c11 => ?_)
            · exact absurd (Option.some.inj c11) (hn_ne gw ga10 (by decide))
            · skip
              refine w_aln rfl ?_
              refine w_gs ?_
              intro a12 ga12
              have ga12 : G a12 = (905050, 0) := ga12
              refine w_aceq (fun c13 => ?_) (fun c13 => ?_)
              · exact absurd (Option.some.inj c13) (hn_ne gw ga12 (by decide))
              · skip
                refine w_aln rfl ?_
                refine w_gs ?_
                intro a14 ga14
                have ga14 : G a14 = (906050, 0) := ga14
                refine w_acne (fun c15 => ?_) (fun c15 => ?_)
                · skip
                  refine w_ic ?_
                  refine w_iret (fun _ => Or.inl rfl) ?_
                  refine w_ifeq (fun c16 => ?_) (fun c16 => ?_)
                  · skip
                    refine w_aln rfl ?_
                    refine w_gs ?_
                    intro a17 ga17
                    have ga17 : G a17 = (907050, 0) := ga17
                    refine w_acne (fun c18 => ?_) (fun c18 => ?_)
                    · skip
                      refine w_aln rfl ?_
                      refine w_gs ?_
                      intro a19 ga19
                      have ga19 : G a19 = (908050, 0) := ga19
                      refine w_acne (fun c20 => ?_) (fun c20 => ?_)
                      · exact absurd (congrArg some (hIw _ _ ((congrArg (fun x => x.1 % 1000) gw).trans rfl) (gw.trans ga19.symm))) c20
                      · skip
                        refine w_aln rfl ?_
                        refine w_aln rfl ?_
                        refine w_cv (st := []) rfl gpl rfl (Nat.le_of_ble_eq_true rfl) (fun kk h => h) (r_X3_readFish (d := d) hA hS hqn hb ((h8 rfl).mono (fun f a hf M1 F1 => ?_) (fun PL1 WA1 OA1 TO1 BI1 nm1 q1 hk1 g1 g2 hb1 M1 s1 => ?_)))
                        · skip
                          exact w_iret (fun _ => Or.inl rfl) (hf _ F1)
                        · skip
                          exact w_iret (fun _ => Or.inr rfl) (hk1 g1 g2 hb1 _ s1)
                    · exact absurd (Option.some.inj c18) (hn_ne gw ga17 (by decide))
                  · exfalso; omega
                · exact absurd (Option.some.inj c15) (hn_ne gw ga14 (by decide))
        · exact absurd (Option.some.inj c7) (hn_ne gw ga6 (by decide))
      · exact absurd (Option.some.inj c5) (hn_ne gw ga4 (by decide))
    · exact absurd (Option.some.inj c3) (hn_ne gw ga2 (by decide))
  · cases c1
set_option maxHeartbeats 8000000 in
theorem r_row_9 {G : mj_G} {M0 M : mj_M} {B : Nat → Int} {n lim tp bc pl na ta ba wa oa : Nat} {tr br : Nat → Nat} {T : Nat → Nat × Nat × Int × List Int × Nat} {PL WA OA : Nat → Int} {TO BI : Nat → Nat → Int} {nm : Nat → List Int} {Q : mj_P} {d q : Nat} (hA : rv_AT G M0 B n lim tp bc pl na ta ba wa oa tr br T) (hS : rv_S G M0 n lim tp pl na wa oa tr br (T q) PL WA OA TO BI nm M) (hqn : q ≤ n) (hb : rv_pb PL) {w : Nat} (gw : G w = (909050, 0)) (e9 : M.2.2 tp 9 = some w) (h9 : 0 = 0 → sp_patience T PL WA OA TO BI nm q (fun f a => ∀ M', rv_F tp pl na wa oa tr br M0 f a M' → Q (some (.inl 0)) G M') (fun PL WA OA TO BI nm q' => q ≤ q' → q' ≤ n → rv_pb PL → ∀ M', rv_S G M0 n lim tp pl na wa oa tr br (T q') PL WA OA TO BI nm M' → Q (some (.inl 1)) G M')) : mj_R mj_tab (d + 6) 43 [.inr (.inr (some pl)), .inr (.inr (some tp))] G M Q := by
  obtain ⟨⟨gtp, gbc, gpl, gna, gta, gba, gwa, goa, gtr, gbr, itr, ibr, r1, r2, r3, r4, r5, r6, r7, r8, rb, rw0, n1, n2, hIw⟩, hT⟩ := id hA
  refine ⟨Nat.le_of_ble_eq_true rfl, ?_⟩
  show wz (d + 5) mt_X3_readRow.2.2.2.2.1 Q mt_X3_readRow.2.2.2.2.1 [some (.inr (.inr (some pl))), some (.inr (.inr (some tp))), none] [] G M _ _
  refine w_aln rfl ?_
  refine w_gr gtp rfl (by decide) rfl (e9) ?_
  refine w_asn ?_
  show wz _ _ _ _ [some (.inr (.inr (some pl))), some (.inr (.inr (some tp))), some (.inr (.inr (some w)))] _ _ _ _ _
  refine w_aln rfl ?_
  refine w_ifnn (fun c1 => ?_) (fun c1 => ?_)
  · skip
    refine w_aln rfl ?_
    refine w_gs ?_
    intro a2 ga2
    have ga2 : G a2 = (900050, 0) := ga2
    refine w_acne (fun c3 => ?_) (fun c3 => ?_)
    · skip
      refine w_aln rfl ?_
      refine w_gs ?_
      intro a4 ga4
      have ga4 : G a4 = (901050, 0) := ga4
      refine w_acne (fun c5 => ?_) (fun c5 => ?_)
      · skip
        refine w_aln rfl ?_
        refine w_gs ?_
        intro a6 ga6
        have ga6 : G a6 = (902050, 0) := ga6
        refine w_acne (fun c7 => ?_) (fun c7 => ?_)
        · skip
          refine w_aln rfl ?_
          refine w_cv (st := []) rfl gw rfl (Nat.le_of_ble_eq_true rfl) (fun kk h => h) ⟨Nat.le_of_ble_eq_true rfl, ?_⟩
          show wz (d + 4) mt_X9_isAboutTown.2.2.2.2.1 _ mt_X9_isAboutTown.2.2.2.2.1 [some (.inr (.inr (some w)))] [] _ _ _ _
          refine w_aln rfl ?_
          refine w_gs ?_
          intro a8 ga8
          have ga8 : G a8 = (903050, 0) := ga8
          refine w_aceq (fun c9 => ?_) (fun c9 => ?_)
          · exact absurd (Option.some.inj c9) (hn_ne gw ga8 (by decide))
          · skip
            refine w_aln rfl ?_
            refine w_gs ?_
            intro a10 ga10
            have ga10 : G a10 = (904050, 0) := ga10
            refine w_aceq (fun c11 => ?_) (fun c11 => ?_)
            · exact absurd (Option.some.inj c11) (hn_ne gw ga10 (by decide))
            · skip
              refine w_aln rfl ?_
              refine w_gs ?_
              intro a12 ga12
              have ga12 : G a12 = (905050, 0) := ga12
              refine w_aceq (fun c13 => ?_) (fun c13 => ?_)
              · exact absurd (Option.some.inj c13) (hn_ne gw ga12 (by decide))
              · skip
                refine w_aln rfl ?_
                refine w_gs ?_
                intro a14 ga14
                have ga14 : G a14 = (906050, 0) := ga14
                refine w_acne (fun c15 => ?_) (fun c15 => ?_)
                · skip
                  refine w_ic ?_
                  refine w_iret (fun _ => Or.inl rfl) ?_
                  refine w_ifeq (fun c16 => ?_) (fun c16 => ?_)
                  · skip
                    refine w_aln rfl ?_
                    refine w_gs ?_
                    intro a17 ga17
                    have ga17 : G a17 = (907050, 0) := ga17
                    refine w_acne (fun c18 => ?_) (fun c18 => ?_)
                    · skip
                      refine w_aln rfl ?_
                      refine w_gs ?_
                      intro a19 ga19
                      have ga19 : G a19 = (908050, 0) := ga19
                      refine w_acne (fun c20 => ?_) (fun c20 => ?_)
                      · skip
                        refine w_aln rfl ?_
                        refine w_gs ?_
                        intro a21 ga21
                        have ga21 : G a21 = (909050, 0) := ga21
                        refine w_acne (fun c22 => ?_) (fun c22 => ?_)
                        · exact absurd (congrArg some (hIw _ _ ((congrArg (fun x => x.1 % 1000) gw).trans rfl) (gw.trans ga21.symm))) c22
                        · skip
                          refine w_aln rfl ?_
                          refine w_aln rfl ?_
                          refine w_cv (st := []) rfl gpl rfl (Nat.le_of_ble_eq_true rfl) (fun kk h => h) (r_X3_readPatience (d := d) hA hS hqn hb ((h9 rfl).mono (fun f a hf M1 F1 => ?_) (fun PL1 WA1 OA1 TO1 BI1 nm1 q1 hk1 g1 g2 hb1 M1 s1 => ?_)))
                          · skip
                            exact w_iret (fun _ => Or.inl rfl) (hf _ F1)
                          · skip
                            exact w_iret (fun _ => Or.inr rfl) (hk1 g1 g2 hb1 _ s1)
                      · exact absurd (Option.some.inj c20) (hn_ne gw ga19 (by decide))
                    · exact absurd (Option.some.inj c18) (hn_ne gw ga17 (by decide))
                  · exfalso; omega
                · exact absurd (Option.some.inj c15) (hn_ne gw ga14 (by decide))
        · exact absurd (Option.some.inj c7) (hn_ne gw ga6 (by decide))
      · exact absurd (Option.some.inj c5) (hn_ne gw ga4 (by decide))
    · exact absurd (Option.some.inj c3) (hn_ne gw ga2 (by decide))
  · cases c1
set_option maxHeartbeats 8000000 in
theorem r_row_10 {G : mj_G} {M0 M : mj_M} {B : Nat → Int} {n lim tp bc pl na ta ba wa oa : Nat} {tr br : Nat → Nat} {T : Nat → Nat × Nat × Int × List Int × Nat} {PL WA OA : Nat → Int} {TO BI : Nat → Nat → Int} {nm : Nat → List Int} {Q : mj_P} {d q : Nat} (hA : rv_AT G M0 B n lim tp bc pl na ta ba wa oa tr br T) (hS : rv_S G M0 n lim tp pl na wa oa tr br (T q) PL WA OA TO BI nm M) (hqn : q ≤ n) (hb : rv_pb PL) {w : Nat} (gw : G w = (910050, 0)) (e9 : M.2.2 tp 9 = some w) (h10 : ∀ M', rv_F tp pl na wa oa tr br M0 1 (T q).2.1 M' → Q (some (.inl 0)) G M') : mj_R mj_tab (d + 6) 43 [.inr (.inr (some pl)), .inr (.inr (some tp))] G M Q := by
  obtain ⟨⟨gtp, gbc, gpl, gna, gta, gba, gwa, goa, gtr, gbr, itr, ibr, r1, r2, r3, r4, r5, r6, r7, r8, rb, rw0, n1, n2, hIw⟩, hT⟩ := id hA
  refine ⟨Nat.le_of_ble_eq_true rfl, ?_⟩
  show wz (d + 5) mt_X3_readRow.2.2.2.2.1 Q mt_X3_readRow.2.2.2.2.1 [some (.inr (.inr (some pl))), some (.inr (.inr (some tp))), none] [] G M _ _
  refine w_aln rfl ?_
  refine w_gr gtp rfl (by decide) rfl (e9) ?_
  refine w_asn ?_
  show wz _ _ _ _ [some (.inr (.inr (some pl))), some (.inr (.inr (some tp))), some (.inr (.inr (some w)))] _ _ _ _ _
  refine w_aln rfl ?_
  refine w_ifnn (fun c1 => ?_) (fun c1 => ?_)
  · skip
    refine w_aln rfl ?_
    refine w_gs ?_
    intro a2 ga2
    have ga2 : G a2 = (900050, 0) := ga2
    refine w_acne (fun c3 => ?_) (fun c3 => ?_)
    · skip
      refine w_aln rfl ?_
      refine w_gs ?_
      intro a4 ga4
      have ga4 : G a4 = (901050, 0) := ga4
      refine w_acne (fun c5 => ?_) (fun c5 => ?_)
      · skip
        refine w_aln rfl ?_
        refine w_gs ?_
        intro a6 ga6
        have ga6 : G a6 = (902050, 0) := ga6
        refine w_acne (fun c7 => ?_) (fun c7 => ?_)
        · skip
          refine w_aln rfl ?_
          refine w_cv (st := []) rfl gw rfl (Nat.le_of_ble_eq_true rfl) (fun kk h => h) ⟨Nat.le_of_ble_eq_true rfl, ?_⟩
          show wz (d + 4) mt_X9_isAboutTown.2.2.2.2.1 _ mt_X9_isAboutTown.2.2.2.2.1 [some (.inr (.inr (some w)))] [] _ _ _ _
          refine w_aln rfl ?_
          refine w_gs ?_
          intro a8 ga8
          have ga8 : G a8 = (903050, 0) := ga8
          refine w_aceq (fun c9 => ?_) (fun c9 => ?_)
          · exact absurd (Option.some.inj c9) (hn_ne gw ga8 (by decide))
          · skip
            refine w_aln rfl ?_
            refine w_gs ?_
            intro a10 ga10
            have ga10 : G a10 = (904050, 0) := ga10
            refine w_aceq (fun c11 => ?_) (fun c11 => ?_)
            · exact absurd (Option.some.inj c11) (hn_ne gw ga10 (by decide))
            · skip
              refine w_aln rfl ?_
              refine w_gs ?_
              intro a12 ga12
              have ga12 : G a12 = (905050, 0) := ga12
              refine w_aceq (fun c13 => ?_) (fun c13 => ?_)
              · exact absurd (Option.some.inj c13) (hn_ne gw ga12 (by decide))
              · skip
                refine w_aln rfl ?_
                refine w_gs ?_
                intro a14 ga14
                have ga14 : G a14 = (906050, 0) := ga14
                refine w_acne (fun c15 => ?_) (fun c15 => ?_)
                · skip
                  refine w_ic ?_
                  refine w_iret (fun _ => Or.inl rfl) ?_
                  refine w_ifeq (fun c16 => ?_) (fun c16 => ?_)
                  · skip
                    refine w_aln rfl ?_
                    refine w_gs ?_
                    intro a17 ga17
                    have ga17 : G a17 = (907050, 0) := ga17
                    refine w_acne (fun c18 => ?_) (fun c18 => ?_)
                    · skip
                      refine w_aln rfl ?_
                      refine w_gs ?_
                      intro a19 ga19
                      have ga19 : G a19 = (908050, 0) := ga19
                      refine w_acne (fun c20 => ?_) (fun c20 => ?_)
                      · skip
                        refine w_aln rfl ?_
                        refine w_gs ?_
                        intro a21 ga21
                        have ga21 : G a21 = (909050, 0) := ga21
                        refine w_acne (fun c22 => ?_) (fun c22 => ?_)
                        · skip
                          refine w_aln rfl ?_
                          refine w_ic ?_
                          refine w_cv (st := []) rfl gtp rfl (Nat.le_of_ble_eq_true rfl) (fun kk h => h) (r_X7_refuse (d := d + 4) hA hS (by decide) (fun MF23 F23 => ?_))
                          exact w_iret (fun _ => Or.inl rfl) (h10 _ F23)
                        · exact absurd (Option.some.inj c22) (hn_ne gw ga21 (by decide))
                      · exact absurd (Option.some.inj c20) (hn_ne gw ga19 (by decide))
                    · exact absurd (Option.some.inj c18) (hn_ne gw ga17 (by decide))
                  · exfalso; omega
                · exact absurd (Option.some.inj c15) (hn_ne gw ga14 (by decide))
        · exact absurd (Option.some.inj c7) (hn_ne gw ga6 (by decide))
      · exact absurd (Option.some.inj c5) (hn_ne gw ga4 (by decide))
    · exact absurd (Option.some.inj c3) (hn_ne gw ga2 (by decide))
  · cases c1
set_option maxHeartbeats 8000000 in
theorem r_row_11 {G : mj_G} {M0 M : mj_M} {B : Nat → Int} {n lim tp bc pl na ta ba wa oa : Nat} {tr br : Nat → Nat} {T : Nat → Nat × Nat × Int × List Int × Nat} {PL WA OA : Nat → Int} {TO BI : Nat → Nat → Int} {nm : Nat → List Int} {Q : mj_P} {d q : Nat} (hA : rv_AT G M0 B n lim tp bc pl na ta ba wa oa tr br T) (hS : rv_S G M0 n lim tp pl na wa oa tr br (T q) PL WA OA TO BI nm M) (hqn : q ≤ n) (hb : rv_pb PL) {w : Nat} (gw : G w = (911050, 0)) (e9 : M.2.2 tp 9 = some w) (h10 : ∀ M', rv_F tp pl na wa oa tr br M0 1 (T q).2.1 M' → Q (some (.inl 0)) G M') : mj_R mj_tab (d + 6) 43 [.inr (.inr (some pl)), .inr (.inr (some tp))] G M Q := by
  obtain ⟨⟨gtp, gbc, gpl, gna, gta, gba, gwa, goa, gtr, gbr, itr, ibr, r1, r2, r3, r4, r5, r6, r7, r8, rb, rw0, n1, n2, hIw⟩, hT⟩ := id hA
  refine ⟨Nat.le_of_ble_eq_true rfl, ?_⟩
  show wz (d + 5) mt_X3_readRow.2.2.2.2.1 Q mt_X3_readRow.2.2.2.2.1 [some (.inr (.inr (some pl))), some (.inr (.inr (some tp))), none] [] G M _ _
  refine w_aln rfl ?_
  refine w_gr gtp rfl (by decide) rfl (e9) ?_
  refine w_asn ?_
  show wz _ _ _ _ [some (.inr (.inr (some pl))), some (.inr (.inr (some tp))), some (.inr (.inr (some w)))] _ _ _ _ _
  refine w_aln rfl ?_
  refine w_ifnn (fun c1 => ?_) (fun c1 => ?_)
  · skip
    refine w_aln rfl ?_
    refine w_gs ?_
    intro a2 ga2
    have ga2 : G a2 = (900050, 0) := ga2
    refine w_acne (fun c3 => ?_) (fun c3 => ?_)
    · skip
      refine w_aln rfl ?_
      refine w_gs ?_
      intro a4 ga4
      have ga4 : G a4 = (901050, 0) := ga4
      refine w_acne (fun c5 => ?_) (fun c5 => ?_)
      · skip
        refine w_aln rfl ?_
        refine w_gs ?_
        intro a6 ga6
        have ga6 : G a6 = (902050, 0) := ga6
        refine w_acne (fun c7 => ?_) (fun c7 => ?_)
        · skip
          refine w_aln rfl ?_
          refine w_cv (st := []) rfl gw rfl (Nat.le_of_ble_eq_true rfl) (fun kk h => h) ⟨Nat.le_of_ble_eq_true rfl, ?_⟩
          show wz (d + 4) mt_X9_isAboutTown.2.2.2.2.1 _ mt_X9_isAboutTown.2.2.2.2.1 [some (.inr (.inr (some w)))] [] _ _ _ _
          refine w_aln rfl ?_
          refine w_gs ?_
          intro a8 ga8
          have ga8 : G a8 = (903050, 0) := ga8
          refine w_aceq (fun c9 => ?_) (fun c9 => ?_)
          · exact absurd (Option.some.inj c9) (hn_ne gw ga8 (by decide))
          · skip
            refine w_aln rfl ?_
            refine w_gs ?_
            intro a10 ga10
            have ga10 : G a10 = (904050, 0) := ga10
            refine w_aceq (fun c11 => ?_) (fun c11 => ?_)
            · exact absurd (Option.some.inj c11) (hn_ne gw ga10 (by decide))
            · skip
              refine w_aln rfl ?_
              refine w_gs ?_
              intro a12 ga12
              have ga12 : G a12 = (905050, 0) := ga12
              refine w_aceq (fun c13 => ?_) (fun c13 => ?_)
              · exact absurd (Option.some.inj c13) (hn_ne gw ga12 (by decide))
              · skip
                refine w_aln rfl ?_
                refine w_gs ?_
                intro a14 ga14
                have ga14 : G a14 = (906050, 0) := ga14
                refine w_acne (fun c15 => ?_) (fun c15 => ?_)
                · skip
                  refine w_ic ?_
                  refine w_iret (fun _ => Or.inl rfl) ?_
                  refine w_ifeq (fun c16 => ?_) (fun c16 => ?_)
                  · skip
                    refine w_aln rfl ?_
                    refine w_gs ?_
                    intro a17 ga17
                    have ga17 : G a17 = (907050, 0) := ga17
                    refine w_acne (fun c18 => ?_) (fun c18 => ?_)
                    · skip
                      refine w_aln rfl ?_
                      refine w_gs ?_
                      intro a19 ga19
                      have ga19 : G a19 = (908050, 0) := ga19
                      refine w_acne (fun c20 => ?_) (fun c20 => ?_)
                      · skip
                        refine w_aln rfl ?_
                        refine w_gs ?_
                        intro a21 ga21
                        have ga21 : G a21 = (909050, 0) := ga21
                        refine w_acne (fun c22 => ?_) (fun c22 => ?_)
                        · skip
                          refine w_aln rfl ?_
                          refine w_ic ?_
                          refine w_cv (st := []) rfl gtp rfl (Nat.le_of_ble_eq_true rfl) (fun kk h => h) (r_X7_refuse (d := d + 4) hA hS (by decide) (fun MF23 F23 => ?_))
                          exact w_iret (fun _ => Or.inl rfl) (h10 _ F23)
                        · exact absurd (Option.some.inj c22) (hn_ne gw ga21 (by decide))
                      · exact absurd (Option.some.inj c20) (hn_ne gw ga19 (by decide))
                    · exact absurd (Option.some.inj c18) (hn_ne gw ga17 (by decide))
                  · exfalso; omega
                · exact absurd (Option.some.inj c15) (hn_ne gw ga14 (by decide))
        · exact absurd (Option.some.inj c7) (hn_ne gw ga6 (by decide))
      · exact absurd (Option.some.inj c5) (hn_ne gw ga4 (by decide))
    · exact absurd (Option.some.inj c3) (hn_ne gw ga2 (by decide))
  · cases c1
set_option maxHeartbeats 8000000 in
theorem r_row_12 {G : mj_G} {M0 M : mj_M} {B : Nat → Int} {n lim tp bc pl na ta ba wa oa : Nat} {tr br : Nat → Nat} {T : Nat → Nat × Nat × Int × List Int × Nat} {PL WA OA : Nat → Int} {TO BI : Nat → Nat → Int} {nm : Nat → List Int} {Q : mj_P} {d q : Nat} (hA : rv_AT G M0 B n lim tp bc pl na ta ba wa oa tr br T) (hS : rv_S G M0 n lim tp pl na wa oa tr br (T q) PL WA OA TO BI nm M) (hqn : q ≤ n) (hb : rv_pb PL) {w : Nat} (gw : G w = (912050, 0)) (e9 : M.2.2 tp 9 = some w) (h10 : ∀ M', rv_F tp pl na wa oa tr br M0 1 (T q).2.1 M' → Q (some (.inl 0)) G M') : mj_R mj_tab (d + 6) 43 [.inr (.inr (some pl)), .inr (.inr (some tp))] G M Q := by
  obtain ⟨⟨gtp, gbc, gpl, gna, gta, gba, gwa, goa, gtr, gbr, itr, ibr, r1, r2, r3, r4, r5, r6, r7, r8, rb, rw0, n1, n2, hIw⟩, hT⟩ := id hA
  refine ⟨Nat.le_of_ble_eq_true rfl, ?_⟩
  show wz (d + 5) mt_X3_readRow.2.2.2.2.1 Q mt_X3_readRow.2.2.2.2.1 [some (.inr (.inr (some pl))), some (.inr (.inr (some tp))), none] [] G M _ _
  refine w_aln rfl ?_
  refine w_gr gtp rfl (by decide) rfl (e9) ?_
  refine w_asn ?_
  show wz _ _ _ _ [some (.inr (.inr (some pl))), some (.inr (.inr (some tp))), some (.inr (.inr (some w)))] _ _ _ _ _
  refine w_aln rfl ?_
  refine w_ifnn (fun c1 => ?_) (fun c1 => ?_)
  · skip
    refine w_aln rfl ?_
    refine w_gs ?_
    intro a2 ga2
    have ga2 : G a2 = (900050, 0) := ga2
    refine w_acne (fun c3 => ?_) (fun c3 => ?_)
    · skip
      refine w_aln rfl ?_
      refine w_gs ?_
      intro a4 ga4
      have ga4 : G a4 = (901050, 0) := ga4
      refine w_acne (fun c5 => ?_) (fun c5 => ?_)
      · skip
        refine w_aln rfl ?_
        refine w_gs ?_
        intro a6 ga6
        have ga6 : G a6 = (902050, 0) := ga6
        refine w_acne (fun c7 => ?_) (fun c7 => ?_)
        · skip
          refine w_aln rfl ?_
          refine w_cv (st := []) rfl gw rfl (Nat.le_of_ble_eq_true rfl) (fun kk h => h) ⟨Nat.le_of_ble_eq_true rfl, ?_⟩
          show wz (d + 4) mt_X9_isAboutTown.2.2.2.2.1 _ mt_X9_isAboutTown.2.2.2.2.1 [some (.inr (.inr (some w)))] [] _ _ _ _
          refine w_aln rfl ?_
          refine w_gs ?_
          intro a8 ga8
          have ga8 : G a8 = (903050, 0) := ga8
          refine w_aceq (fun c9 => ?_) (fun c9 => ?_)
          · exact absurd (Option.some.inj c9) (hn_ne gw ga8 (by decide))
          · skip
            refine w_aln rfl ?_
            refine w_gs ?_
            intro a10 ga10
            have ga10 : G a10 = (904050, 0) := ga10
            refine w_aceq (fun c11 => ?_) (fun c11 => ?_)
            · exact absurd (Option.some.inj c11) (hn_ne gw ga10 (by decide))
            · skip
              refine w_aln rfl ?_
              refine w_gs ?_
              intro a12 ga12
              have ga12 : G a12 = (905050, 0) := ga12
              refine w_aceq (fun c13 => ?_) (fun c13 => ?_)
              · exact absurd (Option.some.inj c13) (hn_ne gw ga12 (by decide))
              · skip
                refine w_aln rfl ?_
                refine w_gs ?_
                intro a14 ga14
                have ga14 : G a14 = (906050, 0) := ga14
                refine w_acne (fun c15 => ?_) (fun c15 => ?_)
                · skip
                  refine w_ic ?_
                  refine w_iret (fun _ => Or.inl rfl) ?_
                  refine w_ifeq (fun c16 => ?_) (fun c16 => ?_)
                  · skip
                    refine w_aln rfl ?_
                    refine w_gs ?_
                    intro a17 ga17
                    have ga17 : G a17 = (907050, 0) := ga17
                    refine w_acne (fun c18 => ?_) (fun c18 => ?_)
                    · skip
                      refine w_aln rfl ?_
                      refine w_gs ?_
                      intro a19 ga19
                      have ga19 : G a19 = (908050, 0) := ga19
                      refine w_acne (fun c20 => ?_) (fun c20 => ?_)
                      · skip
                        refine w_aln rfl ?_
                        refine w_gs ?_
                        intro a21 ga21
                        have ga21 : G a21 = (909050, 0) := ga21
                        refine w_acne (fun c22 => ?_) (fun c22 => ?_)
                        · skip
                          refine w_aln rfl ?_
                          refine w_ic ?_
                          refine w_cv (st := []) rfl gtp rfl (Nat.le_of_ble_eq_true rfl) (fun kk h => h) (r_X7_refuse (d := d + 4) hA hS (by decide) (fun MF23 F23 => ?_))
                          exact w_iret (fun _ => Or.inl rfl) (h10 _ F23)
                        · exact absurd (Option.some.inj c22) (hn_ne gw ga21 (by decide))
                      · exact absurd (Option.some.inj c20) (hn_ne gw ga19 (by decide))
                    · exact absurd (Option.some.inj c18) (hn_ne gw ga17 (by decide))
                  · exfalso; omega
                · exact absurd (Option.some.inj c15) (hn_ne gw ga14 (by decide))
        · exact absurd (Option.some.inj c7) (hn_ne gw ga6 (by decide))
      · exact absurd (Option.some.inj c5) (hn_ne gw ga4 (by decide))
    · exact absurd (Option.some.inj c3) (hn_ne gw ga2 (by decide))
  · cases c1
set_option maxHeartbeats 8000000 in
theorem r_row_13 {G : mj_G} {M0 M : mj_M} {B : Nat → Int} {n lim tp bc pl na ta ba wa oa : Nat} {tr br : Nat → Nat} {T : Nat → Nat × Nat × Int × List Int × Nat} {PL WA OA : Nat → Int} {TO BI : Nat → Nat → Int} {nm : Nat → List Int} {Q : mj_P} {d q : Nat} (hA : rv_AT G M0 B n lim tp bc pl na ta ba wa oa tr br T) (hS : rv_S G M0 n lim tp pl na wa oa tr br (T q) PL WA OA TO BI nm M) (hqn : q ≤ n) (hb : rv_pb PL) {w : Nat} (gw : G w = (913050, 0)) (e9 : M.2.2 tp 9 = some w) (h10 : ∀ M', rv_F tp pl na wa oa tr br M0 1 (T q).2.1 M' → Q (some (.inl 0)) G M') : mj_R mj_tab (d + 6) 43 [.inr (.inr (some pl)), .inr (.inr (some tp))] G M Q := by
  obtain ⟨⟨gtp, gbc, gpl, gna, gta, gba, gwa, goa, gtr, gbr, itr, ibr, r1, r2, r3, r4, r5, r6, r7, r8, rb, rw0, n1, n2, hIw⟩, hT⟩ := id hA
  refine ⟨Nat.le_of_ble_eq_true rfl, ?_⟩
  show wz (d + 5) mt_X3_readRow.2.2.2.2.1 Q mt_X3_readRow.2.2.2.2.1 [some (.inr (.inr (some pl))), some (.inr (.inr (some tp))), none] [] G M _ _
  refine w_aln rfl ?_
  refine w_gr gtp rfl (by decide) rfl (e9) ?_
  refine w_asn ?_
  show wz _ _ _ _ [some (.inr (.inr (some pl))), some (.inr (.inr (some tp))), some (.inr (.inr (some w)))] _ _ _ _ _
  refine w_aln rfl ?_
  refine w_ifnn (fun c1 => ?_) (fun c1 => ?_)
  · skip
    refine w_aln rfl ?_
    refine w_gs ?_
    intro a2 ga2
    have ga2 : G a2 = (900050, 0) := ga2
    refine w_acne (fun c3 => ?_) (fun c3 => ?_)
    · skip
      refine w_aln rfl ?_
      refine w_gs ?_
      intro a4 ga4
      have ga4 : G a4 = (901050, 0) := ga4
      refine w_acne (fun c5 => ?_) (fun c5 => ?_)
      · skip
        refine w_aln rfl ?_
        refine w_gs ?_
        intro a6 ga6
        have ga6 : G a6 = (902050, 0) := ga6
        refine w_acne (fun c7 => ?_) (fun c7 => ?_)
        · skip
          refine w_aln rfl ?_
          refine w_cv (st := []) rfl gw rfl (Nat.le_of_ble_eq_true rfl) (fun kk h => h) ⟨Nat.le_of_ble_eq_true rfl, ?_⟩
          show wz (d + 4) mt_X9_isAboutTown.2.2.2.2.1 _ mt_X9_isAboutTown.2.2.2.2.1 [some (.inr (.inr (some w)))] [] _ _ _ _
          refine w_aln rfl ?_
          refine w_gs ?_
          intro a8 ga8
          have ga8 : G a8 = (903050, 0) := ga8
          refine w_aceq (fun c9 => ?_) (fun c9 => ?_)
          · exact absurd (Option.some.inj c9) (hn_ne gw ga8 (by decide))
          · skip
            refine w_aln rfl ?_
            refine w_gs ?_
            intro a10 ga10
            have ga10 : G a10 = (904050, 0) := ga10
            refine w_aceq (fun c11 => ?_) (fun c11 => ?_)
            · exact absurd (Option.some.inj c11) (hn_ne gw ga10 (by decide))
            · skip
              refine w_aln rfl ?_
              refine w_gs ?_
              intro a12 ga12
              have ga12 : G a12 = (905050, 0) := ga12
              refine w_aceq (fun c13 => ?_) (fun c13 => ?_)
              · exact absurd (Option.some.inj c13) (hn_ne gw ga12 (by decide))
              · skip
                refine w_aln rfl ?_
                refine w_gs ?_
                intro a14 ga14
                have ga14 : G a14 = (906050, 0) := ga14
                refine w_acne (fun c15 => ?_) (fun c15 => ?_)
                · skip
                  refine w_ic ?_
                  refine w_iret (fun _ => Or.inl rfl) ?_
                  refine w_ifeq (fun c16 => ?_) (fun c16 => ?_)
                  · skip
                    refine w_aln rfl ?_
                    refine w_gs ?_
                    intro a17 ga17
                    have ga17 : G a17 = (907050, 0) := ga17
                    refine w_acne (fun c18 => ?_) (fun c18 => ?_)
                    · skip
                      refine w_aln rfl ?_
                      refine w_gs ?_
                      intro a19 ga19
                      have ga19 : G a19 = (908050, 0) := ga19
                      refine w_acne (fun c20 => ?_) (fun c20 => ?_)
                      · skip
                        refine w_aln rfl ?_
                        refine w_gs ?_
                        intro a21 ga21
                        have ga21 : G a21 = (909050, 0) := ga21
                        refine w_acne (fun c22 => ?_) (fun c22 => ?_)
                        · skip
                          refine w_aln rfl ?_
                          refine w_ic ?_
                          refine w_cv (st := []) rfl gtp rfl (Nat.le_of_ble_eq_true rfl) (fun kk h => h) (r_X7_refuse (d := d + 4) hA hS (by decide) (fun MF23 F23 => ?_))
                          exact w_iret (fun _ => Or.inl rfl) (h10 _ F23)
                        · exact absurd (Option.some.inj c22) (hn_ne gw ga21 (by decide))
                      · exact absurd (Option.some.inj c20) (hn_ne gw ga19 (by decide))
                    · exact absurd (Option.some.inj c18) (hn_ne gw ga17 (by decide))
                  · exfalso; omega
                · exact absurd (Option.some.inj c15) (hn_ne gw ga14 (by decide))
        · exact absurd (Option.some.inj c7) (hn_ne gw ga6 (by decide))
      · exact absurd (Option.some.inj c5) (hn_ne gw ga4 (by decide))
    · exact absurd (Option.some.inj c3) (hn_ne gw ga2 (by decide))
  · cases c1
set_option maxHeartbeats 8000000 in
theorem r_row_14 {G : mj_G} {M0 M : mj_M} {B : Nat → Int} {n lim tp bc pl na ta ba wa oa : Nat} {tr br : Nat → Nat} {T : Nat → Nat × Nat × Int × List Int × Nat} {PL WA OA : Nat → Int} {TO BI : Nat → Nat → Int} {nm : Nat → List Int} {Q : mj_P} {d q : Nat} (hA : rv_AT G M0 B n lim tp bc pl na ta ba wa oa tr br T) (hS : rv_S G M0 n lim tp pl na wa oa tr br (T q) PL WA OA TO BI nm M) (hqn : q ≤ n) (hb : rv_pb PL) {w : Nat} (gw : G w = (914050, 0)) (e9 : M.2.2 tp 9 = some w) (h10 : ∀ M', rv_F tp pl na wa oa tr br M0 1 (T q).2.1 M' → Q (some (.inl 0)) G M') : mj_R mj_tab (d + 6) 43 [.inr (.inr (some pl)), .inr (.inr (some tp))] G M Q := by
  obtain ⟨⟨gtp, gbc, gpl, gna, gta, gba, gwa, goa, gtr, gbr, itr, ibr, r1, r2, r3, r4, r5, r6, r7, r8, rb, rw0, n1, n2, hIw⟩, hT⟩ := id hA
  refine ⟨Nat.le_of_ble_eq_true rfl, ?_⟩
  show wz (d + 5) mt_X3_readRow.2.2.2.2.1 Q mt_X3_readRow.2.2.2.2.1 [some (.inr (.inr (some pl))), some (.inr (.inr (some tp))), none] [] G M _ _
  refine w_aln rfl ?_
  refine w_gr gtp rfl (by decide) rfl (e9) ?_
  refine w_asn ?_
  show wz _ _ _ _ [some (.inr (.inr (some pl))), some (.inr (.inr (some tp))), some (.inr (.inr (some w)))] _ _ _ _ _
  refine w_aln rfl ?_
  refine w_ifnn (fun c1 => ?_) (fun c1 => ?_)
  · skip
    refine w_aln rfl ?_
    refine w_gs ?_
    intro a2 ga2
    have ga2 : G a2 = (900050, 0) := ga2
    refine w_acne (fun c3 => ?_) (fun c3 => ?_)
    · skip
      refine w_aln rfl ?_
      refine w_gs ?_
      intro a4 ga4
      have ga4 : G a4 = (901050, 0) := ga4
      refine w_acne (fun c5 => ?_) (fun c5 => ?_)
      · skip
        refine w_aln rfl ?_
        refine w_gs ?_
        intro a6 ga6
        have ga6 : G a6 = (902050, 0) := ga6
        refine w_acne (fun c7 => ?_) (fun c7 => ?_)
        · skip
          refine w_aln rfl ?_
          refine w_cv (st := []) rfl gw rfl (Nat.le_of_ble_eq_true rfl) (fun kk h => h) ⟨Nat.le_of_ble_eq_true rfl, ?_⟩
          show wz (d + 4) mt_X9_isAboutTown.2.2.2.2.1 _ mt_X9_isAboutTown.2.2.2.2.1 [some (.inr (.inr (some w)))] [] _ _ _ _
          refine w_aln rfl ?_
          refine w_gs ?_
          intro a8 ga8
          have ga8 : G a8 = (903050, 0) := ga8
          refine w_aceq (fun c9 => ?_) (fun c9 => ?_)
          · exact absurd (Option.some.inj c9) (hn_ne gw ga8 (by decide))
          · skip
            refine w_aln rfl ?_
            refine w_gs ?_
            intro a10 ga10
            have ga10 : G a10 = (904050, 0) := ga10
            refine w_aceq (fun c11 => ?_) (fun c11 => ?_)
            · exact absurd (Option.some.inj c11) (hn_ne gw ga10 (by decide))
            · skip
              refine w_aln rfl ?_
              refine w_gs ?_
              intro a12 ga12
              have ga12 : G a12 = (905050, 0) := ga12
              refine w_aceq (fun c13 => ?_) (fun c13 => ?_)
              · exact absurd (Option.some.inj c13) (hn_ne gw ga12 (by decide))
              · skip
                refine w_aln rfl ?_
                refine w_gs ?_
                intro a14 ga14
                have ga14 : G a14 = (906050, 0) := ga14
                refine w_acne (fun c15 => ?_) (fun c15 => ?_)
                · skip
                  refine w_ic ?_
                  refine w_iret (fun _ => Or.inl rfl) ?_
                  refine w_ifeq (fun c16 => ?_) (fun c16 => ?_)
                  · skip
                    refine w_aln rfl ?_
                    refine w_gs ?_
                    intro a17 ga17
                    have ga17 : G a17 = (907050, 0) := ga17
                    refine w_acne (fun c18 => ?_) (fun c18 => ?_)
                    · skip
                      refine w_aln rfl ?_
                      refine w_gs ?_
                      intro a19 ga19
                      have ga19 : G a19 = (908050, 0) := ga19
                      refine w_acne (fun c20 => ?_) (fun c20 => ?_)
                      · skip
                        refine w_aln rfl ?_
                        refine w_gs ?_
                        intro a21 ga21
                        have ga21 : G a21 = (909050, 0) := ga21
                        refine w_acne (fun c22 => ?_) (fun c22 => ?_)
                        · skip
                          refine w_aln rfl ?_
                          refine w_ic ?_
                          refine w_cv (st := []) rfl gtp rfl (Nat.le_of_ble_eq_true rfl) (fun kk h => h) (r_X7_refuse (d := d + 4) hA hS (by decide) (fun MF23 F23 => ?_))
                          exact w_iret (fun _ => Or.inl rfl) (h10 _ F23)
                        · exact absurd (Option.some.inj c22) (hn_ne gw ga21 (by decide))
                      · exact absurd (Option.some.inj c20) (hn_ne gw ga19 (by decide))
                    · exact absurd (Option.some.inj c18) (hn_ne gw ga17 (by decide))
                  · exfalso; omega
                · exact absurd (Option.some.inj c15) (hn_ne gw ga14 (by decide))
        · exact absurd (Option.some.inj c7) (hn_ne gw ga6 (by decide))
      · exact absurd (Option.some.inj c5) (hn_ne gw ga4 (by decide))
    · exact absurd (Option.some.inj c3) (hn_ne gw ga2 (by decide))
  · cases c1
set_option maxHeartbeats 8000000 in
theorem r_row_15 {G : mj_G} {M0 M : mj_M} {B : Nat → Int} {n lim tp bc pl na ta ba wa oa : Nat} {tr br : Nat → Nat} {T : Nat → Nat × Nat × Int × List Int × Nat} {PL WA OA : Nat → Int} {TO BI : Nat → Nat → Int} {nm : Nat → List Int} {Q : mj_P} {d q : Nat} (hA : rv_AT G M0 B n lim tp bc pl na ta ba wa oa tr br T) (hS : rv_S G M0 n lim tp pl na wa oa tr br (T q) PL WA OA TO BI nm M) (hqn : q ≤ n) (hb : rv_pb PL) {w : Nat} (gw : G w = (915050, 0)) (e9 : M.2.2 tp 9 = some w) (h10 : ∀ M', rv_F tp pl na wa oa tr br M0 1 (T q).2.1 M' → Q (some (.inl 0)) G M') : mj_R mj_tab (d + 6) 43 [.inr (.inr (some pl)), .inr (.inr (some tp))] G M Q := by
  obtain ⟨⟨gtp, gbc, gpl, gna, gta, gba, gwa, goa, gtr, gbr, itr, ibr, r1, r2, r3, r4, r5, r6, r7, r8, rb, rw0, n1, n2, hIw⟩, hT⟩ := id hA
  refine ⟨Nat.le_of_ble_eq_true rfl, ?_⟩
  show wz (d + 5) mt_X3_readRow.2.2.2.2.1 Q mt_X3_readRow.2.2.2.2.1 [some (.inr (.inr (some pl))), some (.inr (.inr (some tp))), none] [] G M _ _
  refine w_aln rfl ?_
  refine w_gr gtp rfl (by decide) rfl (e9) ?_
  refine w_asn ?_
  show wz _ _ _ _ [some (.inr (.inr (some pl))), some (.inr (.inr (some tp))), some (.inr (.inr (some w)))] _ _ _ _ _
  refine w_aln rfl ?_
  refine w_ifnn (fun c1 => ?_) (fun c1 => ?_)
  · skip
    refine w_aln rfl ?_
    refine w_gs ?_
    intro a2 ga2
    have ga2 : G a2 = (900050, 0) := ga2
    refine w_acne (fun c3 => ?_) (fun c3 => ?_)
    · skip
      refine w_aln rfl ?_
      refine w_gs ?_
      intro a4 ga4
      have ga4 : G a4 = (901050, 0) := ga4
      refine w_acne (fun c5 => ?_) (fun c5 => ?_)
      · skip
        refine w_aln rfl ?_
        refine w_gs ?_
        intro a6 ga6
        have ga6 : G a6 = (902050, 0) := ga6
        refine w_acne (fun c7 => ?_) (fun c7 => ?_)
        · skip
          refine w_aln rfl ?_
          refine w_cv (st := []) rfl gw rfl (Nat.le_of_ble_eq_true rfl) (fun kk h => h) ⟨Nat.le_of_ble_eq_true rfl, ?_⟩
          show wz (d + 4) mt_X9_isAboutTown.2.2.2.2.1 _ mt_X9_isAboutTown.2.2.2.2.1 [some (.inr (.inr (some w)))] [] _ _ _ _
          refine w_aln rfl ?_
          refine w_gs ?_
          intro a8 ga8
          have ga8 : G a8 = (903050, 0) := ga8
          refine w_aceq (fun c9 => ?_) (fun c9 => ?_)
          · exact absurd (Option.some.inj c9) (hn_ne gw ga8 (by decide))
          · skip
            refine w_aln rfl ?_
            refine w_gs ?_
            intro a10 ga10
            have ga10 : G a10 = (904050, 0) := ga10
            refine w_aceq (fun c11 => ?_) (fun c11 => ?_)
            · exact absurd (Option.some.inj c11) (hn_ne gw ga10 (by decide))
            · skip
              refine w_aln rfl ?_
              refine w_gs ?_
              intro a12 ga12
              have ga12 : G a12 = (905050, 0) := ga12
              refine w_aceq (fun c13 => ?_) (fun c13 => ?_)
              · exact absurd (Option.some.inj c13) (hn_ne gw ga12 (by decide))
              · skip
                refine w_aln rfl ?_
                refine w_gs ?_
                intro a14 ga14
                have ga14 : G a14 = (906050, 0) := ga14
                refine w_acne (fun c15 => ?_) (fun c15 => ?_)
                · skip
                  refine w_ic ?_
                  refine w_iret (fun _ => Or.inl rfl) ?_
                  refine w_ifeq (fun c16 => ?_) (fun c16 => ?_)
                  · skip
                    refine w_aln rfl ?_
                    refine w_gs ?_
                    intro a17 ga17
                    have ga17 : G a17 = (907050, 0) := ga17
                    refine w_acne (fun c18 => ?_) (fun c18 => ?_)
                    · skip
                      refine w_aln rfl ?_
                      refine w_gs ?_
                      intro a19 ga19
                      have ga19 : G a19 = (908050, 0) := ga19
                      refine w_acne (fun c20 => ?_) (fun c20 => ?_)
                      · skip
                        refine w_aln rfl ?_
                        refine w_gs ?_
                        intro a21 ga21
                        have ga21 : G a21 = (909050, 0) := ga21
                        refine w_acne (fun c22 => ?_) (fun c22 => ?_)
                        · skip
                          refine w_aln rfl ?_
                          refine w_ic ?_
                          refine w_cv (st := []) rfl gtp rfl (Nat.le_of_ble_eq_true rfl) (fun kk h => h) (r_X7_refuse (d := d + 4) hA hS (by decide) (fun MF23 F23 => ?_))
                          exact w_iret (fun _ => Or.inl rfl) (h10 _ F23)
                        · exact absurd (Option.some.inj c22) (hn_ne gw ga21 (by decide))
                      · exact absurd (Option.some.inj c20) (hn_ne gw ga19 (by decide))
                    · exact absurd (Option.some.inj c18) (hn_ne gw ga17 (by decide))
                  · exfalso; omega
                · exact absurd (Option.some.inj c15) (hn_ne gw ga14 (by decide))
        · exact absurd (Option.some.inj c7) (hn_ne gw ga6 (by decide))
      · exact absurd (Option.some.inj c5) (hn_ne gw ga4 (by decide))
    · exact absurd (Option.some.inj c3) (hn_ne gw ga2 (by decide))
  · cases c1
set_option maxHeartbeats 8000000 in
theorem r_row_16 {G : mj_G} {M0 M : mj_M} {B : Nat → Int} {n lim tp bc pl na ta ba wa oa : Nat} {tr br : Nat → Nat} {T : Nat → Nat × Nat × Int × List Int × Nat} {PL WA OA : Nat → Int} {TO BI : Nat → Nat → Int} {nm : Nat → List Int} {Q : mj_P} {d q : Nat} (hA : rv_AT G M0 B n lim tp bc pl na ta ba wa oa tr br T) (hS : rv_S G M0 n lim tp pl na wa oa tr br (T q) PL WA OA TO BI nm M) (hqn : q ≤ n) (hb : rv_pb PL) {w : Nat} (gw : G w = (916050, 0)) (e9 : M.2.2 tp 9 = some w) (h10 : ∀ M', rv_F tp pl na wa oa tr br M0 1 (T q).2.1 M' → Q (some (.inl 0)) G M') : mj_R mj_tab (d + 6) 43 [.inr (.inr (some pl)), .inr (.inr (some tp))] G M Q := by
  obtain ⟨⟨gtp, gbc, gpl, gna, gta, gba, gwa, goa, gtr, gbr, itr, ibr, r1, r2, r3, r4, r5, r6, r7, r8, rb, rw0, n1, n2, hIw⟩, hT⟩ := id hA
  refine ⟨Nat.le_of_ble_eq_true rfl, ?_⟩
  show wz (d + 5) mt_X3_readRow.2.2.2.2.1 Q mt_X3_readRow.2.2.2.2.1 [some (.inr (.inr (some pl))), some (.inr (.inr (some tp))), none] [] G M _ _
  refine w_aln rfl ?_
  refine w_gr gtp rfl (by decide) rfl (e9) ?_
  refine w_asn ?_
  show wz _ _ _ _ [some (.inr (.inr (some pl))), some (.inr (.inr (some tp))), some (.inr (.inr (some w)))] _ _ _ _ _
  refine w_aln rfl ?_
  refine w_ifnn (fun c1 => ?_) (fun c1 => ?_)
  · skip
    refine w_aln rfl ?_
    refine w_gs ?_
    intro a2 ga2
    have ga2 : G a2 = (900050, 0) := ga2
    refine w_acne (fun c3 => ?_) (fun c3 => ?_)
    · skip
      refine w_aln rfl ?_
      refine w_gs ?_
      intro a4 ga4
      have ga4 : G a4 = (901050, 0) := ga4
      refine w_acne (fun c5 => ?_) (fun c5 => ?_)
      · skip
        refine w_aln rfl ?_
        refine w_gs ?_
        intro a6 ga6
        have ga6 : G a6 = (902050, 0) := ga6
        refine w_acne (fun c7 => ?_) (fun c7 => ?_)
        · skip
          refine w_aln rfl ?_
          refine w_cv (st := []) rfl gw rfl (Nat.le_of_ble_eq_true rfl) (fun kk h => h) ⟨Nat.le_of_ble_eq_true rfl, ?_⟩
          show wz (d + 4) mt_X9_isAboutTown.2.2.2.2.1 _ mt_X9_isAboutTown.2.2.2.2.1 [some (.inr (.inr (some w)))] [] _ _ _ _
          refine w_aln rfl ?_
          refine w_gs ?_
          intro a8 ga8
          have ga8 : G a8 = (903050, 0) := ga8
          refine w_aceq (fun c9 => ?_) (fun c9 => ?_)
          · exact absurd (Option.some.inj c9) (hn_ne gw ga8 (by decide))
          · skip
            refine w_aln rfl ?_
            refine w_gs ?_
            intro a10 ga10
            have ga10 : G a10 = (904050, 0) := ga10
            refine w_aceq (fun c11 => ?_) (fun c11 => ?_)
            · exact absurd (Option.some.inj c11) (hn_ne gw ga10 (by decide))
            · skip
              refine w_aln rfl ?_
              refine w_gs ?_
              intro a12 ga12
              have ga12 : G a12 = (905050, 0) := ga12
              refine w_aceq (fun c13 => ?_) (fun c13 => ?_)
              · exact absurd (Option.some.inj c13) (hn_ne gw ga12 (by decide))
              · skip
                refine w_aln rfl ?_
                refine w_gs ?_
                intro a14 ga14
                have ga14 : G a14 = (906050, 0) := ga14
                refine w_acne (fun c15 => ?_) (fun c15 => ?_)
                · skip
                  refine w_ic ?_
                  refine w_iret (fun _ => Or.inl rfl) ?_
                  refine w_ifeq (fun c16 => ?_) (fun c16 => ?_)
                  · skip
                    refine w_aln rfl ?_
                    refine w_gs ?_
                    intro a17 ga17
                    have ga17 : G a17 = (907050, 0) := ga17
                    refine w_acne (fun c18 => ?_) (fun c18 => ?_)
                    · skip
                      refine w_aln rfl ?_
                      refine w_gs ?_
                      intro a19 ga19
                      have ga19 : G a19 = (908050, 0) := ga19
                      refine w_acne (fun c20 => ?_) (fun c20 => ?_)
                      · skip
                        refine w_aln rfl ?_
                        refine w_gs ?_
                        intro a21 ga21
                        have ga21 : G a21 = (909050, 0) := ga21
                        refine w_acne (fun c22 => ?_) (fun c22 => ?_)
                        · skip
                          refine w_aln rfl ?_
                          refine w_ic ?_
                          refine w_cv (st := []) rfl gtp rfl (Nat.le_of_ble_eq_true rfl) (fun kk h => h) (r_X7_refuse (d := d + 4) hA hS (by decide) (fun MF23 F23 => ?_))
                          exact w_iret (fun _ => Or.inl rfl) (h10 _ F23)
                        · exact absurd (Option.some.inj c22) (hn_ne gw ga21 (by decide))
                      · exact absurd (Option.some.inj c20) (hn_ne gw ga19 (by decide))
                    · exact absurd (Option.some.inj c18) (hn_ne gw ga17 (by decide))
                  · exfalso; omega
                · exact absurd (Option.some.inj c15) (hn_ne gw ga14 (by decide))
        · exact absurd (Option.some.inj c7) (hn_ne gw ga6 (by decide))
      · exact absurd (Option.some.inj c5) (hn_ne gw ga4 (by decide))
    · exact absurd (Option.some.inj c3) (hn_ne gw ga2 (by decide))
  · cases c1
set_option maxHeartbeats 8000000 in
theorem r_row_17 {G : mj_G} {M0 M : mj_M} {B : Nat → Int} {n lim tp bc pl na ta ba wa oa : Nat} {tr br : Nat → Nat} {T : Nat → Nat × Nat × Int × List Int × Nat} {PL WA OA : Nat → Int} {TO BI : Nat → Nat → Int} {nm : Nat → List Int} {Q : mj_P} {d q : Nat} (hA : rv_AT G M0 B n lim tp bc pl na ta ba wa oa tr br T) (hS : rv_S G M0 n lim tp pl na wa oa tr br (T q) PL WA OA TO BI nm M) (hqn : q ≤ n) (hb : rv_pb PL) {w : Nat} (gw : G w = (917050, 0)) (e9 : M.2.2 tp 9 = some w) (h10 : ∀ M', rv_F tp pl na wa oa tr br M0 1 (T q).2.1 M' → Q (some (.inl 0)) G M') : mj_R mj_tab (d + 6) 43 [.inr (.inr (some pl)), .inr (.inr (some tp))] G M Q := by
  obtain ⟨⟨gtp, gbc, gpl, gna, gta, gba, gwa, goa, gtr, gbr, itr, ibr, r1, r2, r3, r4, r5, r6, r7, r8, rb, rw0, n1, n2, hIw⟩, hT⟩ := id hA
  refine ⟨Nat.le_of_ble_eq_true rfl, ?_⟩
  show wz (d + 5) mt_X3_readRow.2.2.2.2.1 Q mt_X3_readRow.2.2.2.2.1 [some (.inr (.inr (some pl))), some (.inr (.inr (some tp))), none] [] G M _ _
  refine w_aln rfl ?_
  refine w_gr gtp rfl (by decide) rfl (e9) ?_
  refine w_asn ?_
  show wz _ _ _ _ [some (.inr (.inr (some pl))), some (.inr (.inr (some tp))), some (.inr (.inr (some w)))] _ _ _ _ _
  refine w_aln rfl ?_
  refine w_ifnn (fun c1 => ?_) (fun c1 => ?_)
  · skip
    refine w_aln rfl ?_
    refine w_gs ?_
    intro a2 ga2
    have ga2 : G a2 = (900050, 0) := ga2
    refine w_acne (fun c3 => ?_) (fun c3 => ?_)
    · skip
      refine w_aln rfl ?_
      refine w_gs ?_
      intro a4 ga4
      have ga4 : G a4 = (901050, 0) := ga4
      refine w_acne (fun c5 => ?_) (fun c5 => ?_)
      · skip
        refine w_aln rfl ?_
        refine w_gs ?_
        intro a6 ga6
        have ga6 : G a6 = (902050, 0) := ga6
        refine w_acne (fun c7 => ?_) (fun c7 => ?_)
        · skip
          refine w_aln rfl ?_
          refine w_cv (st := []) rfl gw rfl (Nat.le_of_ble_eq_true rfl) (fun kk h => h) ⟨Nat.le_of_ble_eq_true rfl, ?_⟩
          show wz (d + 4) mt_X9_isAboutTown.2.2.2.2.1 _ mt_X9_isAboutTown.2.2.2.2.1 [some (.inr (.inr (some w)))] [] _ _ _ _
          refine w_aln rfl ?_
          refine w_gs ?_
          intro a8 ga8
          have ga8 : G a8 = (903050, 0) := ga8
          refine w_aceq (fun c9 => ?_) (fun c9 => ?_)
          · exact absurd (Option.some.inj c9) (hn_ne gw ga8 (by decide))
          · skip
            refine w_aln rfl ?_
            refine w_gs ?_
            intro a10 ga10
            have ga10 : G a10 = (904050, 0) := ga10
            refine w_aceq (fun c11 => ?_) (fun c11 => ?_)
            · exact absurd (Option.some.inj c11) (hn_ne gw ga10 (by decide))
            · skip
              refine w_aln rfl ?_
              refine w_gs ?_
              intro a12 ga12
              have ga12 : G a12 = (905050, 0) := ga12
              refine w_aceq (fun c13 => ?_) (fun c13 => ?_)
              · exact absurd (Option.some.inj c13) (hn_ne gw ga12 (by decide))
              · skip
                refine w_aln rfl ?_
                refine w_gs ?_
                intro a14 ga14
                have ga14 : G a14 = (906050, 0) := ga14
                refine w_acne (fun c15 => ?_) (fun c15 => ?_)
                · skip
                  refine w_ic ?_
                  refine w_iret (fun _ => Or.inl rfl) ?_
                  refine w_ifeq (fun c16 => ?_) (fun c16 => ?_)
                  · skip
                    refine w_aln rfl ?_
                    refine w_gs ?_
                    intro a17 ga17
                    have ga17 : G a17 = (907050, 0) := ga17
                    refine w_acne (fun c18 => ?_) (fun c18 => ?_)
                    · skip
                      refine w_aln rfl ?_
                      refine w_gs ?_
                      intro a19 ga19
                      have ga19 : G a19 = (908050, 0) := ga19
                      refine w_acne (fun c20 => ?_) (fun c20 => ?_)
                      · skip
                        refine w_aln rfl ?_
                        refine w_gs ?_
                        intro a21 ga21
                        have ga21 : G a21 = (909050, 0) := ga21
                        refine w_acne (fun c22 => ?_) (fun c22 => ?_)
                        · skip
                          refine w_aln rfl ?_
                          refine w_ic ?_
                          refine w_cv (st := []) rfl gtp rfl (Nat.le_of_ble_eq_true rfl) (fun kk h => h) (r_X7_refuse (d := d + 4) hA hS (by decide) (fun MF23 F23 => ?_))
                          exact w_iret (fun _ => Or.inl rfl) (h10 _ F23)
                        · exact absurd (Option.some.inj c22) (hn_ne gw ga21 (by decide))
                      · exact absurd (Option.some.inj c20) (hn_ne gw ga19 (by decide))
                    · exact absurd (Option.some.inj c18) (hn_ne gw ga17 (by decide))
                  · exfalso; omega
                · exact absurd (Option.some.inj c15) (hn_ne gw ga14 (by decide))
        · exact absurd (Option.some.inj c7) (hn_ne gw ga6 (by decide))
      · exact absurd (Option.some.inj c5) (hn_ne gw ga4 (by decide))
    · exact absurd (Option.some.inj c3) (hn_ne gw ga2 (by decide))
  · cases c1
set_option maxHeartbeats 8000000 in
theorem r_row_18 {G : mj_G} {M0 M : mj_M} {B : Nat → Int} {n lim tp bc pl na ta ba wa oa : Nat} {tr br : Nat → Nat} {T : Nat → Nat × Nat × Int × List Int × Nat} {PL WA OA : Nat → Int} {TO BI : Nat → Nat → Int} {nm : Nat → List Int} {Q : mj_P} {d q : Nat} (hA : rv_AT G M0 B n lim tp bc pl na ta ba wa oa tr br T) (hS : rv_S G M0 n lim tp pl na wa oa tr br (T q) PL WA OA TO BI nm M) (hqn : q ≤ n) (hb : rv_pb PL) {w : Nat} (gw : G w = (918050, 0)) (e9 : M.2.2 tp 9 = some w) (h10 : ∀ M', rv_F tp pl na wa oa tr br M0 1 (T q).2.1 M' → Q (some (.inl 0)) G M') : mj_R mj_tab (d + 6) 43 [.inr (.inr (some pl)), .inr (.inr (some tp))] G M Q := by
  obtain ⟨⟨gtp, gbc, gpl, gna, gta, gba, gwa, goa, gtr, gbr, itr, ibr, r1, r2, r3, r4, r5, r6, r7, r8, rb, rw0, n1, n2, hIw⟩, hT⟩ := id hA
  refine ⟨Nat.le_of_ble_eq_true rfl, ?_⟩
  show wz (d + 5) mt_X3_readRow.2.2.2.2.1 Q mt_X3_readRow.2.2.2.2.1 [some (.inr (.inr (some pl))), some (.inr (.inr (some tp))), none] [] G M _ _
  refine w_aln rfl ?_
  refine w_gr gtp rfl (by decide) rfl (e9) ?_
  refine w_asn ?_
  show wz _ _ _ _ [some (.inr (.inr (some pl))), some (.inr (.inr (some tp))), some (.inr (.inr (some w)))] _ _ _ _ _
  refine w_aln rfl ?_
  refine w_ifnn (fun c1 => ?_) (fun c1 => ?_)
  · skip
    refine w_aln rfl ?_
    refine w_gs ?_
    intro a2 ga2
    have ga2 : G a2 = (900050, 0) := ga2
    refine w_acne (fun c3 => ?_) (fun c3 => ?_)
    · skip
      refine w_aln rfl ?_
      refine w_gs ?_
      intro a4 ga4
      have ga4 : G a4 = (901050, 0) := ga4
      refine w_acne (fun c5 => ?_) (fun c5 => ?_)
      · skip
        refine w_aln rfl ?_
        refine w_gs ?_
        intro a6 ga6
        have ga6 : G a6 = (902050, 0) := ga6
        refine w_acne (fun c7 => ?_) (fun c7 => ?_)
        · skip
          refine w_aln rfl ?_
          refine w_cv (st := []) rfl gw rfl (Nat.le_of_ble_eq_true rfl) (fun kk h => h) ⟨Nat.le_of_ble_eq_true rfl, ?_⟩
          show wz (d + 4) mt_X9_isAboutTown.2.2.2.2.1 _ mt_X9_isAboutTown.2.2.2.2.1 [some (.inr (.inr (some w)))] [] _ _ _ _
          refine w_aln rfl ?_
          refine w_gs ?_
          intro a8 ga8
          have ga8 : G a8 = (903050, 0) := ga8
          refine w_aceq (fun c9 => ?_) (fun c9 => ?_)
          · exact absurd (Option.some.inj c9) (hn_ne gw ga8 (by decide))
          · skip
            refine w_aln rfl ?_
            refine w_gs ?_
            intro a10 ga10
            have ga10 : G a10 = (904050, 0) := ga10
            refine w_aceq (fun c11 => ?_) (fun c11 => ?_)
            · exact absurd (Option.some.inj c11) (hn_ne gw ga10 (by decide))
            · skip
              refine w_aln rfl ?_
              refine w_gs ?_
              intro a12 ga12
              have ga12 : G a12 = (905050, 0) := ga12
              refine w_aceq (fun c13 => ?_) (fun c13 => ?_)
              · exact absurd (Option.some.inj c13) (hn_ne gw ga12 (by decide))
              · skip
                refine w_aln rfl ?_
                refine w_gs ?_
                intro a14 ga14
                have ga14 : G a14 = (906050, 0) := ga14
                refine w_acne (fun c15 => ?_) (fun c15 => ?_)
                · skip
                  refine w_ic ?_
                  refine w_iret (fun _ => Or.inl rfl) ?_
                  refine w_ifeq (fun c16 => ?_) (fun c16 => ?_)
                  · skip
                    refine w_aln rfl ?_
                    refine w_gs ?_
                    intro a17 ga17
                    have ga17 : G a17 = (907050, 0) := ga17
                    refine w_acne (fun c18 => ?_) (fun c18 => ?_)
                    · skip
                      refine w_aln rfl ?_
                      refine w_gs ?_
                      intro a19 ga19
                      have ga19 : G a19 = (908050, 0) := ga19
                      refine w_acne (fun c20 => ?_) (fun c20 => ?_)
                      · skip
                        refine w_aln rfl ?_
                        refine w_gs ?_
                        intro a21 ga21
                        have ga21 : G a21 = (909050, 0) := ga21
                        refine w_acne (fun c22 => ?_) (fun c22 => ?_)
                        · skip
                          refine w_aln rfl ?_
                          refine w_ic ?_
                          refine w_cv (st := []) rfl gtp rfl (Nat.le_of_ble_eq_true rfl) (fun kk h => h) (r_X7_refuse (d := d + 4) hA hS (by decide) (fun MF23 F23 => ?_))
                          exact w_iret (fun _ => Or.inl rfl) (h10 _ F23)
                        · exact absurd (Option.some.inj c22) (hn_ne gw ga21 (by decide))
                      · exact absurd (Option.some.inj c20) (hn_ne gw ga19 (by decide))
                    · exact absurd (Option.some.inj c18) (hn_ne gw ga17 (by decide))
                  · exfalso; omega
                · exact absurd (Option.some.inj c15) (hn_ne gw ga14 (by decide))
        · exact absurd (Option.some.inj c7) (hn_ne gw ga6 (by decide))
      · exact absurd (Option.some.inj c5) (hn_ne gw ga4 (by decide))
    · exact absurd (Option.some.inj c3) (hn_ne gw ga2 (by decide))
  · cases c1
set_option maxHeartbeats 8000000 in
theorem r_row_19 {G : mj_G} {M0 M : mj_M} {B : Nat → Int} {n lim tp bc pl na ta ba wa oa : Nat} {tr br : Nat → Nat} {T : Nat → Nat × Nat × Int × List Int × Nat} {PL WA OA : Nat → Int} {TO BI : Nat → Nat → Int} {nm : Nat → List Int} {Q : mj_P} {d q : Nat} (hA : rv_AT G M0 B n lim tp bc pl na ta ba wa oa tr br T) (hS : rv_S G M0 n lim tp pl na wa oa tr br (T q) PL WA OA TO BI nm M) (hqn : q ≤ n) (hb : rv_pb PL) {w : Nat} (gw : G w = (919050, 0)) (e9 : M.2.2 tp 9 = some w) (h10 : ∀ M', rv_F tp pl na wa oa tr br M0 1 (T q).2.1 M' → Q (some (.inl 0)) G M') : mj_R mj_tab (d + 6) 43 [.inr (.inr (some pl)), .inr (.inr (some tp))] G M Q := by
  obtain ⟨⟨gtp, gbc, gpl, gna, gta, gba, gwa, goa, gtr, gbr, itr, ibr, r1, r2, r3, r4, r5, r6, r7, r8, rb, rw0, n1, n2, hIw⟩, hT⟩ := id hA
  refine ⟨Nat.le_of_ble_eq_true rfl, ?_⟩
  show wz (d + 5) mt_X3_readRow.2.2.2.2.1 Q mt_X3_readRow.2.2.2.2.1 [some (.inr (.inr (some pl))), some (.inr (.inr (some tp))), none] [] G M _ _
  refine w_aln rfl ?_
  refine w_gr gtp rfl (by decide) rfl (e9) ?_
  refine w_asn ?_
  show wz _ _ _ _ [some (.inr (.inr (some pl))), some (.inr (.inr (some tp))), some (.inr (.inr (some w)))] _ _ _ _ _
  refine w_aln rfl ?_
  refine w_ifnn (fun c1 => ?_) (fun c1 => ?_)
  · skip
    refine w_aln rfl ?_
    refine w_gs ?_
    intro a2 ga2
    have ga2 : G a2 = (900050, 0) := ga2
    refine w_acne (fun c3 => ?_) (fun c3 => ?_)
    · skip
      refine w_aln rfl ?_
      refine w_gs ?_
      intro a4 ga4
      have ga4 : G a4 = (901050, 0) := ga4
      refine w_acne (fun c5 => ?_) (fun c5 => ?_)
      · skip
        refine w_aln rfl ?_
        refine w_gs ?_
        intro a6 ga6
        have ga6 : G a6 = (902050, 0) := ga6
        refine w_acne (fun c7 => ?_) (fun c7 => ?_)
        · skip
          refine w_aln rfl ?_
          refine w_cv (st := []) rfl gw rfl (Nat.le_of_ble_eq_true rfl) (fun kk h => h) ⟨Nat.le_of_ble_eq_true rfl, ?_⟩
          show wz (d + 4) mt_X9_isAboutTown.2.2.2.2.1 _ mt_X9_isAboutTown.2.2.2.2.1 [some (.inr (.inr (some w)))] [] _ _ _ _
          refine w_aln rfl ?_
          refine w_gs ?_
          intro a8 ga8
          have ga8 : G a8 = (903050, 0) := ga8
          refine w_aceq (fun c9 => ?_) (fun c9 => ?_)
          · exact absurd (Option.some.inj c9) (hn_ne gw ga8 (by decide))
          · skip
            refine w_aln rfl ?_
            refine w_gs ?_
            intro a10 ga10
            have ga10 : G a10 = (904050, 0) := ga10
            refine w_aceq (fun c11 => ?_) (fun c11 => ?_)
            · exact absurd (Option.some.inj c11) (hn_ne gw ga10 (by decide))
            · skip
              refine w_aln rfl ?_
              refine w_gs ?_
              intro a12 ga12
              have ga12 : G a12 = (905050, 0) := ga12
              refine w_aceq (fun c13 => ?_) (fun c13 => ?_)
              · exact absurd (Option.some.inj c13) (hn_ne gw ga12 (by decide))
              · skip
                refine w_aln rfl ?_
                refine w_gs ?_
                intro a14 ga14
                have ga14 : G a14 = (906050, 0) := ga14
                refine w_acne (fun c15 => ?_) (fun c15 => ?_)
                · skip
                  refine w_ic ?_
                  refine w_iret (fun _ => Or.inl rfl) ?_
                  refine w_ifeq (fun c16 => ?_) (fun c16 => ?_)
                  · skip
                    refine w_aln rfl ?_
                    refine w_gs ?_
                    intro a17 ga17
                    have ga17 : G a17 = (907050, 0) := ga17
                    refine w_acne (fun c18 => ?_) (fun c18 => ?_)
                    · skip
                      refine w_aln rfl ?_
                      refine w_gs ?_
                      intro a19 ga19
                      have ga19 : G a19 = (908050, 0) := ga19
                      refine w_acne (fun c20 => ?_) (fun c20 => ?_)
                      · skip
                        refine w_aln rfl ?_
                        refine w_gs ?_
                        intro a21 ga21
                        have ga21 : G a21 = (909050, 0) := ga21
                        refine w_acne (fun c22 => ?_) (fun c22 => ?_)
                        · skip
                          refine w_aln rfl ?_
                          refine w_ic ?_
                          refine w_cv (st := []) rfl gtp rfl (Nat.le_of_ble_eq_true rfl) (fun kk h => h) (r_X7_refuse (d := d + 4) hA hS (by decide) (fun MF23 F23 => ?_))
                          exact w_iret (fun _ => Or.inl rfl) (h10 _ F23)
                        · exact absurd (Option.some.inj c22) (hn_ne gw ga21 (by decide))
                      · exact absurd (Option.some.inj c20) (hn_ne gw ga19 (by decide))
                    · exact absurd (Option.some.inj c18) (hn_ne gw ga17 (by decide))
                  · exfalso; omega
                · exact absurd (Option.some.inj c15) (hn_ne gw ga14 (by decide))
        · exact absurd (Option.some.inj c7) (hn_ne gw ga6 (by decide))
      · exact absurd (Option.some.inj c5) (hn_ne gw ga4 (by decide))
    · exact absurd (Option.some.inj c3) (hn_ne gw ga2 (by decide))
  · cases c1
set_option maxHeartbeats 8000000 in
theorem r_row_20 {G : mj_G} {M0 M : mj_M} {B : Nat → Int} {n lim tp bc pl na ta ba wa oa : Nat} {tr br : Nat → Nat} {T : Nat → Nat × Nat × Int × List Int × Nat} {PL WA OA : Nat → Int} {TO BI : Nat → Nat → Int} {nm : Nat → List Int} {Q : mj_P} {d q : Nat} (hA : rv_AT G M0 B n lim tp bc pl na ta ba wa oa tr br T) (hS : rv_S G M0 n lim tp pl na wa oa tr br (T q) PL WA OA TO BI nm M) (hqn : q ≤ n) (hb : rv_pb PL) {w : Nat} (gw : G w = (920050, 0)) (e9 : M.2.2 tp 9 = some w) (h10 : ∀ M', rv_F tp pl na wa oa tr br M0 1 (T q).2.1 M' → Q (some (.inl 0)) G M') : mj_R mj_tab (d + 6) 43 [.inr (.inr (some pl)), .inr (.inr (some tp))] G M Q := by
  obtain ⟨⟨gtp, gbc, gpl, gna, gta, gba, gwa, goa, gtr, gbr, itr, ibr, r1, r2, r3, r4, r5, r6, r7, r8, rb, rw0, n1, n2, hIw⟩, hT⟩ := id hA
  refine ⟨Nat.le_of_ble_eq_true rfl, ?_⟩
  show wz (d + 5) mt_X3_readRow.2.2.2.2.1 Q mt_X3_readRow.2.2.2.2.1 [some (.inr (.inr (some pl))), some (.inr (.inr (some tp))), none] [] G M _ _
  refine w_aln rfl ?_
  refine w_gr gtp rfl (by decide) rfl (e9) ?_
  refine w_asn ?_
  show wz _ _ _ _ [some (.inr (.inr (some pl))), some (.inr (.inr (some tp))), some (.inr (.inr (some w)))] _ _ _ _ _
  refine w_aln rfl ?_
  refine w_ifnn (fun c1 => ?_) (fun c1 => ?_)
  · skip
    refine w_aln rfl ?_
    refine w_gs ?_
    intro a2 ga2
    have ga2 : G a2 = (900050, 0) := ga2
    refine w_acne (fun c3 => ?_) (fun c3 => ?_)
    · skip
      refine w_aln rfl ?_
      refine w_gs ?_
      intro a4 ga4
      have ga4 : G a4 = (901050, 0) := ga4
      refine w_acne (fun c5 => ?_) (fun c5 => ?_)
      · skip
        refine w_aln rfl ?_
        refine w_gs ?_
        intro a6 ga6
        have ga6 : G a6 = (902050, 0) := ga6
        refine w_acne (fun c7 => ?_) (fun c7 => ?_)
        · skip
          refine w_aln rfl ?_
          refine w_cv (st := []) rfl gw rfl (Nat.le_of_ble_eq_true rfl) (fun kk h => h) ⟨Nat.le_of_ble_eq_true rfl, ?_⟩
          show wz (d + 4) mt_X9_isAboutTown.2.2.2.2.1 _ mt_X9_isAboutTown.2.2.2.2.1 [some (.inr (.inr (some w)))] [] _ _ _ _
          refine w_aln rfl ?_
          refine w_gs ?_
          intro a8 ga8
          have ga8 : G a8 = (903050, 0) := ga8
          refine w_aceq (fun c9 => ?_) (fun c9 => ?_)
          · exact absurd (Option.some.inj c9) (hn_ne gw ga8 (by decide))
          · skip
            refine w_aln rfl ?_
            refine w_gs ?_
            intro a10 ga10
            have ga10 : G a10 = (904050, 0) := ga10
            refine w_aceq (fun c11 => ?_) (fun c11 => ?_)
            · exact absurd (Option.some.inj c11) (hn_ne gw ga10 (by decide))
            · skip
              refine w_aln rfl ?_
              refine w_gs ?_
              intro a12 ga12
              have ga12 : G a12 = (905050, 0) := ga12
              refine w_aceq (fun c13 => ?_) (fun c13 => ?_)
              · exact absurd (Option.some.inj c13) (hn_ne gw ga12 (by decide))
              · skip
                refine w_aln rfl ?_
                refine w_gs ?_
                intro a14 ga14
                have ga14 : G a14 = (906050, 0) := ga14
                refine w_acne (fun c15 => ?_) (fun c15 => ?_)
                · skip
                  refine w_ic ?_
                  refine w_iret (fun _ => Or.inl rfl) ?_
                  refine w_ifeq (fun c16 => ?_) (fun c16 => ?_)
                  · skip
                    refine w_aln rfl ?_
                    refine w_gs ?_
                    intro a17 ga17
                    have ga17 : G a17 = (907050, 0) := ga17
                    refine w_acne (fun c18 => ?_) (fun c18 => ?_)
                    · skip
                      refine w_aln rfl ?_
                      refine w_gs ?_
                      intro a19 ga19
                      have ga19 : G a19 = (908050, 0) := ga19
                      refine w_acne (fun c20 => ?_) (fun c20 => ?_)
                      · skip
                        refine w_aln rfl ?_
                        refine w_gs ?_
                        intro a21 ga21
                        have ga21 : G a21 = (909050, 0) := ga21
                        refine w_acne (fun c22 => ?_) (fun c22 => ?_)
                        · skip
                          refine w_aln rfl ?_
                          refine w_ic ?_
                          refine w_cv (st := []) rfl gtp rfl (Nat.le_of_ble_eq_true rfl) (fun kk h => h) (r_X7_refuse (d := d + 4) hA hS (by decide) (fun MF23 F23 => ?_))
                          exact w_iret (fun _ => Or.inl rfl) (h10 _ F23)
                        · exact absurd (Option.some.inj c22) (hn_ne gw ga21 (by decide))
                      · exact absurd (Option.some.inj c20) (hn_ne gw ga19 (by decide))
                    · exact absurd (Option.some.inj c18) (hn_ne gw ga17 (by decide))
                  · exfalso; omega
                · exact absurd (Option.some.inj c15) (hn_ne gw ga14 (by decide))
        · exact absurd (Option.some.inj c7) (hn_ne gw ga6 (by decide))
      · exact absurd (Option.some.inj c5) (hn_ne gw ga4 (by decide))
    · exact absurd (Option.some.inj c3) (hn_ne gw ga2 (by decide))
  · cases c1
set_option maxHeartbeats 8000000 in
theorem r_row_21 {G : mj_G} {M0 M : mj_M} {B : Nat → Int} {n lim tp bc pl na ta ba wa oa : Nat} {tr br : Nat → Nat} {T : Nat → Nat × Nat × Int × List Int × Nat} {PL WA OA : Nat → Int} {TO BI : Nat → Nat → Int} {nm : Nat → List Int} {Q : mj_P} {d q : Nat} (hA : rv_AT G M0 B n lim tp bc pl na ta ba wa oa tr br T) (hS : rv_S G M0 n lim tp pl na wa oa tr br (T q) PL WA OA TO BI nm M) (hqn : q ≤ n) (hb : rv_pb PL) {w : Nat} (gw : G w = (921050, 0)) (e9 : M.2.2 tp 9 = some w) (h10 : ∀ M', rv_F tp pl na wa oa tr br M0 1 (T q).2.1 M' → Q (some (.inl 0)) G M') : mj_R mj_tab (d + 6) 43 [.inr (.inr (some pl)), .inr (.inr (some tp))] G M Q := by
  obtain ⟨⟨gtp, gbc, gpl, gna, gta, gba, gwa, goa, gtr, gbr, itr, ibr, r1, r2, r3, r4, r5, r6, r7, r8, rb, rw0, n1, n2, hIw⟩, hT⟩ := id hA
  refine ⟨Nat.le_of_ble_eq_true rfl, ?_⟩
  show wz (d + 5) mt_X3_readRow.2.2.2.2.1 Q mt_X3_readRow.2.2.2.2.1 [some (.inr (.inr (some pl))), some (.inr (.inr (some tp))), none] [] G M _ _
  refine w_aln rfl ?_
  refine w_gr gtp rfl (by decide) rfl (e9) ?_
  refine w_asn ?_
  show wz _ _ _ _ [some (.inr (.inr (some pl))), some (.inr (.inr (some tp))), some (.inr (.inr (some w)))] _ _ _ _ _
  refine w_aln rfl ?_
  refine w_ifnn (fun c1 => ?_) (fun c1 => ?_)
  · skip
    refine w_aln rfl ?_
    refine w_gs ?_
    intro a2 ga2
    have ga2 : G a2 = (900050, 0) := ga2
    refine w_acne (fun c3 => ?_) (fun c3 => ?_)
    · skip
      refine w_aln rfl ?_
      refine w_gs ?_
      intro a4 ga4
      have ga4 : G a4 = (901050, 0) := ga4
      refine w_acne (fun c5 => ?_) (fun c5 => ?_)
      · skip
        refine w_aln rfl ?_
        refine w_gs ?_
        intro a6 ga6
        have ga6 : G a6 = (902050, 0) := ga6
        refine w_acne (fun c7 => ?_) (fun c7 => ?_)
        · skip
          refine w_aln rfl ?_
          refine w_cv (st := []) rfl gw rfl (Nat.le_of_ble_eq_true rfl) (fun kk h => h) ⟨Nat.le_of_ble_eq_true rfl, ?_⟩
          show wz (d + 4) mt_X9_isAboutTown.2.2.2.2.1 _ mt_X9_isAboutTown.2.2.2.2.1 [some (.inr (.inr (some w)))] [] _ _ _ _
          refine w_aln rfl ?_
          refine w_gs ?_
          intro a8 ga8
          have ga8 : G a8 = (903050, 0) := ga8
          refine w_aceq (fun c9 => ?_) (fun c9 => ?_)
          · exact absurd (Option.some.inj c9) (hn_ne gw ga8 (by decide))
          · skip
            refine w_aln rfl ?_
            refine w_gs ?_
            intro a10 ga10
            have ga10 : G a10 = (904050, 0) := ga10
            refine w_aceq (fun c11 => ?_) (fun c11 => ?_)
            · exact absurd (Option.some.inj c11) (hn_ne gw ga10 (by decide))
            · skip
              refine w_aln rfl ?_
              refine w_gs ?_
              intro a12 ga12
              have ga12 : G a12 = (905050, 0) := ga12
              refine w_aceq (fun c13 => ?_) (fun c13 => ?_)
              · exact absurd (Option.some.inj c13) (hn_ne gw ga12 (by decide))
              · skip
                refine w_aln rfl ?_
                refine w_gs ?_
                intro a14 ga14
                have ga14 : G a14 = (906050, 0) := ga14
                refine w_acne (fun c15 => ?_) (fun c15 => ?_)
                · skip
                  refine w_ic ?_
                  refine w_iret (fun _ => Or.inl rfl) ?_
                  refine w_ifeq (fun c16 => ?_) (fun c16 => ?_)
                  · skip
                    refine w_aln rfl ?_
                    refine w_gs ?_
                    intro a17 ga17
                    have ga17 : G a17 = (907050, 0) := ga17
                    refine w_acne (fun c18 => ?_) (fun c18 => ?_)
                    · skip
                      refine w_aln rfl ?_
                      refine w_gs ?_
                      intro a19 ga19
                      have ga19 : G a19 = (908050, 0) := ga19
                      refine w_acne (fun c20 => ?_) (fun c20 => ?_)
                      · skip
                        refine w_aln rfl ?_
                        refine w_gs ?_
                        intro a21 ga21
                        have ga21 : G a21 = (909050, 0) := ga21
                        refine w_acne (fun c22 => ?_) (fun c22 => ?_)
                        · skip
                          refine w_aln rfl ?_
                          refine w_ic ?_
                          refine w_cv (st := []) rfl gtp rfl (Nat.le_of_ble_eq_true rfl) (fun kk h => h) (r_X7_refuse (d := d + 4) hA hS (by decide) (fun MF23 F23 => ?_))
                          exact w_iret (fun _ => Or.inl rfl) (h10 _ F23)
                        · exact absurd (Option.some.inj c22) (hn_ne gw ga21 (by decide))
                      · exact absurd (Option.some.inj c20) (hn_ne gw ga19 (by decide))
                    · exact absurd (Option.some.inj c18) (hn_ne gw ga17 (by decide))
                  · exfalso; omega
                · exact absurd (Option.some.inj c15) (hn_ne gw ga14 (by decide))
        · exact absurd (Option.some.inj c7) (hn_ne gw ga6 (by decide))
      · exact absurd (Option.some.inj c5) (hn_ne gw ga4 (by decide))
    · exact absurd (Option.some.inj c3) (hn_ne gw ga2 (by decide))
  · cases c1
set_option maxHeartbeats 8000000 in
theorem r_row_22 {G : mj_G} {M0 M : mj_M} {B : Nat → Int} {n lim tp bc pl na ta ba wa oa : Nat} {tr br : Nat → Nat} {T : Nat → Nat × Nat × Int × List Int × Nat} {PL WA OA : Nat → Int} {TO BI : Nat → Nat → Int} {nm : Nat → List Int} {Q : mj_P} {d q : Nat} (hA : rv_AT G M0 B n lim tp bc pl na ta ba wa oa tr br T) (hS : rv_S G M0 n lim tp pl na wa oa tr br (T q) PL WA OA TO BI nm M) (hqn : q ≤ n) (hb : rv_pb PL) {w : Nat} (gw : G w = (922050, 0)) (e9 : M.2.2 tp 9 = some w) (h10 : ∀ M', rv_F tp pl na wa oa tr br M0 1 (T q).2.1 M' → Q (some (.inl 0)) G M') : mj_R mj_tab (d + 6) 43 [.inr (.inr (some pl)), .inr (.inr (some tp))] G M Q := by
  obtain ⟨⟨gtp, gbc, gpl, gna, gta, gba, gwa, goa, gtr, gbr, itr, ibr, r1, r2, r3, r4, r5, r6, r7, r8, rb, rw0, n1, n2, hIw⟩, hT⟩ := id hA
  refine ⟨Nat.le_of_ble_eq_true rfl, ?_⟩
  show wz (d + 5) mt_X3_readRow.2.2.2.2.1 Q mt_X3_readRow.2.2.2.2.1 [some (.inr (.inr (some pl))), some (.inr (.inr (some tp))), none] [] G M _ _
  refine w_aln rfl ?_
  refine w_gr gtp rfl (by decide) rfl (e9) ?_
  refine w_asn ?_
  show wz _ _ _ _ [some (.inr (.inr (some pl))), some (.inr (.inr (some tp))), some (.inr (.inr (some w)))] _ _ _ _ _
  refine w_aln rfl ?_
  refine w_ifnn (fun c1 => ?_) (fun c1 => ?_)
  · skip
    refine w_aln rfl ?_
    refine w_gs ?_
    intro a2 ga2
    have ga2 : G a2 = (900050, 0) := ga2
    refine w_acne (fun c3 => ?_) (fun c3 => ?_)
    · skip
      refine w_aln rfl ?_
      refine w_gs ?_
      intro a4 ga4
      have ga4 : G a4 = (901050, 0) := ga4
      refine w_acne (fun c5 => ?_) (fun c5 => ?_)
      · skip
        refine w_aln rfl ?_
        refine w_gs ?_
        intro a6 ga6
        have ga6 : G a6 = (902050, 0) := ga6
        refine w_acne (fun c7 => ?_) (fun c7 => ?_)
        · skip
          refine w_aln rfl ?_
          refine w_cv (st := []) rfl gw rfl (Nat.le_of_ble_eq_true rfl) (fun kk h => h) ⟨Nat.le_of_ble_eq_true rfl, ?_⟩
          show wz (d + 4) mt_X9_isAboutTown.2.2.2.2.1 _ mt_X9_isAboutTown.2.2.2.2.1 [some (.inr (.inr (some w)))] [] _ _ _ _
          refine w_aln rfl ?_
          refine w_gs ?_
          intro a8 ga8
          have ga8 : G a8 = (903050, 0) := ga8
          refine w_aceq (fun c9 => ?_) (fun c9 => ?_)
          · exact absurd (Option.some.inj c9) (hn_ne gw ga8 (by decide))
          · skip
            refine w_aln rfl ?_
            refine w_gs ?_
            intro a10 ga10
            have ga10 : G a10 = (904050, 0) := ga10
            refine w_aceq (fun c11 => ?_) (fun c11 => ?_)
            · exact absurd (Option.some.inj c11) (hn_ne gw ga10 (by decide))
            · skip
              refine w_aln rfl ?_
              refine w_gs ?_
              intro a12 ga12
              have ga12 : G a12 = (905050, 0) := ga12
              refine w_aceq (fun c13 => ?_) (fun c13 => ?_)
              · exact absurd (Option.some.inj c13) (hn_ne gw ga12 (by decide))
              · skip
                refine w_aln rfl ?_
                refine w_gs ?_
                intro a14 ga14
                have ga14 : G a14 = (906050, 0) := ga14
                refine w_acne (fun c15 => ?_) (fun c15 => ?_)
                · skip
                  refine w_ic ?_
                  refine w_iret (fun _ => Or.inl rfl) ?_
                  refine w_ifeq (fun c16 => ?_) (fun c16 => ?_)
                  · skip
                    refine w_aln rfl ?_
                    refine w_gs ?_
                    intro a17 ga17
                    have ga17 : G a17 = (907050, 0) := ga17
                    refine w_acne (fun c18 => ?_) (fun c18 => ?_)
                    · skip
                      refine w_aln rfl ?_
                      refine w_gs ?_
                      intro a19 ga19
                      have ga19 : G a19 = (908050, 0) := ga19
                      refine w_acne (fun c20 => ?_) (fun c20 => ?_)
                      · skip
                        refine w_aln rfl ?_
                        refine w_gs ?_
                        intro a21 ga21
                        have ga21 : G a21 = (909050, 0) := ga21
                        refine w_acne (fun c22 => ?_) (fun c22 => ?_)
                        · skip
                          refine w_aln rfl ?_
                          refine w_ic ?_
                          refine w_cv (st := []) rfl gtp rfl (Nat.le_of_ble_eq_true rfl) (fun kk h => h) (r_X7_refuse (d := d + 4) hA hS (by decide) (fun MF23 F23 => ?_))
                          exact w_iret (fun _ => Or.inl rfl) (h10 _ F23)
                        · exact absurd (Option.some.inj c22) (hn_ne gw ga21 (by decide))
                      · exact absurd (Option.some.inj c20) (hn_ne gw ga19 (by decide))
                    · exact absurd (Option.some.inj c18) (hn_ne gw ga17 (by decide))
                  · exfalso; omega
                · exact absurd (Option.some.inj c15) (hn_ne gw ga14 (by decide))
        · exact absurd (Option.some.inj c7) (hn_ne gw ga6 (by decide))
      · exact absurd (Option.some.inj c5) (hn_ne gw ga4 (by decide))
    · exact absurd (Option.some.inj c3) (hn_ne gw ga2 (by decide))
  · cases c1
set_option maxHeartbeats 8000000 in
theorem r_row_23 {G : mj_G} {M0 M : mj_M} {B : Nat → Int} {n lim tp bc pl na ta ba wa oa : Nat} {tr br : Nat → Nat} {T : Nat → Nat × Nat × Int × List Int × Nat} {PL WA OA : Nat → Int} {TO BI : Nat → Nat → Int} {nm : Nat → List Int} {Q : mj_P} {d q : Nat} (hA : rv_AT G M0 B n lim tp bc pl na ta ba wa oa tr br T) (hS : rv_S G M0 n lim tp pl na wa oa tr br (T q) PL WA OA TO BI nm M) (hqn : q ≤ n) (hb : rv_pb PL) {w : Nat} (gw : G w = (923050, 0)) (e9 : M.2.2 tp 9 = some w) (h10 : ∀ M', rv_F tp pl na wa oa tr br M0 1 (T q).2.1 M' → Q (some (.inl 0)) G M') : mj_R mj_tab (d + 6) 43 [.inr (.inr (some pl)), .inr (.inr (some tp))] G M Q := by
  obtain ⟨⟨gtp, gbc, gpl, gna, gta, gba, gwa, goa, gtr, gbr, itr, ibr, r1, r2, r3, r4, r5, r6, r7, r8, rb, rw0, n1, n2, hIw⟩, hT⟩ := id hA
  refine ⟨Nat.le_of_ble_eq_true rfl, ?_⟩
  show wz (d + 5) mt_X3_readRow.2.2.2.2.1 Q mt_X3_readRow.2.2.2.2.1 [some (.inr (.inr (some pl))), some (.inr (.inr (some tp))), none] [] G M _ _
  refine w_aln rfl ?_
  refine w_gr gtp rfl (by decide) rfl (e9) ?_
  refine w_asn ?_
  show wz _ _ _ _ [some (.inr (.inr (some pl))), some (.inr (.inr (some tp))), some (.inr (.inr (some w)))] _ _ _ _ _
  refine w_aln rfl ?_
  refine w_ifnn (fun c1 => ?_) (fun c1 => ?_)
  · skip
    refine w_aln rfl ?_
    refine w_gs ?_
    intro a2 ga2
    have ga2 : G a2 = (900050, 0) := ga2
    refine w_acne (fun c3 => ?_) (fun c3 => ?_)
    · skip
      refine w_aln rfl ?_
      refine w_gs ?_
      intro a4 ga4
      have ga4 : G a4 = (901050, 0) := ga4
      refine w_acne (fun c5 => ?_) (fun c5 => ?_)
      · skip
        refine w_aln rfl ?_
        refine w_gs ?_
        intro a6 ga6
        have ga6 : G a6 = (902050, 0) := ga6
        refine w_acne (fun c7 => ?_) (fun c7 => ?_)
        · skip
          refine w_aln rfl ?_
          refine w_cv (st := []) rfl gw rfl (Nat.le_of_ble_eq_true rfl) (fun kk h => h) ⟨Nat.le_of_ble_eq_true rfl, ?_⟩
          show wz (d + 4) mt_X9_isAboutTown.2.2.2.2.1 _ mt_X9_isAboutTown.2.2.2.2.1 [some (.inr (.inr (some w)))] [] _ _ _ _
          refine w_aln rfl ?_
          refine w_gs ?_
          intro a8 ga8
          have ga8 : G a8 = (903050, 0) := ga8
          refine w_aceq (fun c9 => ?_) (fun c9 => ?_)
          · exact absurd (Option.some.inj c9) (hn_ne gw ga8 (by decide))
          · skip
            refine w_aln rfl ?_
            refine w_gs ?_
            intro a10 ga10
            have ga10 : G a10 = (904050, 0) := ga10
            refine w_aceq (fun c11 => ?_) (fun c11 => ?_)
            · exact absurd (Option.some.inj c11) (hn_ne gw ga10 (by decide))
            · skip
              refine w_aln rfl ?_
              refine w_gs ?_
              intro a12 ga12
              have ga12 : G a12 = (905050, 0) := ga12
              refine w_aceq (fun c13 => ?_) (fun c13 => ?_)
              · exact absurd (Option.some.inj c13) (hn_ne gw ga12 (by decide))
              · skip
                refine w_aln rfl ?_
                refine w_gs ?_
                intro a14 ga14
                have ga14 : G a14 = (906050, 0) := ga14
                refine w_acne (fun c15 => ?_) (fun c15 => ?_)
                · skip
                  refine w_ic ?_
                  refine w_iret (fun _ => Or.inl rfl) ?_
                  refine w_ifeq (fun c16 => ?_) (fun c16 => ?_)
                  · skip
                    refine w_aln rfl ?_
                    refine w_gs ?_
                    intro a17 ga17
                    have ga17 : G a17 = (907050, 0) := ga17
                    refine w_acne (fun c18 => ?_) (fun c18 => ?_)
                    · skip
                      refine w_aln rfl ?_
                      refine w_gs ?_
                      intro a19 ga19
                      have ga19 : G a19 = (908050, 0) := ga19
                      refine w_acne (fun c20 => ?_) (fun c20 => ?_)
                      · skip
                        refine w_aln rfl ?_
                        refine w_gs ?_
                        intro a21 ga21
                        have ga21 : G a21 = (909050, 0) := ga21
                        refine w_acne (fun c22 => ?_) (fun c22 => ?_)
                        · skip
                          refine w_aln rfl ?_
                          refine w_ic ?_
                          refine w_cv (st := []) rfl gtp rfl (Nat.le_of_ble_eq_true rfl) (fun kk h => h) (r_X7_refuse (d := d + 4) hA hS (by decide) (fun MF23 F23 => ?_))
                          exact w_iret (fun _ => Or.inl rfl) (h10 _ F23)
                        · exact absurd (Option.some.inj c22) (hn_ne gw ga21 (by decide))
                      · exact absurd (Option.some.inj c20) (hn_ne gw ga19 (by decide))
                    · exact absurd (Option.some.inj c18) (hn_ne gw ga17 (by decide))
                  · exfalso; omega
                · exact absurd (Option.some.inj c15) (hn_ne gw ga14 (by decide))
        · exact absurd (Option.some.inj c7) (hn_ne gw ga6 (by decide))
      · exact absurd (Option.some.inj c5) (hn_ne gw ga4 (by decide))
    · exact absurd (Option.some.inj c3) (hn_ne gw ga2 (by decide))
  · cases c1
theorem r_X3_readRow {G : mj_G} {M0 M : mj_M} {B : Nat → Int} {n lim tp bc pl na ta ba wa oa : Nat} {tr br : Nat → Nat} {T : Nat → Nat × Nat × Int × List Int × Nat} {PL WA OA : Nat → Int} {TO BI : Nat → Nat → Int} {nm : Nat → List Int} {Q : mj_P} {d q : Nat} (hA : rv_AT G M0 B n lim tp bc pl na ta ba wa oa tr br T) (hS : rv_S G M0 n lim tp pl na wa oa tr br (T q) PL WA OA TO BI nm M) (hqn : q ≤ n) (hb : rv_pb PL) (h : sp_row T PL WA OA TO BI nm q (fun f a => ∀ M', rv_F tp pl na wa oa tr br M0 f a M' → Q (some (.inl 0)) G M') (fun PL WA OA TO BI nm q' => q ≤ q' → q' ≤ n → rv_pb PL → ∀ M', rv_S G M0 n lim tp pl na wa oa tr br (T q') PL WA OA TO BI nm M' → Q (some (.inl 1)) G M')) : mj_R mj_tab (d + 6) 43 [.inr (.inr (some pl)), .inr (.inr (some tp))] G M Q := by
  obtain ⟨k4, k5, k11, k6, k7, k8, k9⟩ := id hS.2.1
  by_cases c : (T q).1 = 1
  · rcases (k8 c).2 with ⟨j, w, j1, j2, gw, e9⟩ | ⟨j1, e9⟩
    · obtain ⟨h0, h1, h2, h3, h4, h5, h6, h7, h8, h9, h10⟩ := h.1 j j1 c (rv_5i (rv_rs_o j j1) (rv_x_wo hA hqn c) ((rv_rs_5 j j1).trans j2))
      have hj : j = 0 ∨ j = 1 ∨ j = 2 ∨ j = 3 ∨ j = 4 ∨ j = 5 ∨ j = 6 ∨ j = 7 ∨ j = 8 ∨ j = 9 ∨ j = 10 ∨ j = 11 ∨ j = 12 ∨ j = 13 ∨ j = 14 ∨ j = 15 ∨ j = 16 ∨ j = 17 ∨ j = 18 ∨ j = 19 ∨ j = 20 ∨ j = 21 ∨ j = 22 ∨ j = 23 := by omega
      rcases hj with rfl | rfl | rfl | rfl | rfl | rfl | rfl | rfl | rfl | rfl | rfl | rfl | rfl | rfl | rfl | rfl | rfl | rfl | rfl | rfl | rfl | rfl | rfl | rfl
      · exact r_row_0 hA hS hqn hb gw e9 (fun _ => h0 rfl)
      · exact r_row_1 hA hS hqn hb gw e9 (fun _ => h1 rfl)
      · exact r_row_2 hA hS hqn hb gw e9 (fun _ => h2 rfl)
      · exact r_row_3 hA hS hqn hb gw e9 (fun _ => h3 rfl)
      · exact r_row_4 hA hS hqn hb gw e9 (fun _ => h4 rfl)
      · exact r_row_5 hA hS hqn hb gw e9 (fun _ => h5 rfl)
      · exact r_row_6 hA hS hqn hb gw e9 (fun _ => h6 rfl)
      · exact r_row_7 hA hS hqn hb gw e9 (fun _ => h7 rfl)
      · exact r_row_8 hA hS hqn hb gw e9 (fun _ => h8 rfl)
      · exact r_row_9 hA hS hqn hb gw e9 (fun _ => h9 rfl)
      · exact r_row_10 hA hS hqn hb gw e9 (h10 (by decide))
      · exact r_row_11 hA hS hqn hb gw e9 (h10 (by decide))
      · exact r_row_12 hA hS hqn hb gw e9 (h10 (by decide))
      · exact r_row_13 hA hS hqn hb gw e9 (h10 (by decide))
      · exact r_row_14 hA hS hqn hb gw e9 (h10 (by decide))
      · exact r_row_15 hA hS hqn hb gw e9 (h10 (by decide))
      · exact r_row_16 hA hS hqn hb gw e9 (h10 (by decide))
      · exact r_row_17 hA hS hqn hb gw e9 (h10 (by decide))
      · exact r_row_18 hA hS hqn hb gw e9 (h10 (by decide))
      · exact r_row_19 hA hS hqn hb gw e9 (h10 (by decide))
      · exact r_row_20 hA hS hqn hb gw e9 (h10 (by decide))
      · exact r_row_21 hA hS hqn hb gw e9 (h10 (by decide))
      · exact r_row_22 hA hS hqn hb gw e9 (h10 (by decide))
      · exact r_row_23 hA hS hqn hb gw e9 (h10 (by decide))
    · exact r_row_n hA hS hqn hb e9 (h.2 (fun g => g.2 ((rv_nam5 (rv_x_wo hA hqn c)).mpr j1)))
  · exact r_row_n hA hS hqn hb (k9 c) (h.2 (fun g => c g.1))
theorem r_X7_finish {G : mj_G} {M0 M : mj_M} {B : Nat → Int} {n lim tp bc pl na ta ba wa oa : Nat} {tr br : Nat → Nat} {T : Nat → Nat × Nat × Int × List Int × Nat} {PL WA OA : Nat → Int} {TO BI : Nat → Nat → Int} {nm : Nat → List Int} {Q : mj_P} {d q : Nat} (hA : rv_AT G M0 B n lim tp bc pl na ta ba wa oa tr br T) (hS : rv_S G M0 n lim tp pl na wa oa tr br (T q) PL WA OA TO BI nm M) (h0 : (T q).1 = 0 → Q (some (.inl 1)) G M) (h5 : (T q).1 = 5 → ∀ M', rv_F tp pl na wa oa tr br M0 1 (T q).2.1 M' → Q (some (.inl 0)) G M') (hc : (T q).1 = 0 ∨ (T q).1 = 5) : mj_R mj_tab (d + 2) 70 [.inr (.inr (some tp))] G M Q := by
  obtain ⟨⟨gtp, gbc, gpl, gna, gta, gba, gwa, goa, gtr, gbr, itr, ibr, r1, r2, r3, r4, r5, r6, r7, r8, rb, rw0, n1, n2, hIw⟩, hT⟩ := id hA
  obtain ⟨k4, k5, k11, k6, k7, k8, k9⟩ := id hS.2.1
  have ht := rv_T_0 (B := B) (n := n) (lim := lim) (p := q)
  rw [← hT] at ht
  refine ⟨Nat.le_of_ble_eq_true rfl, ?_⟩
  show wz (d + 1) mt_X7_finish.2.2.2.2.1 Q mt_X7_finish.2.2.2.2.1 [some (.inr (.inr (some tp)))] [] G M _ _
  refine w_aln rfl ?_
  refine w_gi gtp rfl (by decide) rfl rfl ?_
  refine w_ifne (fun c => by exfalso; omega) (fun c => ?_)
  refine w_aln rfl ?_
  refine w_gi gtp rfl (by decide) rfl hS.1.1 ?_
  refine w_aln rfl ?_
  refine w_gi gtp rfl (by decide) rfl hS.1.2.1 ?_
  refine w_cmle (fun c2 => ?_) (fun c2 => ?_)
  · refine w_ic ?_
    refine w_goto ?_
    refine w_iret (fun _ => Or.inr rfl) (h0 ?_)
    rcases hc with e | e
    · exact e
    · have := ht.2 e; exfalso; omega
  · refine w_aln rfl ?_
    refine w_ic ?_
    refine w_cv (st := []) rfl gtp rfl (Nat.le_of_ble_eq_true rfl) (fun kk h => h) (r_X7_refuse (d := d) hA hS (by decide) (fun M' F => ?_))
    refine w_ifeq (fun c => ?_) (fun c => absurd rfl c)
    refine w_ic ?_
    refine w_iret (fun _ => Or.inl rfl) (h5 ?_ M' F)
    rcases hc with e | e
    · have := ht.1 e; exfalso; omega
    · exact e
/-- rows to the end of a text; r have been read, T q is the token now -/
def sp_rows (T : Nat → Nat × Nat × Int × List Int × Nat) (Kf : Int → Nat → Prop) (Ko : (Nat → Int) → (Nat → Int) → (Nat → Int) → (Nat → Nat → Int) → (Nat → Nat → Int) → (Nat → List Int) → Nat → Prop) : Nat → (Nat → Int) → (Nat → Int) → (Nat → Int) → (Nat → Nat → Int) → (Nat → Nat → Int) → (Nat → List Int) → Nat → Nat → Prop
  | 0, _, _, _, _, _, _, _, _ => True
  | f + 1, PL, WA, OA, TO, BI, nm, r, q => ((T q).1 = 0 → Ko PL WA OA TO BI nm r) ∧ ((T q).1 = 5 → Kf 1 (T q).2.1) ∧ ((T q).1 ≠ 0 → (T q).1 ≠ 5 → sp_row T PL WA OA TO BI nm q Kf (fun PL' WA' OA' TO' BI' nm' q' => sp_sgn T 59 (rv_x T q') Kf (sp_rows T Kf Ko f PL' WA' OA' TO' BI' nm' (r + 1) (rv_x T (rv_x T q')))))
theorem r_rows1 {G : mj_G} {M0 : mj_M} {B : Nat → Int} {n lim tp bc pl na ta ba wa oa : Nat} {tr br : Nat → Nat} {T : Nat → Nat × Nat × Int × List Int × Nat} {Q : mj_P} {d : Nat} (hA : rv_AT G M0 B n lim tp bc pl na ta ba wa oa tr br T) : ∀ (f q r : Nat) (PL WA OA : Nat → Int) (TO BI : Nat → Nat → Int) (nm : Nat → List Int) (M : mj_M) (cb sb : Nat), n < q + f → q ≤ n → r ≤ q → rv_pb PL → rv_S G M0 n lim tp pl na wa oa tr br (T q) PL WA OA TO BI nm M → sp_rows T (fun f a => ∀ z M', rv_F tp pl na wa oa tr br M0 f a M' → Q (some (.inl z)) G M') (fun PL WA OA TO BI nm r => rv_pb PL → ∀ q' M', rv_S G M0 n lim tp pl na wa oa tr br (T q') PL WA OA TO BI nm M' → Q (some (.inl (r : Int))) G M') f PL WA OA TO BI nm r q → wz (d + 6) mt_X3_readRows.2.2.2.2.1 Q (mt_X3_readRows.2.2.2.2.1.drop 4) [some (.inr (.inr (some pl))), some (.inr (.inr (some tp))), some (.inl (r : Int))] [] G M cb sb := by
  obtain ⟨⟨gtp, gbc, gpl, gna, gta, gba, gwa, goa, gtr, gbr, itr, ibr, r1, r2, r3, r4, r5, r6, r7, r8, rb, rw0, n1, n2, hIw⟩, hT⟩ := id hA
  intro f
  induction f with
  | zero => intro q r PL WA OA TO BI nm M cb sb g1 g2 g3; exfalso; omega
  | succ f ih =>
    intro q r PL WA OA TO BI nm M cb sb g1 g2 g3 hb hS h
    obtain ⟨k4, -⟩ := id hS.2.1
    obtain ⟨h0, h5, hr⟩ := h
    have hw := rv_x_w hA g2
    refine w_aln rfl ?_
    refine w_gi gtp rfl (by decide) rfl rfl ?_
    refine w_ifeq (fun c => ?_) (fun c => ?_)
    · refine w_aln rfl ?_
      refine w_cv (st := []) rfl gtp rfl (Nat.le_of_ble_eq_true rfl) (fun kk h => h) (r_X7_finish (d := d + 4) hA hS (fun e => ?_) (fun e M' F => ?_) (by omega))
      · refine w_pop ?_
        refine w_iln rfl ?_
        exact w_iret (fun q => by cases q) (h0 e hb q M hS)
      · refine w_pop ?_
        refine w_iln rfl ?_
        exact w_iret (fun q => by cases q) (h5 e _ M' F)
    · have e0 : (T q).1 ≠ 0 := by omega
      have e5 : (T q).1 ≠ 5 := by omega
      have hlt := hw.2.2.2.1 e0 e5
      have hle := hw.2.2.2.2.2
      refine w_iln rfl ?_
      refine w_sp ?_
      refine w_cmge (fun c2 => by exfalso; omega) (fun c2 => ?_)
      refine w_aln rfl ?_
      refine w_aln rfl ?_
      refine w_cv (st := []) rfl gpl rfl (Nat.le_of_ble_eq_true rfl) (fun kk h => h) (r_X3_readRow (d := d) hA hS g2 hb ((hr e0 e5).mono (fun f a hf M1 F1 => ?_) (fun PL1 WA1 OA1 TO1 BI1 nm1 q1 hk1 g4 g5 hb1 M1 s1 => ?_)))
      · refine w_ifeq (fun _ => ?_) (fun c => absurd rfl c)
        refine w_iln rfl ?_
        exact w_iret (fun q => by cases q) (hf _ M1 F1)
      · refine w_ifeq (fun c => absurd c (by decide)) (fun _ => ?_)
        refine w_aln rfl ?_
        refine w_bp ?_
        refine w_cv (st := []) rfl gtp rfl (Nat.le_of_ble_eq_true rfl) (fun kk h => h) (r_X7_nextSign (d := d + 2) hA s1 g5 (hk1.mono (fun f a hf M2 F2 => ?_) (fun e3 hk2 M2 s2 => ?_)))
        · refine w_ifne (fun c => absurd rfl c) (fun _ => ?_)
          refine w_iln rfl ?_
          exact w_iret (fun q => by cases q) (hf _ M2 F2)
        · refine w_ifne (fun _ => ?_) (fun c => absurd c (by decide))
          refine w_ii rfl ⟨by omega, by omega⟩ ?_
          refine w_aln rfl ?_
          have g6 := rv_x_le hA g5
          have g7 := rv_x_ge hA g5
          have g8 := (rv_x_w hA g6).2.2.2.1 (by omega) (by omega)
          have g9 := rv_x_le hA g6
          refine w_cv (st := []) rfl gtp rfl (Nat.le_of_ble_eq_true rfl) (fun kk h => h) (r_adv2 (d := d + 3) hA s2 g6 (fun M3 s3 => ?_))
          refine w_goto ?_
          exact ih (rv_x T (rv_x T q1)) (r + 1) PL1 WA1 OA1 TO1 BI1 nm1 M3 _ _ (by unfold rv_x at *; omega) g9 (by unfold rv_x at *; omega) hb1 s3 hk2
end
section
/-! ===== the class's clear (laid by a program) ===== -/
def rv_C (M0 : mj_M) (pl na wa oa : Nat) (tr br : Nat → Nat) (PL WA OA : Nat → Int) (TO BI : Nat → Nat → Int) (NA : Nat → Int64) (M : mj_M) : Prop :=
  M.1 pl = PL ∧ M.1 wa = WA ∧ M.1 oa = OA ∧ (∀ s, s < 8 → M.1 (tr s) = TO s) ∧ (∀ s, s < 8 → M.1 (br s) = BI s) ∧ M.2.1 na = NA ∧ (∀ a, a ≠ pl → a ≠ wa → a ≠ oa → (∀ t, t < 8 → a ≠ tr t) → (∀ t, t < 8 → a ≠ br t) → M.1 a = M0.1 a) ∧ (∀ a, a ≠ na → M.2.1 a = M0.2.1 a) ∧ M.2.2 = M0.2.2
def rv_upl (f : Nat → Int64) (j : Nat) (v : Int64) : Nat → Int64 := fun k => if k = j then v else f k
theorem rv_C.ppl {G : mj_G} {M0 M : mj_M} {B : Nat → Int} {n lim tp bc pl na ta ba wa oa : Nat} {tr br : Nat → Nat} {PL WA OA : Nat → Int} {TO BI : Nat → Nat → Int} {NA : Nat → Int64} {j : Nat} {v : Int} (hA : rv_A G M0 B n lim tp bc pl na ta ba wa oa tr br) (h : rv_C M0 pl na wa oa tr br PL WA OA TO BI NA M) : rv_C M0 pl na wa oa tr br (rv_up PL j v) WA OA TO BI NA (mj_p0 M pl j v) := by
  obtain ⟨gtp, gbc, gpl, gna, gta, gba, gwa, goa, gtr, gbr, itr, ibr, -⟩ := hA
  obtain ⟨h5, h6, h7, h8, h9, h10, f1, f2, f3⟩ := h
  exact ⟨wz_u.trans (by rw [h5]), (wz_c (hn_ne gwa gpl (by decide))).trans h6, (wz_c (hn_ne goa gpl (by decide))).trans h7, fun s hs => (wz_c (hn_ne (gtr s hs) gpl (by decide))).trans (h8 s hs), fun s hs => (wz_c (hn_ne (gbr s hs) gpl (by decide))).trans (h9 s hs), h10, fun a a2 a3 a4 a5 a6 => (wz_c a2).trans (f1 a a2 a3 a4 a5 a6), f2, f3⟩
theorem rv_C.pwa {G : mj_G} {M0 M : mj_M} {B : Nat → Int} {n lim tp bc pl na ta ba wa oa : Nat} {tr br : Nat → Nat} {PL WA OA : Nat → Int} {TO BI : Nat → Nat → Int} {NA : Nat → Int64} {j : Nat} {v : Int} (hA : rv_A G M0 B n lim tp bc pl na ta ba wa oa tr br) (h : rv_C M0 pl na wa oa tr br PL WA OA TO BI NA M) : rv_C M0 pl na wa oa tr br PL (rv_up WA j v) OA TO BI NA (mj_p0 M wa j v) := by
  obtain ⟨gtp, gbc, gpl, gna, gta, gba, gwa, goa, gtr, gbr, itr, ibr, -⟩ := hA
  obtain ⟨h5, h6, h7, h8, h9, h10, f1, f2, f3⟩ := h
  exact ⟨(wz_c (hn_ne gpl gwa (by decide))).trans h5, wz_u.trans (by rw [h6]), (wz_c (hn_ne goa gwa (by decide))).trans h7, fun s hs => (wz_c (hn_ne (gtr s hs) gwa (by decide))).trans (h8 s hs), fun s hs => (wz_c (hn_ne (gbr s hs) gwa (by decide))).trans (h9 s hs), h10, fun a a2 a3 a4 a5 a6 => (wz_c a3).trans (f1 a a2 a3 a4 a5 a6), f2, f3⟩
theorem rv_C.poa {G : mj_G} {M0 M : mj_M} {B : Nat → Int} {n lim tp bc pl na ta ba wa oa : Nat} {tr br : Nat → Nat} {PL WA OA : Nat → Int} {TO BI : Nat → Nat → Int} {NA : Nat → Int64} {j : Nat} {v : Int} (hA : rv_A G M0 B n lim tp bc pl na ta ba wa oa tr br) (h : rv_C M0 pl na wa oa tr br PL WA OA TO BI NA M) : rv_C M0 pl na wa oa tr br PL WA (rv_up OA j v) TO BI NA (mj_p0 M oa j v) := by
  obtain ⟨gtp, gbc, gpl, gna, gta, gba, gwa, goa, gtr, gbr, itr, ibr, -⟩ := hA
  obtain ⟨h5, h6, h7, h8, h9, h10, f1, f2, f3⟩ := h
  exact ⟨(wz_c (hn_ne gpl goa (by decide))).trans h5, (wz_c (hn_ne gwa goa (by decide))).trans h6, wz_u.trans (by rw [h7]), fun s hs => (wz_c (hn_ne (gtr s hs) goa (by decide))).trans (h8 s hs), fun s hs => (wz_c (hn_ne (gbr s hs) goa (by decide))).trans (h9 s hs), h10, fun a a2 a3 a4 a5 a6 => (wz_c a4).trans (f1 a a2 a3 a4 a5 a6), f2, f3⟩
theorem rv_C.ptr {G : mj_G} {M0 M : mj_M} {B : Nat → Int} {n lim tp bc pl na ta ba wa oa : Nat} {tr br : Nat → Nat} {PL WA OA : Nat → Int} {TO BI : Nat → Nat → Int} {NA : Nat → Int64} {j q : Nat} {v : Int} (hA : rv_A G M0 B n lim tp bc pl na ta ba wa oa tr br) (h : rv_C M0 pl na wa oa tr br PL WA OA TO BI NA M) (hq : q < 8) : rv_C M0 pl na wa oa tr br PL WA OA (rv_up2 TO q j v) BI NA (mj_p0 M (tr q) j v) := by
  obtain ⟨gtp, gbc, gpl, gna, gta, gba, gwa, goa, gtr, gbr, itr, ibr, -⟩ := hA
  obtain ⟨h5, h6, h7, h8, h9, h10, f1, f2, f3⟩ := h
  exact ⟨(wz_c (hn_ne gpl (gtr q hq) (by decide))).trans h5, (wz_c (hn_ne gwa (gtr q hq) (by decide))).trans h6, (wz_c (hn_ne goa (gtr q hq) (by decide))).trans h7, fun s hs => by
    by_cases c : s = q
    · rw [c, wz_u, h8 q hq]; exact (if_pos rfl).symm
    · rw [wz_c (fun e => c (itr s q hs hq e)), h8 s hs]; exact (if_neg c).symm, fun s hs => (wz_c (hn_ne (gbr s hs) (gtr q hq) (by decide))).trans (h9 s hs), h10, fun a a2 a3 a4 a5 a6 => (wz_c (a5 q hq)).trans (f1 a a2 a3 a4 a5 a6), f2, f3⟩
theorem rv_C.pbr {G : mj_G} {M0 M : mj_M} {B : Nat → Int} {n lim tp bc pl na ta ba wa oa : Nat} {tr br : Nat → Nat} {PL WA OA : Nat → Int} {TO BI : Nat → Nat → Int} {NA : Nat → Int64} {j q : Nat} {v : Int} (hA : rv_A G M0 B n lim tp bc pl na ta ba wa oa tr br) (h : rv_C M0 pl na wa oa tr br PL WA OA TO BI NA M) (hq : q < 8) : rv_C M0 pl na wa oa tr br PL WA OA TO (rv_up2 BI q j v) NA (mj_p0 M (br q) j v) := by
  obtain ⟨gtp, gbc, gpl, gna, gta, gba, gwa, goa, gtr, gbr, itr, ibr, -⟩ := hA
  obtain ⟨h5, h6, h7, h8, h9, h10, f1, f2, f3⟩ := h
  exact ⟨(wz_c (hn_ne gpl (gbr q hq) (by decide))).trans h5, (wz_c (hn_ne gwa (gbr q hq) (by decide))).trans h6, (wz_c (hn_ne goa (gbr q hq) (by decide))).trans h7, fun s hs => (wz_c (hn_ne (gtr s hs) (gbr q hq) (by decide))).trans (h8 s hs), fun s hs => by
    by_cases c : s = q
    · rw [c, wz_u, h9 q hq]; exact (if_pos rfl).symm
    · rw [wz_c (fun e => c (ibr s q hs hq e)), h9 s hs]; exact (if_neg c).symm, h10, fun a a2 a3 a4 a5 a6 => (wz_c (a6 q hq)).trans (f1 a a2 a3 a4 a5 a6), f2, f3⟩
theorem rv_C.pna {M0 M : mj_M} {pl na wa oa : Nat} {tr br : Nat → Nat} {PL WA OA : Nat → Int} {TO BI : Nat → Nat → Int} {NA : Nat → Int64} {j : Nat} {v : Int64} (h : rv_C M0 pl na wa oa tr br PL WA OA TO BI NA M) : rv_C M0 pl na wa oa tr br PL WA OA TO BI (rv_upl NA j v) (mj_p1 M na j v) := by
  obtain ⟨h5, h6, h7, h8, h9, h10, f1, f2, f3⟩ := h
  refine ⟨h5, h6, h7, h8, h9, funext fun k => ?_, f1, fun a a1 => (funext fun k => wz_nl (Or.inl a1)).trans (f2 a a1), f3⟩
  show (if na = na ∧ k = j then v else M.2.1 na k) = if k = j then v else NA k
  by_cases c : k = j
  · rw [if_pos ⟨rfl, c⟩, if_pos c]
  · rw [if_neg (fun q => c q.2), if_neg c, h10]
theorem rv_up2_s {f : Nat → Nat → Int} {t j : Nat} {v : Int} : rv_up2 f t j v t j = v := by unfold rv_up2; rw [if_pos rfl]; exact rv_up_s
theorem rv_up2_n {f : Nat → Nat → Int} {t j k : Nat} {v : Int} (h : k ≠ j) : rv_up2 f t j v t k = f t k := by unfold rv_up2; rw [if_pos rfl]; exact rv_up_n h
theorem rv_up2_o {f : Nat → Nat → Int} {s t j : Nat} {v : Int} (h : s ≠ t) : rv_up2 f t j v s = f s := if_neg h
theorem r_clr_to {G : mj_G} {M0 : mj_M} {B : Nat → Int} {n lim tp bc pl na ta ba wa oa : Nat} {tr br : Nat → Nat} {PL WA OA : Nat → Int} {BI : Nat → Nat → Int} {NA : Nat → Int64} {d : Nat} {Q : mj_P} {t : Nat} (hA : rv_A G M0 B n lim tp bc pl na ta ba wa oa tr br) (ht : t < 8) : ∀ (f k : Nat) (TO : Nat → Nat → Int) (M : mj_M) (cb sb : Nat), k + f = 9 → rv_C M0 pl na wa oa tr br PL WA OA TO BI NA M → (∀ TO' M', rv_C M0 pl na wa oa tr br PL WA OA TO' BI NA M' → (∀ s, s ≠ t → TO' s = TO s) → (∀ w, k ≤ w → w < 9 → TO' t w = 0) → (∀ w, w < k → TO' t w = TO t w) → wz d mt_X3_clear.2.2.2.2.1 Q (mt_X3_clear.2.2.2.2.1.drop 29) [some (.inr (.inr (some pl))), some (.inl (t : Int)), some (.inl 9)] [] G M' cb sb) → wz d mt_X3_clear.2.2.2.2.1 Q (mt_X3_clear.2.2.2.2.1.drop 17) [some (.inr (.inr (some pl))), some (.inl (t : Int)), some (.inl (k : Int))] [] G M cb sb := by
  have hA1 := hA
  obtain ⟨gtp, gbc, gpl, gna, gta, gba, gwa, goa, gtr, gbr, itr, ibr, r1, r2, r3, r4, r5, r6, r7, r8, -⟩ := hA
  intro f
  induction f with
  | zero =>
    intro k TO M cb sb hk hC kk
    have e : k = 9 := by omega
    subst e
    refine w_iln rfl ?_
    refine w_bp ?_
    refine w_cmge (fun c => ?_) (fun c => by exfalso; omega)
    exact kk TO M hC (fun _ _ => rfl) (fun w h1 h2 => by omega) (fun _ _ => rfl)
  | succ f ih =>
    intro k TO M cb sb hk hC kk
    refine w_iln rfl ?_
    refine w_bp ?_
    refine w_cmge (fun c => by exfalso; omega) (fun c => ?_)
    refine w_aln rfl ?_
    refine w_gr gpl rfl (by decide) rfl (by rw [hC.2.2.2.2.2.2.2.2]; exact r3) ?_
    refine w_iln rfl ?_
    refine w_aald (b := tr t) gta rfl (by omega) (by show (t : Int) < ((8 : Nat) : Int); omega) (by rw [hC.2.2.2.2.2.2.2.2]; exact r7 t ht) ?_
    refine w_iln rfl ?_
    refine w_ic ?_
    refine w_iast (gtr t ht) rfl (by decide) (by omega) (by show (k : Int) < ((9 : Nat) : Int); omega) ?_
    have s1 := hC.ptr (j := ((k : Int)).toNat) (q := t) (v := 0) hA1 ht
    refine w_ii rfl ⟨by omega, by omega⟩ ?_
    refine w_goto ?_
    refine ih (k + 1) _ _ _ _ (by omega) s1 (fun F' M' hC' e1 e2 e3 => kk F' M' hC' (fun s hs => (e1 s hs).trans (rv_up2_o hs)) (fun w h1 h2 => ?_) (fun w hw => (e3 w (by omega)).trans (rv_up2_n (by omega))))
    rcases Nat.lt_or_ge k w with q | q
    · exact e2 w (by omega) h2
    · rw [e3 w (by omega), show w = k by omega]; exact rv_up2_s
theorem r_clr_bi {G : mj_G} {M0 : mj_M} {B : Nat → Int} {n lim tp bc pl na ta ba wa oa : Nat} {tr br : Nat → Nat} {PL WA OA : Nat → Int} {TO : Nat → Nat → Int} {NA : Nat → Int64} {d : Nat} {Q : mj_P} {t : Nat} (hA : rv_A G M0 B n lim tp bc pl na ta ba wa oa tr br) (ht : t < 8) : ∀ (f k : Nat) (BI : Nat → Nat → Int) (M : mj_M) (cb sb : Nat), k + f = 12 → rv_C M0 pl na wa oa tr br PL WA OA TO BI NA M → (∀ BI' M', rv_C M0 pl na wa oa tr br PL WA OA TO BI' NA M' → (∀ s, s ≠ t → BI' s = BI s) → (∀ w, k ≤ w → w < 12 → BI' t w = 0) → (∀ w, w < k → BI' t w = BI t w) → wz d mt_X3_clear.2.2.2.2.1 Q (mt_X3_clear.2.2.2.2.1.drop 43) [some (.inr (.inr (some pl))), some (.inl (t : Int)), some (.inl 12)] [] G M' cb sb) → wz d mt_X3_clear.2.2.2.2.1 Q (mt_X3_clear.2.2.2.2.1.drop 31) [some (.inr (.inr (some pl))), some (.inl (t : Int)), some (.inl (k : Int))] [] G M cb sb := by
  have hA1 := hA
  obtain ⟨gtp, gbc, gpl, gna, gta, gba, gwa, goa, gtr, gbr, itr, ibr, r1, r2, r3, r4, r5, r6, r7, r8, -⟩ := hA
  intro f
  induction f with
  | zero =>
    intro k BI M cb sb hk hC kk
    have e : k = 12 := by omega
    subst e
    refine w_iln rfl ?_
    refine w_bp ?_
    refine w_cmge (fun c => ?_) (fun c => by exfalso; omega)
    exact kk BI M hC (fun _ _ => rfl) (fun w h1 h2 => by omega) (fun _ _ => rfl)
  | succ f ih =>
    intro k BI M cb sb hk hC kk
    refine w_iln rfl ?_
    refine w_bp ?_
    refine w_cmge (fun c => by exfalso; omega) (fun c => ?_)
    refine w_aln rfl ?_
    refine w_gr gpl rfl (by decide) rfl (by rw [hC.2.2.2.2.2.2.2.2]; exact r4) ?_
    refine w_iln rfl ?_
    refine w_aald (b := br t) gba rfl (by omega) (by show (t : Int) < ((8 : Nat) : Int); omega) (by rw [hC.2.2.2.2.2.2.2.2]; exact r8 t ht) ?_
    refine w_iln rfl ?_
    refine w_ic ?_
    refine w_iast (gbr t ht) rfl (by decide) (by omega) (by show (k : Int) < ((12 : Nat) : Int); omega) ?_
    have s1 := hC.pbr (j := ((k : Int)).toNat) (q := t) (v := 0) hA1 ht
    refine w_ii rfl ⟨by omega, by omega⟩ ?_
    refine w_goto ?_
    refine ih (k + 1) _ _ _ _ (by omega) s1 (fun F' M' hC' e1 e2 e3 => kk F' M' hC' (fun s hs => (e1 s hs).trans (rv_up2_o hs)) (fun w h1 h2 => ?_) (fun w hw => (e3 w (by omega)).trans (rv_up2_n (by omega))))
    rcases Nat.lt_or_ge k w with q | q
    · exact e2 w (by omega) h2
    · rw [e3 w (by omega), show w = k by omega]; exact rv_up2_s
theorem r_clr_out {G : mj_G} {M0 : mj_M} {B : Nat → Int} {n lim tp bc pl na ta ba wa oa : Nat} {tr br : Nat → Nat} {PL WA : Nat → Int} {d : Nat} {Q : mj_P} (hA : rv_A G M0 B n lim tp bc pl na ta ba wa oa tr br) : ∀ (f t : Nat) (OA : Nat → Int) (TO BI : Nat → Nat → Int) (NA : Nat → Int64) (M : mj_M) (v2 : Option mj_V) (cb sb : Nat), t + f = 8 → rv_C M0 pl na wa oa tr br PL WA OA TO BI NA M → (∀ OA' TO' BI' NA' M' v2, rv_C M0 pl na wa oa tr br PL WA OA' TO' BI' NA' M' → (∀ s, t ≤ s → s < 8 → NA' s = 0 ∧ OA' s = 0 ∧ (∀ w, w < 9 → TO' s w = 0) ∧ (∀ w, w < 12 → BI' s w = 0)) → (∀ s, s < t → NA' s = NA s ∧ OA' s = OA s ∧ TO' s = TO s ∧ BI' s = BI s) → wz d mt_X3_clear.2.2.2.2.1 Q (mt_X3_clear.2.2.2.2.1.drop 45) [some (.inr (.inr (some pl))), some (.inl 8), v2] [] G M' cb sb) → wz d mt_X3_clear.2.2.2.2.1 Q (mt_X3_clear.2.2.2.2.1.drop 2) [some (.inr (.inr (some pl))), some (.inl (t : Int)), v2] [] G M cb sb := by
  have hA1 := hA
  obtain ⟨gtp, gbc, gpl, gna, gta, gba, gwa, goa, gtr, gbr, itr, ibr, r1, r2, r3, r4, r5, r6, r7, r8, -⟩ := hA
  intro f
  induction f with
  | zero =>
    intro t OA TO BI NA M v2 cb sb hk hC kk
    have e : t = 8 := by omega
    subst e
    refine w_iln rfl ?_
    refine w_bp ?_
    refine w_cmge (fun c => ?_) (fun c => by exfalso; omega)
    exact kk OA TO BI NA M v2 hC (fun s h1 h2 => by omega) (fun s hs => ⟨rfl, rfl, rfl, rfl⟩)
  | succ f ih =>
    intro t OA TO BI NA M v2 cb sb hk hC kk
    have ht : t < 8 := by omega
    refine w_iln rfl ?_
    refine w_bp ?_
    refine w_cmge (fun c => by exfalso; omega) (fun c => ?_)
    refine w_aln rfl ?_
    refine w_gr gpl rfl (by decide) rfl (by rw [hC.2.2.2.2.2.2.2.2]; exact r2) ?_
    refine w_iln rfl ?_
    refine w_lc ?_
    refine w_last gna rfl (by decide) (by omega) (by show (t : Int) < ((8 : Nat) : Int); omega) ?_
    have s1 := hC.pna (j := ((t : Int)).toNat) (v := (Int64.ofNat (0 : Fin 2).val))
    refine w_aln rfl ?_
    refine w_gr gpl rfl (by decide) rfl (by rw [s1.2.2.2.2.2.2.2.2]; exact r6) ?_
    refine w_iln rfl ?_
    refine w_ic ?_
    refine w_iast goa rfl (by decide) (by omega) (by show (t : Int) < ((8 : Nat) : Int); omega) ?_
    have s2 := s1.poa (j := ((t : Int)).toNat) (v := 0) hA1
    refine w_ic ?_
    refine w_isn ?_
    refine r_clr_to hA1 ht 9 0 _ _ _ _ (by omega) s2 (fun TO1 M1 s3 d1 d2 d3 => ?_)
    refine w_ic ?_
    refine w_isn ?_
    refine r_clr_bi hA1 ht 12 0 _ _ _ _ (by omega) s3 (fun BI1 M2 s4 e1 e2 e3 => ?_)
    refine w_ii rfl ⟨by omega, by omega⟩ ?_
    refine w_goto ?_
    refine ih (t + 1) _ _ _ _ _ _ _ _ (by omega) s4 (fun OA' TO' BI' NA' M' v2' hC' z1 z2 => kk OA' TO' BI' NA' M' v2' hC' (fun s h1 h2 => ?_) (fun s hs => ?_))
    · rcases Nat.lt_or_ge t s with q | q
      · exact z1 s (by omega) h2
      · have e : s = t := by omega
        obtain ⟨y1, y2, y3, y4⟩ := z2 s (by omega)
        rw [y1, y2, y3, y4, e]
        refine ⟨?_, rv_up_s, fun w hw => d2 w (Nat.zero_le _) hw, fun w hw => e2 w (Nat.zero_le _) hw⟩
        show (if t = ((t : Int)).toNat then _ else _) = _
        rw [if_pos (by omega)]; rfl
    · obtain ⟨y1, y2, y3, y4⟩ := z2 s (by omega)
      rw [y1, y2, y3, y4]
      refine ⟨?_, rv_up_n (by omega), d1 s (by omega), e1 s (by omega)⟩
      show (if s = ((t : Int)).toNat then _ else _) = _
      rw [if_neg (by omega)]
theorem r_clr_wa {G : mj_G} {M0 : mj_M} {B : Nat → Int} {n lim tp bc pl na ta ba wa oa : Nat} {tr br : Nat → Nat} {PL OA : Nat → Int} {TO BI : Nat → Nat → Int} {NA : Nat → Int64} {d : Nat} {Q : mj_P} (hA : rv_A G M0 B n lim tp bc pl na ta ba wa oa tr br) {v2 : Option mj_V} : ∀ (f k : Nat) (WA : Nat → Int) (M : mj_M) (cb sb : Nat), k + f = 12 → rv_C M0 pl na wa oa tr br PL WA OA TO BI NA M → (∀ WA' M', rv_C M0 pl na wa oa tr br PL WA' OA TO BI NA M' → (∀ w, k ≤ w → w < 12 → WA' w = 0) → (∀ w, w < k → WA' w = WA w) → wz d mt_X3_clear.2.2.2.2.1 Q (mt_X3_clear.2.2.2.2.1.drop 57) [some (.inr (.inr (some pl))), some (.inl 12), v2] [] G M' cb sb) → wz d mt_X3_clear.2.2.2.2.1 Q (mt_X3_clear.2.2.2.2.1.drop 47) [some (.inr (.inr (some pl))), some (.inl (k : Int)), v2] [] G M cb sb := by
  have hA1 := hA
  obtain ⟨gtp, gbc, gpl, gna, gta, gba, gwa, goa, gtr, gbr, itr, ibr, r1, r2, r3, r4, r5, r6, r7, r8, -⟩ := hA
  intro f
  induction f with
  | zero =>
    intro k WA M cb sb hk hC kk
    have e : k = 12 := by omega
    subst e
    refine w_iln rfl ?_
    refine w_bp ?_
    refine w_cmge (fun c => ?_) (fun c => by exfalso; omega)
    exact kk WA M hC (fun w h1 h2 => by omega) (fun _ _ => rfl)
  | succ f ih =>
    intro k WA M cb sb hk hC kk
    refine w_iln rfl ?_
    refine w_bp ?_
    refine w_cmge (fun c => by exfalso; omega) (fun c => ?_)
    refine w_aln rfl ?_
    refine w_gr gpl rfl (by decide) rfl (by rw [hC.2.2.2.2.2.2.2.2]; exact r5) ?_
    refine w_iln rfl ?_
    refine w_ic ?_
    refine w_iast gwa rfl (by decide) (by omega) (by show (k : Int) < ((12 : Nat) : Int); omega) ?_
    have s1 := hC.pwa (j := ((k : Int)).toNat) (v := 0) hA1
    refine w_ii rfl ⟨by omega, by omega⟩ ?_
    refine w_goto ?_
    refine ih (k + 1) _ _ _ _ (by omega) s1 (fun F' M' hC' e2 e3 => kk F' M' hC' (fun w h1 h2 => ?_) (fun w hw => (e3 w (by omega)).trans (rv_up_n (by omega))))
    rcases Nat.lt_or_ge k w with q | q
    · exact e2 w (by omega) h2
    · rw [e3 w (by omega), show w = k by omega]; exact rv_up_s
/-- all is cleared -/
def rv_0 (PL WA OA : Nat → Int) (TO BI : Nat → Nat → Int) (NA : Nat → Int64) : Prop := (∀ s, s < 8 → NA s = 0 ∧ OA s = 0 ∧ (∀ w, w < 9 → TO s w = 0) ∧ (∀ w, w < 12 → BI s w = 0)) ∧ (∀ w, w < 12 → WA w = 0) ∧ PL 4 = 0 ∧ PL 5 = 0 ∧ PL 6 = 0 ∧ PL 7 = 0 ∧ PL 8 = 3 ∧ PL 11 = 0 ∧ PL 12 = 0 ∧ PL 13 = 0 ∧ PL 14 = 0
theorem r_X3_clear {G : mj_G} {M0 M : mj_M} {B : Nat → Int} {n lim tp bc pl na ta ba wa oa : Nat} {tr br : Nat → Nat} {PL WA OA : Nat → Int} {TO BI : Nat → Nat → Int} {NA : Nat → Int64} {d : Nat} {Q : mj_P} (hA : rv_A G M0 B n lim tp bc pl na ta ba wa oa tr br) (hC : rv_C M0 pl na wa oa tr br PL WA OA TO BI NA M) (hQ : ∀ PL WA OA TO BI NA M', rv_C M0 pl na wa oa tr br PL WA OA TO BI NA M' → rv_0 PL WA OA TO BI NA → Q none G M') : mj_R mj_tab (d + 1) 31 [.inr (.inr (some pl))] G M Q := by
  have hA1 := hA
  obtain ⟨gtp, gbc, gpl, gna, gta, gba, gwa, goa, gtr, gbr, itr, ibr, r1, r2, r3, r4, r5, r6, r7, r8, -⟩ := hA
  refine ⟨Nat.le_of_ble_eq_true rfl, ?_⟩
  show wz d mt_X3_clear.2.2.2.2.1 Q mt_X3_clear.2.2.2.2.1 [some (.inr (.inr (some pl))), none, none] [] G M _ _
  refine w_ic ?_
  refine w_isn ?_
  refine r_clr_out hA1 8 0 OA TO BI NA M _ _ _ (by omega) hC (fun OA1 TO1 BI1 NA1 M1 v2 s0 z1 _ => ?_)
  refine w_ic ?_
  refine w_isn ?_
  refine r_clr_wa hA1 12 0 WA M1 _ _ (by omega) s0 (fun WA1 M2 s1 z2 _ => ?_)
  refine w_aln rfl ?_
  refine w_ic ?_
  refine w_pi gpl rfl (by decide) rfl (fun q => by cases q) ?_
  have s2 := s1.ppl (j := 4) (v := 0) hA1
  refine w_aln rfl ?_
  refine w_ic ?_
  refine w_pi gpl rfl (by decide) rfl (fun q => by cases q) ?_
  have s3 := s2.ppl (j := 5) (v := 0) hA1
  refine w_aln rfl ?_
  refine w_ic ?_
  refine w_pi gpl rfl (by decide) rfl (fun q => by cases q) ?_
  have s4 := s3.ppl (j := 6) (v := 0) hA1
  refine w_aln rfl ?_
  refine w_ic ?_
  refine w_pi gpl rfl (by decide) rfl (fun q => by cases q) ?_
  have s5 := s4.ppl (j := 7) (v := 0) hA1
  refine w_aln rfl ?_
  refine w_ic ?_
  refine w_pi gpl rfl (by decide) rfl (fun q => by cases q) ?_
  have s6 := s5.ppl (j := 8) (v := 3) hA1
  refine w_aln rfl ?_
  refine w_ic ?_
  refine w_pi gpl rfl (by decide) rfl (fun q => by cases q) ?_
  have s7 := s6.ppl (j := 11) (v := 0) hA1
  refine w_aln rfl ?_
  refine w_ic ?_
  refine w_pi gpl rfl (by decide) rfl (fun _ => Or.inl rfl) ?_
  have s8 := s7.ppl (j := 12) (v := 0) hA1
  refine w_aln rfl ?_
  refine w_ic ?_
  refine w_pi gpl rfl (by decide) rfl (fun _ => Or.inl rfl) ?_
  have s9 := s8.ppl (j := 13) (v := 0) hA1
  refine w_aln rfl ?_
  refine w_ic ?_
  refine w_pi gpl rfl (by decide) rfl (fun _ => Or.inl rfl) ?_
  have s10 := s9.ppl (j := 14) (v := 0) hA1
  refine w_ret (hQ _ _ _ _ _ _ _ s10 ⟨fun s hs => z1 s (Nat.zero_le _) hs, fun w hw => z2 w (Nat.zero_le _) hw, (rv_up_n (by decide)).trans ((rv_up_n (by decide)).trans ((rv_up_n (by decide)).trans ((rv_up_n (by decide)).trans ((rv_up_n (by decide)).trans ((rv_up_n (by decide)).trans ((rv_up_n (by decide)).trans ((rv_up_n (by decide)).trans (rv_up_s)))))))), (rv_up_n (by decide)).trans ((rv_up_n (by decide)).trans ((rv_up_n (by decide)).trans ((rv_up_n (by decide)).trans ((rv_up_n (by decide)).trans ((rv_up_n (by decide)).trans ((rv_up_n (by decide)).trans (rv_up_s))))))), (rv_up_n (by decide)).trans ((rv_up_n (by decide)).trans ((rv_up_n (by decide)).trans ((rv_up_n (by decide)).trans ((rv_up_n (by decide)).trans ((rv_up_n (by decide)).trans (rv_up_s)))))), (rv_up_n (by decide)).trans ((rv_up_n (by decide)).trans ((rv_up_n (by decide)).trans ((rv_up_n (by decide)).trans ((rv_up_n (by decide)).trans (rv_up_s))))), (rv_up_n (by decide)).trans ((rv_up_n (by decide)).trans ((rv_up_n (by decide)).trans ((rv_up_n (by decide)).trans (rv_up_s)))), (rv_up_n (by decide)).trans ((rv_up_n (by decide)).trans ((rv_up_n (by decide)).trans (rv_up_s))), (rv_up_n (by decide)).trans ((rv_up_n (by decide)).trans (rv_up_s)), (rv_up_n (by decide)).trans (rv_up_s), rv_up_s⟩)
/-- where CONTRACTS lie -/
def rv_D (G : mj_G) (M : mj_M) (dl fa sa ca : Nat) : Prop := G dl = (1002, 0) ∧ G fa = (16100, 12) ∧ G sa = (17100, 12) ∧ G ca = (18100, 12) ∧ M.2.2 dl 0 = some fa ∧ M.2.2 dl 1 = some sa ∧ M.2.2 dl 2 = some ca
theorem r_clr_d {G : mj_G} {M0 : mj_M} {dl fa sa ca : Nat} {d : Nat} {Q : mj_P} (hD : rv_D G M0 dl fa sa ca) : ∀ (f k : Nat) (M : mj_M) (cb sb : Nat), k + f = 12 → M.2 = M0.2 → (∀ a, a ≠ dl → a ≠ fa → a ≠ sa → a ≠ ca → M.1 a = M0.1 a) → (∀ j, j < k → M.1 fa j = -1 ∧ M.1 sa j = -1 ∧ M.1 ca j = 0) → (∀ M', M'.2 = M0.2 → (∀ a, a ≠ dl → a ≠ fa → a ≠ sa → a ≠ ca → M'.1 a = M0.1 a) → (∀ j, j < 12 → M'.1 fa j = -1 ∧ M'.1 sa j = -1 ∧ M'.1 ca j = 0) → wz d mt_X1_clear.2.2.2.2.1 Q (mt_X1_clear.2.2.2.2.1.drop 22) [some (.inr (.inr (some dl))), some (.inl 12)] [] G M' cb sb) → wz d mt_X1_clear.2.2.2.2.1 Q (mt_X1_clear.2.2.2.2.1.drop 2) [some (.inr (.inr (some dl))), some (.inl (k : Int))] [] G M cb sb := by
  obtain ⟨gd, gf, gs, gc, e1, e2, e3⟩ := hD
  have n1 : fa ≠ sa := hn_ne gf gs (by decide)
  have n2 : fa ≠ ca := hn_ne gf gc (by decide)
  have n3 : sa ≠ ca := hn_ne gs gc (by decide)
  intro f
  induction f with
  | zero =>
    intro k M cb sb hk h2 h1 hz kk
    have e : k = 12 := by omega
    subst e
    refine w_iln rfl ?_
    refine w_bp ?_
    refine w_cmge (fun c => ?_) (fun c => by exfalso; omega)
    exact kk M h2 h1 hz
  | succ f ih =>
    intro k M cb sb hk h2 h1 hz kk
    refine w_iln rfl ?_
    refine w_bp ?_
    refine w_cmge (fun c => by exfalso; omega) (fun c => ?_)
    refine w_aln rfl ?_
    refine w_gr gd rfl (by decide) rfl (by rw [h2]; exact e1) ?_
    refine w_iln rfl ?_
    refine w_ic ?_
    refine w_iast gf rfl (by decide) (by omega) (by show (k : Int) < ((12 : Nat) : Int); omega) ?_
    refine w_aln rfl ?_
    refine w_gr gd rfl (by decide) rfl (by show M.2.2 dl 1 = _; rw [h2]; exact e2) ?_
    refine w_iln rfl ?_
    refine w_ic ?_
    refine w_iast gs rfl (by decide) (by omega) (by show (k : Int) < ((12 : Nat) : Int); omega) ?_
    refine w_aln rfl ?_
    refine w_gr gd rfl (by decide) rfl (by show M.2.2 dl 2 = _; rw [h2]; exact e3) ?_
    refine w_iln rfl ?_
    refine w_ic ?_
    refine w_iast gc rfl (by decide) (by omega) (by show (k : Int) < ((12 : Nat) : Int); omega) ?_
    refine w_ii rfl ⟨by omega, by omega⟩ ?_
    refine w_goto ?_
    refine ih (k + 1) _ _ _ (by omega) h2 (fun a a1 a2 a3 a4 => (wz_c a4).trans ((wz_c a3).trans ((wz_c a2).trans (h1 a a1 a2 a3 a4)))) (fun j hj => ?_) kk
    rw [show ((k : Int)).toNat = k by omega]
    rcases Nat.lt_or_ge j k with q | q
    · have nk : j ≠ k := by omega
      obtain ⟨z1, z2, z3⟩ := hz j q
      exact ⟨(hn_n (Or.inr nk)).trans ((hn_n (Or.inr nk)).trans ((hn_n (Or.inr nk)).trans z1)), (hn_n (Or.inr nk)).trans ((hn_n (Or.inr nk)).trans ((hn_n (Or.inr nk)).trans z2)), (hn_n (Or.inr nk)).trans ((hn_n (Or.inr nk)).trans ((hn_n (Or.inr nk)).trans z3))⟩
    · rw [show j = k by omega]
      exact ⟨(hn_n (Or.inl n2)).trans ((hn_n (Or.inl n1)).trans hn_s), (hn_n (Or.inl n3)).trans hn_s, hn_s⟩
theorem r_X1_clear {G : mj_G} {M : mj_M} {dl fa sa ca : Nat} {d : Nat} {Q : mj_P} (hD : rv_D G M dl fa sa ca) (hQ : ∀ M', M'.2 = M.2 → (∀ a, a ≠ dl → a ≠ fa → a ≠ sa → a ≠ ca → M'.1 a = M.1 a) → (∀ j, j < 12 → M'.1 fa j = -1 ∧ M'.1 sa j = -1 ∧ M'.1 ca j = 0) → M'.1 dl 3 = 0 → Q none G M') : mj_R mj_tab (d + 1) 17 [.inr (.inr (some dl))] G M Q := by
  obtain ⟨gd, gf, gs, gc, -⟩ := id hD
  refine ⟨Nat.le_of_ble_eq_true rfl, ?_⟩
  show wz d mt_X1_clear.2.2.2.2.1 Q mt_X1_clear.2.2.2.2.1 [some (.inr (.inr (some dl))), none] [] G M _ _
  refine w_ic ?_
  refine w_isn ?_
  refine r_clr_d hD 12 0 M _ _ (by omega) rfl (fun _ _ _ _ _ => rfl) (fun j hj => absurd hj (Nat.not_lt_zero j)) (fun M' h2 h1 hz => ?_)
  refine w_aln rfl ?_
  refine w_ic ?_
  refine w_pi gd rfl (by decide) rfl (fun q => by cases q) ?_
  refine w_ret (hQ _ h2 (fun a a1 a2 a3 a4 => (wz_c a1).trans (h1 a a1 a2 a3 a4)) (fun j hj => ?_) hn_s)
  obtain ⟨z1, z2, z3⟩ := hz j hj
  exact ⟨(hn_n (Or.inl (hn_ne gf gd (by decide)))).trans z1, (hn_n (Or.inl (hn_ne gs gd (by decide)))).trans z2, (hn_n (Or.inl (hn_ne gc gd (by decide)))).trans z3⟩
end
section
/-! ===== the class's plain (laid by a program) ===== -/
theorem sp_rows.mono {T : Nat → Nat × Nat × Int × List Int × Nat} {Kf Kf' : Int → Nat → Prop} {Ko Ko' : (Nat → Int) → (Nat → Int) → (Nat → Int) → (Nat → Nat → Int) → (Nat → Nat → Int) → (Nat → List Int) → Nat → Prop} (hf : ∀ f a, Kf f a → Kf' f a) (ho : ∀ PL WA OA TO BI nm r, Ko PL WA OA TO BI nm r → Ko' PL WA OA TO BI nm r) : ∀ (f : Nat) (PL WA OA : Nat → Int) (TO BI : Nat → Nat → Int) (nm : Nat → List Int) (r q : Nat), sp_rows T Kf Ko f PL WA OA TO BI nm r q → sp_rows T Kf' Ko' f PL WA OA TO BI nm r q
  | 0, _, _, _, _, _, _, _, _, _ => trivial
  | f + 1, PL, WA, OA, TO, BI, nm, r, q, h => ⟨fun e => ho _ _ _ _ _ _ _ (h.1 e), fun e => hf _ _ (h.2.1 e), fun e0 e5 => (h.2.2 e0 e5).mono hf (fun PL' WA' OA' TO' BI' nm' q' k => k.mono hf (fun _ k => sp_rows.mono hf ho f _ _ _ _ _ _ _ _ k))⟩
theorem r_X3_readRows {G : mj_G} {M0 M : mj_M} {B : Nat → Int} {n lim tp bc pl na ta ba wa oa : Nat} {tr br : Nat → Nat} {T : Nat → Nat × Nat × Int × List Int × Nat} {PL WA OA : Nat → Int} {TO BI : Nat → Nat → Int} {nm : Nat → List Int} {Q : mj_P} {d : Nat} (hA : rv_AT G M0 B n lim tp bc pl na ta ba wa oa tr br T) (hS : rv_S0 G M0 n lim tp pl na wa oa tr br 0 PL WA OA TO BI nm M) (hb : rv_pb PL) (h : sp_rows T (fun f a => ∀ z M', rv_F tp pl na wa oa tr br M0 f a M' → Q (some (.inl z)) G M') (fun PL WA OA TO BI nm r => rv_pb PL → ∀ q' M', rv_S G M0 n lim tp pl na wa oa tr br (T q') PL WA OA TO BI nm M' → Q (some (.inl (r : Int))) G M') (n + 1) PL WA OA TO BI nm 0 0) : mj_R mj_tab (d + 7) 44 [.inr (.inr (some pl)), .inr (.inr (some tp))] G M Q := by
  have gtp := hA.1.1
  refine ⟨Nat.le_of_ble_eq_true rfl, ?_⟩
  show wz (d + 6) mt_X3_readRows.2.2.2.2.1 Q mt_X3_readRows.2.2.2.2.1 [some (.inr (.inr (some pl))), some (.inr (.inr (some tp))), none] [] G M _ _
  refine w_ic ?_
  refine w_isn ?_
  refine w_aln rfl ?_
  refine w_cv (st := []) rfl gtp rfl (Nat.le_of_ble_eq_true rfl) (fun kk h => h) (r_adv0 (d := d + 3) hA.1 hS (Nat.zero_le n) (fun M1 s1 => ?_))
  rw [← hA.2] at s1
  exact r_rows1 hA (n + 1) 0 0 PL WA OA TO BI nm M1 _ _ (by omega) (Nat.zero_le n) (Nat.le_refl 0) hb s1 h
/-- what a fault at a is answered by -/
def rv_vf (a : Nat) : Int := (Int32.ofInt (-1) - Int32.ofInt (a : Int)).toInt
/-- where the object's parts lie -/
def rv_X (G : mj_G) (M : mj_M) (x tp pl sp nw pn dl fa sa ca se ye ud : Nat) : Prop := (G x = (1011, 0) ∧ G sp = (1007, 0) ∧ G nw = (1007, 0) ∧ G se = (1006, 0) ∧ G ye = (1010, 0) ∧ G ud = (1009, 0) ∧ rv_D G M dl fa sa ca) ∧ M.2.2 x 0 = some tp ∧ M.2.2 x 1 = some nw ∧ M.2.2 x 2 = some sp ∧ M.2.2 x 5 = some ud ∧ M.2.2 sp 0 = some pl ∧ M.2.2 nw 0 = some pn ∧ M.2.2 nw 1 = some dl ∧ M.2.2 nw 2 = some se ∧ M.2.2 nw 3 = some ye
theorem r_pl_F {G : mj_G} {M0 M : mj_M} {B : Nat → Int} {n lim tp bc pl na ta ba wa oa : Nat} {tr br : Nat → Nat} {T : Nat → Nat × Nat × Int × List Int × Nat} {Q : mj_P} {d : Nat} {x sp nw pn dl fa sa ca se ye ud : Nat} {z : Int} (hA : rv_AT G M0 B n lim tp bc pl na ta ba wa oa tr br T) (hX : rv_X G M0 x tp pl sp nw pn dl fa sa ca se ye ud) (hfr : ∀ a j, ¬ (a = tp ∧ j = 9) → M.2.2 a j = M0.2.2 a j) {f : Int} {a : Nat} (f2 : M.1 tp 2 = f) (f0 : f ≠ 0) (f3 : M.1 tp 3 = (a : Int)) (hQ : ∀ M', Q (some (.inl (rv_vf a))) G M') : ∀ cb sb, wz (d + 7) mt_X11_plain.2.2.2.2.1 Q (mt_X11_plain.2.2.2.2.1.drop 14) [some (.inr (.inr (some x))), some (.inr (.inr (some pl))), none] [.inl z] G M cb sb := by
  obtain ⟨⟨gtp, gbc, gpl, gna, gta, gba, gwa, goa, gtr, gbr, itr, ibr, r1, r2, r3, r4, r5, r6, r7, r8, rb, rw0, n1, n2, hIw⟩, hT⟩ := id hA
  obtain ⟨⟨gx, gsp, gnw, gse, gye, gud, hD⟩, x_x0, x_x1, x_x2, x_x5, x_sp0, x_nw0, x_nw1, x_nw2, x_nw3⟩ := id hX
  have gdl := hD.1
  intro cb sb
  refine w_isn ?_
  show wz _ _ _ _ [some (.inr (.inr (some x))), some (.inr (.inr (some pl))), some (.inl z)] _ _ _ _ _
  refine w_aln rfl ?_
  refine w_gr gx rfl (by decide) rfl ((hfr x 0 (fun e => absurd e.1 (hn_ne gx gtp (by decide)))).trans x_x0) ?_
  refine w_gi gtp rfl (by decide) rfl (f2) ?_
  refine w_ifne (fun c1 => ?_) (fun c1 => ?_)
  · skip
    refine w_aln rfl ?_
    refine w_iln rfl ?_
    refine w_cv (st := []) rfl gx rfl (Nat.le_of_ble_eq_true rfl) (fun kk h => h) ⟨Nat.le_of_ble_eq_true rfl, ?_⟩
    show wz (d + 6) mt_X11_closeTape.2.2.2.2.1 _ mt_X11_closeTape.2.2.2.2.1 [some (.inr (.inr (some x))), some (.inl z)] [] _ _ _ _
    refine w_aln rfl ?_
    refine w_gr gx rfl (by decide) rfl ((hfr x 0 (fun e => absurd e.1 (hn_ne gx gtp (by decide)))).trans x_x0) ?_
    refine w_ic ?_
    refine w_pi gtp rfl (by decide) rfl (fun q => by cases q) ?_
    refine w_aln rfl ?_
    refine w_aln rfl ?_
    refine w_gr gx rfl (by decide) rfl ((hfr x 0 (fun e => absurd e.1 (hn_ne gx gtp (by decide)))).trans x_x0) ?_
    refine w_gi gtp rfl (by decide) rfl ((hn_n (Or.inr (by decide))).trans (f2)) ?_
    refine w_pi gx rfl (by decide) rfl (fun q => by cases q) ?_
    refine w_aln rfl ?_
    refine w_gi gx rfl (by decide) rfl (hn_s) ?_
    refine w_ifne (fun c2 => ?_) (fun c2 => ?_)
    · skip
      refine w_ic ?_
      refine w_aln rfl ?_
      refine w_gr gx rfl (by decide) rfl ((hfr x 0 (fun e => absurd e.1 (hn_ne gx gtp (by decide)))).trans x_x0) ?_
      refine w_gi gtp rfl (by decide) rfl ((hn_n (Or.inr (by decide))).trans ((hn_n (Or.inr (by decide))).trans (f3))) ?_
      refine w_subw ?_
      intro z3 hz3 ez3
      refine w_iret (fun q => by cases q) ?_
      have ev : z3 = rv_vf a := ez3
      refine w_iret (fun q => by cases q) ?_
      rw [ev]
      exact hQ _
    · exfalso; omega
  · exfalso; omega
theorem r_pl_O {G : mj_G} {M0 M : mj_M} {B : Nat → Int} {n lim tp bc pl na ta ba wa oa : Nat} {tr br : Nat → Nat} {T : Nat → Nat × Nat × Int × List Int × Nat} {Q : mj_P} {d : Nat} {x sp nw pn dl fa sa ca se ye ud : Nat} {z : Int} (hA : rv_AT G M0 B n lim tp bc pl na ta ba wa oa tr br T) (hX : rv_X G M0 x tp pl sp nw pn dl fa sa ca se ye ud) (hfr : ∀ a j, ¬ (a = tp ∧ j = 9) → M.2.2 a j = M0.2.2 a j) (f2 : M.1 tp 2 = 0) (hQ : ∀ M', Q (some (.inl z)) G M') : ∀ cb sb, wz (d + 7) mt_X11_plain.2.2.2.2.1 Q (mt_X11_plain.2.2.2.2.1.drop 14) [some (.inr (.inr (some x))), some (.inr (.inr (some pl))), none] [.inl z] G M cb sb := by
  obtain ⟨⟨gtp, gbc, gpl, gna, gta, gba, gwa, goa, gtr, gbr, itr, ibr, r1, r2, r3, r4, r5, r6, r7, r8, rb, rw0, n1, n2, hIw⟩, hT⟩ := id hA
  obtain ⟨⟨gx, gsp, gnw, gse, gye, gud, hD⟩, x_x0, x_x1, x_x2, x_x5, x_sp0, x_nw0, x_nw1, x_nw2, x_nw3⟩ := id hX
  have gdl := hD.1
  intro cb sb
  refine w_isn ?_
  show wz _ _ _ _ [some (.inr (.inr (some x))), some (.inr (.inr (some pl))), some (.inl z)] _ _ _ _ _
  refine w_aln rfl ?_
  refine w_gr gx rfl (by decide) rfl ((hfr x 0 (fun e => absurd e.1 (hn_ne gx gtp (by decide)))).trans x_x0) ?_
  refine w_gi gtp rfl (by decide) rfl (f2) ?_
  refine w_ifne (fun c1 => ?_) (fun c1 => ?_)
  · exfalso; omega
  · skip
    refine w_aln rfl ?_
    refine w_dupr ?_
    refine w_gi gx rfl (by decide) rfl (rfl) ?_
    refine w_ic ?_
    refine w_addw ?_
    intro z2 hz2 ez2
    refine w_pi gx rfl (by decide) rfl (fun q => by cases q) ?_
    refine w_aln rfl ?_
    refine w_aln rfl ?_
    refine w_gi gx rfl (by decide) rfl (hn_s) ?_
    refine w_pi gpl rfl (by decide) rfl (fun q => by cases q) ?_
    refine w_aln rfl ?_
    refine w_gr gx rfl (by decide) rfl ((hfr x 2 (fun e => absurd e.1 (hn_ne gx gtp (by decide)))).trans x_x2) ?_
    refine w_aln rfl ?_
    refine w_gr gx rfl (by decide) rfl ((hfr x 1 (fun e => absurd e.1 (hn_ne gx gtp (by decide)))).trans x_x1) ?_
    refine w_gr gnw rfl (by decide) rfl ((hfr nw 0 (fun e => absurd e.1 (hn_ne gnw gtp (by decide)))).trans x_nw0) ?_
    refine w_pr gsp rfl (by decide) rfl ?_
    refine w_aln rfl ?_
    refine w_gr gx rfl (by decide) rfl ((wz_nr (Or.inr (by decide))).trans ((hfr x 1 (fun e => absurd e.1 (hn_ne gx gtp (by decide)))).trans x_x1)) ?_
    refine w_aln rfl ?_
    refine w_pr gnw rfl (by decide) rfl ?_
    refine w_aln rfl ?_
    refine w_gr gx rfl (by decide) rfl ((wz_nr (Or.inr (by decide))).trans ((wz_nr (Or.inr (by decide))).trans ((hfr x 1 (fun e => absurd e.1 (hn_ne gx gtp (by decide)))).trans x_x1))) ?_
    refine w_gr gnw rfl (by decide) rfl ((wz_nr (Or.inr (by decide))).trans ((wz_nr (Or.inr (by decide))).trans ((hfr nw 1 (fun e => absurd e.1 (hn_ne gnw gtp (by decide)))).trans x_nw1))) ?_
    refine w_cv (st := []) rfl gdl rfl (Nat.le_of_ble_eq_true rfl) (fun kk h => h) (r_X1_clear (d := d + 6) (fa := fa) (sa := sa) (ca := ca) ?_ (fun M3 u2 u1 _ _ => ?_))
    · exact ⟨hD.1, hD.2.1, hD.2.2.1, hD.2.2.2.1, (wz_nr (Or.inl (hn_ne hD.1 gnw (by decide)))).trans ((wz_nr (Or.inl (hn_ne hD.1 gsp (by decide)))).trans ((hfr dl 0 (fun e => absurd e.1 (hn_ne hD.1 gtp (by decide)))).trans hD.2.2.2.2.1)), (wz_nr (Or.inl (hn_ne hD.1 gnw (by decide)))).trans ((wz_nr (Or.inl (hn_ne hD.1 gsp (by decide)))).trans ((hfr dl 1 (fun e => absurd e.1 (hn_ne hD.1 gtp (by decide)))).trans hD.2.2.2.2.2.1)), (wz_nr (Or.inl (hn_ne hD.1 gnw (by decide)))).trans ((wz_nr (Or.inl (hn_ne hD.1 gsp (by decide)))).trans ((hfr dl 2 (fun e => absurd e.1 (hn_ne hD.1 gtp (by decide)))).trans hD.2.2.2.2.2.2))⟩
    refine w_aln rfl ?_
    refine w_gr gx rfl (by decide) rfl ((congrFun (congrFun (congrArg Prod.snd u2) x) 1).trans ((wz_nr (Or.inr (by decide))).trans ((wz_nr (Or.inr (by decide))).trans ((hfr x 1 (fun e => absurd e.1 (hn_ne gx gtp (by decide)))).trans x_x1)))) ?_
    refine w_gr gnw rfl (by decide) rfl ((congrFun (congrFun (congrArg Prod.snd u2) nw) 2).trans ((wz_nr (Or.inr (by decide))).trans ((wz_nr (Or.inr (by decide))).trans ((hfr nw 2 (fun e => absurd e.1 (hn_ne gnw gtp (by decide)))).trans x_nw2)))) ?_
    refine w_cv (st := []) rfl gse rfl (Nat.le_of_ble_eq_true rfl) (fun kk h => h) ⟨Nat.le_of_ble_eq_true rfl, ?_⟩
    show wz (d + 6) mt_X5_clear.2.2.2.2.1 _ mt_X5_clear.2.2.2.2.1 [some (.inr (.inr (some se)))] [] _ _ _ _
    refine w_aln rfl ?_
    refine w_ic ?_
    refine w_pi gse rfl (by decide) rfl (fun q => by cases q) ?_
    refine w_aln rfl ?_
    refine w_ic ?_
    refine w_pi gse rfl (by decide) rfl (fun q => by cases q) ?_
    refine w_ret ?_
    refine w_aln rfl ?_
    refine w_gr gx rfl (by decide) rfl ((congrFun (congrFun (congrArg Prod.snd u2) x) 1).trans ((wz_nr (Or.inr (by decide))).trans ((wz_nr (Or.inr (by decide))).trans ((hfr x 1 (fun e => absurd e.1 (hn_ne gx gtp (by decide)))).trans x_x1)))) ?_
    refine w_gr gnw rfl (by decide) rfl ((congrFun (congrFun (congrArg Prod.snd u2) nw) 3).trans ((wz_nr (Or.inr (by decide))).trans ((wz_nr (Or.inr (by decide))).trans ((hfr nw 3 (fun e => absurd e.1 (hn_ne gnw gtp (by decide)))).trans x_nw3)))) ?_
    refine w_ic ?_
    refine w_pi gye rfl (by decide) rfl (fun _ => by omega) ?_
    refine w_aln rfl ?_
    refine w_gr gx rfl (by decide) rfl ((congrFun (congrFun (congrArg Prod.snd u2) x) 5).trans ((wz_nr (Or.inr (by decide))).trans ((wz_nr (Or.inr (by decide))).trans ((hfr x 5 (fun e => absurd e.1 (hn_ne gx gtp (by decide)))).trans x_x5)))) ?_
    refine w_ic ?_
    refine w_pi gud rfl (by decide) rfl (fun q => by cases q) ?_
    refine w_aln rfl ?_
    refine w_iln rfl ?_
    refine w_cv (st := []) rfl gx rfl (Nat.le_of_ble_eq_true rfl) (fun kk h => h) ⟨Nat.le_of_ble_eq_true rfl, ?_⟩
    show wz (d + 6) mt_X11_closeTape.2.2.2.2.1 _ mt_X11_closeTape.2.2.2.2.1 [some (.inr (.inr (some x))), some (.inl z)] [] _ _ _ _
    refine w_aln rfl ?_
    refine w_gr gx rfl (by decide) rfl ((congrFun (congrFun (congrArg Prod.snd u2) x) 0).trans ((wz_nr (Or.inl (hn_ne gx gnw (by decide)))).trans ((wz_nr (Or.inl (hn_ne gx gsp (by decide)))).trans ((hfr x 0 (fun e => absurd e.1 (hn_ne gx gtp (by decide)))).trans x_x0)))) ?_
    refine w_ic ?_
    refine w_pi gtp rfl (by decide) rfl (fun q => by cases q) ?_
    refine w_aln rfl ?_
    refine w_aln rfl ?_
    refine w_gr gx rfl (by decide) rfl ((congrFun (congrFun (congrArg Prod.snd u2) x) 0).trans ((wz_nr (Or.inl (hn_ne gx gnw (by decide)))).trans ((wz_nr (Or.inl (hn_ne gx gsp (by decide)))).trans ((hfr x 0 (fun e => absurd e.1 (hn_ne gx gtp (by decide)))).trans x_x0)))) ?_
    refine w_gi gtp rfl (by decide) rfl ((hn_n (Or.inr (by decide))).trans ((hn_n (Or.inr (by decide))).trans ((hn_n (Or.inr (by decide))).trans ((hn_n (Or.inr (by decide))).trans ((hn_n (Or.inr (by decide))).trans ((congrFun (u1 tp (hn_ne gtp gdl (by decide)) (hn_ne gtp hD.2.1 (by decide)) (hn_ne gtp hD.2.2.1 (by decide)) (hn_ne gtp hD.2.2.2.1 (by decide))) 2).trans ((hn_n (Or.inr (by decide))).trans ((hn_n (Or.inr (by decide))).trans (f2))))))))) ?_
    refine w_pi gx rfl (by decide) rfl (fun q => by cases q) ?_
    refine w_aln rfl ?_
    refine w_gi gx rfl (by decide) rfl (hn_s) ?_
    refine w_ifne (fun c3 => ?_) (fun c3 => ?_)
    · exfalso; omega
    · skip
      refine w_iln rfl ?_
      refine w_goto ?_
      refine w_iret (fun q => by cases q) ?_
      exact w_iret (fun q => by cases q) (hQ _)
theorem r_X11_plain {G : mj_G} {M : mj_M} {B : Nat → Int} {n tp bc pl na ta ba wa oa : Nat} {tr br : Nat → Nat} {T : Nat → Nat × Nat × Int × List Int × Nat} {Q : mj_P} {d : Nat} {x sp nw pn dl fa sa ca se ye ud : Nat} (hA : rv_AT G M B n 900 tp bc pl na ta ba wa oa tr br T) (hX : rv_X G M x tp pl sp nw pn dl fa sa ca se ye ud) (hn : M.1 tp 1 = (n : Int)) (h : ∀ PL WA OA TO BI NA, rv_0 PL WA OA TO BI NA → sp_rows T (fun f a => ∀ M', Q (some (.inl (rv_vf a))) G M') (fun PL WA OA TO BI nm r => ∀ M', Q (some (.inl (r : Int))) G M') (n + 1) PL WA OA TO BI (fun _ => []) 0 0) : mj_R mj_tab (d + 8) 138 [.inr (.inr (some x))] G M Q := by
  obtain ⟨⟨gtp, gbc, gpl, gna, gta, gba, gwa, goa, gtr, gbr, itr, ibr, r1, r2, r3, r4, r5, r6, r7, r8, rb, rw0, n1, n2, hIw⟩, hT⟩ := id hA
  obtain ⟨⟨gx, gsp, gnw, gse, gye, gud, hD⟩, x_x0, x_x1, x_x2, x_x5, x_sp0, x_nw0, x_nw1, x_nw2, x_nw3⟩ := id hX
  have gdl := hD.1
  refine ⟨Nat.le_of_ble_eq_true rfl, ?_⟩
  show wz (d + 7) mt_X11_plain.2.2.2.2.1 Q mt_X11_plain.2.2.2.2.1 [some (.inr (.inr (some x))), none, none] [] G M _ _
  refine w_aln rfl ?_
  refine w_gr gx rfl (by decide) rfl x_x2 ?_
  refine w_gr gsp rfl (by decide) rfl x_sp0 ?_
  refine w_asn ?_
  show wz _ _ _ _ [some (.inr (.inr (some x))), some (.inr (.inr (some pl))), none] _ _ _ _ _
  refine w_aln rfl ?_
  refine w_cv (st := []) rfl gpl rfl (Nat.le_of_ble_eq_true rfl) (fun kk h => h) (r_X3_clear (d := d + 6) (M0 := M) (PL := M.1 pl) (WA := M.1 wa) (OA := M.1 oa) (TO := fun s => M.1 (tr s)) (BI := fun s => M.1 (br s)) (NA := M.2.1 na) hA.1 ⟨rfl, rfl, rfl, fun _ _ => rfl, fun _ _ => rfl, rfl, fun _ _ _ _ _ _ => rfl, fun _ _ => rfl, rfl⟩ (fun PL WA OA TO BI NA M1 c1 z1 => ?_))
  obtain ⟨c5, c6, c7, c8, c9, c10, cf1, cf2, cf3⟩ := id c1
  have tpf : M1.1 tp = M.1 tp := cf1 tp (hn_ne gtp gpl (by decide)) (hn_ne gtp gwa (by decide)) (hn_ne gtp goa (by decide)) (fun t ht => hn_ne gtp (gtr t ht) (by decide)) (fun t ht => hn_ne gtp (gbr t ht) (by decide))
  refine w_aln rfl ?_
  refine w_gr gx rfl (by decide) rfl (by rw [cf3]; exact x_x0) ?_
  refine w_sp ?_
  refine w_cv (st := []) rfl gtp rfl (Nat.le_of_ble_eq_true rfl) (fun kk h => h) ⟨Nat.le_of_ble_eq_true rfl, ?_⟩
  show wz (d + 6) mt_X7_open.2.2.2.2.1 _ mt_X7_open.2.2.2.2.1 [some (.inr (.inr (some tp))), some (.inl 900)] [] _ _ _ _
  refine w_aln rfl ?_
  refine w_iln rfl ?_
  refine w_pi gtp rfl (by decide) rfl (fun q => by cases q) ?_
  refine w_aln rfl ?_
  refine w_ic ?_
  refine w_pi gtp rfl (by decide) rfl (fun q => by cases q) ?_
  refine w_aln rfl ?_
  refine w_ic ?_
  refine w_pi gtp rfl (by decide) rfl (fun q => by cases q) ?_
  refine w_aln rfl ?_
  refine w_ic ?_
  refine w_pi gtp rfl (by decide) rfl (fun q => by cases q) ?_
  refine w_ret ?_
  refine w_aln rfl ?_
  refine w_aln rfl ?_
  refine w_gr gx rfl (by decide) rfl (by show M1.2.2 x 0 = _; rw [cf3]; exact x_x0) ?_
  have e4 : ∀ b, b ≠ tp → (mj_p0 (mj_p0 (mj_p0 (mj_p0 M1 tp 10 900) tp 11 0) tp 2 0) tp 3 0).1 b = M1.1 b := fun b hb => (wz_c hb).trans ((wz_c hb).trans ((wz_c hb).trans (wz_c hb)))
  have n0 : ∀ s, s < 8 → NA s = rv_5 ((fun _ => []) s) ∧ rv_wo ((fun _ => []) s : List Int) := fun s hs => ⟨(z1.1 s hs).1, by show 0 ≤ 8; decide, fun y hy => by cases hy⟩
  have S0 : rv_S0 G M n 900 tp pl na wa oa tr br 0 PL WA OA TO BI (fun _ => []) (mj_p0 (mj_p0 (mj_p0 (mj_p0 M1 tp 10 900) tp 11 0) tp 2 0) tp 3 0) := ⟨⟨(hn_n (Or.inr (by decide))).trans ((hn_n (Or.inr (by decide))).trans ((hn_n (Or.inr (by decide))).trans ((hn_n (Or.inr (by decide))).trans ((congrFun tpf 1).trans hn)))), (hn_n (Or.inr (by decide))).trans ((hn_n (Or.inr (by decide))).trans ((hn_n (Or.inr (by decide))).trans hn_s)), (hn_n (Or.inr (by decide))).trans hn_s⟩, (hn_n (Or.inr (by decide))).trans ((hn_n (Or.inr (by decide))).trans hn_s), (e4 pl (hn_ne gpl gtp (by decide))).trans c5, (e4 wa (hn_ne gwa gtp (by decide))).trans c6, (e4 oa (hn_ne goa gtp (by decide))).trans c7, fun s hs => (e4 _ (hn_ne (gtr s hs) gtp (by decide))).trans (c8 s hs), fun s hs => (e4 _ (hn_ne (gbr s hs) gtp (by decide))).trans (c9 s hs), fun s hs => ⟨(congrFun c10 s).trans (n0 s hs).1, (n0 s hs).2⟩, fun a a1 a2 a3 a4 a5 a6 => (e4 a a1).trans (cf1 a a2 a3 a4 a5 a6), fun a a1 _ => cf2 a a1, fun a j _ => congrFun (congrFun cf3 a) j⟩
  refine w_cv (st := []) rfl gpl rfl (Nat.le_of_ble_eq_true rfl) (fun kk h => h) (r_X3_readRows (d := d) hA S0 ⟨by rw [z1.2.2.1]; decide, by rw [z1.2.2.1]; decide, by rw [z1.2.2.2.1]; decide, by rw [z1.2.2.2.1]; decide⟩ (sp_rows.mono (fun f a hf z M2 F2 => ?_) (fun PL2 WA2 OA2 TO2 BI2 nm2 r2 hk _ q2 M2 s2 => ?_) _ _ _ _ _ _ _ _ _ (h PL WA OA TO BI NA z1)))
  · exact r_pl_F hA hX F2.2.2.1.2.2 F2.1 F2.2.2.2 F2.2.1 hf _ _
  · exact r_pl_O hA hX s2.2.2.2.2.2.2.2.2.2.2 s2.1.2.2 hk _ _
end
section
/-! ===== calls that leave the longs of arrays as they were (laid by a program) ===== -/
def ln (G : mj_G) (M M' : mj_M) : Prop := ∀ a k, (G a).1 % 1000 = 103 → M'.2.1 a k = M.2.1 a k
def ln_nz (ok : Nat → Bool) (x : mj_E) : Bool := match x.1 with
  | .new _ => false
  | .newarray _ => false
  | .anewarray _ => false
  | .multianewarray _ _ => false
  | .lastore => false
  | .putfield _ => Nat.blt (mj_hd x.2.2.1) 100
  | .invokevirtual _ => ok (mj_hd x.2.2.1)
  | .invokestatic _ => match x.2.2.1 with
    | [f, _] => Nat.ble f 3
    | _ => ok (mj_hd x.2.2.1)
  | .invokespecial _ => match x.2.2.1 with
    | [] => true
    | y :: _ => ok y
  | _ => true
def ln_C (ok : Nat → Bool) (C : mj_C) : Prop := ∀ y av G M (R : mj_P), ok y = true → C y av G M R → C y av G M (fun r G' M' => R r G' M' ∧ G' = G ∧ ln G M M')
theorem ln_lib {f : Nat} {st : List mj_V} {G : mj_G} {M0 M : mj_M} {k k' : List mj_V → mj_M → Prop} (hf : f ≤ 3) (hl : ln G M0 M) (hk : ∀ t M', ln G M0 M' → k t M' → k' t M') (h : mj_lib f st G M k) : mj_lib f st G M k' := by
  match f, h, hf with
  | 0, h, _ => exact mj_i1_m (fun _ _ h => mj_i1_m (fun _ _ h => ⟨h.1, fun z a b => hk _ _ hl (h.2 z a b)⟩) h) h
  | 1, h, _ => exact mj_i1_m (fun _ _ h => mj_i1_m (fun _ _ h => ⟨h.1, fun z a b => hk _ _ hl (h.2 z a b)⟩) h) h
  | 2, h, _ => exact mj_i1_m (fun _ _ h => ⟨h.1, fun z a b c => hk _ _ hl (h.2 z a b c)⟩) h
  | 3, h, _ => exact mj_cpy_m (k := fun a b sp dp n st => k st (mj_cp0 M a b sp dp n)) (k' := fun a b sp dp n st => k' st (mj_cp0 M a b sp dp n)) (fun _ _ _ _ _ _ h => hk _ _ hl h) h
  | n + 4, _, hf => exact absurd hf (by omega)
set_option maxHeartbeats 4000000 in
theorem ln_x {ok : Nat → Bool} {mcs : Nat → Nat × Nat} {C : mj_C} {full : List mj_E} {Q Q' : mj_P} {K K' : mj_S} {G : mj_G} {M0 : mj_M} (hM : mj_mo C) (hC : ln_C ok C) (hf : ∀ x ∈ full, ln_nz ok x = true) (hQ : ∀ r M', ln G M0 M' → Q r G M' → Q' r G M') (hK : ∀ rest L st M' cb sb, (∀ x ∈ rest, ln_nz ok x = true) → ln G M0 M' → K rest L st G M' cb sb → K' rest L st G M' cb sb)
    (rest : List mj_E) (hr : ∀ x ∈ rest, ln_nz ok x = true) (L : mj_L) (st : List mj_V) (M : mj_M) (cb sb : Nat) (hl : ln G M0 M) (h : mj_x mcs C full Q K 1 rest L st G M cb sb) : mj_x mcs C full Q' K' 1 rest L st G M cb sb := by
  cases rest with
  | nil => exact h
  | cons x rest =>
    obtain ⟨ins, pc, aux, imm⟩ := x
    have ht : ∀ x ∈ rest, ln_nz ok x = true := fun x hx => hr x (List.mem_cons_of_mem _ hx)
    have hd : ∀ t, ∀ x ∈ full.drop t, ln_nz ok x = true := fun t x hx => hf x (List.mem_of_mem_drop hx)
    have h0 := hr _ List.mem_cons_self
    cases ins
    case iload_n k =>
      have h : mj_ldi L k.val (fun v => K rest L (v :: st) G M cb sb) := h
      obtain ⟨z, h1, h2⟩ := mj_ldi_e h
      show mj_ldi L k.val (fun v => K' rest L (v :: st) G M cb sb)
      unfold mj_ldi
      rw [h1]
      exact hK _ _ _ _ _ _ ht hl h2
    case iload k =>
      have h : mj_ldi L k (fun v => K rest L (v :: st) G M cb sb) := h
      obtain ⟨z, h1, h2⟩ := mj_ldi_e h
      show mj_ldi L k (fun v => K' rest L (v :: st) G M cb sb)
      unfold mj_ldi
      rw [h1]
      exact hK _ _ _ _ _ _ ht hl h2
    case lload_n k =>
      have h : mj_ldl L k.val (fun v => K rest L (v :: st) G M cb sb) := h
      obtain ⟨z, h1, h2⟩ := mj_ldl_e h
      show mj_ldl L k.val (fun v => K' rest L (v :: st) G M cb sb)
      unfold mj_ldl
      rw [h1]
      exact hK _ _ _ _ _ _ ht hl h2
    case lload k =>
      have h : mj_ldl L k (fun v => K rest L (v :: st) G M cb sb) := h
      obtain ⟨z, h1, h2⟩ := mj_ldl_e h
      show mj_ldl L k (fun v => K' rest L (v :: st) G M cb sb)
      unfold mj_ldl
      rw [h1]
      exact hK _ _ _ _ _ _ ht hl h2
    case aload_n k =>
      have h : mj_lda L k.val (fun v => K rest L (v :: st) G M cb sb) := h
      obtain ⟨z, h1, h2⟩ := mj_lda_e h
      show mj_lda L k.val (fun v => K' rest L (v :: st) G M cb sb)
      unfold mj_lda
      rw [h1]
      exact hK _ _ _ _ _ _ ht hl h2
    case aload k =>
      have h : mj_lda L k (fun v => K rest L (v :: st) G M cb sb) := h
      obtain ⟨z, h1, h2⟩ := mj_lda_e h
      show mj_lda L k (fun v => K' rest L (v :: st) G M cb sb)
      unfold mj_lda
      rw [h1]
      exact hK _ _ _ _ _ _ ht hl h2
    case istore_n k =>
      obtain ⟨z, t, rfl, h2⟩ := mj_i1_e h
      exact hK _ _ _ _ _ _ ht hl h2
    case istore k =>
      obtain ⟨z, t, rfl, h2⟩ := mj_i1_e h
      exact hK _ _ _ _ _ _ ht hl h2
    case lstore_n k =>
      obtain ⟨z, t, rfl, h2⟩ := mj_l1_e h
      exact hK _ _ _ _ _ _ ht hl h2
    case lstore k =>
      obtain ⟨z, t, rfl, h2⟩ := mj_l1_e h
      exact hK _ _ _ _ _ _ ht hl h2
    case astore_n k =>
      obtain ⟨z, t, rfl, h2⟩ := mj_r1_e h
      exact hK _ _ _ _ _ _ ht hl h2
    case astore k =>
      obtain ⟨z, t, rfl, h2⟩ := mj_r1_e h
      exact hK _ _ _ _ _ _ ht hl h2
    case iinc k c =>
      have h : mj_ldi L k (fun v => mj_i1 [v] fun z _ => (mj_in (z + c) ∧ K rest (mj_s1 L k (.inl (z + c))) st G M cb sb) ∨ ∀ q, mj_in q → q = (Int32.ofInt z + Int32.ofInt c).toInt → K rest (mj_s1 L k (.inl q)) st G M cb sb) := h
      obtain ⟨z, h1, h2⟩ := mj_ldi_e h
      show mj_ldi L k (fun v => mj_i1 [v] fun z _ => (mj_in (z + c) ∧ K' rest (mj_s1 L k (.inl (z + c))) st G M cb sb) ∨ ∀ q, mj_in q → q = (Int32.ofInt z + Int32.ofInt c).toInt → K' rest (mj_s1 L k (.inl q)) st G M cb sb)
      unfold mj_ldi
      rw [h1]
      have h2 : (mj_in (z + c) ∧ _) ∨ _ := h2
      exact h2.imp (fun q => ⟨q.1, hK _ _ _ _ _ _ ht hl q.2⟩) (fun q w a b => hK _ _ _ _ _ _ ht hl (q w a b))
    case iconst z =>
      exact hK _ _ _ _ _ _ ht hl h
    case bipush z =>
      exact hK _ _ _ _ _ _ ht hl h
    case sipush z =>
      exact hK _ _ _ _ _ _ ht hl h
    case ldc z =>
      exact hK _ _ _ _ _ _ ht hl h
    case ldc2_w z =>
      exact hK _ _ _ _ _ _ ht hl h
    case lconst z =>
      exact hK _ _ _ _ _ _ ht hl h
    case aconst_null =>
      exact hK _ _ _ _ _ _ ht hl h
    case goto z =>
      exact hK _ _ _ _ _ _ (hd _) hl h
    case iadd =>
      obtain ⟨y, t, rfl, u1⟩ := mj_i1_e h
      obtain ⟨x, t, rfl, u2⟩ := mj_i1_e u1
      rcases u2 with ⟨h1, h2⟩ | h2
      · exact Or.inl ⟨h1, hK _ _ _ _ _ _ ht hl h2⟩
      · exact Or.inr (fun z hz hz2 => hK _ _ _ _ _ _ ht hl (h2 z hz hz2))
    case isub =>
      obtain ⟨y, t, rfl, u1⟩ := mj_i1_e h
      obtain ⟨x, t, rfl, u2⟩ := mj_i1_e u1
      rcases u2 with ⟨h1, h2⟩ | h2
      · exact Or.inl ⟨h1, hK _ _ _ _ _ _ ht hl h2⟩
      · exact Or.inr (fun z hz hz2 => hK _ _ _ _ _ _ ht hl (h2 z hz hz2))
    case imul =>
      obtain ⟨y, t, rfl, u1⟩ := mj_i1_e h
      obtain ⟨x, t, rfl, u2⟩ := mj_i1_e u1
      rcases u2 with ⟨h1, h2⟩ | h2
      · exact Or.inl ⟨h1, hK _ _ _ _ _ _ ht hl h2⟩
      · exact Or.inr (fun z hz hz2 => hK _ _ _ _ _ _ ht hl (h2 z hz hz2))
    case iand =>
      obtain ⟨y, t, rfl, u1⟩ := mj_i1_e h
      obtain ⟨x, t, rfl, u2⟩ := mj_i1_e u1
      exact fun z hz hz2 => hK _ _ _ _ _ _ ht hl (u2 z hz hz2)
    case ior =>
      obtain ⟨y, t, rfl, u1⟩ := mj_i1_e h
      obtain ⟨x, t, rfl, u2⟩ := mj_i1_e u1
      exact fun z hz hz2 => hK _ _ _ _ _ _ ht hl (u2 z hz hz2)
    case ishl =>
      obtain ⟨y, t, rfl, u1⟩ := mj_i1_e h
      obtain ⟨x, t, rfl, u2⟩ := mj_i1_e u1
      exact fun z hz hz2 => hK _ _ _ _ _ _ ht hl (u2 z hz hz2)
    case ishr =>
      obtain ⟨y, t, rfl, u1⟩ := mj_i1_e h
      obtain ⟨x, t, rfl, u2⟩ := mj_i1_e u1
      exact fun z hz hz2 => hK _ _ _ _ _ _ ht hl (u2 z hz hz2)
    case iushr =>
      obtain ⟨y, t, rfl, u1⟩ := mj_i1_e h
      obtain ⟨x, t, rfl, u2⟩ := mj_i1_e u1
      exact fun z hz hz2 => hK _ _ _ _ _ _ ht hl (u2 z hz hz2)
    case ineg =>
      obtain ⟨x, t, rfl, u2⟩ := mj_i1_e h
      exact fun z hz hz2 => hK _ _ _ _ _ _ ht hl (u2 z hz hz2)
    case i2b =>
      obtain ⟨x, t, rfl, u2⟩ := mj_i1_e h
      exact fun z hz hz2 => hK _ _ _ _ _ _ ht hl (u2 z hz hz2)
    case dup =>
      have h : mj_c1 st (fun v st => K rest L (v :: v :: st) G M cb sb) := h
      obtain ⟨v, t, rfl, h1, h2⟩ := mj_c1_e h
      rcases v with z | z | z
      · exact hK _ _ _ _ _ _ ht hl h2
      · exact absurd rfl (h1 z)
      · exact hK _ _ _ _ _ _ ht hl h2
    case pop =>
      have h : mj_c1 st (fun _ st => K rest L st G M cb sb) := h
      obtain ⟨v, t, rfl, h1, h2⟩ := mj_c1_e h
      rcases v with z | z | z
      · exact hK _ _ _ _ _ _ ht hl h2
      · exact absurd rfl (h1 z)
      · exact hK _ _ _ _ _ _ ht hl h2
    case dup2 =>
      have h : mj_c1 st (fun v st => mj_c1 st fun w st => K rest L (v :: w :: v :: w :: st) G M cb sb) := h
      obtain ⟨v, t, rfl, h1, u⟩ := mj_c1_e h
      obtain ⟨v2, t, rfl, h3, h2⟩ := mj_c1_e u
      rcases v with z | z | z <;> rcases v2 with z2 | z2 | z2 <;> first | exact absurd rfl (h1 z) | exact absurd rfl (h3 z2) | exact hK _ _ _ _ _ _ ht hl h2
    case ifCond c o =>
      obtain ⟨z, t, rfl, h1, h2⟩ := mj_i1_e h
      exact ⟨fun q => hK _ _ _ _ _ _ (hd _) hl (h1 q), fun q => hK _ _ _ _ _ _ ht hl (h2 q)⟩
    case if_icmp c o =>
      obtain ⟨y, t, rfl, u⟩ := mj_i1_e h
      obtain ⟨z, t, rfl, h1, h2⟩ := mj_i1_e u
      exact ⟨fun q => hK _ _ _ _ _ _ (hd _) hl (h1 q), fun q => hK _ _ _ _ _ _ ht hl (h2 q)⟩
    case ifnull o =>
      obtain ⟨z, t, rfl, h1, h2⟩ := mj_r1_e h
      exact ⟨fun q => hK _ _ _ _ _ _ (hd _) hl (h1 q), fun q => hK _ _ _ _ _ _ ht hl (h2 q)⟩
    case ifnonnull o =>
      obtain ⟨z, t, rfl, h1, h2⟩ := mj_r1_e h
      exact ⟨fun q => hK _ _ _ _ _ _ (hd _) hl (h1 q), fun q => hK _ _ _ _ _ _ ht hl (h2 q)⟩
    case tableswitch df lo hi offs =>
      obtain ⟨z, t, rfl, h1, h2⟩ := mj_i1_e h
      exact ⟨fun q => hK _ _ _ _ _ _ (hd _) hl (h1 q), mj_sw_m (fun t h => hK _ _ _ _ _ _ (hd _) hl h) _ _ h2⟩
    case getfield k =>
      obtain ⟨hx, u⟩ : aux ≠ [] ∧ mj_br (mj_hd aux = 49) (mj_gw (mj_h1 aux) st G (fun st => K rest L st G M cb sb)) (mj_get (mj_hd aux) (mj_h1 aux) st G M (fun st => K rest L st G M cb sb)) := h
      refine ⟨hx, fun q => ?_, fun q => ?_⟩
      · have u := u.1 q
        obtain ⟨a, t, rfl, tt, nn, hG, ht', u⟩ := mj_a1_e u
        refine ⟨tt, nn, hG, ht', ?_⟩
        generalize mj_h1 aux = fk at u ⊢
        match fk, u with
        | 0, u => exact hK _ _ _ _ _ _ ht hl u
        | m + 1, u => exact hK _ _ _ _ _ _ ht hl u
      have u := u.2 q
      obtain ⟨a, t, rfl, tt, nn, hG, ht', u⟩ := mj_a1_e u
      refine ⟨tt, nn, hG, ht', ?_⟩
      generalize mj_so (mj_hd aux) (mj_h1 aux) = so at u ⊢
      match so, u with
      | 0, u => exact hK _ _ _ _ _ _ ht hl u
      | 1, u => exact hK _ _ _ _ _ _ ht hl u
      | m + 2, u => exact ⟨fun b hb => hK _ _ _ _ _ _ ht hl (u.1 b hb), fun hb => hK _ _ _ _ _ _ ht hl (u.2 hb)⟩
    case putfield k =>
      obtain ⟨hx, u⟩ : aux ≠ [] ∧ mj_put (mj_hd aux) (mj_h1 aux) st G M (fun st M => K rest L st G M cb sb) := h
      refine ⟨hx, ?_⟩
      have h0 : mj_hd aux < 100 := Nat.le_of_ble_eq_true h0
      unfold mj_put at u ⊢
      generalize mj_so (mj_hd aux) (mj_h1 aux) = so at u ⊢
      match so, u with
      | 0, u =>
        obtain ⟨z, t, rfl, u⟩ := mj_i1_e u
        obtain ⟨a, t, rfl, tt, nn, hG, ht', h9, hb, u⟩ := mj_a1_e u
        exact ⟨tt, nn, hG, ht', h9, hb, hK _ _ _ _ _ _ ht hl u⟩
      | 1, u =>
        obtain ⟨z, t, rfl, u⟩ := mj_l1_e u
        obtain ⟨a, t, rfl, tt, nn, hG, ht', h9, u⟩ := mj_a1_e u
        exact ⟨tt, nn, hG, ht', h9, hK _ _ _ _ _ _ ht (fun x k e => (if_neg (fun q => by rw [q.1, hG] at e; exact absurd (e.symm.trans ht') (by omega))).trans (hl x k e)) u⟩
      | m + 2, u =>
        obtain ⟨z, t, rfl, u⟩ := mj_r1_e u
        obtain ⟨a, t, rfl, tt, nn, hG, ht', h9, u⟩ := mj_a1_e u
        exact ⟨tt, nn, hG, ht', h9, hK _ _ _ _ _ _ ht hl u⟩
    case iaload =>
      exact mj_ald_m (k := fun a i st => K rest L (.inl (M.1 a i) :: st) G M cb sb) (k' := fun a i st => K' rest L (.inl (M.1 a i) :: st) G M cb sb) (fun _ _ _ h => hK _ _ _ _ _ _ ht hl h) h
    case laload =>
      exact mj_ald_m (k := fun a i st => K rest L (.inr (.inl (M.2.1 a i)) :: st) G M cb sb) (k' := fun a i st => K' rest L (.inr (.inl (M.2.1 a i)) :: st) G M cb sb) (fun _ _ _ h => hK _ _ _ _ _ _ ht hl h) h
    case baload =>
      rcases (show mj_bald st G (fun a i st => K rest L (.inl (M.1 a i) :: st) G M cb sb) from h) with h | h
      · exact Or.inl (mj_ald_m (k := fun a i st => K rest L (.inl (M.1 a i) :: st) G M cb sb) (k' := fun a i st => K' rest L (.inl (M.1 a i) :: st) G M cb sb) (fun _ _ _ h => hK _ _ _ _ _ _ ht hl h) h)
      · exact Or.inr (mj_ald_m (k := fun a i st => K rest L (.inl (M.1 a i) :: st) G M cb sb) (k' := fun a i st => K' rest L (.inl (M.1 a i) :: st) G M cb sb) (fun _ _ _ h => hK _ _ _ _ _ _ ht hl h) h)
    case aaload =>
      exact mj_ald_m (k := fun a i st => mj_rf (M.2.2 a i) fun v => K rest L (v :: st) G M cb sb) (k' := fun a i st => mj_rf (M.2.2 a i) fun v => K' rest L (v :: st) G M cb sb) (fun _ _ _ h => ⟨fun b hb => hK _ _ _ _ _ _ ht hl (h.1 b hb), fun hb => hK _ _ _ _ _ _ ht hl (h.2 hb)⟩) h
    case iastore =>
      obtain ⟨z, t, rfl, u⟩ := mj_i1_e h
      exact mj_aldw_m (k := fun a i st => K rest L st G (mj_p0 M a i z) cb sb) (k' := fun a i st => K' rest L st G (mj_p0 M a i z) cb sb) (fun _ _ _ h => hK _ _ _ _ _ _ ht hl h) u
    case lastore =>
      cases h0
    case bastore =>
      obtain ⟨z, t, rfl, u⟩ := mj_i1_e h
      rcases u with u | ⟨hz, u⟩
      · exact Or.inl (mj_aldw_m (fun _ _ _ h => hK _ _ _ _ _ _ ht hl h) u)
      · exact Or.inr ⟨hz, mj_aldw_m (fun _ _ _ h => hK _ _ _ _ _ _ ht hl h) u⟩
    case aastore =>
      obtain ⟨z, t, rfl, u⟩ := mj_r1_e h
      exact mj_aldw_m (k := fun a i st => (∀ b, z = some b → (mj_hd aux = 6 ∧ mj_is G b 7 fun _ _ => True) ∨ (mj_hd aux = 5 ∧ mj_is G b 50 fun _ _ => True)) ∧ K rest L st G (mj_p2 M a i z) cb sb) (k' := fun a i st => (∀ b, z = some b → (mj_hd aux = 6 ∧ mj_is G b 7 fun _ _ => True) ∨ (mj_hd aux = 5 ∧ mj_is G b 50 fun _ _ => True)) ∧ K' rest L st G (mj_p2 M a i z) cb sb) (fun _ _ _ h => ⟨h.1, hK _ _ _ _ _ _ ht hl h.2⟩) u
    case arraylength =>
      obtain ⟨a, t, rfl, tt, k, j, h1, h2, h3, h4, u⟩ := mj_a1_e h
      exact ⟨tt, k, j, h1, h2, h3, h4, hK _ _ _ _ _ _ ht hl u⟩
    case newarray a =>
      cases h0
    case anewarray a =>
      cases h0
    case multianewarray a b =>
      cases h0
    case new k =>
      cases h0
    case invokevirtual k =>
      have hk : ∀ (r : Option mj_V) (G' : mj_G) (M' : mj_M) (L' : mj_L) (st' : List mj_V) (cb' sb' : Nat), (K rest L' st' G' M' cb' sb' ∧ G' = G ∧ ln G M M') → K' rest L' st' G' M' cb' sb' := fun r G' M' L' st' cb' sb' q => by
        obtain ⟨q1, q2, q3⟩ := q
        rw [q2] at q1 ⊢
        exact hK _ _ _ _ _ _ ht (fun a k e => (q3 a k e).trans (hl a k e)) q1
      exact ⟨h.1, mj_pop_m _ _ _ (fun As t h => mj_a1_m (fun a t h => by
          obtain ⟨tt, nn, h1, h2, h3, h4, h5, h6⟩ := h
          exact ⟨tt, nn, h1, h2, h3, h4, h5, hM _ _ _ _ _ _ (fun r G' M' q => hk r G' M' _ _ _ _ q) (hC _ _ _ _ _ h0 h6)⟩) h) h.2⟩
    case invokestatic k =>
      have hk : ∀ (r : Option mj_V) (G' : mj_G) (M' : mj_M) (L' : mj_L) (st' : List mj_V) (cb' sb' : Nat), (K rest L' st' G' M' cb' sb' ∧ G' = G ∧ ln G M M') → K' rest L' st' G' M' cb' sb' := fun r G' M' L' st' cb' sb' q => by
        obtain ⟨q1, q2, q3⟩ := q
        rw [q2] at q1 ⊢
        exact hK _ _ _ _ _ _ ht (fun a k e => (q3 a k e).trans (hl a k e)) q1
      match aux, h, h0 with
      | [f, u], h, h0 => exact ln_lib (k := fun st M => K rest L st G M cb sb) (k' := fun st M => K' rest L st G M cb sb) (Nat.le_of_ble_eq_true h0) hl (fun _ _ hl h => hK _ _ _ _ _ _ ht hl h) h
      | [], h, h0 => exact absurd rfl h.1
      | [a], h, h0 => exact ⟨h.1, mj_pop_m _ _ _ (fun As t h => ⟨h.1, h.2.1, h.2.2.1, hM _ _ _ _ _ _ (fun r G' M' q => hk r G' M' _ _ _ _ q) (hC _ _ _ _ _ h0 h.2.2.2)⟩) h.2⟩
      | a :: b :: d :: aux, h, h0 => exact ⟨h.1, mj_pop_m _ _ _ (fun As t h => ⟨h.1, h.2.1, h.2.2.1, hM _ _ _ _ _ _ (fun r G' M' q => hk r G' M' _ _ _ _ q) (hC _ _ _ _ _ h0 h.2.2.2)⟩) h.2⟩
    case invokespecial k =>
      have hk : ∀ (r : Option mj_V) (G' : mj_G) (M' : mj_M) (L' : mj_L) (st' : List mj_V) (cb' sb' : Nat), (K rest L' st' G' M' cb' sb' ∧ G' = G ∧ ln G M M') → K' rest L' st' G' M' cb' sb' := fun r G' M' L' st' cb' sb' q => by
        obtain ⟨q1, q2, q3⟩ := q
        rw [q2] at q1 ⊢
        exact hK _ _ _ _ _ _ ht (fun a k e => (q3 a k e).trans (hl a k e)) q1
      match aux, h, h0 with
      | [], h, h0 => exact mj_a1_m (fun _ _ h => ⟨h.1, hK _ _ _ _ _ _ ht hl h.2⟩) h
      | y :: aux, h, h0 => exact mj_pop_m _ _ _ (fun As t h => mj_a1_m (fun a t h => by
          obtain ⟨tt, nn, h1, h2, h3, h4, h5, h6⟩ := h
          exact ⟨tt, nn, h1, h2, h3, h4, h5, hM _ _ _ _ _ _ (fun r G' M' q => hk r G' M' _ _ _ _ q) (hC _ _ _ _ _ h0 h6)⟩) h) h
    case ireturn =>
      exact mj_i1_m (fun _ _ h => ⟨h.1, h.2.1, hQ _ _ hl h.2.2⟩) h
    case return_ =>
      exact ⟨h.1, hQ _ _ hl h.2⟩
    case idiv =>
      exact mj_i1_m (fun _ _ h => mj_i1_m (fun _ _ h => ⟨h.1, fun z a b => hK _ _ _ _ _ _ ht hl (h.2 z a b)⟩) h) h
    case irem =>
      exact mj_i1_m (fun _ _ h => mj_i1_m (fun _ _ h => ⟨h.1, fun z a b => hK _ _ _ _ _ _ ht hl (h.2 z a b)⟩) h) h
    case lor => exact mj_l1_m (fun _ _ h => mj_l1_m (fun _ _ h => hK _ _ _ _ _ _ ht hl h) h) h
    case land => exact mj_l1_m (fun _ _ h => mj_l1_m (fun _ _ h => hK _ _ _ _ _ _ ht hl h) h) h
    case lshl => exact mj_i1_m (fun _ _ h => mj_l1_m (fun _ _ h => hK _ _ _ _ _ _ ht hl h) h) h
    case lshr => exact mj_i1_m (fun _ _ h => mj_l1_m (fun _ _ h => hK _ _ _ _ _ _ ht hl h) h) h
    case lcmp => exact mj_l1_m (fun _ _ h => mj_l1_m (fun _ _ h z a b => hK _ _ _ _ _ _ ht hl (h z a b)) h) h
    case i2l => exact mj_i1_m (fun _ _ h => hK _ _ _ _ _ _ ht hl h) h
    case l2i => exact mj_l1_m (fun _ _ h z a b => hK _ _ _ _ _ _ ht hl (h z a b)) h
    case ldc_w k => exact hK _ _ _ _ _ _ ht hl h
    case if_acmp c o => exact mj_r1_m (fun _ _ h => mj_r1_m (fun _ _ h => ⟨fun q => hK _ _ _ _ _ _ (hd _) hl (h.1 q), fun q => hK _ _ _ _ _ _ ht hl (h.2 q)⟩) h) h
    case getstatic k => exact ⟨h.1, fun a q => hK _ _ _ _ _ _ ht hl (h.2 a q)⟩
    case areturn => exact mj_r1_m (fun _ _ h => ⟨h.1, hQ _ _ hl h.2⟩) h
    all_goals exact h
theorem ln_W {ok : Nat → Bool} {mcs : Nat → Nat × Nat} {C : mj_C} {full : List mj_E} {Q : mj_P} (hM : mj_mo C) (hC : ln_C ok C) (hf : ∀ x ∈ full, ln_nz ok x = true) {rest : List mj_E} {L : mj_L} {st : List mj_V} {G : mj_G} {M : mj_M} {cb sb : Nat} (hr : ∀ x ∈ rest, ln_nz ok x = true) (h : mj_W mcs C full Q rest L st G M cb sb) : mj_W mcs C full (fun r G' M' => Q r G' M' ∧ G' = G ∧ ln G M M') rest L st G M cb sb := by
  refine h (fun rest L st G' M' cb sb => (∀ x ∈ rest, ln_nz ok x = true) → G' = G → ln G M M' → mj_W mcs C full (fun r G' M' => Q r G' M' ∧ G' = G ∧ ln G M M') rest L st G' M' cb sb) (fun rest L st G' M' cb sb h hr e hl => ?_) hr rfl (fun _ _ _ => rfl)
  rw [e] at h ⊢
  exact mj_W.step hM (ln_x hM hC hf (fun r M2 l q => ⟨q, rfl, l⟩) (fun rest L st M2 cb sb q l k => k q rfl l) _ hr _ _ _ _ _ hl h)
/-- methods that make nothing and write no long of an array, and call none that does, n deep -/
def ln_ok (T : Nat → mj_T) : Nat → Nat → Bool
  | 0, _ => false
  | n + 1, y => (T y).2.2.2.2.1.all (ln_nz (ln_ok T n))
theorem ln_R (T : Nat → mj_T) : ∀ d, ln_C (fun y => ln_ok T d y) (mj_R T d)
  | 0 => fun _ _ _ _ _ h _ => by cases h
  | d + 1 => fun y av G M R h h1 => ⟨h1.1, ln_W (ok := ln_ok T d) (mj_R_mo T d) (ln_R T d) (fun x hx => List.all_eq_true.mp h x hx) (fun x hx => List.all_eq_true.mp h x hx) h1.2⟩
end
section
/-! ===== ln_ and an_ over closed sets of methods (laid by a program) ===== -/
def st_in (S : Nat) (y : Nat) : Bool := Nat.beq ((S >>> y) % 2) 1
def ln_St : Nat := 59285549385721213011264284676490819771650603643434741139068224334238290959400951
def an_St : Nat := 59285549689505892056767910696682021928652519235669645881542396562223317323874295
theorem ln_Sk : ∀ y, st_in ln_St y = true → (mj_tab y).2.2.2.2.1.all (ln_nz (st_in ln_St)) = true := by
  have h : ((List.range 300).all fun y => cond (st_in ln_St y) ((mj_tab y).2.2.2.2.1.all (ln_nz (st_in ln_St))) true) = true := by decide +kernel
  intro y hy
  have hl : y < 300 := by
    refine Decidable.byContradiction (fun n => ?_)
    have : ln_St >>> y = 0 := by
      rw [Nat.shiftRight_eq_div_pow]
      refine Nat.div_eq_of_lt (Nat.lt_of_lt_of_le (?_ : ln_St < 2 ^ 300) (Nat.pow_le_pow_right (by decide) (by omega)))
      decide +kernel
    unfold st_in at hy
    rw [this] at hy
    cases hy
  have := List.all_eq_true.mp h y (List.mem_range.mpr hl)
  rw [hy] at this
  exact this
theorem an_Sk : ∀ y, st_in an_St y = true → (mj_tab y).2.2.2.2.1.all (an_nz (st_in an_St)) = true := by
  have h : ((List.range 300).all fun y => cond (st_in an_St y) ((mj_tab y).2.2.2.2.1.all (an_nz (st_in an_St))) true) = true := by decide +kernel
  intro y hy
  have hl : y < 300 := by
    refine Decidable.byContradiction (fun n => ?_)
    have : an_St >>> y = 0 := by
      rw [Nat.shiftRight_eq_div_pow]
      refine Nat.div_eq_of_lt (Nat.lt_of_lt_of_le (?_ : an_St < 2 ^ 300) (Nat.pow_le_pow_right (by decide) (by omega)))
      decide +kernel
    unfold st_in at hy
    rw [this] at hy
    cases hy
  have := List.all_eq_true.mp h y (List.mem_range.mpr hl)
  rw [hy] at this
  exact this
theorem ln_S : ∀ d, ln_C (fun y => st_in ln_St y) (mj_R mj_tab d)
  | 0 => fun _ _ _ _ _ _ h1 => h1.elim
  | d + 1 => fun y av G M R h h1 => ⟨h1.1, ln_W (ok := fun y => st_in ln_St y) (mj_R_mo mj_tab d) (ln_S d) (fun x hx => List.all_eq_true.mp (ln_Sk y h) x hx) (fun x hx => List.all_eq_true.mp (ln_Sk y h) x hx) h1.2⟩
theorem an_S : ∀ d, an_C (fun y => st_in an_St y) (mj_R mj_tab d)
  | 0 => fun _ _ _ _ _ _ _ h1 _ => h1.elim
  | d + 1 => fun y av G M R R' h h1 h2 => ⟨h1.1, an_W (ok := fun y => st_in an_St y) (mj_R_mo mj_tab d) (an_S d) (fun x hx => List.all_eq_true.mp (an_Sk y h) x hx) (fun x hx => List.all_eq_true.mp (an_Sk y h) x hx) h1.2 h2.2⟩
/-- two proofs of one call; longs of arrays as they were -/
theorem sn_and {dd y : Nat} {av : List mj_V} {G : mj_G} {M : mj_M} {R R' Q : mj_P} (hk : st_in an_St y = true) (h1 : mj_R mj_tab dd y av G M R) (h2 : mj_R mj_tab dd y av G M R') (h : ∀ r G M, R r G M → R' r G M → Q r G M) : mj_R mj_tab dd y av G M Q := mj_R_mo mj_tab dd _ _ _ _ _ _ (fun r G M q => h r G M q.1 q.2) (an_S dd y av G M R R' hk h1 h2)
theorem sn_ln {dd y : Nat} {av : List mj_V} {G : mj_G} {M : mj_M} {R Q : mj_P} (hk : st_in ln_St y = true) (h1 : mj_R mj_tab dd y av G M R) (h : ∀ r M', R r G M' → ln G M M' → Q r G M') : mj_R mj_tab dd y av G M Q := mj_R_mo mj_tab dd _ _ _ _ _ _ (fun r G' M' q => by
  obtain ⟨q1, rfl, q3⟩ := q
  exact h r M' q1 q3) (ln_S dd y av G M R hk h1)
end
