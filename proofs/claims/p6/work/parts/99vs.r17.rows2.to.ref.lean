section
/-! ===== the class's readRow, readRows (laid by a program) ===== -/
theorem rv_T_0 {B : Nat → Int} {n lim p : Nat} : ((rv_T B n lim p).1 = 0 → n ≤ lim) ∧ ((rv_T B n lim p).1 = 5 → lim < n) := by
  generalize hq : rv_sk B (min n lim) (min n lim - p) p = q
  rcases Nat.lt_or_ge q (min n lim) with c1 | c1
  · by_cases c2 : rv_an (B q) = true
    · unfold rv_T
      rw [hq, if_neg (Nat.not_le.mpr c1), if_pos c2]
      show ((if _ then 1 else if _ then 2 else 4) = 0 → _) ∧ ((if _ then 1 else if _ then 2 else 4) = 5 → _)
      split
      · exact ⟨fun e => absurd e (by decide), fun e => absurd e (by decide)⟩
      · split <;> exact ⟨fun e => absurd e (by decide), fun e => absurd e (by decide)⟩
    · rw [rv_T_s hq c1 c2]; exact ⟨fun e => absurd e (by show ¬ (3 : Nat) = 0; decide), fun e => absurd e (by show ¬ (3 : Nat) = 5; decide)⟩
  · rw [rv_T_e hq c1]
    show ((if n ≤ lim then 0 else 5) = 0 → _) ∧ ((if n ≤ lim then 0 else 5) = 5 → _)
    split
    · rename_i c; exact ⟨fun _ => c, fun e => absurd e (by decide)⟩
    · rename_i c; exact ⟨fun e => absurd e (by decide), fun _ => by omega⟩
set_option maxHeartbeats 8000000 in
theorem r_row_n {G : mj_G} {M0 M : mj_M} {B : Nat → Int} {n lim tp bc pl na ta ba wa oa : Nat} {tr br : Nat → Nat} {T : Nat → Nat × Nat × Int × List Int × Nat} {PL WA OA : Nat → Int} {TO BI : Nat → Nat → Int} {nm : Nat → List Int} {Q : mj_P} {d q : Nat} (hA : rv_AT G M0 B n lim tp bc pl na ta ba wa oa tr br T) (hS : rv_S G M0 n lim tp pl na wa oa tr br (T q) PL WA OA TO BI nm M) (hqn : q ≤ n) (hb : rv_pb PL) (e9 : M.2.2 tp 9 = none) (h10 : ∀ M', rv_F tp pl na wa oa tr br M0 1 (T q).2.1 M' → Q (some (.inl 0)) G M') : mj_R mj_tab (d + 6) 43 [.inr (.inr (some pl)), .inr (.inr (some tp))] G M Q := by
  obtain ⟨⟨gtp, gbc, gpl, gna, gta, gba, gwa, goa, gtr, gbr, itr, ibr, r1, r2, r3, r4, r5, r6, r7, r8, rb, rw0, n1, n2, hIw⟩, hT⟩ := id hA
  refine ⟨Nat.le_of_ble_eq_true rfl, ?_⟩
  show wz (d + 5) mt_X3_readRow.2.2.2.2.1 Q mt_X3_readRow.2.2.2.2.1 [some (.inr (.inr (some pl))), some (.inr (.inr (some tp))), none] [] G M _ _
  refine w_aln rfl ?_
  refine w_gro gtp rfl (by decide) rfl (e9) ?_
  refine w_asn ?_
  show wz _ _ _ _ [some (.inr (.inr (some pl))), some (.inr (.inr (some tp))), some (.inr (.inr none))] _ _ _ _ _
  refine w_aln rfl ?_
  refine w_ifnn (fun c1 => ?_) (fun c1 => ?_)
  · exact absurd rfl c1
  · skip
    refine w_aln rfl ?_
    refine w_ic ?_
    refine w_cv (st := []) rfl gtp rfl (Nat.le_of_ble_eq_true rfl) (fun kk h => h) (r_X7_refuse (d := d + 4) hA hS (by decide) (fun MF2 F2 => ?_))
    exact w_iret (fun _ => Or.inl rfl) (h10 _ F2)
set_option maxHeartbeats 8000000 in
theorem r_row_0 {G : mj_G} {M0 M : mj_M} {B : Nat → Int} {n lim tp bc pl na ta ba wa oa : Nat} {tr br : Nat → Nat} {T : Nat → Nat × Nat × Int × List Int × Nat} {PL WA OA : Nat → Int} {TO BI : Nat → Nat → Int} {nm : Nat → List Int} {Q : mj_P} {d q : Nat} (hA : rv_AT G M0 B n lim tp bc pl na ta ba wa oa tr br T) (hS : rv_S G M0 n lim tp pl na wa oa tr br (T q) PL WA OA TO BI nm M) (hqn : q ≤ n) (hb : rv_pb PL) {w : Nat} (gw : G w = (900050, 0)) (e9 : M.2.2 tp 9 = some w) (h0 : 0 = 0 → sp_town T PL WA OA TO BI nm q (fun f a => ∀ M', rv_F tp pl na wa oa tr br M0 f a M' → Q (some (.inl 0)) G M') (fun PL WA OA TO BI nm q' => q ≤ q' → q' ≤ n → rv_pb PL → ∀ M', rv_S G M0 n lim tp pl na wa oa tr br (T q') PL WA OA TO BI nm M' → Q (some (.inl 1)) G M')) : mj_R mj_tab (d + 6) 43 [.inr (.inr (some pl)), .inr (.inr (some tp))] G M Q := by
  obtain ⟨⟨gtp, gbc, gpl, gna, gta, gba, gwa, goa, gtr, gbr, itr, ibr, r1, r2, r3, r4, r5, r6, r7, r8, rb, rw0, n1, n2, hIw⟩, hT⟩ := id hA
  refine ⟨Nat.le_of_ble_eq_true rfl, ?_⟩
  show wz (d + 5) mt_X3_readRow.2.2.2.2.1 Q mt_X3_readRow.2.2.2.2.1 [some (.inr (.inr (some pl))), some (.inr (.inr (some tp))), none] [] G M _ _
  refine w_aln rfl ?_
  refine w_gr gtp rfl (by decide) rfl (e9) ?_
  refine w_asn ?_
  show wz _ _ _ _ [some (.inr (.inr (some pl))), some (.inr (.inr (some tp))), some (.inr (.inr (some w)))] _ _ _ _ _
  refine w_aln rfl ?_
  refine w_ifnn (fun c1 => ?_) (fun c1 => ?_)
  · skip
    refine w_aln rfl ?_
    refine w_gs ?_
    intro a2 ga2
    have ga2 : G a2 = (900050, 0) := ga2
    refine w_acne (fun c3 => ?_) (fun c3 => ?_)
    · exact absurd (congrArg some (hIw _ _ ((congrArg (fun x => x.1 % 1000) gw).trans rfl) (gw.trans ga2.symm))) c3
    · skip
      refine w_aln rfl ?_
      refine w_aln rfl ?_
      refine w_cv (st := []) rfl gpl rfl (Nat.le_of_ble_eq_true rfl) (fun kk h => h) (r_X3_readTown (d := d) hA hS hqn hb ((h0 rfl).mono (fun f a hf M1 F1 => ?_) (fun PL1 WA1 OA1 TO1 BI1 nm1 q1 hk1 g1 g2 hb1 M1 s1 => ?_)))
      · skip
        exact w_iret (fun _ => Or.inl rfl) (hf _ F1)
      · skip
        exact w_iret (fun _ => Or.inr rfl) (hk1 g1 g2 hb1 _ s1)
  · cases c1
set_option maxHeartbeats 8000000 in
theorem r_row_1 {G : mj_G} {M0 M : mj_M} {B : Nat → Int} {n lim tp bc pl na ta ba wa oa : Nat} {tr br : Nat → Nat} {T : Nat → Nat × Nat × Int × List Int × Nat} {PL WA OA : Nat → Int} {TO BI : Nat → Nat → Int} {nm : Nat → List Int} {Q : mj_P} {d q : Nat} (hA : rv_AT G M0 B n lim tp bc pl na ta ba wa oa tr br T) (hS : rv_S G M0 n lim tp pl na wa oa tr br (T q) PL WA OA TO BI nm M) (hqn : q ≤ n) (hb : rv_pb PL) {w : Nat} (gw : G w = (901050, 0)) (e9 : M.2.2 tp 9 = some w) (h1 : 0 = 0 → sp_water T PL WA OA TO BI nm q (fun f a => ∀ M', rv_F tp pl na wa oa tr br M0 f a M' → Q (some (.inl 0)) G M') (fun PL WA OA TO BI nm q' => q ≤ q' → q' ≤ n → rv_pb PL → ∀ M', rv_S G M0 n lim tp pl na wa oa tr br (T q') PL WA OA TO BI nm M' → Q (some (.inl 1)) G M')) : mj_R mj_tab (d + 6) 43 [.inr (.inr (some pl)), .inr (.inr (some tp))] G M Q := by
  obtain ⟨⟨gtp, gbc, gpl, gna, gta, gba, gwa, goa, gtr, gbr, itr, ibr, r1, r2, r3, r4, r5, r6, r7, r8, rb, rw0, n1, n2, hIw⟩, hT⟩ := id hA
  refine ⟨Nat.le_of_ble_eq_true rfl, ?_⟩
  show wz (d + 5) mt_X3_readRow.2.2.2.2.1 Q mt_X3_readRow.2.2.2.2.1 [some (.inr (.inr (some pl))), some (.inr (.inr (some tp))), none] [] G M _ _
  refine w_aln rfl ?_
  refine w_gr gtp rfl (by decide) rfl (e9) ?_
  refine w_asn ?_
  show wz _ _ _ _ [some (.inr (.inr (some pl))), some (.inr (.inr (some tp))), some (.inr (.inr (some w)))] _ _ _ _ _
  refine w_aln rfl ?_
  refine w_ifnn (fun c1 => ?_) (fun c1 => ?_)
  · skip
    refine w_aln rfl ?_
    refine w_gs ?_
    intro a2 ga2
    have ga2 : G a2 = (900050, 0) := ga2
    refine w_acne (fun c3 => ?_) (fun c3 => ?_)
    · skip
      refine w_aln rfl ?_
      refine w_gs ?_
      intro a4 ga4
      have ga4 : G a4 = (901050, 0) := ga4
      refine w_acne (fun c5 => ?_) (fun c5 => ?_)
      · exact absurd (congrArg some (hIw _ _ ((congrArg (fun x => x.1 % 1000) gw).trans rfl) (gw.trans ga4.symm))) c5
      · skip
        refine w_aln rfl ?_
        refine w_aln rfl ?_
        refine w_cv (st := []) rfl gpl rfl (Nat.le_of_ble_eq_true rfl) (fun kk h => h) (r_X3_readWater (d := d) hA hS hqn hb ((h1 rfl).mono (fun f a hf M1 F1 => ?_) (fun PL1 WA1 OA1 TO1 BI1 nm1 q1 hk1 g1 g2 hb1 M1 s1 => ?_)))
        · skip
          exact w_iret (fun _ => Or.inl rfl) (hf _ F1)
        · skip
          exact w_iret (fun _ => Or.inr rfl) (hk1 g1 g2 hb1 _ s1)
    · exact absurd (Option.some.inj c3) (hn_ne gw ga2 (by decide))
  · cases c1
set_option maxHeartbeats 8000000 in
theorem r_row_2 {G : mj_G} {M0 M : mj_M} {B : Nat → Int} {n lim tp bc pl na ta ba wa oa : Nat} {tr br : Nat → Nat} {T : Nat → Nat × Nat × Int × List Int × Nat} {PL WA OA : Nat → Int} {TO BI : Nat → Nat → Int} {nm : Nat → List Int} {Q : mj_P} {d q : Nat} (hA : rv_AT G M0 B n lim tp bc pl na ta ba wa oa tr br T) (hS : rv_S G M0 n lim tp pl na wa oa tr br (T q) PL WA OA TO BI nm M) (hqn : q ≤ n) (hb : rv_pb PL) {w : Nat} (gw : G w = (902050, 0)) (e9 : M.2.2 tp 9 = some w) (h2 : 0 = 0 → sp_bid T PL WA OA TO BI nm q (fun f a => ∀ M', rv_F tp pl na wa oa tr br M0 f a M' → Q (some (.inl 0)) G M') (fun PL WA OA TO BI nm q' => q ≤ q' → q' ≤ n → rv_pb PL → ∀ M', rv_S G M0 n lim tp pl na wa oa tr br (T q') PL WA OA TO BI nm M' → Q (some (.inl 1)) G M')) : mj_R mj_tab (d + 6) 43 [.inr (.inr (some pl)), .inr (.inr (some tp))] G M Q := by
  obtain ⟨⟨gtp, gbc, gpl, gna, gta, gba, gwa, goa, gtr, gbr, itr, ibr, r1, r2, r3, r4, r5, r6, r7, r8, rb, rw0, n1, n2, hIw⟩, hT⟩ := id hA
  refine ⟨Nat.le_of_ble_eq_true rfl, ?_⟩
  show wz (d + 5) mt_X3_readRow.2.2.2.2.1 Q mt_X3_readRow.2.2.2.2.1 [some (.inr (.inr (some pl))), some (.inr (.inr (some tp))), none] [] G M _ _
  refine w_aln rfl ?_
  refine w_gr gtp rfl (by decide) rfl (e9) ?_
  refine w_asn ?_
  show wz _ _ _ _ [some (.inr (.inr (some pl))), some (.inr (.inr (some tp))), some (.inr (.inr (some w)))] _ _ _ _ _
  refine w_aln rfl ?_
  refine w_ifnn (fun c1 => ?_) (fun c1 => ?_)
  · skip
    refine w_aln rfl ?_
    refine w_gs ?_
    intro a2 ga2
    have ga2 : G a2 = (900050, 0) := ga2
    refine w_acne (fun c3 => ?_) (fun c3 => ?_)
    · skip
      refine w_aln rfl ?_
      refine w_gs ?_
      intro a4 ga4
      have ga4 : G a4 = (901050, 0) := ga4
      refine w_acne (fun c5 => ?_) (fun c5 => ?_)
      · skip
        refine w_aln rfl ?_
        refine w_gs ?_
        intro a6 ga6
        have ga6 : G a6 = (902050, 0) := ga6
        refine w_acne (fun c7 => ?_) (fun c7 => ?_)
        · exact absurd (congrArg some (hIw _ _ ((congrArg (fun x => x.1 % 1000) gw).trans rfl) (gw.trans ga6.symm))) c7
        · skip
          refine w_aln rfl ?_
          refine w_aln rfl ?_
          refine w_cv (st := []) rfl gpl rfl (Nat.le_of_ble_eq_true rfl) (fun kk h => h) (r_X3_readBid (d := d) hA hS hqn hb ((h2 rfl).mono (fun f a hf M1 F1 => ?_) (fun PL1 WA1 OA1 TO1 BI1 nm1 q1 hk1 g1 g2 hb1 M1 s1 => ?_)))
          · skip
            exact w_iret (fun _ => Or.inl rfl) (hf _ F1)
          · skip
            exact w_iret (fun _ => Or.inr rfl) (hk1 g1 g2 hb1 _ s1)
      · exact absurd (Option.some.inj c5) (hn_ne gw ga4 (by decide))
    · exact absurd (Option.some.inj c3) (hn_ne gw ga2 (by decide))
  · cases c1
set_option maxHeartbeats 8000000 in
theorem r_row_3 {G : mj_G} {M0 M : mj_M} {B : Nat → Int} {n lim tp bc pl na ta ba wa oa : Nat} {tr br : Nat → Nat} {T : Nat → Nat × Nat × Int × List Int × Nat} {PL WA OA : Nat → Int} {TO BI : Nat → Nat → Int} {nm : Nat → List Int} {Q : mj_P} {d q : Nat} (hA : rv_AT G M0 B n lim tp bc pl na ta ba wa oa tr br T) (hS : rv_S G M0 n lim tp pl na wa oa tr br (T q) PL WA OA TO BI nm M) (hqn : q ≤ n) (hb : rv_pb PL) {w : Nat} (gw : G w = (903050, 0)) (e9 : M.2.2 tp 9 = some w) (h3 : 0 = 0 → sp_need T PL WA OA TO BI nm q (fun f a => ∀ M', rv_F tp pl na wa oa tr br M0 f a M' → Q (some (.inl 0)) G M') (fun PL WA OA TO BI nm q' => q ≤ q' → q' ≤ n → rv_pb PL → ∀ M', rv_S G M0 n lim tp pl na wa oa tr br (T q') PL WA OA TO BI nm M' → Q (some (.inl 1)) G M')) : mj_R mj_tab (d + 6) 43 [.inr (.inr (some pl)), .inr (.inr (some tp))] G M Q := by
  obtain ⟨⟨gtp, gbc, gpl, gna, gta, gba, gwa, goa, gtr, gbr, itr, ibr, r1, r2, r3, r4, r5, r6, r7, r8, rb, rw0, n1, n2, hIw⟩, hT⟩ := id hA
  refine ⟨Nat.le_of_ble_eq_true rfl, ?_⟩
  show wz (d + 5) mt_X3_readRow.2.2.2.2.1 Q mt_X3_readRow.2.2.2.2.1 [some (.inr (.inr (some pl))), some (.inr (.inr (some tp))), none] [] G M _ _
  refine w_aln rfl ?_
  refine w_gr gtp rfl (by decide) rfl (e9) ?_
  refine w_asn ?_
  show wz _ _ _ _ [some (.inr (.inr (some pl))), some (.inr (.inr (some tp))), some (.inr (.inr (some w)))] _ _ _ _ _
  refine w_aln rfl ?_
  refine w_ifnn (fun c1 => ?_) (fun c1 => ?_)
  · skip
    refine w_aln rfl ?_
    refine w_gs ?_
    intro a2 ga2
    have ga2 : G a2 = (900050, 0) := ga2
    refine w_acne (fun c3 => ?_) (fun c3 => ?_)
    · skip
      refine w_aln rfl ?_
      refine w_gs ?_
      intro a4 ga4
      have ga4 : G a4 = (901050, 0) := ga4
      refine w_acne (fun c5 => ?_) (fun c5 => ?_)
      · skip
        refine w_aln rfl ?_
        refine w_gs ?_
        intro a6 ga6
        have ga6 : G a6 = (902050, 0) := ga6
        refine w_acne (fun c7 => ?_) (fun c7 => ?_)
        · skip
          refine w_aln rfl ?_
          refine w_cv (st := []) rfl gw rfl (Nat.le_of_ble_eq_true rfl) (fun kk h => h) ⟨Nat.le_of_ble_eq_true rfl, ?_⟩
          show wz (d + 4) mt_X9_isAboutTown.2.2.2.2.1 _ mt_X9_isAboutTown.2.2.2.2.1 [some (.inr (.inr (some w)))] [] _ _ _ _
          refine w_aln rfl ?_
          refine w_gs ?_
          intro a8 ga8
          have ga8 : G a8 = (903050, 0) := ga8
          refine w_aceq (fun c9 => ?_) (fun c9 => ?_)
          · skip
            refine w_ic ?_
            refine w_goto ?_
            refine w_iret (fun _ => Or.inr rfl) ?_
            refine w_ifeq (fun c10 => ?_) (fun c10 => ?_)
            · exfalso; omega
            · skip
              refine w_aln rfl ?_
              refine w_aln rfl ?_
              refine w_aln rfl ?_
              refine w_cv (st := []) rfl gpl rfl (Nat.le_of_ble_eq_true rfl) (fun kk h => h) (r_X3_readAboutTown_need (d := d) gw hA hS hqn hb ((h3 rfl).mono (fun f a hf M1 F1 => ?_) (fun PL1 WA1 OA1 TO1 BI1 nm1 q1 hk1 g1 g2 hb1 M1 s1 => ?_)))
              · skip
                exact w_iret (fun _ => Or.inl rfl) (hf _ F1)
              · skip
                exact w_iret (fun _ => Or.inr rfl) (hk1 g1 g2 hb1 _ s1)
          · exact absurd (congrArg some (hIw _ _ ((congrArg (fun x => x.1 % 1000) gw).trans rfl) (gw.trans ga8.symm))) c9
        · exact absurd (Option.some.inj c7) (hn_ne gw ga6 (by decide))
      · exact absurd (Option.some.inj c5) (hn_ne gw ga4 (by decide))
    · exact absurd (Option.some.inj c3) (hn_ne gw ga2 (by decide))
  · cases c1
set_option maxHeartbeats 8000000 in
theorem r_row_4 {G : mj_G} {M0 M : mj_M} {B : Nat → Int} {n lim tp bc pl na ta ba wa oa : Nat} {tr br : Nat → Nat} {T : Nat → Nat × Nat × Int × List Int × Nat} {PL WA OA : Nat → Int} {TO BI : Nat → Nat → Int} {nm : Nat → List Int} {Q : mj_P} {d q : Nat} (hA : rv_AT G M0 B n lim tp bc pl na ta ba wa oa tr br T) (hS : rv_S G M0 n lim tp pl na wa oa tr br (T q) PL WA OA TO BI nm M) (hqn : q ≤ n) (hb : rv_pb PL) {w : Nat} (gw : G w = (904050, 0)) (e9 : M.2.2 tp 9 = some w) (h4 : 0 = 0 → sp_mill T PL WA OA TO BI nm q (fun f a => ∀ M', rv_F tp pl na wa oa tr br M0 f a M' → Q (some (.inl 0)) G M') (fun PL WA OA TO BI nm q' => q ≤ q' → q' ≤ n → rv_pb PL → ∀ M', rv_S G M0 n lim tp pl na wa oa tr br (T q') PL WA OA TO BI nm M' → Q (some (.inl 1)) G M')) : mj_R mj_tab (d + 6) 43 [.inr (.inr (some pl)), .inr (.inr (some tp))] G M Q := by
  obtain ⟨⟨gtp, gbc, gpl, gna, gta, gba, gwa, goa, gtr, gbr, itr, ibr, r1, r2, r3, r4, r5, r6, r7, r8, rb, rw0, n1, n2, hIw⟩, hT⟩ := id hA
  refine ⟨Nat.le_of_ble_eq_true rfl, ?_⟩
  show wz (d + 5) mt_X3_readRow.2.2.2.2.1 Q mt_X3_readRow.2.2.2.2.1 [some (.inr (.inr (some pl))), some (.inr (.inr (some tp))), none] [] G M _ _
  refine w_aln rfl ?_
  refine w_gr gtp rfl (by decide) rfl (e9) ?_
  refine w_asn ?_
  show wz _ _ _ _ [some (.inr (.inr (some pl))), some (.inr (.inr (some tp))), some (.inr (.inr (some w)))] _ _ _ _ _
  refine w_aln rfl ?_
  refine w_ifnn (fun c1 => ?_) (fun c1 => ?_)
  · skip
    refine w_aln rfl ?_
    refine w_gs ?_
    intro a2 ga2
    have ga2 : G a2 = (900050, 0) := ga2
    refine w_acne (fun c3 => ?_) (fun c3 => ?_)
    · skip
      refine w_aln rfl ?_
      refine w_gs ?_
      intro a4 ga4
      have ga4 : G a4 = (901050, 0) := ga4
      refine w_acne (fun c5 => ?_) (fun c5 => ?_)
      · skip
        refine w_aln rfl ?_
        refine w_gs ?_
        intro a6 ga6
        have ga6 : G a6 = (902050, 0) := ga6
        refine w_acne (fun c7 => ?_) (fun c7 => ?_)
        · skip
          refine w_aln rfl ?_
          refine w_cv (st := []) rfl gw rfl (Nat.le_of_ble_eq_true rfl) (fun kk h => h) ⟨Nat.le_of_ble_eq_true rfl, ?_⟩
          show wz (d + 4) mt_X9_isAboutTown.2.2.2.2.1 _ mt_X9_isAboutTown.2.2.2.2.1 [some (.inr (.inr (some w)))] [] _ _ _ _
          refine w_aln rfl ?_
          refine w_gs ?_
          intro a8 ga8
          have ga8 : G a8 = (903050, 0) := ga8
          refine w_aceq (fun c9 => ?_) (fun c9 => ?_)
          · exact absurd (Option.some.inj c9) (hn_ne gw ga8 (by decide))
          · skip
            refine w_aln rfl ?_
            refine w_gs ?_
            intro a10 ga10
            have ga10 : G a10 = (904050, 0) := ga10
            refine w_aceq (fun c11 => ?_) (fun c11 => ?_)
            · skip
              refine w_ic ?_
              refine w_goto ?_
              refine w_iret (fun _ => Or.inr rfl) ?_
              refine w_ifeq (fun c12 => ?_) (fun c12 => ?_)
              · exfalso; omega
              · skip
                refine w_aln rfl ?_
                refine w_aln rfl ?_
                refine w_aln rfl ?_
                refine w_cv (st := []) rfl gpl rfl (Nat.le_of_ble_eq_true rfl) (fun kk h => h) (r_X3_readAboutTown_mill (d := d) gw hA hS hqn hb ((h4 rfl).mono (fun f a hf M1 F1 => ?_) (fun PL1 WA1 OA1 TO1 BI1 nm1 q1 hk1 g1 g2 hb1 M1 s1 => ?_)))
                · skip
                  exact w_iret (fun _ => Or.inl rfl) (hf _ F1)
                · skip
                  exact w_iret (fun _ => Or.inr rfl) (hk1 g1 g2 hb1 _ s1)
            · exact absurd (congrArg some (hIw _ _ ((congrArg (fun x => x.1 % 1000) gw).trans rfl) (gw.trans ga10.symm))) c11
        · exact absurd (Option.some.inj c7) (hn_ne gw ga6 (by decide))
      · exact absurd (Option.some.inj c5) (hn_ne gw ga4 (by decide))
    · exact absurd (Option.some.inj c3) (hn_ne gw ga2 (by decide))
  · cases c1
set_option maxHeartbeats 8000000 in
theorem r_row_5 {G : mj_G} {M0 M : mj_M} {B : Nat → Int} {n lim tp bc pl na ta ba wa oa : Nat} {tr br : Nat → Nat} {T : Nat → Nat × Nat × Int × List Int × Nat} {PL WA OA : Nat → Int} {TO BI : Nat → Nat → Int} {nm : Nat → List Int} {Q : mj_P} {d q : Nat} (hA : rv_AT G M0 B n lim tp bc pl na ta ba wa oa tr br T) (hS : rv_S G M0 n lim tp pl na wa oa tr br (T q) PL WA OA TO BI nm M) (hqn : q ≤ n) (hb : rv_pb PL) {w : Nat} (gw : G w = (905050, 0)) (e9 : M.2.2 tp 9 = some w) (h5 : 0 = 0 → sp_bridge T PL WA OA TO BI nm q (fun f a => ∀ M', rv_F tp pl na wa oa tr br M0 f a M' → Q (some (.inl 0)) G M') (fun PL WA OA TO BI nm q' => q ≤ q' → q' ≤ n → rv_pb PL → ∀ M', rv_S G M0 n lim tp pl na wa oa tr br (T q') PL WA OA TO BI nm M' → Q (some (.inl 1)) G M')) : mj_R mj_tab (d + 6) 43 [.inr (.inr (some pl)), .inr (.inr (some tp))] G M Q := by
  obtain ⟨⟨gtp, gbc, gpl, gna, gta, gba, gwa, goa, gtr, gbr, itr, ibr, r1, r2, r3, r4, r5, r6, r7, r8, rb, rw0, n1, n2, hIw⟩, hT⟩ := id hA
  refine ⟨Nat.le_of_ble_eq_true rfl, ?_⟩
  show wz (d + 5) mt_X3_readRow.2.2.2.2.1 Q mt_X3_readRow.2.2.2.2.1 [some (.inr (.inr (some pl))), some (.inr (.inr (some tp))), none] [] G M _ _
  refine w_aln rfl ?_
  refine w_gr gtp rfl (by decide) rfl (e9) ?_
  refine w_asn ?_
  show wz _ _ _ _ [some (.inr (.inr (some pl))), some (.inr (.inr (some tp))), some (.inr (.inr (some w)))] _ _ _ _ _
  refine w_aln rfl ?_
  refine w_ifnn (fun c1 => ?_) (fun c1 => ?_)
  · skip
    refine w_aln rfl ?_
    refine w_gs ?_
    intro a2 ga2
    have ga2 : G a2 = (900050, 0) := ga2
    refine w_acne (fun c3 => ?_) (fun c3 => ?_)
    · skip
      refine w_aln rfl ?_
      refine w_gs ?_
      intro a4 ga4
      have ga4 : G a4 = (901050, 0) := ga4
      refine w_acne (fun c5 => ?_) (fun c5 => ?_)
      · skip
        refine w_aln rfl ?_
        refine w_gs ?_
        intro a6 ga6
        have ga6 : G a6 = (902050, 0) := ga6
        refine w_acne (fun c7 => ?_) (fun c7 => ?_)
        · skip
          refine w_aln rfl ?_
          refine w_cv (st := []) rfl gw rfl (Nat.le_of_ble_eq_true rfl) (fun kk h => h) ⟨Nat.le_of_ble_eq_true rfl, ?_⟩
          show wz (d + 4) mt_X9_isAboutTown.2.2.2.2.1 _ mt_X9_isAboutTown.2.2.2.2.1 [some (.inr (.inr (some w)))] [] _ _ _ _
          refine w_aln rfl ?_
          refine w_gs ?_
          intro a8 ga8
          have ga8 : G a8 = (903050, 0) := ga8
          refine w_aceq (fun c9 => ?_) (fun c9 => ?_)
          · exact absurd (Option.some.inj c9) (hn_ne gw ga8 (by decide))
          · skip
            refine w_aln rfl ?_
            refine w_gs ?_
            intro a10 ga10
            have ga10 : G a10 = (904050, 0) := ga10
            refine w_aceq (fun c11 => ?_) (fun c11 => ?_)
            · exact absurd (Option.some.inj c11) (hn_ne gw ga10 (by decide))
            · skip
              refine w_aln rfl ?_
              refine w_gs ?_
              intro a12 ga12
              have ga12 : G a12 = (905050, 0) := ga12
              refine w_aceq (fun c13 => ?_) (fun c13 => ?_)
              · skip
                refine w_ic ?_
                refine w_goto ?_
                refine w_iret (fun _ => Or.inr rfl) ?_
                refine w_ifeq (fun c14 => ?_) (fun c14 => ?_)
                · exfalso; omega
                · skip
                  refine w_aln rfl ?_
                  refine w_aln rfl ?_
                  refine w_aln rfl ?_
                  refine w_cv (st := []) rfl gpl rfl (Nat.le_of_ble_eq_true rfl) (fun kk h => h) (r_X3_readAboutTown_bridge (d := d) gw hA hS hqn hb ((h5 rfl).mono (fun f a hf M1 F1 => ?_) (fun PL1 WA1 OA1 TO1 BI1 nm1 q1 hk1 g1 g2 hb1 M1 s1 => ?_)))
                  · skip
                    exact w_iret (fun _ => Or.inl rfl) (hf _ F1)
                  · skip
                    exact w_iret (fun _ => Or.inr rfl) (hk1 g1 g2 hb1 _ s1)
              · exact absurd (congrArg some (hIw _ _ ((congrArg (fun x => x.1 % 1000) gw).trans rfl) (gw.trans ga12.symm))) c13
        · exact absurd (Option.some.inj c7) (hn_ne gw ga6 (by decide))
      · exact absurd (Option.some.inj c5) (hn_ne gw ga4 (by decide))
    · exact absurd (Option.some.inj c3) (hn_ne gw ga2 (by decide))
  · cases c1
set_option maxHeartbeats 8000000 in
theorem r_row_6 {G : mj_G} {M0 M : mj_M} {B : Nat → Int} {n lim tp bc pl na ta ba wa oa : Nat} {tr br : Nat → Nat} {T : Nat → Nat × Nat × Int × List Int × Nat} {PL WA OA : Nat → Int} {TO BI : Nat → Nat → Int} {nm : Nat → List Int} {Q : mj_P} {d q : Nat} (hA : rv_AT G M0 B n lim tp bc pl na ta ba wa oa tr br T) (hS : rv_S G M0 n lim tp pl na wa oa tr br (T q) PL WA OA TO BI nm M) (hqn : q ≤ n) (hb : rv_pb PL) {w : Nat} (gw : G w = (906050, 0)) (e9 : M.2.2 tp 9 = some w) (h6 : 0 = 0 → sp_field T PL WA OA TO BI nm q (fun f a => ∀ M', rv_F tp pl na wa oa tr br M0 f a M' → Q (some (.inl 0)) G M') (fun PL WA OA TO BI nm q' => q ≤ q' → q' ≤ n → rv_pb PL → ∀ M', rv_S G M0 n lim tp pl na wa oa tr br (T q') PL WA OA TO BI nm M' → Q (some (.inl 1)) G M')) : mj_R mj_tab (d + 6) 43 [.inr (.inr (some pl)), .inr (.inr (some tp))] G M Q := by
  obtain ⟨⟨gtp, gbc, gpl, gna, gta, gba, gwa, goa, gtr, gbr, itr, ibr, r1, r2, r3, r4, r5, r6, r7, r8, rb, rw0, n1, n2, hIw⟩, hT⟩ := id hA
  refine ⟨Nat.le_of_ble_eq_true rfl, ?_⟩
  show wz (d + 5) mt_X3_readRow.2.2.2.2.1 Q mt_X3_readRow.2.2.2.2.1 [some (.inr (.inr (some pl))), some (.inr (.inr (some tp))), none] [] G M _ _
  refine w_aln rfl ?_
  refine w_gr gtp rfl (by decide) rfl (e9) ?_
  refine w_asn ?_
  show wz _ _ _ _ [some (.inr (.inr (some pl))), some (.inr (.inr (some tp))), some (.inr (.inr (some w)))] _ _ _ _ _
  refine w_aln rfl ?_
  refine w_ifnn (fun c1 => ?_) (fun c1 => ?_)
  · skip
    refine w_aln rfl ?_
    refine w_gs ?_
    intro a2 ga2
    have ga2 : G a2 = (900050, 0) := ga2
    refine w_acne (fun c3 => ?_) (fun c3 => ?_)
    · skip
      refine w_aln rfl ?_
      refine w_gs ?_
      intro a4 ga4
      have ga4 : G a4 = (901050, 0) := ga4
      refine w_acne (fun c5 => ?_) (fun c5 => ?_)
      · skip
        refine w_aln rfl ?_
        refine w_gs ?_
        intro a6 ga6
        have ga6 : G a6 = (902050, 0) := ga6
        refine w_acne (fun c7 => ?_) (fun c7 => ?_)
        · skip
          refine w_aln rfl ?_
          refine w_cv (st := []) rfl gw rfl (Nat.le_of_ble_eq_true rfl) (fun kk h => h) ⟨Nat.le_of_ble_eq_true rfl, ?_⟩
          show wz (d + 4) mt_X9_isAboutTown.2.2.2.2.1 _ mt_X9_isAboutTown.2.2.2.2.1 [some (.inr (.inr (some w)))] [] _ _ _ _
          refine w_aln rfl ?_
          refine w_gs ?_
          intro a8 ga8
          have ga8 : G a8 = (903050, 0) := ga8
          refine w_aceq (fun c9 => ?_) (fun c9 => ?_)
          · exact absurd (Option.some.inj c9) (hn_ne gw ga8 (by decide))
          · skip
            refine w_aln rfl ?_
            refine w_gs ?_
            intro a10 ga10
            have ga10 : G a10 = (904050, 0) := ga10
            refine w_aceq (fun c11 => ?_) (fun c11 => ?_)
            · exact absurd (Option.some.inj c11) (hn_ne gw ga10 (by decide))
            · skip
              refine w_aln rfl ?_
              refine w_gs ?_
              intro a12 ga12
              have ga12 : G a12 = (905050, 0) := ga12
              refine w_aceq (fun c13 => ?_) (fun c13 => ?_)
              · exact absurd (Option.some.inj c13) (hn_ne gw ga12 (by decide))
              · skip
                refine w_aln rfl ?_
                refine w_gs ?_
                intro a14 ga14
                have ga14 : G a14 = (906050, 0) := ga14
                refine w_acne (fun c15 => ?_) (fun c15 => ?_)
                · exact absurd (congrArg some (hIw _ _ ((congrArg (fun x => x.1 % 1000) gw).trans rfl) (gw.trans ga14.symm))) c15
                · skip
                  refine w_ic ?_
                  refine w_goto ?_
                  refine w_iret (fun _ => Or.inr rfl) ?_
                  refine w_ifeq (fun c16 => ?_) (fun c16 => ?_)
                  · exfalso; omega
                  · skip
                    refine w_aln rfl ?_
                    refine w_aln rfl ?_
                    refine w_aln rfl ?_
                    refine w_cv (st := []) rfl gpl rfl (Nat.le_of_ble_eq_true rfl) (fun kk h => h) (r_X3_readAboutTown_field (d := d) gw hA hS hqn hb ((h6 rfl).mono (fun f a hf M1 F1 => ?_) (fun PL1 WA1 OA1 TO1 BI1 nm1 q1 hk1 g1 g2 hb1 M1 s1 => ?_)))
                    · skip
                      exact w_iret (fun _ => Or.inl rfl) (hf _ F1)
                    · skip
                      exact w_iret (fun _ => Or.inr rfl) (hk1 g1 g2 hb1 _ s1)
        · exact absurd (Option.some.inj c7) (hn_ne gw ga6 (by decide))
      · exact absurd (Option.some.inj c5) (hn_ne gw ga4 (by decide))
    · exact absurd (Option.some.inj c3) (hn_ne gw ga2 (by decide))
  · cases c1
set_option maxHeartbeats 8000000 in
theorem r_row_7 {G : mj_G} {M0 M : mj_M} {B : Nat → Int} {n lim tp bc pl na ta ba wa oa : Nat} {tr br : Nat → Nat} {T : Nat → Nat × Nat × Int × List Int × Nat} {PL WA OA : Nat → Int} {TO BI : Nat → Nat → Int} {nm : Nat → List Int} {Q : mj_P} {d q : Nat} (hA : rv_AT G M0 B n lim tp bc pl na ta ba wa oa tr br T) (hS : rv_S G M0 n lim tp pl na wa oa tr br (T q) PL WA OA TO BI nm M) (hqn : q ≤ n) (hb : rv_pb PL) {w : Nat} (gw : G w = (907050, 0)) (e9 : M.2.2 tp 9 = some w) (h7 : 0 = 0 → sp_move T PL WA OA TO BI nm q (fun f a => ∀ M', rv_F tp pl na wa oa tr br M0 f a M' → Q (some (.inl 0)) G M') (fun PL WA OA TO BI nm q' => q ≤ q' → q' ≤ n → rv_pb PL → ∀ M', rv_S G M0 n lim tp pl na wa oa tr br (T q') PL WA OA TO BI nm M' → Q (some (.inl 1)) G M')) : mj_R mj_tab (d + 6) 43 [.inr (.inr (some pl)), .inr (.inr (some tp))] G M Q := by
  obtain ⟨⟨gtp, gbc, gpl, gna, gta, gba, gwa, goa, gtr, gbr, itr, ibr, r1, r2, r3, r4, r5, r6, r7, r8, rb, rw0, n1, n2, hIw⟩, hT⟩ := id hA
  refine ⟨Nat.le_of_ble_eq_true rfl, ?_⟩
  show wz (d + 5) mt_X3_readRow.2.2.2.2.1 Q mt_X3_readRow.2.2.2.2.1 [some (.inr (.inr (some pl))), some (.inr (.inr (some tp))), none] [] G M _ _
  refine w_aln rfl ?_
  refine w_gr gtp rfl (by decide) rfl (e9) ?_
  refine w_asn ?_
  show wz _ _ _ _ [some (.inr (.inr (some pl))), some (.inr (.inr (some tp))), some (.inr (.inr (some w)))] _ _ _ _ _
  refine w_aln rfl ?_
  refine w_ifnn (fun c1 => ?_) (fun c1 => ?_)
  · skip
    refine w_aln rfl ?_
    refine w_gs ?_
    intro a2 ga2
    have ga2 : G a2 = (900050, 0) := ga2
    refine w_acne (fun c3 => ?_) (fun c3 => ?_)
    · skip
      refine w_aln rfl ?_
      refine w_gs ?_
      intro a4 ga4
      have ga4 : G a4 = (901050, 0) := ga4
      refine w_acne (fun c5 => ?_) (fun c5 => ?_)
      · skip
        refine w_aln rfl ?_
        refine w_gs ?_
        intro a6 ga6
        have ga6 : G a6 = (902050, 0) := ga6
        refine w_acne (fun c7 => ?_) (fun c7 => ?_)
        · skip
          refine w_aln rfl ?_
          refine w_cv (st := []) rfl gw rfl (Nat.le_of_ble_eq_true rfl) (fun kk h => h) ⟨Nat.le_of_ble_eq_true rfl, ?_⟩
          show wz (d + 4) mt_X9_isAboutTown.2.2.2.2.1 _ mt_X9_isAboutTown.2.2.2.2.1 [some (.inr (.inr (some w)))] [] _ _ _ _
          refine w_aln rfl ?_
          refine w_gs ?_
          intro a8 ga8
          have ga8 : G a8 = (903050, 0) := ga8
          refine w_aceq (fun c9 => ?_) (fun c9 => ?_)
          · exact absurd (Option.some.inj c9) (hn_ne gw ga8 (by decide))
          · skip
            refine w_aln rfl ?_
            refine w_gs ?_
            intro a10 ga10
            have ga10 : G a10 = (904050, 0) := ga10
            refine w_aceq (fun c11 => ?_) (fun c11 => ?_)
            · exact absurd (Option.some.inj c11) (hn_ne gw ga10 (by decide))
            · skip
              refine w_aln rfl ?_
              refine w_gs ?_
              intro a12 ga12
              have ga12 : G a12 = (905050, 0) := ga12
              refine w_aceq (fun c13 => ?_) (fun c13 => ?_)
              · exact absurd (Option.some.inj c13) (hn_ne gw ga12 (by decide))
              · skip
                refine w_aln rfl ?_
                refine w_gs ?_
                intro a14 ga14
                have ga14 : G a14 = (906050, 0) := ga14
                refine w_acne (fun c15 => ?_) (fun c15 => ?_)
                · skip
                  refine w_ic ?_
                  refine w_iret (fun _ => Or.inl rfl) ?_
                  refine w_ifeq (fun c16 => ?_) (fun c16 => ?_)
                  · skip
                    refine w_aln rfl ?_
                    refine w_gs ?_
                    intro a17 ga17
                    have ga17 : G a17 = (907050, 0) := ga17
                    refine w_acne (fun c18 => ?_) (fun c18 => ?_)
                    · exact absurd (congrArg some (hIw _ _ ((congrArg (fun x => x.1 % 1000) gw).trans rfl) (gw.trans ga17.symm))) c18
                    · skip
                      refine w_aln rfl ?_
                      refine w_aln rfl ?_
                      refine w_cv (st := []) rfl gpl rfl (Nat.le_of_ble_eq_true rfl) (fun kk h => h) (r_X3_readMove (d := d) hA hS hqn hb ((h7 rfl).mono (fun f a hf M1 F1 => ?_) (fun PL1 WA1 OA1 TO1 BI1 nm1 q1 hk1 g1 g2 hb1 M1 s1 => ?_)))
                      · skip
                        exact w_iret (fun _ => Or.inl rfl) (hf _ F1)
                      · skip
                        exact w_iret (fun _ => Or.inr rfl) (hk1 g1 g2 hb1 _ s1)
                  · exfalso; omega
                · exact absurd (Option.some.inj c15) (hn_ne gw ga14 (by decide))
        · exact absurd (Option.some.inj c7) (hn_ne gw ga6 (by decide))
      · exact absurd (Option.some.inj c5) (hn_ne gw ga4 (by decide))
    · exact absurd (Option.some.inj c3) (hn_ne gw ga2 (by decide))
  · cases c1
set_option maxHeartbeats 8000000 in
theorem r_row_8 {G : mj_G} {M0 M : mj_M} {B : Nat → Int} {n lim tp bc pl na ta ba wa oa : Nat} {tr br : Nat → Nat} {T : Nat → Nat × Nat × Int × List Int × Nat} {PL WA OA : Nat → Int} {TO BI : Nat → Nat → Int} {nm : Nat → List Int} {Q : mj_P} {d q : Nat} (hA : rv_AT G M0 B n lim tp bc pl na ta ba wa oa tr br T) (hS : rv_S G M0 n lim tp pl na wa oa tr br (T q) PL WA OA TO BI nm M) (hqn : q ≤ n) (hb : rv_pb PL) {w : Nat} (gw : G w = (908050, 0)) (e9 : M.2.2 tp 9 = some w) (h8 : 0 = 0 → sp_fish T PL WA OA TO BI nm q (fun f a => ∀ M', rv_F tp pl na wa oa tr br M0 f a M' → Q (some (.inl 0)) G M') (fun PL WA OA TO BI nm q' => q ≤ q' → q' ≤ n → rv_pb PL → ∀ M', rv_S G M0 n lim tp pl na wa oa tr br (T q') PL WA OA TO BI nm M' → Q (some (.inl 1)) G M')) : mj_R mj_tab (d + 6) 43 [.inr (.inr (some pl)), .inr (.inr (some tp))] G M Q := by
  obtain ⟨⟨gtp, gbc, gpl, gna, gta, gba, gwa, goa, gtr, gbr, itr, ibr, r1, r2, r3, r4, r5, r6, r7, r8, rb, rw0, n1, n2, hIw⟩, hT⟩ := id hA
  refine ⟨Nat.le_of_ble_eq_true rfl, ?_⟩
  show wz (d + 5) mt_X3_readRow.2.2.2.2.1 Q mt_X3_readRow.2.2.2.2.1 [some (.inr (.inr (some pl))), some (.inr (.inr (some tp))), none] [] G M _ _
  refine w_aln rfl ?_
  refine w_gr gtp rfl (by decide) rfl (e9) ?_
  refine w_asn ?_
  show wz _ _ _ _ [some (.inr (.inr (some pl))), some (.inr (.inr (some tp))), some (.inr (.inr (some w)))] _ _ _ _ _
  refine w_aln rfl ?_
  refine w_ifnn (fun c1 => ?_) (fun c1 => ?_)
  · skip
    refine w_aln rfl ?_
    refine w_gs ?_
    intro a2 ga2
    have ga2 : G a2 = (900050, 0) := ga2
    refine w_acne (fun c3 => ?_) (fun c3 => ?_)
    · skip
      refine w_aln rfl ?_
      refine w_gs ?_
      intro a4 ga4
      have ga4 : G a4 = (901050, 0) := ga4
      refine w_acne (fun c5 => ?_) (fun c5 => ?_)
      · skip
        refine w_aln rfl ?_
        refine w_gs ?_
        intro a6 ga6
        have ga6 : G a6 = (902050, 0) := ga6
        refine w_acne (fun c7 => ?_) (fun c7 => ?_)
        · skip
          refine w_aln rfl ?_
          refine w_cv (st := []) rfl gw rfl (Nat.le_of_ble_eq_true rfl) (fun kk h => h) ⟨Nat.le_of_ble_eq_true rfl, ?_⟩
          show wz (d + 4) mt_X9_isAboutTown.2.2.2.2.1 _ mt_X9_isAboutTown.2.2.2.2.1 [some (.inr (.inr (some w)))] [] _ _ _ _
          refine w_aln rfl ?_
          refine w_gs ?_
          intro a8 ga8
          have ga8 : G a8 = (903050, 0) := ga8
          refine w_aceq (fun c9 => ?_) (fun c9 => ?_)
          · exact absurd (Option.some.inj c9) (hn_ne gw ga8 (by decide))
          · skip
            refine w_aln rfl ?_
            refine w_gs ?_
            intro a10 ga10
            have ga10 : G a10 = (904050, 0) := ga10
            refine w_aceq (fun c11 => ?_) (fun c11 => ?_)
            · exact absurd (Option.some.inj c11) (hn_ne gw ga10 (by decide))
            · skip
              refine w_aln rfl ?_
              refine w_gs ?_
              intro a12 ga12
              have ga12 : G a12 = (905050, 0) := ga12
              refine w_aceq (fun c13 => ?_) (fun c13 => ?_)
              · exact absurd (Option.some.inj c13) (hn_ne gw ga12 (by decide))
              · skip
                refine w_aln rfl ?_
                refine w_gs ?_
                intro a14 ga14
                have ga14 : G a14 = (906050, 0) := ga14
                refine w_acne (fun c15 => ?_) (fun c15 => ?_)
                · skip
                  refine w_ic ?_
                  refine w_iret (fun _ => Or.inl rfl) ?_
                  refine w_ifeq (fun c16 => ?_) (fun c16 => ?_)
                  · skip
                    refine w_aln rfl ?_
                    refine w_gs ?_
                    intro a17 ga17
                    have ga17 : G a17 = (907050, 0) := ga17
                    refine w_acne (fun c18 => ?_) (fun c18 => ?_)
                    · skip
                      refine w_aln rfl ?_
                      refine w_gs ?_
                      intro a19 ga19
                      have ga19 : G a19 = (908050, 0) := ga19
                      refine w_acne (fun c20 => ?_) (fun c20 => ?_)
                      · exact absurd (congrArg some (hIw _ _ ((congrArg (fun x => x.1 % 1000) gw).trans rfl) (gw.trans ga19.symm))) c20
                      · skip
                        refine w_aln rfl ?_
                        refine w_aln rfl ?_
                        refine w_cv (st := []) rfl gpl rfl (Nat.le_of_ble_eq_true rfl) (fun kk h => h) (r_X3_readFish (d := d) hA hS hqn hb ((h8 rfl).mono (fun f a hf M1 F1 => ?_) (fun PL1 WA1 OA1 TO1 BI1 nm1 q1 hk1 g1 g2 hb1 M1 s1 => ?_)))
                        · skip
                          exact w_iret (fun _ => Or.inl rfl) (hf _ F1)
                        · skip
                          exact w_iret (fun _ => Or.inr rfl) (hk1 g1 g2 hb1 _ s1)
                    · exact absurd (Option.some.inj c18) (hn_ne gw ga17 (by decide))
                  · exfalso; omega
                · exact absurd (Option.some.inj c15) (hn_ne gw ga14 (by decide))
        · exact absurd (Option.some.inj c7) (hn_ne gw ga6 (by decide))
      · exact absurd (Option.some.inj c5) (hn_ne gw ga4 (by decide))
    · exact absurd (Option.some.inj c3) (hn_ne gw ga2 (by decide))
  · cases c1
set_option maxHeartbeats 8000000 in
theorem r_row_9 {G : mj_G} {M0 M : mj_M} {B : Nat → Int} {n lim tp bc pl na ta ba wa oa : Nat} {tr br : Nat → Nat} {T : Nat → Nat × Nat × Int × List Int × Nat} {PL WA OA : Nat → Int} {TO BI : Nat → Nat → Int} {nm : Nat → List Int} {Q : mj_P} {d q : Nat} (hA : rv_AT G M0 B n lim tp bc pl na ta ba wa oa tr br T) (hS : rv_S G M0 n lim tp pl na wa oa tr br (T q) PL WA OA TO BI nm M) (hqn : q ≤ n) (hb : rv_pb PL) {w : Nat} (gw : G w = (909050, 0)) (e9 : M.2.2 tp 9 = some w) (h9 : 0 = 0 → sp_patience T PL WA OA TO BI nm q (fun f a => ∀ M', rv_F tp pl na wa oa tr br M0 f a M' → Q (some (.inl 0)) G M') (fun PL WA OA TO BI nm q' => q ≤ q' → q' ≤ n → rv_pb PL → ∀ M', rv_S G M0 n lim tp pl na wa oa tr br (T q') PL WA OA TO BI nm M' → Q (some (.inl 1)) G M')) : mj_R mj_tab (d + 6) 43 [.inr (.inr (some pl)), .inr (.inr (some tp))] G M Q := by
  obtain ⟨⟨gtp, gbc, gpl, gna, gta, gba, gwa, goa, gtr, gbr, itr, ibr, r1, r2, r3, r4, r5, r6, r7, r8, rb, rw0, n1, n2, hIw⟩, hT⟩ := id hA
  refine ⟨Nat.le_of_ble_eq_true rfl, ?_⟩
  show wz (d + 5) mt_X3_readRow.2.2.2.2.1 Q mt_X3_readRow.2.2.2.2.1 [some (.inr (.inr (some pl))), some (.inr (.inr (some tp))), none] [] G M _ _
  refine w_aln rfl ?_
  refine w_gr gtp rfl (by decide) rfl (e9) ?_
  refine w_asn ?_
  show wz _ _ _ _ [some (.inr (.inr (some pl))), some (.inr (.inr (some tp))), some (.inr (.inr (some w)))] _ _ _ _ _
  refine w_aln rfl ?_
  refine w_ifnn (fun c1 => ?_) (fun c1 => ?_)
  · skip
    refine w_aln rfl ?_
    refine w_gs ?_
    intro a2 ga2
    have ga2 : G a2 = (900050, 0) := ga2
    refine w_acne (fun c3 => ?_) (fun c3 => ?_)
    · skip
      refine w_aln rfl ?_
      refine w_gs ?_
      intro a4 ga4
      have ga4 : G a4 = (901050, 0) := ga4
      refine w_acne (fun c5 => ?_) (fun c5 => ?_)
      · skip
        refine w_aln rfl ?_
        refine w_gs ?_
        intro a6 ga6
        have ga6 : G a6 = (902050, 0) := ga6
        refine w_acne (fun c7 => ?_) (fun c7 => ?_)
        · skip
          refine w_aln rfl ?_
          refine w_cv (st := []) rfl gw rfl (Nat.le_of_ble_eq_true rfl) (fun kk h => h) ⟨Nat.le_of_ble_eq_true rfl, ?_⟩
          show wz (d + 4) mt_X9_isAboutTown.2.2.2.2.1 _ mt_X9_isAboutTown.2.2.2.2.1 [some (.inr (.inr (some w)))] [] _ _ _ _
          refine w_aln rfl ?_
          refine w_gs ?_
          intro a8 ga8
          have ga8 : G a8 = (903050, 0) := ga8
          refine w_aceq (fun c9 => ?_) (fun c9 => ?_)
          · exact absurd (Option.some.inj c9) (hn_ne gw ga8 (by decide))
          · skip
            refine w_aln rfl ?_
            refine w_gs ?_
            intro a10 ga10
            have ga10 : G a10 = (904050, 0) := ga10
            refine w_aceq (fun c11 => ?_) (fun c11 => ?_)
            · exact absurd (Option.some.inj c11) (hn_ne gw ga10 (by decide))
            · skip
              refine w_aln rfl ?_
              refine w_gs ?_
              intro a12 ga12
              have ga12 : G a12 = (905050, 0) := ga12
              refine w_aceq (fun c13 => ?_) (fun c13 => ?_)
              · exact absurd (Option.some.inj c13) (hn_ne gw ga12 (by decide))
              · skip
                refine w_aln rfl ?_
                refine w_gs ?_
                intro a14 ga14
                have ga14 : G a14 = (906050, 0) := ga14
                refine w_acne (fun c15 => ?_) (fun c15 => ?_)
                · skip
                  refine w_ic ?_
                  refine w_iret (fun _ => Or.inl rfl) ?_
                  refine w_ifeq (fun c16 => ?_) (fun c16 => ?_)
                  · skip
                    refine w_aln rfl ?_
                    refine w_gs ?_
                    intro a17 ga17
                    have ga17 : G a17 = (907050, 0) := ga17
                    refine w_acne (fun c18 => ?_) (fun c18 => ?_)
                    · skip
                      refine w_aln rfl ?_
                      refine w_gs ?_
                      intro a19 ga19
                      have ga19 : G a19 = (908050, 0) := ga19
                      refine w_acne (fun c20 => ?_) (fun c20 => ?_)
                      · skip
                        refine w_aln rfl ?_
                        refine w_gs ?_
                        intro a21 ga21
                        have ga21 : G a21 = (909050, 0) := ga21
                        refine w_acne (fun c22 => ?_) (fun c22 => ?_)
                        · exact absurd (congrArg some (hIw _ _ ((congrArg (fun x => x.1 % 1000) gw).trans rfl) (gw.trans ga21.symm))) c22
                        · skip
                          refine w_aln rfl ?_
                          refine w_aln rfl ?_
                          refine w_cv (st := []) rfl gpl rfl (Nat.le_of_ble_eq_true rfl) (fun kk h => h) (r_X3_readPatience (d := d) hA hS hqn hb ((h9 rfl).mono (fun f a hf M1 F1 => ?_) (fun PL1 WA1 OA1 TO1 BI1 nm1 q1 hk1 g1 g2 hb1 M1 s1 => ?_)))
                          · skip
                            exact w_iret (fun _ => Or.inl rfl) (hf _ F1)
                          · skip
                            exact w_iret (fun _ => Or.inr rfl) (hk1 g1 g2 hb1 _ s1)
                      · exact absurd (Option.some.inj c20) (hn_ne gw ga19 (by decide))
                    · exact absurd (Option.some.inj c18) (hn_ne gw ga17 (by decide))
                  · exfalso; omega
                · exact absurd (Option.some.inj c15) (hn_ne gw ga14 (by decide))
        · exact absurd (Option.some.inj c7) (hn_ne gw ga6 (by decide))
      · exact absurd (Option.some.inj c5) (hn_ne gw ga4 (by decide))
    · exact absurd (Option.some.inj c3) (hn_ne gw ga2 (by decide))
  · cases c1
set_option maxHeartbeats 8000000 in
theorem r_row_10 {G : mj_G} {M0 M : mj_M} {B : Nat → Int} {n lim tp bc pl na ta ba wa oa : Nat} {tr br : Nat → Nat} {T : Nat → Nat × Nat × Int × List Int × Nat} {PL WA OA : Nat → Int} {TO BI : Nat → Nat → Int} {nm : Nat → List Int} {Q : mj_P} {d q : Nat} (hA : rv_AT G M0 B n lim tp bc pl na ta ba wa oa tr br T) (hS : rv_S G M0 n lim tp pl na wa oa tr br (T q) PL WA OA TO BI nm M) (hqn : q ≤ n) (hb : rv_pb PL) {w : Nat} (gw : G w = (910050, 0)) (e9 : M.2.2 tp 9 = some w) (h10 : ∀ M', rv_F tp pl na wa oa tr br M0 1 (T q).2.1 M' → Q (some (.inl 0)) G M') : mj_R mj_tab (d + 6) 43 [.inr (.inr (some pl)), .inr (.inr (some tp))] G M Q := by
  obtain ⟨⟨gtp, gbc, gpl, gna, gta, gba, gwa, goa, gtr, gbr, itr, ibr, r1, r2, r3, r4, r5, r6, r7, r8, rb, rw0, n1, n2, hIw⟩, hT⟩ := id hA
  refine ⟨Nat.le_of_ble_eq_true rfl, ?_⟩
  show wz (d + 5) mt_X3_readRow.2.2.2.2.1 Q mt_X3_readRow.2.2.2.2.1 [some (.inr (.inr (some pl))), some (.inr (.inr (some tp))), none] [] G M _ _
  refine w_aln rfl ?_
  refine w_gr gtp rfl (by decide) rfl (e9) ?_
  refine w_asn ?_
  show wz _ _ _ _ [some (.inr (.inr (some pl))), some (.inr (.inr (some tp))), some (.inr (.inr (some w)))] _ _ _ _ _
  refine w_aln rfl ?_
  refine w_ifnn (fun c1 => ?_) (fun c1 => ?_)
  · skip
    refine w_aln rfl ?_
    refine w_gs ?_
    intro a2 ga2
    have ga2 : G a2 = (900050, 0) := ga2
    refine w_acne (fun c3 => ?_) (fun c3 => ?_)
    · skip
      refine w_aln rfl ?_
      refine w_gs ?_
      intro a4 ga4
      have ga4 : G a4 = (901050, 0) := ga4
      refine w_acne (fun c5 => ?_) (fun c5 => ?_)
      · skip
        refine w_aln rfl ?_
        refine w_gs ?_
        intro a6 ga6
        have ga6 : G a6 = (902050, 0) := ga6
        refine w_acne (fun c7 => ?_) (fun c7 => ?_)
        · skip
          refine w_aln rfl ?_
          refine w_cv (st := []) rfl gw rfl (Nat.le_of_ble_eq_true rfl) (fun kk h => h) ⟨Nat.le_of_ble_eq_true rfl, ?_⟩
          show wz (d + 4) mt_X9_isAboutTown.2.2.2.2.1 _ mt_X9_isAboutTown.2.2.2.2.1 [some (.inr (.inr (some w)))] [] _ _ _ _
          refine w_aln rfl ?_
          refine w_gs ?_
          intro a8 ga8
          have ga8 : G a8 = (903050, 0) := ga8
          refine w_aceq (fun c9 => ?_) (fun c9 => ?_)
          · exact absurd (Option.some.inj c9) (hn_ne gw ga8 (by decide))
          · skip
            refine w_aln rfl ?_
            refine w_gs ?_
            intro a10 ga10
            have ga10 : G a10 = (904050, 0) := ga10
            refine w_aceq (fun c11 => ?_) (fun c11 => ?_)
            · exact absurd (Option.some.inj c11) (hn_ne gw ga10 (by decide))
            · skip
              refine w_aln rfl ?_
              refine w_gs ?_
              intro a12 ga12
              have ga12 : G a12 = (905050, 0) := ga12
              refine w_aceq (fun c13 => ?_) (fun c13 => ?_)
              · exact absurd (Option.some.inj c13) (hn_ne gw ga12 (by decide))
              · skip
                refine w_aln rfl ?_
                refine w_gs ?_
                intro a14 ga14
                have ga14 : G a14 = (906050, 0) := ga14
                refine w_acne (fun c15 => ?_) (fun c15 => ?_)
                · skip
                  refine w_ic ?_
                  refine w_iret (fun _ => Or.inl rfl) ?_
                  refine w_ifeq (fun c16 => ?_) (fun c16 => ?_)
                  · skip
                    refine w_aln rfl ?_
                    refine w_gs ?_
                    intro a17 ga17
                    have ga17 : G a17 = (907050, 0) := ga17
                    refine w_acne (fun c18 => ?_) (fun c18 => ?_)
                    · skip
                      refine w_aln rfl ?_
                      refine w_gs ?_
                      intro a19 ga19
                      have ga19 : G a19 = (908050, 0) := ga19
                      refine w_acne (fun c20 => ?_) (fun c20 => ?_)
                      · skip
                        refine w_aln rfl ?_
                        refine w_gs ?_
                        intro a21 ga21
                        have ga21 : G a21 = (909050, 0) := ga21
                        refine w_acne (fun c22 => ?_) (fun c22 => ?_)
                        · skip
                          refine w_aln rfl ?_
                          refine w_ic ?_
                          refine w_cv (st := []) rfl gtp rfl (Nat.le_of_ble_eq_true rfl) (fun kk h => h) (r_X7_refuse (d := d + 4) hA hS (by decide) (fun MF23 F23 => ?_))
                          exact w_iret (fun _ => Or.inl rfl) (h10 _ F23)
                        · exact absurd (Option.some.inj c22) (hn_ne gw ga21 (by decide))
                      · exact absurd (Option.some.inj c20) (hn_ne gw ga19 (by decide))
                    · exact absurd (Option.some.inj c18) (hn_ne gw ga17 (by decide))
                  · exfalso; omega
                · exact absurd (Option.some.inj c15) (hn_ne gw ga14 (by decide))
        · exact absurd (Option.some.inj c7) (hn_ne gw ga6 (by decide))
      · exact absurd (Option.some.inj c5) (hn_ne gw ga4 (by decide))
    · exact absurd (Option.some.inj c3) (hn_ne gw ga2 (by decide))
  · cases c1
set_option maxHeartbeats 8000000 in
theorem r_row_11 {G : mj_G} {M0 M : mj_M} {B : Nat → Int} {n lim tp bc pl na ta ba wa oa : Nat} {tr br : Nat → Nat} {T : Nat → Nat × Nat × Int × List Int × Nat} {PL WA OA : Nat → Int} {TO BI : Nat → Nat → Int} {nm : Nat → List Int} {Q : mj_P} {d q : Nat} (hA : rv_AT G M0 B n lim tp bc pl na ta ba wa oa tr br T) (hS : rv_S G M0 n lim tp pl na wa oa tr br (T q) PL WA OA TO BI nm M) (hqn : q ≤ n) (hb : rv_pb PL) {w : Nat} (gw : G w = (911050, 0)) (e9 : M.2.2 tp 9 = some w) (h10 : ∀ M', rv_F tp pl na wa oa tr br M0 1 (T q).2.1 M' → Q (some (.inl 0)) G M') : mj_R mj_tab (d + 6) 43 [.inr (.inr (some pl)), .inr (.inr (some tp))] G M Q := by
  obtain ⟨⟨gtp, gbc, gpl, gna, gta, gba, gwa, goa, gtr, gbr, itr, ibr, r1, r2, r3, r4, r5, r6, r7, r8, rb, rw0, n1, n2, hIw⟩, hT⟩ := id hA
  refine ⟨Nat.le_of_ble_eq_true rfl, ?_⟩
  show wz (d + 5) mt_X3_readRow.2.2.2.2.1 Q mt_X3_readRow.2.2.2.2.1 [some (.inr (.inr (some pl))), some (.inr (.inr (some tp))), none] [] G M _ _
  refine w_aln rfl ?_
  refine w_gr gtp rfl (by decide) rfl (e9) ?_
  refine w_asn ?_
  show wz _ _ _ _ [some (.inr (.inr (some pl))), some (.inr (.inr (some tp))), some (.inr (.inr (some w)))] _ _ _ _ _
  refine w_aln rfl ?_
  refine w_ifnn (fun c1 => ?_) (fun c1 => ?_)
  · skip
    refine w_aln rfl ?_
    refine w_gs ?_
    intro a2 ga2
    have ga2 : G a2 = (900050, 0) := ga2
    refine w_acne (fun c3 => ?_) (fun c3 => ?_)
    · skip
      refine w_aln rfl ?_
      refine w_gs ?_
      intro a4 ga4
      have ga4 : G a4 = (901050, 0) := ga4
      refine w_acne (fun c5 => ?_) (fun c5 => ?_)
      · skip
        refine w_aln rfl ?_
        refine w_gs ?_
        intro a6 ga6
        have ga6 : G a6 = (902050, 0) := ga6
        refine w_acne (fun c7 => ?_) (fun c7 => ?_)
        · skip
          refine w_aln rfl ?_
          refine w_cv (st := []) rfl gw rfl (Nat.le_of_ble_eq_true rfl) (fun kk h => h) ⟨Nat.le_of_ble_eq_true rfl, ?_⟩
          show wz (d + 4) mt_X9_isAboutTown.2.2.2.2.1 _ mt_X9_isAboutTown.2.2.2.2.1 [some (.inr (.inr (some w)))] [] _ _ _ _
          refine w_aln rfl ?_
          refine w_gs ?_
          intro a8 ga8
          have ga8 : G a8 = (903050, 0) := ga8
          refine w_aceq (fun c9 => ?_) (fun c9 => ?_)
          · exact absurd (Option.some.inj c9) (hn_ne gw ga8 (by decide))
          · skip
            refine w_aln rfl ?_
            refine w_gs ?_
            intro a10 ga10
            have ga10 : G a10 = (904050, 0) := ga10
            refine w_aceq (fun c11 => ?_) (fun c11 => ?_)
            · exact absurd (Option.some.inj c11) (hn_ne gw ga10 (by decide))
            · skip
              refine w_aln rfl ?_
              refine w_gs ?_
              intro a12 ga12
              have ga12 : G a12 = (905050, 0) := ga12
              refine w_aceq (fun c13 => ?_) (fun c13 => ?_)
              · exact absurd (Option.some.inj c13) (hn_ne gw ga12 (by decide))
              · skip
                refine w_aln rfl ?_
                refine w_gs ?_
                intro a14 ga14
                have ga14 : G a14 = (906050, 0) := ga14
                refine w_acne (fun c15 => ?_) (fun c15 => ?_)
                · skip
                  refine w_ic ?_
                  refine w_iret (fun _ => Or.inl rfl) ?_
                  refine w_ifeq (fun c16 => ?_) (fun c16 => ?_)
                  · skip
                    refine w_aln rfl ?_
                    refine w_gs ?_
                    intro a17 ga17
                    have ga17 : G a17 = (907050, 0) := ga17
                    refine w_acne (fun c18 => ?_) (fun c18 => ?_)
                    · skip
                      refine w_aln rfl ?_
                      refine w_gs ?_
                      intro a19 ga19
                      have ga19 : G a19 = (908050, 0) := ga19
                      refine w_acne (fun c20 => ?_) (fun c20 => ?_)
                      · skip
                        refine w_aln rfl ?_
                        refine w_gs ?_
                        intro a21 ga21
                        have ga21 : G a21 = (909050, 0) := ga21
                        refine w_acne (fun c22 => ?_) (fun c22 => ?_)
                        · skip
                          refine w_aln rfl ?_
                          refine w_ic ?_
                          refine w_cv (st := []) rfl gtp rfl (Nat.le_of_ble_eq_true rfl) (fun kk h => h) (r_X7_refuse (d := d + 4) hA hS (by decide) (fun MF23 F23 => ?_))
                          exact w_iret (fun _ => Or.inl rfl) (h10 _ F23)
                        · exact absurd (Option.some.inj c22) (hn_ne gw ga21 (by decide))
                      · exact absurd (Option.some.inj c20) (hn_ne gw ga19 (by decide))
                    · exact absurd (Option.some.inj c18) (hn_ne gw ga17 (by decide))
                  · exfalso; omega
                · exact absurd (Option.some.inj c15) (hn_ne gw ga14 (by decide))
        · exact absurd (Option.some.inj c7) (hn_ne gw ga6 (by decide))
      · exact absurd (Option.some.inj c5) (hn_ne gw ga4 (by decide))
    · exact absurd (Option.some.inj c3) (hn_ne gw ga2 (by decide))
  · cases c1
set_option maxHeartbeats 8000000 in
theorem r_row_12 {G : mj_G} {M0 M : mj_M} {B : Nat → Int} {n lim tp bc pl na ta ba wa oa : Nat} {tr br : Nat → Nat} {T : Nat → Nat × Nat × Int × List Int × Nat} {PL WA OA : Nat → Int} {TO BI : Nat → Nat → Int} {nm : Nat → List Int} {Q : mj_P} {d q : Nat} (hA : rv_AT G M0 B n lim tp bc pl na ta ba wa oa tr br T) (hS : rv_S G M0 n lim tp pl na wa oa tr br (T q) PL WA OA TO BI nm M) (hqn : q ≤ n) (hb : rv_pb PL) {w : Nat} (gw : G w = (912050, 0)) (e9 : M.2.2 tp 9 = some w) (h10 : ∀ M', rv_F tp pl na wa oa tr br M0 1 (T q).2.1 M' → Q (some (.inl 0)) G M') : mj_R mj_tab (d + 6) 43 [.inr (.inr (some pl)), .inr (.inr (some tp))] G M Q := by
  obtain ⟨⟨gtp, gbc, gpl, gna, gta, gba, gwa, goa, gtr, gbr, itr, ibr, r1, r2, r3, r4, r5, r6, r7, r8, rb, rw0, n1, n2, hIw⟩, hT⟩ := id hA
  refine ⟨Nat.le_of_ble_eq_true rfl, ?_⟩
  show wz (d + 5) mt_X3_readRow.2.2.2.2.1 Q mt_X3_readRow.2.2.2.2.1 [some (.inr (.inr (some pl))), some (.inr (.inr (some tp))), none] [] G M _ _
  refine w_aln rfl ?_
  refine w_gr gtp rfl (by decide) rfl (e9) ?_
  refine w_asn ?_
  show wz _ _ _ _ [some (.inr (.inr (some pl))), some (.inr (.inr (some tp))), some (.inr (.inr (some w)))] _ _ _ _ _
  refine w_aln rfl ?_
  refine w_ifnn (fun c1 => ?_) (fun c1 => ?_)
  · skip
    refine w_aln rfl ?_
    refine w_gs ?_
    intro a2 ga2
    have ga2 : G a2 = (900050, 0) := ga2
    refine w_acne (fun c3 => ?_) (fun c3 => ?_)
    · skip
      refine w_aln rfl ?_
      refine w_gs ?_
      intro a4 ga4
      have ga4 : G a4 = (901050, 0) := ga4
      refine w_acne (fun c5 => ?_) (fun c5 => ?_)
      · skip
        refine w_aln rfl ?_
        refine w_gs ?_
        intro a6 ga6
        have ga6 : G a6 = (902050, 0) := ga6
        refine w_acne (fun c7 => ?_) (fun c7 => ?_)
        · skip
          refine w_aln rfl ?_
          refine w_cv (st := []) rfl gw rfl (Nat.le_of_ble_eq_true rfl) (fun kk h => h) ⟨Nat.le_of_ble_eq_true rfl, ?_⟩
          show wz (d + 4) mt_X9_isAboutTown.2.2.2.2.1 _ mt_X9_isAboutTown.2.2.2.2.1 [some (.inr (.inr (some w)))] [] _ _ _ _
          refine w_aln rfl ?_
          refine w_gs ?_
          intro a8 ga8
          have ga8 : G a8 = (903050, 0) := ga8
          refine w_aceq (fun c9 => ?_) (fun c9 => ?_)
          · exact absurd (Option.some.inj c9) (hn_ne gw ga8 (by decide))
          · skip
            refine w_aln rfl ?_
            refine w_gs ?_
            intro a10 ga10
            have ga10 : G a10 = (904050, 0) := ga10
            refine w_aceq (fun c11 => ?_) (fun c11 => ?_)
            · exact absurd (Option.some.inj c11) (hn_ne gw ga10 (by decide))
            · skip
              refine w_aln rfl ?_
              refine w_gs ?_
              intro a12 ga12
              have ga12 : G a12 = (905050, 0) := ga12
              refine w_aceq (fun c13 => ?_) (fun c13 => ?_)
              · exact absurd (Option.some.inj c13) (hn_ne gw ga12 (by decide))
              · skip
                refine w_aln rfl ?_
                refine w_gs ?_
                intro a14 ga14
                have ga14 : G a14 = (906050, 0) := ga14
                refine w_acne (fun c15 => ?_) (fun c15 => ?_)
                · skip
                  refine w_ic ?_
                  refine w_iret (fun _ => Or.inl rfl) ?_
                  refine w_ifeq (fun c16 => ?_) (fun c16 => ?_)
                  · skip
                    refine w_aln rfl ?_
                    refine w_gs ?_
                    intro a17 ga17
                    have ga17 : G a17 = (907050, 0) := ga17
                    refine w_acne (fun c18 => ?_) (fun c18 => ?_)
                    · skip
                      refine w_aln rfl ?_
                      refine w_gs ?_
                      intro a19 ga19
                      have ga19 : G a19 = (908050, 0) := ga19
                      refine w_acne (fun c20 => ?_) (fun c20 => ?_)
                      · skip
                        refine w_aln rfl ?_
                        refine w_gs ?_
                        intro a21 ga21
                        have ga21 : G a21 = (909050, 0) := ga21
                        refine w_acne (fun c22 => ?_) (fun c22 => ?_)
                        · skip
                          refine w_aln rfl ?_
                          refine w_ic ?_
                          refine w_cv (st := []) rfl gtp rfl (Nat.le_of_ble_eq_true rfl) (fun kk h => h) (r_X7_refuse (d := d + 4) hA hS (by decide) (fun MF23 F23 => ?_))
                          exact w_iret (fun _ => Or.inl rfl) (h10 _ F23)
                        · exact absurd (Option.some.inj c22) (hn_ne gw ga21 (by decide))
                      · exact absurd (Option.some.inj c20) (hn_ne gw ga19 (by decide))
                    · exact absurd (Option.some.inj c18) (hn_ne gw ga17 (by decide))
                  · exfalso; omega
                · exact absurd (Option.some.inj c15) (hn_ne gw ga14 (by decide))
        · exact absurd (Option.some.inj c7) (hn_ne gw ga6 (by decide))
      · exact absurd (Option.some.inj c5) (hn_ne gw ga4 (by decide))
    · exact absurd (Option.some.inj c3) (hn_ne gw ga2 (by decide))
  · cases c1
set_option maxHeartbeats 8000000 in
theorem r_row_13 {G : mj_G} {M0 M : mj_M} {B : Nat → Int} {n lim tp bc pl na ta ba wa oa : Nat} {tr br : Nat → Nat} {T : Nat → Nat × Nat × Int × List Int × Nat} {PL WA OA : Nat → Int} {TO BI : Nat → Nat → Int} {nm : Nat → List Int} {Q : mj_P} {d q : Nat} (hA : rv_AT G M0 B n lim tp bc pl na ta ba wa oa tr br T) (hS : rv_S G M0 n lim tp pl na wa oa tr br (T q) PL WA OA TO BI nm M) (hqn : q ≤ n) (hb : rv_pb PL) {w : Nat} (gw : G w = (913050, 0)) (e9 : M.2.2 tp 9 = some w) (h10 : ∀ M', rv_F tp pl na wa oa tr br M0 1 (T q).2.1 M' → Q (some (.inl 0)) G M') : mj_R mj_tab (d + 6) 43 [.inr (.inr (some pl)), .inr (.inr (some tp))] G M Q := by
  obtain ⟨⟨gtp, gbc, gpl, gna, gta, gba, gwa, goa, gtr, gbr, itr, ibr, r1, r2, r3, r4, r5, r6, r7, r8, rb, rw0, n1, n2, hIw⟩, hT⟩ := id hA
  refine ⟨Nat.le_of_ble_eq_true rfl, ?_⟩
  show wz (d + 5) mt_X3_readRow.2.2.2.2.1 Q mt_X3_readRow.2.2.2.2.1 [some (.inr (.inr (some pl))), some (.inr (.inr (some tp))), none] [] G M _ _
  refine w_aln rfl ?_
  refine w_gr gtp rfl (by decide) rfl (e9) ?_
  refine w_asn ?_
  show wz _ _ _ _ [some (.inr (.inr (some pl))), some (.inr (.inr (some tp))), some (.inr (.inr (some w)))] _ _ _ _ _
  refine w_aln rfl ?_
  refine w_ifnn (fun c1 => ?_) (fun c1 => ?_)
  · skip
    refine w_aln rfl ?_
    refine w_gs ?_
    intro a2 ga2
    have ga2 : G a2 = (900050, 0) := ga2
    refine w_acne (fun c3 => ?_) (fun c3 => ?_)
    · skip
      refine w_aln rfl ?_
      refine w_gs ?_
      intro a4 ga4
      have ga4 : G a4 = (901050, 0) := ga4
      refine w_acne (fun c5 => ?_) (fun c5 => ?_)
      · skip
        refine w_aln rfl ?_
        refine w_gs ?_
        intro a6 ga6
        have ga6 : G a6 = (902050, 0) := ga6
        refine w_acne (fun c7 => ?_) (fun c7 => ?_)
        · skip
          refine w_aln rfl ?_
          refine w_cv (st := []) rfl gw rfl (Nat.le_of_ble_eq_true rfl) (fun kk h => h) ⟨Nat.le_of_ble_eq_true rfl, ?_⟩
          show wz (d + 4) mt_X9_isAboutTown.2.2.2.2.1 _ mt_X9_isAboutTown.2.2.2.2.1 [some (.inr (.inr (some w)))] [] _ _ _ _
          refine w_aln rfl ?_
          refine w_gs ?_
          intro a8 ga8
          have ga8 : G a8 = (903050, 0) := ga8
          refine w_aceq (fun c9 => ?_) (fun c9 => ?_)
          · exact absurd (Option.some.inj c9) (hn_ne gw ga8 (by decide))
          · skip
            refine w_aln rfl ?_
            refine w_gs ?_
            intro a10 ga10
            have ga10 : G a10 = (904050, 0) := ga10
            refine w_aceq (fun c11 => ?_) (fun c11 => ?_)
            · exact absurd (Option.some.inj c11) (hn_ne gw ga10 (by decide))
            · skip
              refine w_aln rfl ?_
              refine w_gs ?_
              intro a12 ga12
              have ga12 : G a12 = (905050, 0) := ga12
              refine w_aceq (fun c13 => ?_) (fun c13 => ?_)
              · exact absurd (Option.some.inj c13) (hn_ne gw ga12 (by decide))
              · skip
                refine w_aln rfl ?_
                refine w_gs ?_
                intro a14 ga14
                have ga14 : G a14 = (906050, 0) := ga14
                refine w_acne (fun c15 => ?_) (fun c15 => ?_)
                · skip
                  refine w_ic ?_
                  refine w_iret (fun _ => Or.inl rfl) ?_
                  refine w_ifeq (fun c16 => ?_) (fun c16 => ?_)
                  · skip
                    refine w_aln rfl ?_
                    refine w_gs ?_
                    intro a17 ga17
                    have ga17 : G a17 = (907050, 0) := ga17
                    refine w_acne (fun c18 => ?_) (fun c18 => ?_)
                    · skip
                      refine w_aln rfl ?_
                      refine w_gs ?_
                      intro a19 ga19
                      have ga19 : G a19 = (908050, 0) := ga19
                      refine w_acne (fun c20 => ?_) (fun c20 => ?_)
                      · skip
                        refine w_aln rfl ?_
                        refine w_gs ?_
                        intro a21 ga21
                        have ga21 : G a21 = (909050, 0) := ga21
                        refine w_acne (fun c22 => ?_) (fun c22 => ?_)
                        · skip
                          refine w_aln rfl ?_
                          refine w_ic ?_
                          refine w_cv (st := []) rfl gtp rfl (Nat.le_of_ble_eq_true rfl) (fun kk h => h) (r_X7_refuse (d := d + 4) hA hS (by decide) (fun MF23 F23 => ?_))
                          exact w_iret (fun _ => Or.inl rfl) (h10 _ F23)
                        · exact absurd (Option.some.inj c22) (hn_ne gw ga21 (by decide))
                      · exact absurd (Option.some.inj c20) (hn_ne gw ga19 (by decide))
                    · exact absurd (Option.some.inj c18) (hn_ne gw ga17 (by decide))
                  · exfalso; omega
                · exact absurd (Option.some.inj c15) (hn_ne gw ga14 (by decide))
        · exact absurd (Option.some.inj c7) (hn_ne gw ga6 (by decide))
      · exact absurd (Option.some.inj c5) (hn_ne gw ga4 (by decide))
    · exact absurd (Option.some.inj c3) (hn_ne gw ga2 (by decide))
  · cases c1
set_option maxHeartbeats 8000000 in
theorem r_row_14 {G : mj_G} {M0 M : mj_M} {B : Nat → Int} {n lim tp bc pl na ta ba wa oa : Nat} {tr br : Nat → Nat} {T : Nat → Nat × Nat × Int × List Int × Nat} {PL WA OA : Nat → Int} {TO BI : Nat → Nat → Int} {nm : Nat → List Int} {Q : mj_P} {d q : Nat} (hA : rv_AT G M0 B n lim tp bc pl na ta ba wa oa tr br T) (hS : rv_S G M0 n lim tp pl na wa oa tr br (T q) PL WA OA TO BI nm M) (hqn : q ≤ n) (hb : rv_pb PL) {w : Nat} (gw : G w = (914050, 0)) (e9 : M.2.2 tp 9 = some w) (h10 : ∀ M', rv_F tp pl na wa oa tr br M0 1 (T q).2.1 M' → Q (some (.inl 0)) G M') : mj_R mj_tab (d + 6) 43 [.inr (.inr (some pl)), .inr (.inr (some tp))] G M Q := by
  obtain ⟨⟨gtp, gbc, gpl, gna, gta, gba, gwa, goa, gtr, gbr, itr, ibr, r1, r2, r3, r4, r5, r6, r7, r8, rb, rw0, n1, n2, hIw⟩, hT⟩ := id hA
  refine ⟨Nat.le_of_ble_eq_true rfl, ?_⟩
  show wz (d + 5) mt_X3_readRow.2.2.2.2.1 Q mt_X3_readRow.2.2.2.2.1 [some (.inr (.inr (some pl))), some (.inr (.inr (some tp))), none] [] G M _ _
  refine w_aln rfl ?_
  refine w_gr gtp rfl (by decide) rfl (e9) ?_
  refine w_asn ?_
  show wz _ _ _ _ [some (.inr (.inr (some pl))), some (.inr (.inr (some tp))), some (.inr (.inr (some w)))] _ _ _ _ _
  refine w_aln rfl ?_
  refine w_ifnn (fun c1 => ?_) (fun c1 => ?_)
  · skip
    refine w_aln rfl ?_
    refine w_gs ?_
    intro a2 ga2
    have ga2 : G a2 = (900050, 0) := ga2
    refine w_acne (fun c3 => ?_) (fun c3 => ?_)
    · skip
      refine w_aln rfl ?_
      refine w_gs ?_
      intro a4 ga4
      have ga4 : G a4 = (901050, 0) := ga4
      refine w_acne (fun c5 => ?_) (fun c5 => ?_)
      · skip
        refine w_aln rfl ?_
        refine w_gs ?_
        intro a6 ga6
        have ga6 : G a6 = (902050, 0) := ga6
        refine w_acne (fun c7 => ?_) (fun c7 => ?_)
        · skip
          refine w_aln rfl ?_
          refine w_cv (st := []) rfl gw rfl (Nat.le_of_ble_eq_true rfl) (fun kk h => h) ⟨Nat.le_of_ble_eq_true rfl, ?_⟩
          show wz (d + 4) mt_X9_isAboutTown.2.2.2.2.1 _ mt_X9_isAboutTown.2.2.2.2.1 [some (.inr (.inr (some w)))] [] _ _ _ _
          refine w_aln rfl ?_
          refine w_gs ?_
          intro a8 ga8
          have ga8 : G a8 = (903050, 0) := ga8
          refine w_aceq (fun c9 => ?_) (fun c9 => ?_)
          · exact absurd (Option.some.inj c9) (hn_ne gw ga8 (by decide))
          · skip
            refine w_aln rfl ?_
            refine w_gs ?_
            intro a10 ga10
            have ga10 : G a10 = (904050, 0) := ga10
            refine w_aceq (fun c11 => ?_) (fun c11 => ?_)
            · exact absurd (Option.some.inj c11) (hn_ne gw ga10 (by decide))
            · skip
              refine w_aln rfl ?_
              refine w_gs ?_
              intro a12 ga12
              have ga12 : G a12 = (905050, 0) := ga12
              refine w_aceq (fun c13 => ?_) (fun c13 => ?_)
              · exact absurd (Option.some.inj c13) (hn_ne gw ga12 (by decide))
              · skip
                refine w_aln rfl ?_
                refine w_gs ?_
                intro a14 ga14
                have ga14 : G a14 = (906050, 0) := ga14
                refine w_acne (fun c15 => ?_) (fun c15 => ?_)
                · skip
                  refine w_ic ?_
                  refine w_iret (fun _ => Or.inl rfl) ?_
                  refine w_ifeq (fun c16 => ?_) (fun c16 => ?_)
                  · skip
                    refine w_aln rfl ?_
                    refine w_gs ?_
                    intro a17 ga17
                    have ga17 : G a17 = (907050, 0) := ga17
                    refine w_acne (fun c18 => ?_) (fun c18 => ?_)
                    · skip
                      refine w_aln rfl ?_
                      refine w_gs ?_
                      intro a19 ga19
                      have ga19 : G a19 = (908050, 0) := ga19
                      refine w_acne (fun c20 => ?_) (fun c20 => ?_)
                      · skip
                        refine w_aln rfl ?_
                        refine w_gs ?_
                        intro a21 ga21
                        have ga21 : G a21 = (909050, 0) := ga21
                        refine w_acne (fun c22 => ?_) (fun c22 => ?_)
                        · skip
                          refine w_aln rfl ?_
                          refine w_ic ?_
                          refine w_cv (st := []) rfl gtp rfl (Nat.le_of_ble_eq_true rfl) (fun kk h => h) (r_X7_refuse (d := d + 4) hA hS (by decide) (fun MF23 F23 => ?_))
                          exact w_iret (fun _ => Or.inl rfl) (h10 _ F23)
                        · exact absurd (Option.some.inj c22) (hn_ne gw ga21 (by decide))
                      · exact absurd (Option.some.inj c20) (hn_ne gw ga19 (by decide))
                    · exact absurd (Option.some.inj c18) (hn_ne gw ga17 (by decide))
                  · exfalso; omega
                · exact absurd (Option.some.inj c15) (hn_ne gw ga14 (by decide))
        · exact absurd (Option.some.inj c7) (hn_ne gw ga6 (by decide))
      · exact absurd (Option.some.inj c5) (hn_ne gw ga4 (by decide))
    · exact absurd (Option.some.inj c3) (hn_ne gw ga2 (by decide))
  · cases c1
set_option maxHeartbeats 8000000 in
theorem r_row_15 {G : mj_G} {M0 M : mj_M} {B : Nat → Int} {n lim tp bc pl na ta ba wa oa : Nat} {tr br : Nat → Nat} {T : Nat → Nat × Nat × Int × List Int × Nat} {PL WA OA : Nat → Int} {TO BI : Nat → Nat → Int} {nm : Nat → List Int} {Q : mj_P} {d q : Nat} (hA : rv_AT G M0 B n lim tp bc pl na ta ba wa oa tr br T) (hS : rv_S G M0 n lim tp pl na wa oa tr br (T q) PL WA OA TO BI nm M) (hqn : q ≤ n) (hb : rv_pb PL) {w : Nat} (gw : G w = (915050, 0)) (e9 : M.2.2 tp 9 = some w) (h10 : ∀ M', rv_F tp pl na wa oa tr br M0 1 (T q).2.1 M' → Q (some (.inl 0)) G M') : mj_R mj_tab (d + 6) 43 [.inr (.inr (some pl)), .inr (.inr (some tp))] G M Q := by
  obtain ⟨⟨gtp, gbc, gpl, gna, gta, gba, gwa, goa, gtr, gbr, itr, ibr, r1, r2, r3, r4, r5, r6, r7, r8, rb, rw0, n1, n2, hIw⟩, hT⟩ := id hA
  refine ⟨Nat.le_of_ble_eq_true rfl, ?_⟩
  show wz (d + 5) mt_X3_readRow.2.2.2.2.1 Q mt_X3_readRow.2.2.2.2.1 [some (.inr (.inr (some pl))), some (.inr (.inr (some tp))), none] [] G M _ _
  refine w_aln rfl ?_
  refine w_gr gtp rfl (by decide) rfl (e9) ?_
  refine w_asn ?_
  show wz _ _ _ _ [some (.inr (.inr (some pl))), some (.inr (.inr (some tp))), some (.inr (.inr (some w)))] _ _ _ _ _
  refine w_aln rfl ?_
  refine w_ifnn (fun c1 => ?_) (fun c1 => ?_)
  · skip
    refine w_aln rfl ?_
    refine w_gs ?_
    intro a2 ga2
    have ga2 : G a2 = (900050, 0) := ga2
    refine w_acne (fun c3 => ?_) (fun c3 => ?_)
    · skip
      refine w_aln rfl ?_
      refine w_gs ?_
      intro a4 ga4
      have ga4 : G a4 = (901050, 0) := ga4
      refine w_acne (fun c5 => ?_) (fun c5 => ?_)
      · skip
        refine w_aln rfl ?_
        refine w_gs ?_
        intro a6 ga6
        have ga6 : G a6 = (902050, 0) := ga6
        refine w_acne (fun c7 => ?_) (fun c7 => ?_)
        · skip
          refine w_aln rfl ?_
          refine w_cv (st := []) rfl gw rfl (Nat.le_of_ble_eq_true rfl) (fun kk h => h) ⟨Nat.le_of_ble_eq_true rfl, ?_⟩
          show wz (d + 4) mt_X9_isAboutTown.2.2.2.2.1 _ mt_X9_isAboutTown.2.2.2.2.1 [some (.inr (.inr (some w)))] [] _ _ _ _
          refine w_aln rfl ?_
          refine w_gs ?_
          intro a8 ga8
          have ga8 : G a8 = (903050, 0) := ga8
          refine w_aceq (fun c9 => ?_) (fun c9 => ?_)
          · exact absurd (Option.some.inj c9) (hn_ne gw ga8 (by decide))
          · skip
            refine w_aln rfl ?_
            refine w_gs ?_
            intro a10 ga10
            have ga10 : G a10 = (904050, 0) := ga10
            refine w_aceq (fun c11 => ?_) (fun c11 => ?_)
            · exact absurd (Option.some.inj c11) (hn_ne gw ga10 (by decide))
            · skip
              refine w_aln rfl ?_
              refine w_gs ?_
              intro a12 ga12
              have ga12 : G a12 = (905050, 0) := ga12
              refine w_aceq (fun c13 => ?_) (fun c13 => ?_)
              · exact absurd (Option.some.inj c13) (hn_ne gw ga12 (by decide))
              · skip
                refine w_aln rfl ?_
                refine w_gs ?_
                intro a14 ga14
                have ga14 : G a14 = (906050, 0) := ga14
                refine w_acne (fun c15 => ?_) (fun c15 => ?_)
                · skip
                  refine w_ic ?_
                  refine w_iret (fun _ => Or.inl rfl) ?_
                  refine w_ifeq (fun c16 => ?_) (fun c16 => ?_)
                  · skip
                    refine w_aln rfl ?_
                    refine w_gs ?_
                    intro a17 ga17
                    have ga17 : G a17 = (907050, 0) := ga17
                    refine w_acne (fun c18 => ?_) (fun c18 => ?_)
                    · skip
                      refine w_aln rfl ?_
                      refine w_gs ?_
                      intro a19 ga19
                      have ga19 : G a19 = (908050, 0) := ga19
                      refine w_acne (fun c20 => ?_) (fun c20 => ?_)
                      · skip
                        refine w_aln rfl ?_
                        refine w_gs ?_
                        intro a21 ga21
                        have ga21 : G a21 = (909050, 0) := ga21
                        refine w_acne (fun c22 => ?_) (fun c22 => ?_)
                        · skip
                          refine w_aln rfl ?_
                          refine w_ic ?_
                          refine w_cv (st := []) rfl gtp rfl (Nat.le_of_ble_eq_true rfl) (fun kk h => h) (r_X7_refuse (d := d + 4) hA hS (by decide) (fun MF23 F23 => ?_))
                          exact w_iret (fun _ => Or.inl rfl) (h10 _ F23)
                        · exact absurd (Option.some.inj c22) (hn_ne gw ga21 (by decide))
                      · exact absurd (Option.some.inj c20) (hn_ne gw ga19 (by decide))
                    · exact absurd (Option.some.inj c18) (hn_ne gw ga17 (by decide))
                  · exfalso; omega
                · exact absurd (Option.some.inj c15) (hn_ne gw ga14 (by decide))
        · exact absurd (Option.some.inj c7) (hn_ne gw ga6 (by decide))
      · exact absurd (Option.some.inj c5) (hn_ne gw ga4 (by decide))
    · exact absurd (Option.some.inj c3) (hn_ne gw ga2 (by decide))
  · cases c1
set_option maxHeartbeats 8000000 in
theorem r_row_16 {G : mj_G} {M0 M : mj_M} {B : Nat → Int} {n lim tp bc pl na ta ba wa oa : Nat} {tr br : Nat → Nat} {T : Nat → Nat × Nat × Int × List Int × Nat} {PL WA OA : Nat → Int} {TO BI : Nat → Nat → Int} {nm : Nat → List Int} {Q : mj_P} {d q : Nat} (hA : rv_AT G M0 B n lim tp bc pl na ta ba wa oa tr br T) (hS : rv_S G M0 n lim tp pl na wa oa tr br (T q) PL WA OA TO BI nm M) (hqn : q ≤ n) (hb : rv_pb PL) {w : Nat} (gw : G w = (916050, 0)) (e9 : M.2.2 tp 9 = some w) (h10 : ∀ M', rv_F tp pl na wa oa tr br M0 1 (T q).2.1 M' → Q (some (.inl 0)) G M') : mj_R mj_tab (d + 6) 43 [.inr (.inr (some pl)), .inr (.inr (some tp))] G M Q := by
  obtain ⟨⟨gtp, gbc, gpl, gna, gta, gba, gwa, goa, gtr, gbr, itr, ibr, r1, r2, r3, r4, r5, r6, r7, r8, rb, rw0, n1, n2, hIw⟩, hT⟩ := id hA
  refine ⟨Nat.le_of_ble_eq_true rfl, ?_⟩
  show wz (d + 5) mt_X3_readRow.2.2.2.2.1 Q mt_X3_readRow.2.2.2.2.1 [some (.inr (.inr (some pl))), some (.inr (.inr (some tp))), none] [] G M _ _
  refine w_aln rfl ?_
  refine w_gr gtp rfl (by decide) rfl (e9) ?_
  refine w_asn ?_
  show wz _ _ _ _ [some (.inr (.inr (some pl))), some (.inr (.inr (some tp))), some (.inr (.inr (some w)))] _ _ _ _ _
  refine w_aln rfl ?_
  refine w_ifnn (fun c1 => ?_) (fun c1 => ?_)
  · skip
    refine w_aln rfl ?_
    refine w_gs ?_
    intro a2 ga2
    have ga2 : G a2 = (900050, 0) := ga2
    refine w_acne (fun c3 => ?_) (fun c3 => ?_)
    · skip
      refine w_aln rfl ?_
      refine w_gs ?_
      intro a4 ga4
      have ga4 : G a4 = (901050, 0) := ga4
      refine w_acne (fun c5 => ?_) (fun c5 => ?_)
      · skip
        refine w_aln rfl ?_
        refine w_gs ?_
        intro a6 ga6
        have ga6 : G a6 = (902050, 0) := ga6
        refine w_acne (fun c7 => ?_) (fun c7 => ?_)
        · skip
          refine w_aln rfl ?_
          refine w_cv (st := []) rfl gw rfl (Nat.le_of_ble_eq_true rfl) (fun kk h => h) ⟨Nat.le_of_ble_eq_true rfl, ?_⟩
          show wz (d + 4) mt_X9_isAboutTown.2.2.2.2.1 _ mt_X9_isAboutTown.2.2.2.2.1 [some (.inr (.inr (some w)))] [] _ _ _ _
          refine w_aln rfl ?_
          refine w_gs ?_
          intro a8 ga8
          have ga8 : G a8 = (903050, 0) := ga8
          refine w_aceq (fun c9 => ?_) (fun c9 => ?_)
          · exact absurd (Option.some.inj c9) (hn_ne gw ga8 (by decide))
          · skip
            refine w_aln rfl ?_
            refine w_gs ?_
            intro a10 ga10
            have ga10 : G a10 = (904050, 0) := ga10
            refine w_aceq (fun c11 => ?_) (fun c11 => ?_)
            · exact absurd (Option.some.inj c11) (hn_ne gw ga10 (by decide))
            · skip
              refine w_aln rfl ?_
              refine w_gs ?_
              intro a12 ga12
              have ga12 : G a12 = (905050, 0) := ga12
              refine w_aceq (fun c13 => ?_) (fun c13 => ?_)
              · exact absurd (Option.some.inj c13) (hn_ne gw ga12 (by decide))
              · skip
                refine w_aln rfl ?_
                refine w_gs ?_
                intro a14 ga14
                have ga14 : G a14 = (906050, 0) := ga14
                refine w_acne (fun c15 => ?_) (fun c15 => ?_)
                · skip
                  refine w_ic ?_
                  refine w_iret (fun _ => Or.inl rfl) ?_
                  refine w_ifeq (fun c16 => ?_) (fun c16 => ?_)
                  · skip
                    refine w_aln rfl ?_
                    refine w_gs ?_
                    intro a17 ga17
                    have ga17 : G a17 = (907050, 0) := ga17
                    refine w_acne (fun c18 => ?_) (fun c18 => ?_)
                    · skip
                      refine w_aln rfl ?_
                      refine w_gs ?_
                      intro a19 ga19
                      have ga19 : G a19 = (908050, 0) := ga19
                      refine w_acne (fun c20 => ?_) (fun c20 => ?_)
                      · skip
                        refine w_aln rfl ?_
                        refine w_gs ?_
                        intro a21 ga21
                        have ga21 : G a21 = (909050, 0) := ga21
                        refine w_acne (fun c22 => ?_) (fun c22 => ?_)
                        · skip
                          refine w_aln rfl ?_
                          refine w_ic ?_
                          refine w_cv (st := []) rfl gtp rfl (Nat.le_of_ble_eq_true rfl) (fun kk h => h) (r_X7_refuse (d := d + 4) hA hS (by decide) (fun MF23 F23 => ?_))
                          exact w_iret (fun _ => Or.inl rfl) (h10 _ F23)
                        · exact absurd (Option.some.inj c22) (hn_ne gw ga21 (by decide))
                      · exact absurd (Option.some.inj c20) (hn_ne gw ga19 (by decide))
                    · exact absurd (Option.some.inj c18) (hn_ne gw ga17 (by decide))
                  · exfalso; omega
                · exact absurd (Option.some.inj c15) (hn_ne gw ga14 (by decide))
        · exact absurd (Option.some.inj c7) (hn_ne gw ga6 (by decide))
      · exact absurd (Option.some.inj c5) (hn_ne gw ga4 (by decide))
    · exact absurd (Option.some.inj c3) (hn_ne gw ga2 (by decide))
  · cases c1
set_option maxHeartbeats 8000000 in
theorem r_row_17 {G : mj_G} {M0 M : mj_M} {B : Nat → Int} {n lim tp bc pl na ta ba wa oa : Nat} {tr br : Nat → Nat} {T : Nat → Nat × Nat × Int × List Int × Nat} {PL WA OA : Nat → Int} {TO BI : Nat → Nat → Int} {nm : Nat → List Int} {Q : mj_P} {d q : Nat} (hA : rv_AT G M0 B n lim tp bc pl na ta ba wa oa tr br T) (hS : rv_S G M0 n lim tp pl na wa oa tr br (T q) PL WA OA TO BI nm M) (hqn : q ≤ n) (hb : rv_pb PL) {w : Nat} (gw : G w = (917050, 0)) (e9 : M.2.2 tp 9 = some w) (h10 : ∀ M', rv_F tp pl na wa oa tr br M0 1 (T q).2.1 M' → Q (some (.inl 0)) G M') : mj_R mj_tab (d + 6) 43 [.inr (.inr (some pl)), .inr (.inr (some tp))] G M Q := by
  obtain ⟨⟨gtp, gbc, gpl, gna, gta, gba, gwa, goa, gtr, gbr, itr, ibr, r1, r2, r3, r4, r5, r6, r7, r8, rb, rw0, n1, n2, hIw⟩, hT⟩ := id hA
  refine ⟨Nat.le_of_ble_eq_true rfl, ?_⟩
  show wz (d + 5) mt_X3_readRow.2.2.2.2.1 Q mt_X3_readRow.2.2.2.2.1 [some (.inr (.inr (some pl))), some (.inr (.inr (some tp))), none] [] G M _ _
  refine w_aln rfl ?_
  refine w_gr gtp rfl (by decide) rfl (e9) ?_
  refine w_asn ?_
  show wz _ _ _ _ [some (.inr (.inr (some pl))), some (.inr (.inr (some tp))), some (.inr (.inr (some w)))] _ _ _ _ _
  refine w_aln rfl ?_
  refine w_ifnn (fun c1 => ?_) (fun c1 => ?_)
  · skip
    refine w_aln rfl ?_
    refine w_gs ?_
    intro a2 ga2
    have ga2 : G a2 = (900050, 0) := ga2
    refine w_acne (fun c3 => ?_) (fun c3 => ?_)
    · skip
      refine w_aln rfl ?_
      refine w_gs ?_
      intro a4 ga4
      have ga4 : G a4 = (901050, 0) := ga4
      refine w_acne (fun c5 => ?_) (fun c5 => ?_)
      · skip
        refine w_aln rfl ?_
        refine w_gs ?_
        intro a6 ga6
        have ga6 : G a6 = (902050, 0) := ga6
        refine w_acne (fun c7 => ?_) (fun c7 => ?_)
        · skip
          refine w_aln rfl ?_
          refine w_cv (st := []) rfl gw rfl (Nat.le_of_ble_eq_true rfl) (fun kk h => h) ⟨Nat.le_of_ble_eq_true rfl, ?_⟩
          show wz (d + 4) mt_X9_isAboutTown.2.2.2.2.1 _ mt_X9_isAboutTown.2.2.2.2.1 [some (.inr (.inr (some w)))] [] _ _ _ _
          refine w_aln rfl ?_
          refine w_gs ?_
          intro a8 ga8
          have ga8 : G a8 = (903050, 0) := ga8
          refine w_aceq (fun c9 => ?_) (fun c9 => ?_)
          · exact absurd (Option.some.inj c9) (hn_ne gw ga8 (by decide))
          · skip
            refine w_aln rfl ?_
            refine w_gs ?_
            intro a10 ga10
            have ga10 : G a10 = (904050, 0) := ga10
            refine w_aceq (fun c11 => ?_) (fun c11 => ?_)
            · exact absurd (Option.some.inj c11) (hn_ne gw ga10 (by decide))
            · skip
              refine w_aln rfl ?_
              refine w_gs ?_
              intro a12 ga12
              have ga12 : G a12 = (905050, 0) := ga12
              refine w_aceq (fun c13 => ?_) (fun c13 => ?_)
              · exact absurd (Option.some.inj c13) (hn_ne gw ga12 (by decide))
              · skip
                refine w_aln rfl ?_
                refine w_gs ?_
                intro a14 ga14
                have ga14 : G a14 = (906050, 0) := ga14
                refine w_acne (fun c15 => ?_) (fun c15 => ?_)
                · skip
                  refine w_ic ?_
                  refine w_iret (fun _ => Or.inl rfl) ?_
                  refine w_ifeq (fun c16 => ?_) (fun c16 => ?_)
                  · skip
                    refine w_aln rfl ?_
                    refine w_gs ?_
                    intro a17 ga17
                    have ga17 : G a17 = (907050, 0) := ga17
                    refine w_acne (fun c18 => ?_) (fun c18 => ?_)
                    · skip
                      refine w_aln rfl ?_
                      refine w_gs ?_
                      intro a19 ga19
                      have ga19 : G a19 = (908050, 0) := ga19
                      refine w_acne (fun c20 => ?_) (fun c20 => ?_)
                      · skip
                        refine w_aln rfl ?_
                        refine w_gs ?_
                        intro a21 ga21
                        have ga21 : G a21 = (909050, 0) := ga21
                        refine w_acne (fun c22 => ?_) (fun c22 => ?_)
                        · skip
                          refine w_aln rfl ?_
                          refine w_ic ?_
                          refine w_cv (st := []) rfl gtp rfl (Nat.le_of_ble_eq_true rfl) (fun kk h => h) (r_X7_refuse (d := d + 4) hA hS (by decide) (fun MF23 F23 => ?_))
                          exact w_iret (fun _ => Or.inl rfl) (h10 _ F23)
                        · exact absurd (Option.some.inj c22) (hn_ne gw ga21 (by decide))
                      · exact absurd (Option.some.inj c20) (hn_ne gw ga19 (by decide))
                    · exact absurd (Option.some.inj c18) (hn_ne gw ga17 (by decide))
                  · exfalso; omega
                · exact absurd (Option.some.inj c15) (hn_ne gw ga14 (by decide))
        · exact absurd (Option.some.inj c7) (hn_ne gw ga6 (by decide))
      · exact absurd (Option.some.inj c5) (hn_ne gw ga4 (by decide))
    · exact absurd (Option.some.inj c3) (hn_ne gw ga2 (by decide))
  · cases c1
set_option maxHeartbeats 8000000 in
theorem r_row_18 {G : mj_G} {M0 M : mj_M} {B : Nat → Int} {n lim tp bc pl na ta ba wa oa : Nat} {tr br : Nat → Nat} {T : Nat → Nat × Nat × Int × List Int × Nat} {PL WA OA : Nat → Int} {TO BI : Nat → Nat → Int} {nm : Nat → List Int} {Q : mj_P} {d q : Nat} (hA : rv_AT G M0 B n lim tp bc pl na ta ba wa oa tr br T) (hS : rv_S G M0 n lim tp pl na wa oa tr br (T q) PL WA OA TO BI nm M) (hqn : q ≤ n) (hb : rv_pb PL) {w : Nat} (gw : G w = (918050, 0)) (e9 : M.2.2 tp 9 = some w) (h10 : ∀ M', rv_F tp pl na wa oa tr br M0 1 (T q).2.1 M' → Q (some (.inl 0)) G M') : mj_R mj_tab (d + 6) 43 [.inr (.inr (some pl)), .inr (.inr (some tp))] G M Q := by
  obtain ⟨⟨gtp, gbc, gpl, gna, gta, gba, gwa, goa, gtr, gbr, itr, ibr, r1, r2, r3, r4, r5, r6, r7, r8, rb, rw0, n1, n2, hIw⟩, hT⟩ := id hA
  refine ⟨Nat.le_of_ble_eq_true rfl, ?_⟩
  show wz (d + 5) mt_X3_readRow.2.2.2.2.1 Q mt_X3_readRow.2.2.2.2.1 [some (.inr (.inr (some pl))), some (.inr (.inr (some tp))), none] [] G M _ _
  refine w_aln rfl ?_
  refine w_gr gtp rfl (by decide) rfl (e9) ?_
  refine w_asn ?_
  show wz _ _ _ _ [some (.inr (.inr (some pl))), some (.inr (.inr (some tp))), some (.inr (.inr (some w)))] _ _ _ _ _
  refine w_aln rfl ?_
  refine w_ifnn (fun c1 => ?_) (fun c1 => ?_)
  · skip
    refine w_aln rfl ?_
    refine w_gs ?_
    intro a2 ga2
    have ga2 : G a2 = (900050, 0) := ga2
    refine w_acne (fun c3 => ?_) (fun c3 => ?_)
    · skip
      refine w_aln rfl ?_
      refine w_gs ?_
      intro a4 ga4
      have ga4 : G a4 = (901050, 0) := ga4
      refine w_acne (fun c5 => ?_) (fun c5 => ?_)
      · skip
        refine w_aln rfl ?_
        refine w_gs ?_
        intro a6 ga6
        have ga6 : G a6 = (902050, 0) := ga6
        refine w_acne (fun c7 => ?_) (fun c7 => ?_)
        · skip
          refine w_aln rfl ?_
          refine w_cv (st := []) rfl gw rfl (Nat.le_of_ble_eq_true rfl) (fun kk h => h) ⟨Nat.le_of_ble_eq_true rfl, ?_⟩
          show wz (d + 4) mt_X9_isAboutTown.2.2.2.2.1 _ mt_X9_isAboutTown.2.2.2.2.1 [some (.inr (.inr (some w)))] [] _ _ _ _
          refine w_aln rfl ?_
          refine w_gs ?_
          intro a8 ga8
          have ga8 : G a8 = (903050, 0) := ga8
          refine w_aceq (fun c9 => ?_) (fun c9 => ?_)
          · exact absurd (Option.some.inj c9) (hn_ne gw ga8 (by decide))
          · skip
            refine w_aln rfl ?_
            refine w_gs ?_
            intro a10 ga10
            have ga10 : G a10 = (904050, 0) := ga10
            refine w_aceq (fun c11 => ?_) (fun c11 => ?_)
            · exact absurd (Option.some.inj c11) (hn_ne gw ga10 (by decide))
            · skip
              refine w_aln rfl ?_
              refine w_gs ?_
              intro a12 ga12
              have ga12 : G a12 = (905050, 0) := ga12
              refine w_aceq (fun c13 => ?_) (fun c13 => ?_)
              · exact absurd (Option.some.inj c13) (hn_ne gw ga12 (by decide))
              · skip
                refine w_aln rfl ?_
                refine w_gs ?_
                intro a14 ga14
                have ga14 : G a14 = (906050, 0) := ga14
                refine w_acne (fun c15 => ?_) (fun c15 => ?_)
                · skip
                  refine w_ic ?_
                  refine w_iret (fun _ => Or.inl rfl) ?_
                  refine w_ifeq (fun c16 => ?_) (fun c16 => ?_)
                  · skip
                    refine w_aln rfl ?_
                    refine w_gs ?_
                    intro a17 ga17
                    have ga17 : G a17 = (907050, 0) := ga17
                    refine w_acne (fun c18 => ?_) (fun c18 => ?_)
                    · skip
                      refine w_aln rfl ?_
                      refine w_gs ?_
                      intro a19 ga19
                      have ga19 : G a19 = (908050, 0) := ga19
                      refine w_acne (fun c20 => ?_) (fun c20 => ?_)
                      · skip
                        refine w_aln rfl ?_
                        refine w_gs ?_
                        intro a21 ga21
                        have ga21 : G a21 = (909050, 0) := ga21
                        refine w_acne (fun c22 => ?_) (fun c22 => ?_)
                        · skip
                          refine w_aln rfl ?_
                          refine w_ic ?_
                          refine w_cv (st := []) rfl gtp rfl (Nat.le_of_ble_eq_true rfl) (fun kk h => h) (r_X7_refuse (d := d + 4) hA hS (by decide) (fun MF23 F23 => ?_))
                          exact w_iret (fun _ => Or.inl rfl) (h10 _ F23)
                        · exact absurd (Option.some.inj c22) (hn_ne gw ga21 (by decide))
                      · exact absurd (Option.some.inj c20) (hn_ne gw ga19 (by decide))
                    · exact absurd (Option.some.inj c18) (hn_ne gw ga17 (by decide))
                  · exfalso; omega
                · exact absurd (Option.some.inj c15) (hn_ne gw ga14 (by decide))
        · exact absurd (Option.some.inj c7) (hn_ne gw ga6 (by decide))
      · exact absurd (Option.some.inj c5) (hn_ne gw ga4 (by decide))
    · exact absurd (Option.some.inj c3) (hn_ne gw ga2 (by decide))
  · cases c1
set_option maxHeartbeats 8000000 in
theorem r_row_19 {G : mj_G} {M0 M : mj_M} {B : Nat → Int} {n lim tp bc pl na ta ba wa oa : Nat} {tr br : Nat → Nat} {T : Nat → Nat × Nat × Int × List Int × Nat} {PL WA OA : Nat → Int} {TO BI : Nat → Nat → Int} {nm : Nat → List Int} {Q : mj_P} {d q : Nat} (hA : rv_AT G M0 B n lim tp bc pl na ta ba wa oa tr br T) (hS : rv_S G M0 n lim tp pl na wa oa tr br (T q) PL WA OA TO BI nm M) (hqn : q ≤ n) (hb : rv_pb PL) {w : Nat} (gw : G w = (919050, 0)) (e9 : M.2.2 tp 9 = some w) (h10 : ∀ M', rv_F tp pl na wa oa tr br M0 1 (T q).2.1 M' → Q (some (.inl 0)) G M') : mj_R mj_tab (d + 6) 43 [.inr (.inr (some pl)), .inr (.inr (some tp))] G M Q := by
  obtain ⟨⟨gtp, gbc, gpl, gna, gta, gba, gwa, goa, gtr, gbr, itr, ibr, r1, r2, r3, r4, r5, r6, r7, r8, rb, rw0, n1, n2, hIw⟩, hT⟩ := id hA
  refine ⟨Nat.le_of_ble_eq_true rfl, ?_⟩
  show wz (d + 5) mt_X3_readRow.2.2.2.2.1 Q mt_X3_readRow.2.2.2.2.1 [some (.inr (.inr (some pl))), some (.inr (.inr (some tp))), none] [] G M _ _
  refine w_aln rfl ?_
  refine w_gr gtp rfl (by decide) rfl (e9) ?_
  refine w_asn ?_
  show wz _ _ _ _ [some (.inr (.inr (some pl))), some (.inr (.inr (some tp))), some (.inr (.inr (some w)))] _ _ _ _ _
  refine w_aln rfl ?_
  refine w_ifnn (fun c1 => ?_) (fun c1 => ?_)
  · skip
    refine w_aln rfl ?_
    refine w_gs ?_
    intro a2 ga2
    have ga2 : G a2 = (900050, 0) := ga2
    refine w_acne (fun c3 => ?_) (fun c3 => ?_)
    · skip
      refine w_aln rfl ?_
      refine w_gs ?_
      intro a4 ga4
      have ga4 : G a4 = (901050, 0) := ga4
      refine w_acne (fun c5 => ?_) (fun c5 => ?_)
      · skip
        refine w_aln rfl ?_
        refine w_gs ?_
        intro a6 ga6
        have ga6 : G a6 = (902050, 0) := ga6
        refine w_acne (fun c7 => ?_) (fun c7 => ?_)
        · skip
          refine w_aln rfl ?_
          refine w_cv (st := []) rfl gw rfl (Nat.le_of_ble_eq_true rfl) (fun kk h => h) ⟨Nat.le_of_ble_eq_true rfl, ?_⟩
          show wz (d + 4) mt_X9_isAboutTown.2.2.2.2.1 _ mt_X9_isAboutTown.2.2.2.2.1 [some (.inr (.inr (some w)))] [] _ _ _ _
          refine w_aln rfl ?_
          refine w_gs ?_
          intro a8 ga8
          have ga8 : G a8 = (903050, 0) := ga8
          refine w_aceq (fun c9 => ?_) (fun c9 => ?_)
          · exact absurd (Option.some.inj c9) (hn_ne gw ga8 (by decide))
          · skip
            refine w_aln rfl ?_
            refine w_gs ?_
            intro a10 ga10
            have ga10 : G a10 = (904050, 0) := ga10
            refine w_aceq (fun c11 => ?_) (fun c11 => ?_)
            · exact absurd (Option.some.inj c11) (hn_ne gw ga10 (by decide))
            · skip
              refine w_aln rfl ?_
              refine w_gs ?_
              intro a12 ga12
              have ga12 : G a12 = (905050, 0) := ga12
              refine w_aceq (fun c13 => ?_) (fun c13 => ?_)
              · exact absurd (Option.some.inj c13) (hn_ne gw ga12 (by decide))
              · skip
                refine w_aln rfl ?_
                refine w_gs ?_
                intro a14 ga14
                have ga14 : G a14 = (906050, 0) := ga14
                refine w_acne (fun c15 => ?_) (fun c15 => ?_)
                · skip
                  refine w_ic ?_
                  refine w_iret (fun _ => Or.inl rfl) ?_
                  refine w_ifeq (fun c16 => ?_) (fun c16 => ?_)
                  · skip
                    refine w_aln rfl ?_
                    refine w_gs ?_
                    intro a17 ga17
                    have ga17 : G a17 = (907050, 0) := ga17
                    refine w_acne (fun c18 => ?_) (fun c18 => ?_)
                    · skip
                      refine w_aln rfl ?_
                      refine w_gs ?_
                      intro a19 ga19
                      have ga19 : G a19 = (908050, 0) := ga19
                      refine w_acne (fun c20 => ?_) (fun c20 => ?_)
                      · skip
                        refine w_aln rfl ?_
                        refine w_gs ?_
                        intro a21 ga21
                        have ga21 : G a21 = (909050, 0) := ga21
                        refine w_acne (fun c22 => ?_) (fun c22 => ?_)
                        · skip
                          refine w_aln rfl ?_
                          refine w_ic ?_
                          refine w_cv (st := []) rfl gtp rfl (Nat.le_of_ble_eq_true rfl) (fun kk h => h) (r_X7_refuse (d := d + 4) hA hS (by decide) (fun MF23 F23 => ?_))
                          exact w_iret (fun _ => Or.inl rfl) (h10 _ F23)
                        · exact absurd (Option.some.inj c22) (hn_ne gw ga21 (by decide))
                      · exact absurd (Option.some.inj c20) (hn_ne gw ga19 (by decide))
                    · exact absurd (Option.some.inj c18) (hn_ne gw ga17 (by decide))
                  · exfalso; omega
                · exact absurd (Option.some.inj c15) (hn_ne gw ga14 (by decide))
        · exact absurd (Option.some.inj c7) (hn_ne gw ga6 (by decide))
      · exact absurd (Option.some.inj c5) (hn_ne gw ga4 (by decide))
    · exact absurd (Option.some.inj c3) (hn_ne gw ga2 (by decide))
  · cases c1
set_option maxHeartbeats 8000000 in
theorem r_row_20 {G : mj_G} {M0 M : mj_M} {B : Nat → Int} {n lim tp bc pl na ta ba wa oa : Nat} {tr br : Nat → Nat} {T : Nat → Nat × Nat × Int × List Int × Nat} {PL WA OA : Nat → Int} {TO BI : Nat → Nat → Int} {nm : Nat → List Int} {Q : mj_P} {d q : Nat} (hA : rv_AT G M0 B n lim tp bc pl na ta ba wa oa tr br T) (hS : rv_S G M0 n lim tp pl na wa oa tr br (T q) PL WA OA TO BI nm M) (hqn : q ≤ n) (hb : rv_pb PL) {w : Nat} (gw : G w = (920050, 0)) (e9 : M.2.2 tp 9 = some w) (h10 : ∀ M', rv_F tp pl na wa oa tr br M0 1 (T q).2.1 M' → Q (some (.inl 0)) G M') : mj_R mj_tab (d + 6) 43 [.inr (.inr (some pl)), .inr (.inr (some tp))] G M Q := by
  obtain ⟨⟨gtp, gbc, gpl, gna, gta, gba, gwa, goa, gtr, gbr, itr, ibr, r1, r2, r3, r4, r5, r6, r7, r8, rb, rw0, n1, n2, hIw⟩, hT⟩ := id hA
  refine ⟨Nat.le_of_ble_eq_true rfl, ?_⟩
  show wz (d + 5) mt_X3_readRow.2.2.2.2.1 Q mt_X3_readRow.2.2.2.2.1 [some (.inr (.inr (some pl))), some (.inr (.inr (some tp))), none] [] G M _ _
  refine w_aln rfl ?_
  refine w_gr gtp rfl (by decide) rfl (e9) ?_
  refine w_asn ?_
  show wz _ _ _ _ [some (.inr (.inr (some pl))), some (.inr (.inr (some tp))), some (.inr (.inr (some w)))] _ _ _ _ _
  refine w_aln rfl ?_
  refine w_ifnn (fun c1 => ?_) (fun c1 => ?_)
  · skip
    refine w_aln rfl ?_
    refine w_gs ?_
    intro a2 ga2
    have ga2 : G a2 = (900050, 0) := ga2
    refine w_acne (fun c3 => ?_) (fun c3 => ?_)
    · skip
      refine w_aln rfl ?_
      refine w_gs ?_
      intro a4 ga4
      have ga4 : G a4 = (901050, 0) := ga4
      refine w_acne (fun c5 => ?_) (fun c5 => ?_)
      · skip
        refine w_aln rfl ?_
        refine w_gs ?_
        intro a6 ga6
        have ga6 : G a6 = (902050, 0) := ga6
        refine w_acne (fun c7 => ?_) (fun c7 => ?_)
        · skip
          refine w_aln rfl ?_
          refine w_cv (st := []) rfl gw rfl (Nat.le_of_ble_eq_true rfl) (fun kk h => h) ⟨Nat.le_of_ble_eq_true rfl, ?_⟩
          show wz (d + 4) mt_X9_isAboutTown.2.2.2.2.1 _ mt_X9_isAboutTown.2.2.2.2.1 [some (.inr (.inr (some w)))] [] _ _ _ _
          refine w_aln rfl ?_
          refine w_gs ?_
          intro a8 ga8
          have ga8 : G a8 = (903050, 0) := ga8
          refine w_aceq (fun c9 => ?_) (fun c9 => ?_)
          · exact absurd (Option.some.inj c9) (hn_ne gw ga8 (by decide))
          · skip
            refine w_aln rfl ?_
            refine w_gs ?_
            intro a10 ga10
            have ga10 : G a10 = (904050, 0) := ga10
            refine w_aceq (fun c11 => ?_) (fun c11 => ?_)
            · exact absurd (Option.some.inj c11) (hn_ne gw ga10 (by decide))
            · skip
              refine w_aln rfl ?_
              refine w_gs ?_
              intro a12 ga12
              have ga12 : G a12 = (905050, 0) := ga12
              refine w_aceq (fun c13 => ?_) (fun c13 => ?_)
              · exact absurd (Option.some.inj c13) (hn_ne gw ga12 (by decide))
              · skip
                refine w_aln rfl ?_
                refine w_gs ?_
                intro a14 ga14
                have ga14 : G a14 = (906050, 0) := ga14
                refine w_acne (fun c15 => ?_) (fun c15 => ?_)
                · skip
                  refine w_ic ?_
                  refine w_iret (fun _ => Or.inl rfl) ?_
                  refine w_ifeq (fun c16 => ?_) (fun c16 => ?_)
                  · skip
                    refine w_aln rfl ?_
                    refine w_gs ?_
                    intro a17 ga17
                    have ga17 : G a17 = (907050, 0) := ga17
                    refine w_acne (fun c18 => ?_) (fun c18 => ?_)
                    · skip
                      refine w_aln rfl ?_
                      refine w_gs ?_
                      intro a19 ga19
                      have ga19 : G a19 = (908050, 0) := ga19
                      refine w_acne (fun c20 => ?_) (fun c20 => ?_)
                      · skip
                        refine w_aln rfl ?_
                        refine w_gs ?_
                        intro a21 ga21
                        have ga21 : G a21 = (909050, 0) := ga21
                        refine w_acne (fun c22 => ?_) (fun c22 => ?_)
                        · skip
                          refine w_aln rfl ?_
                          refine w_ic ?_
                          refine w_cv (st := []) rfl gtp rfl (Nat.le_of_ble_eq_true rfl) (fun kk h => h) (r_X7_refuse (d := d + 4) hA hS (by decide) (fun MF23 F23 => ?_))
                          exact w_iret (fun _ => Or.inl rfl) (h10 _ F23)
                        · exact absurd (Option.some.inj c22) (hn_ne gw ga21 (by decide))
                      · exact absurd (Option.some.inj c20) (hn_ne gw ga19 (by decide))
                    · exact absurd (Option.some.inj c18) (hn_ne gw ga17 (by decide))
                  · exfalso; omega
                · exact absurd (Option.some.inj c15) (hn_ne gw ga14 (by decide))
        · exact absurd (Option.some.inj c7) (hn_ne gw ga6 (by decide))
      · exact absurd (Option.some.inj c5) (hn_ne gw ga4 (by decide))
    · exact absurd (Option.some.inj c3) (hn_ne gw ga2 (by decide))
  · cases c1
set_option maxHeartbeats 8000000 in
theorem r_row_21 {G : mj_G} {M0 M : mj_M} {B : Nat → Int} {n lim tp bc pl na ta ba wa oa : Nat} {tr br : Nat → Nat} {T : Nat → Nat × Nat × Int × List Int × Nat} {PL WA OA : Nat → Int} {TO BI : Nat → Nat → Int} {nm : Nat → List Int} {Q : mj_P} {d q : Nat} (hA : rv_AT G M0 B n lim tp bc pl na ta ba wa oa tr br T) (hS : rv_S G M0 n lim tp pl na wa oa tr br (T q) PL WA OA TO BI nm M) (hqn : q ≤ n) (hb : rv_pb PL) {w : Nat} (gw : G w = (921050, 0)) (e9 : M.2.2 tp 9 = some w) (h10 : ∀ M', rv_F tp pl na wa oa tr br M0 1 (T q).2.1 M' → Q (some (.inl 0)) G M') : mj_R mj_tab (d + 6) 43 [.inr (.inr (some pl)), .inr (.inr (some tp))] G M Q := by
  obtain ⟨⟨gtp, gbc, gpl, gna, gta, gba, gwa, goa, gtr, gbr, itr, ibr, r1, r2, r3, r4, r5, r6, r7, r8, rb, rw0, n1, n2, hIw⟩, hT⟩ := id hA
  refine ⟨Nat.le_of_ble_eq_true rfl, ?_⟩
  show wz (d + 5) mt_X3_readRow.2.2.2.2.1 Q mt_X3_readRow.2.2.2.2.1 [some (.inr (.inr (some pl))), some (.inr (.inr (some tp))), none] [] G M _ _
  refine w_aln rfl ?_
  refine w_gr gtp rfl (by decide) rfl (e9) ?_
  refine w_asn ?_
  show wz _ _ _ _ [some (.inr (.inr (some pl))), some (.inr (.inr (some tp))), some (.inr (.inr (some w)))] _ _ _ _ _
  refine w_aln rfl ?_
  refine w_ifnn (fun c1 => ?_) (fun c1 => ?_)
  · skip
    refine w_aln rfl ?_
    refine w_gs ?_
    intro a2 ga2
    have ga2 : G a2 = (900050, 0) := ga2
    refine w_acne (fun c3 => ?_) (fun c3 => ?_)
    · skip
      refine w_aln rfl ?_
      refine w_gs ?_
      intro a4 ga4
      have ga4 : G a4 = (901050, 0) := ga4
      refine w_acne (fun c5 => ?_) (fun c5 => ?_)
      · skip
        refine w_aln rfl ?_
        refine w_gs ?_
        intro a6 ga6
        have ga6 : G a6 = (902050, 0) := ga6
        refine w_acne (fun c7 => ?_) (fun c7 => ?_)
        · skip
          refine w_aln rfl ?_
          refine w_cv (st := []) rfl gw rfl (Nat.le_of_ble_eq_true rfl) (fun kk h => h) ⟨Nat.le_of_ble_eq_true rfl, ?_⟩
          show wz (d + 4) mt_X9_isAboutTown.2.2.2.2.1 _ mt_X9_isAboutTown.2.2.2.2.1 [some (.inr (.inr (some w)))] [] _ _ _ _
          refine w_aln rfl ?_
          refine w_gs ?_
          intro a8 ga8
          have ga8 : G a8 = (903050, 0) := ga8
          refine w_aceq (fun c9 => ?_) (fun c9 => ?_)
          · exact absurd (Option.some.inj c9) (hn_ne gw ga8 (by decide))
          · skip
            refine w_aln rfl ?_
            refine w_gs ?_
            intro a10 ga10
            have ga10 : G a10 = (904050, 0) := ga10
            refine w_aceq (fun c11 => ?_) (fun c11 => ?_)
            · exact absurd (Option.some.inj c11) (hn_ne gw ga10 (by decide))
            · skip
              refine w_aln rfl ?_
              refine w_gs ?_
              intro a12 ga12
              have ga12 : G a12 = (905050, 0) := ga12
              refine w_aceq (fun c13 => ?_) (fun c13 => ?_)
              · exact absurd (Option.some.inj c13) (hn_ne gw ga12 (by decide))
              · skip
                refine w_aln rfl ?_
                refine w_gs ?_
                intro a14 ga14
                have ga14 : G a14 = (906050, 0) := ga14
                refine w_acne (fun c15 => ?_) (fun c15 => ?_)
                · skip
                  refine w_ic ?_
                  refine w_iret (fun _ => Or.inl rfl) ?_
                  refine w_ifeq (fun c16 => ?_) (fun c16 => ?_)
                  · skip
                    refine w_aln rfl ?_
                    refine w_gs ?_
                    intro a17 ga17
                    have ga17 : G a17 = (907050, 0) := ga17
                    refine w_acne (fun c18 => ?_) (fun c18 => ?_)
                    · skip
                      refine w_aln rfl ?_
                      refine w_gs ?_
                      intro a19 ga19
                      have ga19 : G a19 = (908050, 0) := ga19
                      refine w_acne (fun c20 => ?_) (fun c20 => ?_)
                      · skip
                        refine w_aln rfl ?_
                        refine w_gs ?_
                        intro a21 ga21
                        have ga21 : G a21 = (909050, 0) := ga21
                        refine w_acne (fun c22 => ?_) (fun c22 => ?_)
                        · skip
                          refine w_aln rfl ?_
                          refine w_ic ?_
                          refine w_cv (st := []) rfl gtp rfl (Nat.le_of_ble_eq_true rfl) (fun kk h => h) (r_X7_refuse (d := d + 4) hA hS (by decide) (fun MF23 F23 => ?_))
                          exact w_iret (fun _ => Or.inl rfl) (h10 _ F23)
                        · exact absurd (Option.some.inj c22) (hn_ne gw ga21 (by decide))
                      · exact absurd (Option.some.inj c20) (hn_ne gw ga19 (by decide))
                    · exact absurd (Option.some.inj c18) (hn_ne gw ga17 (by decide))
                  · exfalso; omega
                · exact absurd (Option.some.inj c15) (hn_ne gw ga14 (by decide))
        · exact absurd (Option.some.inj c7) (hn_ne gw ga6 (by decide))
      · exact absurd (Option.some.inj c5) (hn_ne gw ga4 (by decide))
    · exact absurd (Option.some.inj c3) (hn_ne gw ga2 (by decide))
  · cases c1
set_option maxHeartbeats 8000000 in
theorem r_row_22 {G : mj_G} {M0 M : mj_M} {B : Nat → Int} {n lim tp bc pl na ta ba wa oa : Nat} {tr br : Nat → Nat} {T : Nat → Nat × Nat × Int × List Int × Nat} {PL WA OA : Nat → Int} {TO BI : Nat → Nat → Int} {nm : Nat → List Int} {Q : mj_P} {d q : Nat} (hA : rv_AT G M0 B n lim tp bc pl na ta ba wa oa tr br T) (hS : rv_S G M0 n lim tp pl na wa oa tr br (T q) PL WA OA TO BI nm M) (hqn : q ≤ n) (hb : rv_pb PL) {w : Nat} (gw : G w = (922050, 0)) (e9 : M.2.2 tp 9 = some w) (h10 : ∀ M', rv_F tp pl na wa oa tr br M0 1 (T q).2.1 M' → Q (some (.inl 0)) G M') : mj_R mj_tab (d + 6) 43 [.inr (.inr (some pl)), .inr (.inr (some tp))] G M Q := by
  obtain ⟨⟨gtp, gbc, gpl, gna, gta, gba, gwa, goa, gtr, gbr, itr, ibr, r1, r2, r3, r4, r5, r6, r7, r8, rb, rw0, n1, n2, hIw⟩, hT⟩ := id hA
  refine ⟨Nat.le_of_ble_eq_true rfl, ?_⟩
  show wz (d + 5) mt_X3_readRow.2.2.2.2.1 Q mt_X3_readRow.2.2.2.2.1 [some (.inr (.inr (some pl))), some (.inr (.inr (some tp))), none] [] G M _ _
  refine w_aln rfl ?_
  refine w_gr gtp rfl (by decide) rfl (e9) ?_
  refine w_asn ?_
  show wz _ _ _ _ [some (.inr (.inr (some pl))), some (.inr (.inr (some tp))), some (.inr (.inr (some w)))] _ _ _ _ _
  refine w_aln rfl ?_
  refine w_ifnn (fun c1 => ?_) (fun c1 => ?_)
  · skip
    refine w_aln rfl ?_
    refine w_gs ?_
    intro a2 ga2
    have ga2 : G a2 = (900050, 0) := ga2
    refine w_acne (fun c3 => ?_) (fun c3 => ?_)
    · skip
      refine w_aln rfl ?_
      refine w_gs ?_
      intro a4 ga4
      have ga4 : G a4 = (901050, 0) := ga4
      refine w_acne (fun c5 => ?_) (fun c5 => ?_)
      · skip
        refine w_aln rfl ?_
        refine w_gs ?_
        intro a6 ga6
        have ga6 : G a6 = (902050, 0) := ga6
        refine w_acne (fun c7 => ?_) (fun c7 => ?_)
        · skip
          refine w_aln rfl ?_
          refine w_cv (st := []) rfl gw rfl (Nat.le_of_ble_eq_true rfl) (fun kk h => h) ⟨Nat.le_of_ble_eq_true rfl, ?_⟩
          show wz (d + 4) mt_X9_isAboutTown.2.2.2.2.1 _ mt_X9_isAboutTown.2.2.2.2.1 [some (.inr (.inr (some w)))] [] _ _ _ _
          refine w_aln rfl ?_
          refine w_gs ?_
          intro a8 ga8
          have ga8 : G a8 = (903050, 0) := ga8
          refine w_aceq (fun c9 => ?_) (fun c9 => ?_)
          · exact absurd (Option.some.inj c9) (hn_ne gw ga8 (by decide))
          · skip
            refine w_aln rfl ?_
            refine w_gs ?_
            intro a10 ga10
            have ga10 : G a10 = (904050, 0) := ga10
            refine w_aceq (fun c11 => ?_) (fun c11 => ?_)
            · exact absurd (Option.some.inj c11) (hn_ne gw ga10 (by decide))
            · skip
              refine w_aln rfl ?_
              refine w_gs ?_
              intro a12 ga12
              have ga12 : G a12 = (905050, 0) := ga12
              refine w_aceq (fun c13 => ?_) (fun c13 => ?_)
              · exact absurd (Option.some.inj c13) (hn_ne gw ga12 (by decide))
              · skip
                refine w_aln rfl ?_
                refine w_gs ?_
                intro a14 ga14
                have ga14 : G a14 = (906050, 0) := ga14
                refine w_acne (fun c15 => ?_) (fun c15 => ?_)
                · skip
                  refine w_ic ?_
                  refine w_iret (fun _ => Or.inl rfl) ?_
                  refine w_ifeq (fun c16 => ?_) (fun c16 => ?_)
                  · skip
                    refine w_aln rfl ?_
                    refine w_gs ?_
                    intro a17 ga17
                    have ga17 : G a17 = (907050, 0) := ga17
                    refine w_acne (fun c18 => ?_) (fun c18 => ?_)
                    · skip
                      refine w_aln rfl ?_
                      refine w_gs ?_
                      intro a19 ga19
                      have ga19 : G a19 = (908050, 0) := ga19
                      refine w_acne (fun c20 => ?_) (fun c20 => ?_)
                      · skip
                        refine w_aln rfl ?_
                        refine w_gs ?_
                        intro a21 ga21
                        have ga21 : G a21 = (909050, 0) := ga21
                        refine w_acne (fun c22 => ?_) (fun c22 => ?_)
                        · skip
                          refine w_aln rfl ?_
                          refine w_ic ?_
                          refine w_cv (st := []) rfl gtp rfl (Nat.le_of_ble_eq_true rfl) (fun kk h => h) (r_X7_refuse (d := d + 4) hA hS (by decide) (fun MF23 F23 => ?_))
                          exact w_iret (fun _ => Or.inl rfl) (h10 _ F23)
                        · exact absurd (Option.some.inj c22) (hn_ne gw ga21 (by decide))
                      · exact absurd (Option.some.inj c20) (hn_ne gw ga19 (by decide))
                    · exact absurd (Option.some.inj c18) (hn_ne gw ga17 (by decide))
                  · exfalso; omega
                · exact absurd (Option.some.inj c15) (hn_ne gw ga14 (by decide))
        · exact absurd (Option.some.inj c7) (hn_ne gw ga6 (by decide))
      · exact absurd (Option.some.inj c5) (hn_ne gw ga4 (by decide))
    · exact absurd (Option.some.inj c3) (hn_ne gw ga2 (by decide))
  · cases c1
set_option maxHeartbeats 8000000 in
theorem r_row_23 {G : mj_G} {M0 M : mj_M} {B : Nat → Int} {n lim tp bc pl na ta ba wa oa : Nat} {tr br : Nat → Nat} {T : Nat → Nat × Nat × Int × List Int × Nat} {PL WA OA : Nat → Int} {TO BI : Nat → Nat → Int} {nm : Nat → List Int} {Q : mj_P} {d q : Nat} (hA : rv_AT G M0 B n lim tp bc pl na ta ba wa oa tr br T) (hS : rv_S G M0 n lim tp pl na wa oa tr br (T q) PL WA OA TO BI nm M) (hqn : q ≤ n) (hb : rv_pb PL) {w : Nat} (gw : G w = (923050, 0)) (e9 : M.2.2 tp 9 = some w) (h10 : ∀ M', rv_F tp pl na wa oa tr br M0 1 (T q).2.1 M' → Q (some (.inl 0)) G M') : mj_R mj_tab (d + 6) 43 [.inr (.inr (some pl)), .inr (.inr (some tp))] G M Q := by
  obtain ⟨⟨gtp, gbc, gpl, gna, gta, gba, gwa, goa, gtr, gbr, itr, ibr, r1, r2, r3, r4, r5, r6, r7, r8, rb, rw0, n1, n2, hIw⟩, hT⟩ := id hA
  refine ⟨Nat.le_of_ble_eq_true rfl, ?_⟩
  show wz (d + 5) mt_X3_readRow.2.2.2.2.1 Q mt_X3_readRow.2.2.2.2.1 [some (.inr (.inr (some pl))), some (.inr (.inr (some tp))), none] [] G M _ _
  refine w_aln rfl ?_
  refine w_gr gtp rfl (by decide) rfl (e9) ?_
  refine w_asn ?_
  show wz _ _ _ _ [some (.inr (.inr (some pl))), some (.inr (.inr (some tp))), some (.inr (.inr (some w)))] _ _ _ _ _
  refine w_aln rfl ?_
  refine w_ifnn (fun c1 => ?_) (fun c1 => ?_)
  · skip
    refine w_aln rfl ?_
    refine w_gs ?_
    intro a2 ga2
    have ga2 : G a2 = (900050, 0) := ga2
    refine w_acne (fun c3 => ?_) (fun c3 => ?_)
    · skip
      refine w_aln rfl ?_
      refine w_gs ?_
      intro a4 ga4
      have ga4 : G a4 = (901050, 0) := ga4
      refine w_acne (fun c5 => ?_) (fun c5 => ?_)
      · skip
        refine w_aln rfl ?_
        refine w_gs ?_
        intro a6 ga6
        have ga6 : G a6 = (902050, 0) := ga6
        refine w_acne (fun c7 => ?_) (fun c7 => ?_)
        · skip
          refine w_aln rfl ?_
          refine w_cv (st := []) rfl gw rfl (Nat.le_of_ble_eq_true rfl) (fun kk h => h) ⟨Nat.le_of_ble_eq_true rfl, ?_⟩
          show wz (d + 4) mt_X9_isAboutTown.2.2.2.2.1 _ mt_X9_isAboutTown.2.2.2.2.1 [some (.inr (.inr (some w)))] [] _ _ _ _
          refine w_aln rfl ?_
          refine w_gs ?_
          intro a8 ga8
          have ga8 : G a8 = (903050, 0) := ga8
          refine w_aceq (fun c9 => ?_) (fun c9 => ?_)
          · exact absurd (Option.some.inj c9) (hn_ne gw ga8 (by decide))
          · skip
            refine w_aln rfl ?_
            refine w_gs ?_
            intro a10 ga10
            have ga10 : G a10 = (904050, 0) := ga10
            refine w_aceq (fun c11 => ?_) (fun c11 => ?_)
            · exact absurd (Option.some.inj c11) (hn_ne gw ga10 (by decide))
            · skip
              refine w_aln rfl ?_
              refine w_gs ?_
              intro a12 ga12
              have ga12 : G a12 = (905050, 0) := ga12
              refine w_aceq (fun c13 => ?_) (fun c13 => ?_)
              · exact absurd (Option.some.inj c13) (hn_ne gw ga12 (by decide))
              · skip
                refine w_aln rfl ?_
                refine w_gs ?_
                intro a14 ga14
                have ga14 : G a14 = (906050, 0) := ga14
                refine w_acne (fun c15 => ?_) (fun c15 => ?_)
                · skip
                  refine w_ic ?_
                  refine w_iret (fun _ => Or.inl rfl) ?_
                  refine w_ifeq (fun c16 => ?_) (fun c16 => ?_)
                  · skip
                    refine w_aln rfl ?_
                    refine w_gs ?_
                    intro a17 ga17
                    have ga17 : G a17 = (907050, 0) := ga17
                    refine w_acne (fun c18 => ?_) (fun c18 => ?_)
                    · skip
                      refine w_aln rfl ?_
                      refine w_gs ?_
                      intro a19 ga19
                      have ga19 : G a19 = (908050, 0) := ga19
                      refine w_acne (fun c20 => ?_) (fun c20 => ?_)
                      · skip
                        refine w_aln rfl ?_
                        refine w_gs ?_
                        intro a21 ga21
                        have ga21 : G a21 = (909050, 0) := ga21
                        refine w_acne (fun c22 => ?_) (fun c22 => ?_)
                        · skip
                          refine w_aln rfl ?_
                          refine w_ic ?_
                          refine w_cv (st := []) rfl gtp rfl (Nat.le_of_ble_eq_true rfl) (fun kk h => h) (r_X7_refuse (d := d + 4) hA hS (by decide) (fun MF23 F23 => ?_))
                          exact w_iret (fun _ => Or.inl rfl) (h10 _ F23)
                        · exact absurd (Option.some.inj c22) (hn_ne gw ga21 (by decide))
                      · exact absurd (Option.some.inj c20) (hn_ne gw ga19 (by decide))
                    · exact absurd (Option.some.inj c18) (hn_ne gw ga17 (by decide))
                  · exfalso; omega
                · exact absurd (Option.some.inj c15) (hn_ne gw ga14 (by decide))
        · exact absurd (Option.some.inj c7) (hn_ne gw ga6 (by decide))
      · exact absurd (Option.some.inj c5) (hn_ne gw ga4 (by decide))
    · exact absurd (Option.some.inj c3) (hn_ne gw ga2 (by decide))
  · cases c1
theorem r_X3_readRow {G : mj_G} {M0 M : mj_M} {B : Nat → Int} {n lim tp bc pl na ta ba wa oa : Nat} {tr br : Nat → Nat} {T : Nat → Nat × Nat × Int × List Int × Nat} {PL WA OA : Nat → Int} {TO BI : Nat → Nat → Int} {nm : Nat → List Int} {Q : mj_P} {d q : Nat} (hA : rv_AT G M0 B n lim tp bc pl na ta ba wa oa tr br T) (hS : rv_S G M0 n lim tp pl na wa oa tr br (T q) PL WA OA TO BI nm M) (hqn : q ≤ n) (hb : rv_pb PL) (h : sp_row T PL WA OA TO BI nm q (fun f a => ∀ M', rv_F tp pl na wa oa tr br M0 f a M' → Q (some (.inl 0)) G M') (fun PL WA OA TO BI nm q' => q ≤ q' → q' ≤ n → rv_pb PL → ∀ M', rv_S G M0 n lim tp pl na wa oa tr br (T q') PL WA OA TO BI nm M' → Q (some (.inl 1)) G M')) : mj_R mj_tab (d + 6) 43 [.inr (.inr (some pl)), .inr (.inr (some tp))] G M Q := by
  obtain ⟨k4, k5, k11, k6, k7, k8, k9⟩ := id hS.2.1
  by_cases c : (T q).1 = 1
  · rcases (k8 c).2 with ⟨j, w, j1, j2, gw, e9⟩ | ⟨j1, e9⟩
    · obtain ⟨h0, h1, h2, h3, h4, h5, h6, h7, h8, h9, h10⟩ := h.1 j j1 c (rv_5i (rv_rs_o j j1) (rv_x_wo hA hqn c) ((rv_rs_5 j j1).trans j2))
      have hj : j = 0 ∨ j = 1 ∨ j = 2 ∨ j = 3 ∨ j = 4 ∨ j = 5 ∨ j = 6 ∨ j = 7 ∨ j = 8 ∨ j = 9 ∨ j = 10 ∨ j = 11 ∨ j = 12 ∨ j = 13 ∨ j = 14 ∨ j = 15 ∨ j = 16 ∨ j = 17 ∨ j = 18 ∨ j = 19 ∨ j = 20 ∨ j = 21 ∨ j = 22 ∨ j = 23 := by omega
      rcases hj with rfl | rfl | rfl | rfl | rfl | rfl | rfl | rfl | rfl | rfl | rfl | rfl | rfl | rfl | rfl | rfl | rfl | rfl | rfl | rfl | rfl | rfl | rfl | rfl
      · exact r_row_0 hA hS hqn hb gw e9 (fun _ => h0 rfl)
      · exact r_row_1 hA hS hqn hb gw e9 (fun _ => h1 rfl)
      · exact r_row_2 hA hS hqn hb gw e9 (fun _ => h2 rfl)
      · exact r_row_3 hA hS hqn hb gw e9 (fun _ => h3 rfl)
      · exact r_row_4 hA hS hqn hb gw e9 (fun _ => h4 rfl)
      · exact r_row_5 hA hS hqn hb gw e9 (fun _ => h5 rfl)
      · exact r_row_6 hA hS hqn hb gw e9 (fun _ => h6 rfl)
      · exact r_row_7 hA hS hqn hb gw e9 (fun _ => h7 rfl)
      · exact r_row_8 hA hS hqn hb gw e9 (fun _ => h8 rfl)
      · exact r_row_9 hA hS hqn hb gw e9 (fun _ => h9 rfl)
      · exact r_row_10 hA hS hqn hb gw e9 (h10 (by decide))
      · exact r_row_11 hA hS hqn hb gw e9 (h10 (by decide))
      · exact r_row_12 hA hS hqn hb gw e9 (h10 (by decide))
      · exact r_row_13 hA hS hqn hb gw e9 (h10 (by decide))
      · exact r_row_14 hA hS hqn hb gw e9 (h10 (by decide))
      · exact r_row_15 hA hS hqn hb gw e9 (h10 (by decide))
      · exact r_row_16 hA hS hqn hb gw e9 (h10 (by decide))
      · exact r_row_17 hA hS hqn hb gw e9 (h10 (by decide))
      · exact r_row_18 hA hS hqn hb gw e9 (h10 (by decide))
      · exact r_row_19 hA hS hqn hb gw e9 (h10 (by decide))
      · exact r_row_20 hA hS hqn hb gw e9 (h10 (by decide))
      · exact r_row_21 hA hS hqn hb gw e9 (h10 (by decide))
      · exact r_row_22 hA hS hqn hb gw e9 (h10 (by decide))
      · exact r_row_23 hA hS hqn hb gw e9 (h10 (by decide))
    · exact r_row_n hA hS hqn hb e9 (h.2 (fun g => g.2 ((rv_nam5 (rv_x_wo hA hqn c)).mpr j1)))
  · exact r_row_n hA hS hqn hb (k9 c) (h.2 (fun g => c g.1))
theorem r_X7_finish {G : mj_G} {M0 M : mj_M} {B : Nat → Int} {n lim tp bc pl na ta ba wa oa : Nat} {tr br : Nat → Nat} {T : Nat → Nat × Nat × Int × List Int × Nat} {PL WA OA : Nat → Int} {TO BI : Nat → Nat → Int} {nm : Nat → List Int} {Q : mj_P} {d q : Nat} (hA : rv_AT G M0 B n lim tp bc pl na ta ba wa oa tr br T) (hS : rv_S G M0 n lim tp pl na wa oa tr br (T q) PL WA OA TO BI nm M) (h0 : (T q).1 = 0 → Q (some (.inl 1)) G M) (h5 : (T q).1 = 5 → ∀ M', rv_F tp pl na wa oa tr br M0 1 (T q).2.1 M' → Q (some (.inl 0)) G M') (hc : (T q).1 = 0 ∨ (T q).1 = 5) : mj_R mj_tab (d + 2) 70 [.inr (.inr (some tp))] G M Q := by
  obtain ⟨⟨gtp, gbc, gpl, gna, gta, gba, gwa, goa, gtr, gbr, itr, ibr, r1, r2, r3, r4, r5, r6, r7, r8, rb, rw0, n1, n2, hIw⟩, hT⟩ := id hA
  obtain ⟨k4, k5, k11, k6, k7, k8, k9⟩ := id hS.2.1
  have ht := rv_T_0 (B := B) (n := n) (lim := lim) (p := q)
  rw [← hT] at ht
  refine ⟨Nat.le_of_ble_eq_true rfl, ?_⟩
  show wz (d + 1) mt_X7_finish.2.2.2.2.1 Q mt_X7_finish.2.2.2.2.1 [some (.inr (.inr (some tp)))] [] G M _ _
  refine w_aln rfl ?_
  refine w_gi gtp rfl (by decide) rfl rfl ?_
  refine w_ifne (fun c => by exfalso; omega) (fun c => ?_)
  refine w_aln rfl ?_
  refine w_gi gtp rfl (by decide) rfl hS.1.1 ?_
  refine w_aln rfl ?_
  refine w_gi gtp rfl (by decide) rfl hS.1.2.1 ?_
  refine w_cmle (fun c2 => ?_) (fun c2 => ?_)
  · refine w_ic ?_
    refine w_goto ?_
    refine w_iret (fun _ => Or.inr rfl) (h0 ?_)
    rcases hc with e | e
    · exact e
    · have := ht.2 e; exfalso; omega
  · refine w_aln rfl ?_
    refine w_ic ?_
    refine w_cv (st := []) rfl gtp rfl (Nat.le_of_ble_eq_true rfl) (fun kk h => h) (r_X7_refuse (d := d) hA hS (by decide) (fun M' F => ?_))
    refine w_ifeq (fun c => ?_) (fun c => absurd rfl c)
    refine w_ic ?_
    refine w_iret (fun _ => Or.inl rfl) (h5 ?_ M' F)
    rcases hc with e | e
    · have := ht.1 e; exfalso; omega
    · exact e
/-- rows to the end of a text; r have been read, T q is the token now -/
def sp_rows (T : Nat → Nat × Nat × Int × List Int × Nat) (Kf : Int → Nat → Prop) (Ko : (Nat → Int) → (Nat → Int) → (Nat → Int) → (Nat → Nat → Int) → (Nat → Nat → Int) → (Nat → List Int) → Nat → Prop) : Nat → (Nat → Int) → (Nat → Int) → (Nat → Int) → (Nat → Nat → Int) → (Nat → Nat → Int) → (Nat → List Int) → Nat → Nat → Prop
  | 0, _, _, _, _, _, _, _, _ => True
  | f + 1, PL, WA, OA, TO, BI, nm, r, q => ((T q).1 = 0 → Ko PL WA OA TO BI nm r) ∧ ((T q).1 = 5 → Kf 1 (T q).2.1) ∧ ((T q).1 ≠ 0 → (T q).1 ≠ 5 → sp_row T PL WA OA TO BI nm q Kf (fun PL' WA' OA' TO' BI' nm' q' => sp_sgn T 59 (rv_x T q') Kf (sp_rows T Kf Ko f PL' WA' OA' TO' BI' nm' (r + 1) (rv_x T (rv_x T q')))))
theorem r_rows1 {G : mj_G} {M0 : mj_M} {B : Nat → Int} {n lim tp bc pl na ta ba wa oa : Nat} {tr br : Nat → Nat} {T : Nat → Nat × Nat × Int × List Int × Nat} {Q : mj_P} {d : Nat} (hA : rv_AT G M0 B n lim tp bc pl na ta ba wa oa tr br T) : ∀ (f q r : Nat) (PL WA OA : Nat → Int) (TO BI : Nat → Nat → Int) (nm : Nat → List Int) (M : mj_M) (cb sb : Nat), n < q + f → q ≤ n → r ≤ q → rv_pb PL → rv_S G M0 n lim tp pl na wa oa tr br (T q) PL WA OA TO BI nm M → sp_rows T (fun f a => ∀ z M', rv_F tp pl na wa oa tr br M0 f a M' → Q (some (.inl z)) G M') (fun PL WA OA TO BI nm r => rv_pb PL → ∀ q' M', rv_S G M0 n lim tp pl na wa oa tr br (T q') PL WA OA TO BI nm M' → Q (some (.inl (r : Int))) G M') f PL WA OA TO BI nm r q → wz (d + 6) mt_X3_readRows.2.2.2.2.1 Q (mt_X3_readRows.2.2.2.2.1.drop 4) [some (.inr (.inr (some pl))), some (.inr (.inr (some tp))), some (.inl (r : Int))] [] G M cb sb := by
  obtain ⟨⟨gtp, gbc, gpl, gna, gta, gba, gwa, goa, gtr, gbr, itr, ibr, r1, r2, r3, r4, r5, r6, r7, r8, rb, rw0, n1, n2, hIw⟩, hT⟩ := id hA
  intro f
  induction f with
  | zero => intro q r PL WA OA TO BI nm M cb sb g1 g2 g3; exfalso; omega
  | succ f ih =>
    intro q r PL WA OA TO BI nm M cb sb g1 g2 g3 hb hS h
    obtain ⟨k4, -⟩ := id hS.2.1
    obtain ⟨h0, h5, hr⟩ := h
    have hw := rv_x_w hA g2
    refine w_aln rfl ?_
    refine w_gi gtp rfl (by decide) rfl rfl ?_
    refine w_ifeq (fun c => ?_) (fun c => ?_)
    · refine w_aln rfl ?_
      refine w_cv (st := []) rfl gtp rfl (Nat.le_of_ble_eq_true rfl) (fun kk h => h) (r_X7_finish (d := d + 4) hA hS (fun e => ?_) (fun e M' F => ?_) (by omega))
      · refine w_pop ?_
        refine w_iln rfl ?_
        exact w_iret (fun q => by cases q) (h0 e hb q M hS)
      · refine w_pop ?_
        refine w_iln rfl ?_
        exact w_iret (fun q => by cases q) (h5 e _ M' F)
    · have e0 : (T q).1 ≠ 0 := by omega
      have e5 : (T q).1 ≠ 5 := by omega
      have hlt := hw.2.2.2.1 e0 e5
      have hle := hw.2.2.2.2.2
      refine w_iln rfl ?_
      refine w_sp ?_
      refine w_cmge (fun c2 => by exfalso; omega) (fun c2 => ?_)
      refine w_aln rfl ?_
      refine w_aln rfl ?_
      refine w_cv (st := []) rfl gpl rfl (Nat.le_of_ble_eq_true rfl) (fun kk h => h) (r_X3_readRow (d := d) hA hS g2 hb ((hr e0 e5).mono (fun f a hf M1 F1 => ?_) (fun PL1 WA1 OA1 TO1 BI1 nm1 q1 hk1 g4 g5 hb1 M1 s1 => ?_)))
      · refine w_ifeq (fun _ => ?_) (fun c => absurd rfl c)
        refine w_iln rfl ?_
        exact w_iret (fun q => by cases q) (hf _ M1 F1)
      · refine w_ifeq (fun c => absurd c (by decide)) (fun _ => ?_)
        refine w_aln rfl ?_
        refine w_bp ?_
        refine w_cv (st := []) rfl gtp rfl (Nat.le_of_ble_eq_true rfl) (fun kk h => h) (r_X7_nextSign (d := d + 2) hA s1 g5 (hk1.mono (fun f a hf M2 F2 => ?_) (fun e3 hk2 M2 s2 => ?_)))
        · refine w_ifne (fun c => absurd rfl c) (fun _ => ?_)
          refine w_iln rfl ?_
          exact w_iret (fun q => by cases q) (hf _ M2 F2)
        · refine w_ifne (fun _ => ?_) (fun c => absurd c (by decide))
          refine w_ii rfl ⟨by omega, by omega⟩ ?_
          refine w_aln rfl ?_
          have g6 := rv_x_le hA g5
          have g7 := rv_x_ge hA g5
          have g8 := (rv_x_w hA g6).2.2.2.1 (by omega) (by omega)
          have g9 := rv_x_le hA g6
          refine w_cv (st := []) rfl gtp rfl (Nat.le_of_ble_eq_true rfl) (fun kk h => h) (r_adv2 (d := d + 3) hA s2 g6 (fun M3 s3 => ?_))
          refine w_goto ?_
          exact ih (rv_x T (rv_x T q1)) (r + 1) PL1 WA1 OA1 TO1 BI1 nm1 M3 _ _ (by unfold rv_x at *; omega) g9 (by unfold rv_x at *; omega) hb1 s3 hk2
end
section
/-! ===== the class's clear (laid by a program) ===== -/
def rv_C (M0 : mj_M) (pl na wa oa : Nat) (tr br : Nat → Nat) (PL WA OA : Nat → Int) (TO BI : Nat → Nat → Int) (NA : Nat → Int64) (M : mj_M) : Prop :=
  M.1 pl = PL ∧ M.1 wa = WA ∧ M.1 oa = OA ∧ (∀ s, s < 8 → M.1 (tr s) = TO s) ∧ (∀ s, s < 8 → M.1 (br s) = BI s) ∧ M.2.1 na = NA ∧ (∀ a, a ≠ pl → a ≠ wa → a ≠ oa → (∀ t, t < 8 → a ≠ tr t) → (∀ t, t < 8 → a ≠ br t) → M.1 a = M0.1 a) ∧ (∀ a, a ≠ na → M.2.1 a = M0.2.1 a) ∧ M.2.2 = M0.2.2
def rv_upl (f : Nat → Int64) (j : Nat) (v : Int64) : Nat → Int64 := fun k => if k = j then v else f k
theorem rv_C.ppl {G : mj_G} {M0 M : mj_M} {B : Nat → Int} {n lim tp bc pl na ta ba wa oa : Nat} {tr br : Nat → Nat} {PL WA OA : Nat → Int} {TO BI : Nat → Nat → Int} {NA : Nat → Int64} {j : Nat} {v : Int} (hA : rv_A G M0 B n lim tp bc pl na ta ba wa oa tr br) (h : rv_C M0 pl na wa oa tr br PL WA OA TO BI NA M) : rv_C M0 pl na wa oa tr br (rv_up PL j v) WA OA TO BI NA (mj_p0 M pl j v) := by
  obtain ⟨gtp, gbc, gpl, gna, gta, gba, gwa, goa, gtr, gbr, itr, ibr, -⟩ := hA
  obtain ⟨h5, h6, h7, h8, h9, h10, f1, f2, f3⟩ := h
  exact ⟨wz_u.trans (by rw [h5]), (wz_c (hn_ne gwa gpl (by decide))).trans h6, (wz_c (hn_ne goa gpl (by decide))).trans h7, fun s hs => (wz_c (hn_ne (gtr s hs) gpl (by decide))).trans (h8 s hs), fun s hs => (wz_c (hn_ne (gbr s hs) gpl (by decide))).trans (h9 s hs), h10, fun a a2 a3 a4 a5 a6 => (wz_c a2).trans (f1 a a2 a3 a4 a5 a6), f2, f3⟩
theorem rv_C.pwa {G : mj_G} {M0 M : mj_M} {B : Nat → Int} {n lim tp bc pl na ta ba wa oa : Nat} {tr br : Nat → Nat} {PL WA OA : Nat → Int} {TO BI : Nat → Nat → Int} {NA : Nat → Int64} {j : Nat} {v : Int} (hA : rv_A G M0 B n lim tp bc pl na ta ba wa oa tr br) (h : rv_C M0 pl na wa oa tr br PL WA OA TO BI NA M) : rv_C M0 pl na wa oa tr br PL (rv_up WA j v) OA TO BI NA (mj_p0 M wa j v) := by
  obtain ⟨gtp, gbc, gpl, gna, gta, gba, gwa, goa, gtr, gbr, itr, ibr, -⟩ := hA
  obtain ⟨h5, h6, h7, h8, h9, h10, f1, f2, f3⟩ := h
  exact ⟨(wz_c (hn_ne gpl gwa (by decide))).trans h5, wz_u.trans (by rw [h6]), (wz_c (hn_ne goa gwa (by decide))).trans h7, fun s hs => (wz_c (hn_ne (gtr s hs) gwa (by decide))).trans (h8 s hs), fun s hs => (wz_c (hn_ne (gbr s hs) gwa (by decide))).trans (h9 s hs), h10, fun a a2 a3 a4 a5 a6 => (wz_c a3).trans (f1 a a2 a3 a4 a5 a6), f2, f3⟩
theorem rv_C.poa {G : mj_G} {M0 M : mj_M} {B : Nat → Int} {n lim tp bc pl na ta ba wa oa : Nat} {tr br : Nat → Nat} {PL WA OA : Nat → Int} {TO BI : Nat → Nat → Int} {NA : Nat → Int64} {j : Nat} {v : Int} (hA : rv_A G M0 B n lim tp bc pl na ta ba wa oa tr br) (h : rv_C M0 pl na wa oa tr br PL WA OA TO BI NA M) : rv_C M0 pl na wa oa tr br PL WA (rv_up OA j v) TO BI NA (mj_p0 M oa j v) := by
  obtain ⟨gtp, gbc, gpl, gna, gta, gba, gwa, goa, gtr, gbr, itr, ibr, -⟩ := hA
  obtain ⟨h5, h6, h7, h8, h9, h10, f1, f2, f3⟩ := h
  exact ⟨(wz_c (hn_ne gpl goa (by decide))).trans h5, (wz_c (hn_ne gwa goa (by decide))).trans h6, wz_u.trans (by rw [h7]), fun s hs => (wz_c (hn_ne (gtr s hs) goa (by decide))).trans (h8 s hs), fun s hs => (wz_c (hn_ne (gbr s hs) goa (by decide))).trans (h9 s hs), h10, fun a a2 a3 a4 a5 a6 => (wz_c a4).trans (f1 a a2 a3 a4 a5 a6), f2, f3⟩
theorem rv_C.ptr {G : mj_G} {M0 M : mj_M} {B : Nat → Int} {n lim tp bc pl na ta ba wa oa : Nat} {tr br : Nat → Nat} {PL WA OA : Nat → Int} {TO BI : Nat → Nat → Int} {NA : Nat → Int64} {j q : Nat} {v : Int} (hA : rv_A G M0 B n lim tp bc pl na ta ba wa oa tr br) (h : rv_C M0 pl na wa oa tr br PL WA OA TO BI NA M) (hq : q < 8) : rv_C M0 pl na wa oa tr br PL WA OA (rv_up2 TO q j v) BI NA (mj_p0 M (tr q) j v) := by
  obtain ⟨gtp, gbc, gpl, gna, gta, gba, gwa, goa, gtr, gbr, itr, ibr, -⟩ := hA
  obtain ⟨h5, h6, h7, h8, h9, h10, f1, f2, f3⟩ := h
  exact ⟨(wz_c (hn_ne gpl (gtr q hq) (by decide))).trans h5, (wz_c (hn_ne gwa (gtr q hq) (by decide))).trans h6, (wz_c (hn_ne goa (gtr q hq) (by decide))).trans h7, fun s hs => by
    by_cases c : s = q
    · rw [c, wz_u, h8 q hq]; exact (if_pos rfl).symm
    · rw [wz_c (fun e => c (itr s q hs hq e)), h8 s hs]; exact (if_neg c).symm, fun s hs => (wz_c (hn_ne (gbr s hs) (gtr q hq) (by decide))).trans (h9 s hs), h10, fun a a2 a3 a4 a5 a6 => (wz_c (a5 q hq)).trans (f1 a a2 a3 a4 a5 a6), f2, f3⟩
theorem rv_C.pbr {G : mj_G} {M0 M : mj_M} {B : Nat → Int} {n lim tp bc pl na ta ba wa oa : Nat} {tr br : Nat → Nat} {PL WA OA : Nat → Int} {TO BI : Nat → Nat → Int} {NA : Nat → Int64} {j q : Nat} {v : Int} (hA : rv_A G M0 B n lim tp bc pl na ta ba wa oa tr br) (h : rv_C M0 pl na wa oa tr br PL WA OA TO BI NA M) (hq : q < 8) : rv_C M0 pl na wa oa tr br PL WA OA TO (rv_up2 BI q j v) NA (mj_p0 M (br q) j v) := by
  obtain ⟨gtp, gbc, gpl, gna, gta, gba, gwa, goa, gtr, gbr, itr, ibr, -⟩ := hA
  obtain ⟨h5, h6, h7, h8, h9, h10, f1, f2, f3⟩ := h
  exact ⟨(wz_c (hn_ne gpl (gbr q hq) (by decide))).trans h5, (wz_c (hn_ne gwa (gbr q hq) (by decide))).trans h6, (wz_c (hn_ne goa (gbr q hq) (by decide))).trans h7, fun s hs => (wz_c (hn_ne (gtr s hs) (gbr q hq) (by decide))).trans (h8 s hs), fun s hs => by
    by_cases c : s = q
    · rw [c, wz_u, h9 q hq]; exact (if_pos rfl).symm
    · rw [wz_c (fun e => c (ibr s q hs hq e)), h9 s hs]; exact (if_neg c).symm, h10, fun a a2 a3 a4 a5 a6 => (wz_c (a6 q hq)).trans (f1 a a2 a3 a4 a5 a6), f2, f3⟩
theorem rv_C.pna {M0 M : mj_M} {pl na wa oa : Nat} {tr br : Nat → Nat} {PL WA OA : Nat → Int} {TO BI : Nat → Nat → Int} {NA : Nat → Int64} {j : Nat} {v : Int64} (h : rv_C M0 pl na wa oa tr br PL WA OA TO BI NA M) : rv_C M0 pl na wa oa tr br PL WA OA TO BI (rv_upl NA j v) (mj_p1 M na j v) := by
  obtain ⟨h5, h6, h7, h8, h9, h10, f1, f2, f3⟩ := h
  refine ⟨h5, h6, h7, h8, h9, funext fun k => ?_, f1, fun a a1 => (funext fun k => wz_nl (Or.inl a1)).trans (f2 a a1), f3⟩
  show (if na = na ∧ k = j then v else M.2.1 na k) = if k = j then v else NA k
  by_cases c : k = j
  · rw [if_pos ⟨rfl, c⟩, if_pos c]
  · rw [if_neg (fun q => c q.2), if_neg c, h10]
theorem rv_up2_s {f : Nat → Nat → Int} {t j : Nat} {v : Int} : rv_up2 f t j v t j = v := by unfold rv_up2; rw [if_pos rfl]; exact rv_up_s
theorem rv_up2_n {f : Nat → Nat → Int} {t j k : Nat} {v : Int} (h : k ≠ j) : rv_up2 f t j v t k = f t k := by unfold rv_up2; rw [if_pos rfl]; exact rv_up_n h
theorem rv_up2_o {f : Nat → Nat → Int} {s t j : Nat} {v : Int} (h : s ≠ t) : rv_up2 f t j v s = f s := if_neg h
theorem r_clr_to {G : mj_G} {M0 : mj_M} {B : Nat → Int} {n lim tp bc pl na ta ba wa oa : Nat} {tr br : Nat → Nat} {PL WA OA : Nat → Int} {BI : Nat → Nat → Int} {NA : Nat → Int64} {d : Nat} {Q : mj_P} {t : Nat} (hA : rv_A G M0 B n lim tp bc pl na ta ba wa oa tr br) (ht : t < 8) : ∀ (f k : Nat) (TO : Nat → Nat → Int) (M : mj_M) (cb sb : Nat), k + f = 9 → rv_C M0 pl na wa oa tr br PL WA OA TO BI NA M → (∀ TO' M', rv_C M0 pl na wa oa tr br PL WA OA TO' BI NA M' → (∀ s, s ≠ t → TO' s = TO s) → (∀ w, k ≤ w → w < 9 → TO' t w = 0) → (∀ w, w < k → TO' t w = TO t w) → wz d mt_X3_clear.2.2.2.2.1 Q (mt_X3_clear.2.2.2.2.1.drop 29) [some (.inr (.inr (some pl))), some (.inl (t : Int)), some (.inl 9)] [] G M' cb sb) → wz d mt_X3_clear.2.2.2.2.1 Q (mt_X3_clear.2.2.2.2.1.drop 17) [some (.inr (.inr (some pl))), some (.inl (t : Int)), some (.inl (k : Int))] [] G M cb sb := by
  have hA1 := hA
  obtain ⟨gtp, gbc, gpl, gna, gta, gba, gwa, goa, gtr, gbr, itr, ibr, r1, r2, r3, r4, r5, r6, r7, r8, -⟩ := hA
  intro f
  induction f with
  | zero =>
    intro k TO M cb sb hk hC kk
    have e : k = 9 := by omega
    subst e
    refine w_iln rfl ?_
    refine w_bp ?_
    refine w_cmge (fun c => ?_) (fun c => by exfalso; omega)
    exact kk TO M hC (fun _ _ => rfl) (fun w h1 h2 => by omega) (fun _ _ => rfl)
  | succ f ih =>
    intro k TO M cb sb hk hC kk
    refine w_iln rfl ?_
    refine w_bp ?_
    refine w_cmge (fun c => by exfalso; omega) (fun c => ?_)
    refine w_aln rfl ?_
    refine w_gr gpl rfl (by decide) rfl (by rw [hC.2.2.2.2.2.2.2.2]; exact r3) ?_
    refine w_iln rfl ?_
    refine w_aald (b := tr t) gta rfl (by omega) (by show (t : Int) < ((8 : Nat) : Int); omega) (by rw [hC.2.2.2.2.2.2.2.2]; exact r7 t ht) ?_
    refine w_iln rfl ?_
    refine w_ic ?_
    refine w_iast (gtr t ht) rfl (by decide) (by omega) (by show (k : Int) < ((9 : Nat) : Int); omega) ?_
    have s1 := hC.ptr (j := ((k : Int)).toNat) (q := t) (v := 0) hA1 ht
    refine w_ii rfl ⟨by omega, by omega⟩ ?_
    refine w_goto ?_
    refine ih (k + 1) _ _ _ _ (by omega) s1 (fun F' M' hC' e1 e2 e3 => kk F' M' hC' (fun s hs => (e1 s hs).trans (rv_up2_o hs)) (fun w h1 h2 => ?_) (fun w hw => (e3 w (by omega)).trans (rv_up2_n (by omega))))
    rcases Nat.lt_or_ge k w with q | q
    · exact e2 w (by omega) h2
    · rw [e3 w (by omega), show w = k by omega]; exact rv_up2_s
theorem r_clr_bi {G : mj_G} {M0 : mj_M} {B : Nat → Int} {n lim tp bc pl na ta ba wa oa : Nat} {tr br : Nat → Nat} {PL WA OA : Nat → Int} {TO : Nat → Nat → Int} {NA : Nat → Int64} {d : Nat} {Q : mj_P} {t : Nat} (hA : rv_A G M0 B n lim tp bc pl na ta ba wa oa tr br) (ht : t < 8) : ∀ (f k : Nat) (BI : Nat → Nat → Int) (M : mj_M) (cb sb : Nat), k + f = 12 → rv_C M0 pl na wa oa tr br PL WA OA TO BI NA M → (∀ BI' M', rv_C M0 pl na wa oa tr br PL WA OA TO BI' NA M' → (∀ s, s ≠ t → BI' s = BI s) → (∀ w, k ≤ w → w < 12 → BI' t w = 0) → (∀ w, w < k → BI' t w = BI t w) → wz d mt_X3_clear.2.2.2.2.1 Q (mt_X3_clear.2.2.2.2.1.drop 43) [some (.inr (.inr (some pl))), some (.inl (t : Int)), some (.inl 12)] [] G M' cb sb) → wz d mt_X3_clear.2.2.2.2.1 Q (mt_X3_clear.2.2.2.2.1.drop 31) [some (.inr (.inr (some pl))), some (.inl (t : Int)), some (.inl (k : Int))] [] G M cb sb := by
  have hA1 := hA
  obtain ⟨gtp, gbc, gpl, gna, gta, gba, gwa, goa, gtr, gbr, itr, ibr, r1, r2, r3, r4, r5, r6, r7, r8, -⟩ := hA
  intro f
  induction f with
  | zero =>
    intro k BI M cb sb hk hC kk
    have e : k = 12 := by omega
    subst e
    refine w_iln rfl ?_
    refine w_bp ?_
    refine w_cmge (fun c => ?_) (fun c => by exfalso; omega)
    exact kk BI M hC (fun _ _ => rfl) (fun w h1 h2 => by omega) (fun _ _ => rfl)
  | succ f ih =>
    intro k BI M cb sb hk hC kk
    refine w_iln rfl ?_
    refine w_bp ?_
    refine w_cmge (fun c => by exfalso; omega) (fun c => ?_)
    refine w_aln rfl ?_
    refine w_gr gpl rfl (by decide) rfl (by rw [hC.2.2.2.2.2.2.2.2]; exact r4) ?_
    refine w_iln rfl ?_
    refine w_aald (b := br t) gba rfl (by omega) (by show (t : Int) < ((8 : Nat) : Int); omega) (by rw [hC.2.2.2.2.2.2.2.2]; exact r8 t ht) ?_
    refine w_iln rfl ?_
    refine w_ic ?_
    refine w_iast (gbr t ht) rfl (by decide) (by omega) (by show (k : Int) < ((12 : Nat) : Int); omega) ?_
    have s1 := hC.pbr (j := ((k : Int)).toNat) (q := t) (v := 0) hA1 ht
    refine w_ii rfl ⟨by omega, by omega⟩ ?_
    refine w_goto ?_
    refine ih (k + 1) _ _ _ _ (by omega) s1 (fun F' M' hC' e1 e2 e3 => kk F' M' hC' (fun s hs => (e1 s hs).trans (rv_up2_o hs)) (fun w h1 h2 => ?_) (fun w hw => (e3 w (by omega)).trans (rv_up2_n (by omega))))
    rcases Nat.lt_or_ge k w with q | q
    · exact e2 w (by omega) h2
    · rw [e3 w (by omega), show w = k by omega]; exact rv_up2_s
theorem r_clr_out {G : mj_G} {M0 : mj_M} {B : Nat → Int} {n lim tp bc pl na ta ba wa oa : Nat} {tr br : Nat → Nat} {PL WA : Nat → Int} {d : Nat} {Q : mj_P} (hA : rv_A G M0 B n lim tp bc pl na ta ba wa oa tr br) : ∀ (f t : Nat) (OA : Nat → Int) (TO BI : Nat → Nat → Int) (NA : Nat → Int64) (M : mj_M) (v2 : Option mj_V) (cb sb : Nat), t + f = 8 → rv_C M0 pl na wa oa tr br PL WA OA TO BI NA M → (∀ OA' TO' BI' NA' M' v2, rv_C M0 pl na wa oa tr br PL WA OA' TO' BI' NA' M' → (∀ s, t ≤ s → s < 8 → NA' s = 0 ∧ OA' s = 0 ∧ (∀ w, w < 9 → TO' s w = 0) ∧ (∀ w, w < 12 → BI' s w = 0)) → (∀ s, s < t → NA' s = NA s ∧ OA' s = OA s ∧ TO' s = TO s ∧ BI' s = BI s) → wz d mt_X3_clear.2.2.2.2.1 Q (mt_X3_clear.2.2.2.2.1.drop 45) [some (.inr (.inr (some pl))), some (.inl 8), v2] [] G M' cb sb) → wz d mt_X3_clear.2.2.2.2.1 Q (mt_X3_clear.2.2.2.2.1.drop 2) [some (.inr (.inr (some pl))), some (.inl (t : Int)), v2] [] G M cb sb := by
  have hA1 := hA
  obtain ⟨gtp, gbc, gpl, gna, gta, gba, gwa, goa, gtr, gbr, itr, ibr, r1, r2, r3, r4, r5, r6, r7, r8, -⟩ := hA
  intro f
  induction f with
  | zero =>
    intro t OA TO BI NA M v2 cb sb hk hC kk
    have e : t = 8 := by omega
    subst e
    refine w_iln rfl ?_
    refine w_bp ?_
    refine w_cmge (fun c => ?_) (fun c => by exfalso; omega)
    exact kk OA TO BI NA M v2 hC (fun s h1 h2 => by omega) (fun s hs => ⟨rfl, rfl, rfl, rfl⟩)
  | succ f ih =>
    intro t OA TO BI NA M v2 cb sb hk hC kk
    have ht : t < 8 := by omega
    refine w_iln rfl ?_
    refine w_bp ?_
    refine w_cmge (fun c => by exfalso; omega) (fun c => ?_)
    refine w_aln rfl ?_
    refine w_gr gpl rfl (by decide) rfl (by rw [hC.2.2.2.2.2.2.2.2]; exact r2) ?_
    refine w_iln rfl ?_
    refine w_lc ?_
    refine w_last gna rfl (by decide) (by omega) (by show (t : Int) < ((8 : Nat) : Int); omega) ?_
    have s1 := hC.pna (j := ((t : Int)).toNat) (v := (Int64.ofNat (0 : Fin 2).val))
    refine w_aln rfl ?_
    refine w_gr gpl rfl (by decide) rfl (by rw [s1.2.2.2.2.2.2.2.2]; exact r6) ?_
    refine w_iln rfl ?_
    refine w_ic ?_
    refine w_iast goa rfl (by decide) (by omega) (by show (t : Int) < ((8 : Nat) : Int); omega) ?_
    have s2 := s1.poa (j := ((t : Int)).toNat) (v := 0) hA1
    refine w_ic ?_
    refine w_isn ?_
    refine r_clr_to hA1 ht 9 0 _ _ _ _ (by omega) s2 (fun TO1 M1 s3 d1 d2 d3 => ?_)
    refine w_ic ?_
    refine w_isn ?_
    refine r_clr_bi hA1 ht 12 0 _ _ _ _ (by omega) s3 (fun BI1 M2 s4 e1 e2 e3 => ?_)
    refine w_ii rfl ⟨by omega, by omega⟩ ?_
    refine w_goto ?_
    refine ih (t + 1) _ _ _ _ _ _ _ _ (by omega) s4 (fun OA' TO' BI' NA' M' v2' hC' z1 z2 => kk OA' TO' BI' NA' M' v2' hC' (fun s h1 h2 => ?_) (fun s hs => ?_))
    · rcases Nat.lt_or_ge t s with q | q
      · exact z1 s (by omega) h2
      · have e : s = t := by omega
        obtain ⟨y1, y2, y3, y4⟩ := z2 s (by omega)
        rw [y1, y2, y3, y4, e]
        refine ⟨?_, rv_up_s, fun w hw => d2 w (Nat.zero_le _) hw, fun w hw => e2 w (Nat.zero_le _) hw⟩
        show (if t = ((t : Int)).toNat then _ else _) = _
        rw [if_pos (by omega)]; rfl
    · obtain ⟨y1, y2, y3, y4⟩ := z2 s (by omega)
      rw [y1, y2, y3, y4]
      refine ⟨?_, rv_up_n (by omega), d1 s (by omega), e1 s (by omega)⟩
      show (if s = ((t : Int)).toNat then _ else _) = _
      rw [if_neg (by omega)]
theorem r_clr_wa {G : mj_G} {M0 : mj_M} {B : Nat → Int} {n lim tp bc pl na ta ba wa oa : Nat} {tr br : Nat → Nat} {PL OA : Nat → Int} {TO BI : Nat → Nat → Int} {NA : Nat → Int64} {d : Nat} {Q : mj_P} (hA : rv_A G M0 B n lim tp bc pl na ta ba wa oa tr br) {v2 : Option mj_V} : ∀ (f k : Nat) (WA : Nat → Int) (M : mj_M) (cb sb : Nat), k + f = 12 → rv_C M0 pl na wa oa tr br PL WA OA TO BI NA M → (∀ WA' M', rv_C M0 pl na wa oa tr br PL WA' OA TO BI NA M' → (∀ w, k ≤ w → w < 12 → WA' w = 0) → (∀ w, w < k → WA' w = WA w) → wz d mt_X3_clear.2.2.2.2.1 Q (mt_X3_clear.2.2.2.2.1.drop 57) [some (.inr (.inr (some pl))), some (.inl 12), v2] [] G M' cb sb) → wz d mt_X3_clear.2.2.2.2.1 Q (mt_X3_clear.2.2.2.2.1.drop 47) [some (.inr (.inr (some pl))), some (.inl (k : Int)), v2] [] G M cb sb := by
  have hA1 := hA
  obtain ⟨gtp, gbc, gpl, gna, gta, gba, gwa, goa, gtr, gbr, itr, ibr, r1, r2, r3, r4, r5, r6, r7, r8, -⟩ := hA
  intro f
  induction f with
  | zero =>
    intro k WA M cb sb hk hC kk
    have e : k = 12 := by omega
    subst e
    refine w_iln rfl ?_
    refine w_bp ?_
    refine w_cmge (fun c => ?_) (fun c => by exfalso; omega)
    exact kk WA M hC (fun w h1 h2 => by omega) (fun _ _ => rfl)
  | succ f ih =>
    intro k WA M cb sb hk hC kk
    refine w_iln rfl ?_
    refine w_bp ?_
    refine w_cmge (fun c => by exfalso; omega) (fun c => ?_)
    refine w_aln rfl ?_
    refine w_gr gpl rfl (by decide) rfl (by rw [hC.2.2.2.2.2.2.2.2]; exact r5) ?_
    refine w_iln rfl ?_
    refine w_ic ?_
    refine w_iast gwa rfl (by decide) (by omega) (by show (k : Int) < ((12 : Nat) : Int); omega) ?_
    have s1 := hC.pwa (j := ((k : Int)).toNat) (v := 0) hA1
    refine w_ii rfl ⟨by omega, by omega⟩ ?_
    refine w_goto ?_
    refine ih (k + 1) _ _ _ _ (by omega) s1 (fun F' M' hC' e2 e3 => kk F' M' hC' (fun w h1 h2 => ?_) (fun w hw => (e3 w (by omega)).trans (rv_up_n (by omega))))
    rcases Nat.lt_or_ge k w with q | q
    · exact e2 w (by omega) h2
    · rw [e3 w (by omega), show w = k by omega]; exact rv_up_s
/-- all is cleared -/
def rv_0 (PL WA OA : Nat → Int) (TO BI : Nat → Nat → Int) (NA : Nat → Int64) : Prop := (∀ s, s < 8 → NA s = 0 ∧ OA s = 0 ∧ (∀ w, w < 9 → TO s w = 0) ∧ (∀ w, w < 12 → BI s w = 0)) ∧ (∀ w, w < 12 → WA w = 0) ∧ PL 4 = 0 ∧ PL 5 = 0 ∧ PL 6 = 0 ∧ PL 7 = 0 ∧ PL 8 = 3 ∧ PL 11 = 0 ∧ PL 12 = 0 ∧ PL 13 = 0 ∧ PL 14 = 0
theorem r_X3_clear {G : mj_G} {M0 M : mj_M} {B : Nat → Int} {n lim tp bc pl na ta ba wa oa : Nat} {tr br : Nat → Nat} {PL WA OA : Nat → Int} {TO BI : Nat → Nat → Int} {NA : Nat → Int64} {d : Nat} {Q : mj_P} (hA : rv_A G M0 B n lim tp bc pl na ta ba wa oa tr br) (hC : rv_C M0 pl na wa oa tr br PL WA OA TO BI NA M) (hQ : ∀ PL WA OA TO BI NA M', rv_C M0 pl na wa oa tr br PL WA OA TO BI NA M' → rv_0 PL WA OA TO BI NA → Q none G M') : mj_R mj_tab (d + 1) 31 [.inr (.inr (some pl))] G M Q := by
  have hA1 := hA
  obtain ⟨gtp, gbc, gpl, gna, gta, gba, gwa, goa, gtr, gbr, itr, ibr, r1, r2, r3, r4, r5, r6, r7, r8, -⟩ := hA
  refine ⟨Nat.le_of_ble_eq_true rfl, ?_⟩
  show wz d mt_X3_clear.2.2.2.2.1 Q mt_X3_clear.2.2.2.2.1 [some (.inr (.inr (some pl))), none, none] [] G M _ _
  refine w_ic ?_
  refine w_isn ?_
  refine r_clr_out hA1 8 0 OA TO BI NA M _ _ _ (by omega) hC (fun OA1 TO1 BI1 NA1 M1 v2 s0 z1 _ => ?_)
  refine w_ic ?_
  refine w_isn ?_
  refine r_clr_wa hA1 12 0 WA M1 _ _ (by omega) s0 (fun WA1 M2 s1 z2 _ => ?_)
  refine w_aln rfl ?_
  refine w_ic ?_
  refine w_pi gpl rfl (by decide) rfl (fun q => by cases q) ?_
  have s2 := s1.ppl (j := 4) (v := 0) hA1
  refine w_aln rfl ?_
  refine w_ic ?_
  refine w_pi gpl rfl (by decide) rfl (fun q => by cases q) ?_
  have s3 := s2.ppl (j := 5) (v := 0) hA1
  refine w_aln rfl ?_
  refine w_ic ?_
  refine w_pi gpl rfl (by decide) rfl (fun q => by cases q) ?_
  have s4 := s3.ppl (j := 6) (v := 0) hA1
  refine w_aln rfl ?_
  refine w_ic ?_
  refine w_pi gpl rfl (by decide) rfl (fun q => by cases q) ?_
  have s5 := s4.ppl (j := 7) (v := 0) hA1
  refine w_aln rfl ?_
  refine w_ic ?_
  refine w_pi gpl rfl (by decide) rfl (fun q => by cases q) ?_
  have s6 := s5.ppl (j := 8) (v := 3) hA1
  refine w_aln rfl ?_
  refine w_ic ?_
  refine w_pi gpl rfl (by decide) rfl (fun q => by cases q) ?_
  have s7 := s6.ppl (j := 11) (v := 0) hA1
  refine w_aln rfl ?_
  refine w_ic ?_
  refine w_pi gpl rfl (by decide) rfl (fun _ => Or.inl rfl) ?_
  have s8 := s7.ppl (j := 12) (v := 0) hA1
  refine w_aln rfl ?_
  refine w_ic ?_
  refine w_pi gpl rfl (by decide) rfl (fun _ => Or.inl rfl) ?_
  have s9 := s8.ppl (j := 13) (v := 0) hA1
  refine w_aln rfl ?_
  refine w_ic ?_
  refine w_pi gpl rfl (by decide) rfl (fun _ => Or.inl rfl) ?_
  have s10 := s9.ppl (j := 14) (v := 0) hA1
  refine w_ret (hQ _ _ _ _ _ _ _ s10 ⟨fun s hs => z1 s (Nat.zero_le _) hs, fun w hw => z2 w (Nat.zero_le _) hw, (rv_up_n (by decide)).trans ((rv_up_n (by decide)).trans ((rv_up_n (by decide)).trans ((rv_up_n (by decide)).trans ((rv_up_n (by decide)).trans ((rv_up_n (by decide)).trans ((rv_up_n (by decide)).trans ((rv_up_n (by decide)).trans (rv_up_s)))))))), (rv_up_n (by decide)).trans ((rv_up_n (by decide)).trans ((rv_up_n (by decide)).trans ((rv_up_n (by decide)).trans ((rv_up_n (by decide)).trans ((rv_up_n (by decide)).trans ((rv_up_n (by decide)).trans (rv_up_s))))))), (rv_up_n (by decide)).trans ((rv_up_n (by decide)).trans ((rv_up_n (by decide)).trans ((rv_up_n (by decide)).trans ((rv_up_n (by decide)).trans ((rv_up_n (by decide)).trans (rv_up_s)))))), (rv_up_n (by decide)).trans ((rv_up_n (by decide)).trans ((rv_up_n (by decide)).trans ((rv_up_n (by decide)).trans ((rv_up_n (by decide)).trans (rv_up_s))))), (rv_up_n (by decide)).trans ((rv_up_n (by decide)).trans ((rv_up_n (by decide)).trans ((rv_up_n (by decide)).trans (rv_up_s)))), (rv_up_n (by decide)).trans ((rv_up_n (by decide)).trans ((rv_up_n (by decide)).trans (rv_up_s))), (rv_up_n (by decide)).trans ((rv_up_n (by decide)).trans (rv_up_s)), (rv_up_n (by decide)).trans (rv_up_s), rv_up_s⟩)
/-- where CONTRACTS lie -/
def rv_D (G : mj_G) (M : mj_M) (dl fa sa ca : Nat) : Prop := G dl = (1002, 0) ∧ G fa = (16100, 12) ∧ G sa = (17100, 12) ∧ G ca = (18100, 12) ∧ M.2.2 dl 0 = some fa ∧ M.2.2 dl 1 = some sa ∧ M.2.2 dl 2 = some ca
theorem r_clr_d {G : mj_G} {M0 : mj_M} {dl fa sa ca : Nat} {d : Nat} {Q : mj_P} (hD : rv_D G M0 dl fa sa ca) : ∀ (f k : Nat) (M : mj_M) (cb sb : Nat), k + f = 12 → M.2 = M0.2 → (∀ a, a ≠ dl → a ≠ fa → a ≠ sa → a ≠ ca → M.1 a = M0.1 a) → (∀ j, j < k → M.1 fa j = -1 ∧ M.1 sa j = -1 ∧ M.1 ca j = 0) → (∀ M', M'.2 = M0.2 → (∀ a, a ≠ dl → a ≠ fa → a ≠ sa → a ≠ ca → M'.1 a = M0.1 a) → (∀ j, j < 12 → M'.1 fa j = -1 ∧ M'.1 sa j = -1 ∧ M'.1 ca j = 0) → wz d mt_X1_clear.2.2.2.2.1 Q (mt_X1_clear.2.2.2.2.1.drop 22) [some (.inr (.inr (some dl))), some (.inl 12)] [] G M' cb sb) → wz d mt_X1_clear.2.2.2.2.1 Q (mt_X1_clear.2.2.2.2.1.drop 2) [some (.inr (.inr (some dl))), some (.inl (k : Int))] [] G M cb sb := by
  obtain ⟨gd, gf, gs, gc, e1, e2, e3⟩ := hD
  have n1 : fa ≠ sa := hn_ne gf gs (by decide)
  have n2 : fa ≠ ca := hn_ne gf gc (by decide)
  have n3 : sa ≠ ca := hn_ne gs gc (by decide)
  intro f
  induction f with
  | zero =>
    intro k M cb sb hk h2 h1 hz kk
    have e : k = 12 := by omega
    subst e
    refine w_iln rfl ?_
    refine w_bp ?_
    refine w_cmge (fun c => ?_) (fun c => by exfalso; omega)
    exact kk M h2 h1 hz
  | succ f ih =>
    intro k M cb sb hk h2 h1 hz kk
    refine w_iln rfl ?_
    refine w_bp ?_
    refine w_cmge (fun c => by exfalso; omega) (fun c => ?_)
    refine w_aln rfl ?_
    refine w_gr gd rfl (by decide) rfl (by rw [h2]; exact e1) ?_
    refine w_iln rfl ?_
    refine w_ic ?_
    refine w_iast gf rfl (by decide) (by omega) (by show (k : Int) < ((12 : Nat) : Int); omega) ?_
    refine w_aln rfl ?_
    refine w_gr gd rfl (by decide) rfl (by show M.2.2 dl 1 = _; rw [h2]; exact e2) ?_
    refine w_iln rfl ?_
    refine w_ic ?_
    refine w_iast gs rfl (by decide) (by omega) (by show (k : Int) < ((12 : Nat) : Int); omega) ?_
    refine w_aln rfl ?_
    refine w_gr gd rfl (by decide) rfl (by show M.2.2 dl 2 = _; rw [h2]; exact e3) ?_
    refine w_iln rfl ?_
    refine w_ic ?_
    refine w_iast gc rfl (by decide) (by omega) (by show (k : Int) < ((12 : Nat) : Int); omega) ?_
    refine w_ii rfl ⟨by omega, by omega⟩ ?_
    refine w_goto ?_
    refine ih (k + 1) _ _ _ (by omega) h2 (fun a a1 a2 a3 a4 => (wz_c a4).trans ((wz_c a3).trans ((wz_c a2).trans (h1 a a1 a2 a3 a4)))) (fun j hj => ?_) kk
    rw [show ((k : Int)).toNat = k by omega]
    rcases Nat.lt_or_ge j k with q | q
    · have nk : j ≠ k := by omega
      obtain ⟨z1, z2, z3⟩ := hz j q
      exact ⟨(hn_n (Or.inr nk)).trans ((hn_n (Or.inr nk)).trans ((hn_n (Or.inr nk)).trans z1)), (hn_n (Or.inr nk)).trans ((hn_n (Or.inr nk)).trans ((hn_n (Or.inr nk)).trans z2)), (hn_n (Or.inr nk)).trans ((hn_n (Or.inr nk)).trans ((hn_n (Or.inr nk)).trans z3))⟩
    · rw [show j = k by omega]
      exact ⟨(hn_n (Or.inl n2)).trans ((hn_n (Or.inl n1)).trans hn_s), (hn_n (Or.inl n3)).trans hn_s, hn_s⟩
theorem r_X1_clear {G : mj_G} {M : mj_M} {dl fa sa ca : Nat} {d : Nat} {Q : mj_P} (hD : rv_D G M dl fa sa ca) (hQ : ∀ M', M'.2 = M.2 → (∀ a, a ≠ dl → a ≠ fa → a ≠ sa → a ≠ ca → M'.1 a = M.1 a) → (∀ j, j < 12 → M'.1 fa j = -1 ∧ M'.1 sa j = -1 ∧ M'.1 ca j = 0) → M'.1 dl 3 = 0 → Q none G M') : mj_R mj_tab (d + 1) 17 [.inr (.inr (some dl))] G M Q := by
  obtain ⟨gd, gf, gs, gc, -⟩ := id hD
  refine ⟨Nat.le_of_ble_eq_true rfl, ?_⟩
  show wz d mt_X1_clear.2.2.2.2.1 Q mt_X1_clear.2.2.2.2.1 [some (.inr (.inr (some dl))), none] [] G M _ _
  refine w_ic ?_
  refine w_isn ?_
  refine r_clr_d hD 12 0 M _ _ (by omega) rfl (fun _ _ _ _ _ => rfl) (fun j hj => absurd hj (Nat.not_lt_zero j)) (fun M' h2 h1 hz => ?_)
  refine w_aln rfl ?_
  refine w_ic ?_
  refine w_pi gd rfl (by decide) rfl (fun q => by cases q) ?_
  refine w_ret (hQ _ h2 (fun a a1 a2 a3 a4 => (wz_c a1).trans (h1 a a1 a2 a3 a4)) (fun j hj => ?_) hn_s)
  obtain ⟨z1, z2, z3⟩ := hz j hj
  exact ⟨(hn_n (Or.inl (hn_ne gf gd (by decide)))).trans z1, (hn_n (Or.inl (hn_ne gs gd (by decide)))).trans z2, (hn_n (Or.inl (hn_ne gc gd (by decide)))).trans z3⟩
end
section
/-! ===== the class's plain (laid by a program) ===== -/
theorem sp_rows.mono {T : Nat → Nat × Nat × Int × List Int × Nat} {Kf Kf' : Int → Nat → Prop} {Ko Ko' : (Nat → Int) → (Nat → Int) → (Nat → Int) → (Nat → Nat → Int) → (Nat → Nat → Int) → (Nat → List Int) → Nat → Prop} (hf : ∀ f a, Kf f a → Kf' f a) (ho : ∀ PL WA OA TO BI nm r, Ko PL WA OA TO BI nm r → Ko' PL WA OA TO BI nm r) : ∀ (f : Nat) (PL WA OA : Nat → Int) (TO BI : Nat → Nat → Int) (nm : Nat → List Int) (r q : Nat), sp_rows T Kf Ko f PL WA OA TO BI nm r q → sp_rows T Kf' Ko' f PL WA OA TO BI nm r q
  | 0, _, _, _, _, _, _, _, _, _ => trivial
  | f + 1, PL, WA, OA, TO, BI, nm, r, q, h => ⟨fun e => ho _ _ _ _ _ _ _ (h.1 e), fun e => hf _ _ (h.2.1 e), fun e0 e5 => (h.2.2 e0 e5).mono hf (fun PL' WA' OA' TO' BI' nm' q' k => k.mono hf (fun _ k => sp_rows.mono hf ho f _ _ _ _ _ _ _ _ k))⟩
theorem r_X3_readRows {G : mj_G} {M0 M : mj_M} {B : Nat → Int} {n lim tp bc pl na ta ba wa oa : Nat} {tr br : Nat → Nat} {T : Nat → Nat × Nat × Int × List Int × Nat} {PL WA OA : Nat → Int} {TO BI : Nat → Nat → Int} {nm : Nat → List Int} {Q : mj_P} {d : Nat} (hA : rv_AT G M0 B n lim tp bc pl na ta ba wa oa tr br T) (hS : rv_S0 G M0 n lim tp pl na wa oa tr br 0 PL WA OA TO BI nm M) (hb : rv_pb PL) (h : sp_rows T (fun f a => ∀ z M', rv_F tp pl na wa oa tr br M0 f a M' → Q (some (.inl z)) G M') (fun PL WA OA TO BI nm r => rv_pb PL → ∀ q' M', rv_S G M0 n lim tp pl na wa oa tr br (T q') PL WA OA TO BI nm M' → Q (some (.inl (r : Int))) G M') (n + 1) PL WA OA TO BI nm 0 0) : mj_R mj_tab (d + 7) 44 [.inr (.inr (some pl)), .inr (.inr (some tp))] G M Q := by
  have gtp := hA.1.1
  refine ⟨Nat.le_of_ble_eq_true rfl, ?_⟩
  show wz (d + 6) mt_X3_readRows.2.2.2.2.1 Q mt_X3_readRows.2.2.2.2.1 [some (.inr (.inr (some pl))), some (.inr (.inr (some tp))), none] [] G M _ _
  refine w_ic ?_
  refine w_isn ?_
  refine w_aln rfl ?_
  refine w_cv (st := []) rfl gtp rfl (Nat.le_of_ble_eq_true rfl) (fun kk h => h) (r_adv0 (d := d + 3) hA.1 hS (Nat.zero_le n) (fun M1 s1 => ?_))
  rw [← hA.2] at s1
  exact r_rows1 hA (n + 1) 0 0 PL WA OA TO BI nm M1 _ _ (by omega) (Nat.zero_le n) (Nat.le_refl 0) hb s1 h
/-- what a fault at a is answered by -/
def rv_vf (a : Nat) : Int := (Int32.ofInt (-1) - Int32.ofInt (a : Int)).toInt
/-- where the object's parts lie -/
def rv_X (G : mj_G) (M : mj_M) (x tp pl sp nw pn dl fa sa ca se ye ud : Nat) : Prop := (G x = (1011, 0) ∧ G sp = (1007, 0) ∧ G nw = (1007, 0) ∧ G se = (1006, 0) ∧ G ye = (1010, 0) ∧ G ud = (1009, 0) ∧ rv_D G M dl fa sa ca) ∧ M.2.2 x 0 = some tp ∧ M.2.2 x 1 = some nw ∧ M.2.2 x 2 = some sp ∧ M.2.2 x 5 = some ud ∧ M.2.2 sp 0 = some pl ∧ M.2.2 nw 0 = some pn ∧ M.2.2 nw 1 = some dl ∧ M.2.2 nw 2 = some se ∧ M.2.2 nw 3 = some ye
theorem r_pl_F {G : mj_G} {M0 M : mj_M} {B : Nat → Int} {n lim tp bc pl na ta ba wa oa : Nat} {tr br : Nat → Nat} {T : Nat → Nat × Nat × Int × List Int × Nat} {Q : mj_P} {d : Nat} {x sp nw pn dl fa sa ca se ye ud : Nat} {z : Int} (hA : rv_AT G M0 B n lim tp bc pl na ta ba wa oa tr br T) (hX : rv_X G M0 x tp pl sp nw pn dl fa sa ca se ye ud) (hfr : ∀ a j, ¬ (a = tp ∧ j = 9) → M.2.2 a j = M0.2.2 a j) {f : Int} {a : Nat} (f2 : M.1 tp 2 = f) (f0 : f ≠ 0) (f3 : M.1 tp 3 = (a : Int)) (hQ : ∀ M', Q (some (.inl (rv_vf a))) G M') : ∀ cb sb, wz (d + 7) mt_X11_plain.2.2.2.2.1 Q (mt_X11_plain.2.2.2.2.1.drop 14) [some (.inr (.inr (some x))), some (.inr (.inr (some pl))), none] [.inl z] G M cb sb := by
  obtain ⟨⟨gtp, gbc, gpl, gna, gta, gba, gwa, goa, gtr, gbr, itr, ibr, r1, r2, r3, r4, r5, r6, r7, r8, rb, rw0, n1, n2, hIw⟩, hT⟩ := id hA
  obtain ⟨⟨gx, gsp, gnw, gse, gye, gud, hD⟩, x_x0, x_x1, x_x2, x_x5, x_sp0, x_nw0, x_nw1, x_nw2, x_nw3⟩ := id hX
  have gdl := hD.1
  intro cb sb
  refine w_isn ?_
  show wz _ _ _ _ [some (.inr (.inr (some x))), some (.inr (.inr (some pl))), some (.inl z)] _ _ _ _ _
  refine w_aln rfl ?_
  refine w_gr gx rfl (by decide) rfl ((hfr x 0 (fun e => absurd e.1 (hn_ne gx gtp (by decide)))).trans x_x0) ?_
  refine w_gi gtp rfl (by decide) rfl (f2) ?_
  refine w_ifne (fun c1 => ?_) (fun c1 => ?_)
  · skip
    refine w_aln rfl ?_
    refine w_iln rfl ?_
    refine w_cv (st := []) rfl gx rfl (Nat.le_of_ble_eq_true rfl) (fun kk h => h) ⟨Nat.le_of_ble_eq_true rfl, ?_⟩
    show wz (d + 6) mt_X11_closeTape.2.2.2.2.1 _ mt_X11_closeTape.2.2.2.2.1 [some (.inr (.inr (some x))), some (.inl z)] [] _ _ _ _
    refine w_aln rfl ?_
    refine w_gr gx rfl (by decide) rfl ((hfr x 0 (fun e => absurd e.1 (hn_ne gx gtp (by decide)))).trans x_x0) ?_
    refine w_ic ?_
    refine w_pi gtp rfl (by decide) rfl (fun q => by cases q) ?_
    refine w_aln rfl ?_
    refine w_aln rfl ?_
    refine w_gr gx rfl (by decide) rfl ((hfr x 0 (fun e => absurd e.1 (hn_ne gx gtp (by decide)))).trans x_x0) ?_
    refine w_gi gtp rfl (by decide) rfl ((hn_n (Or.inr (by decide))).trans (f2)) ?_
    refine w_pi gx rfl (by decide) rfl (fun q => by cases q) ?_
    refine w_aln rfl ?_
    refine w_gi gx rfl (by decide) rfl (hn_s) ?_
    refine w_ifne (fun c2 => ?_) (fun c2 => ?_)
    · skip
      refine w_ic ?_
      refine w_aln rfl ?_
      refine w_gr gx rfl (by decide) rfl ((hfr x 0 (fun e => absurd e.1 (hn_ne gx gtp (by decide)))).trans x_x0) ?_
      refine w_gi gtp rfl (by decide) rfl ((hn_n (Or.inr (by decide))).trans ((hn_n (Or.inr (by decide))).trans (f3))) ?_
      refine w_subw ?_
      intro z3 hz3 ez3
      refine w_iret (fun q => by cases q) ?_
      have ev : z3 = rv_vf a := ez3
      refine w_iret (fun q => by cases q) ?_
      rw [ev]
      exact hQ _
    · exfalso; omega
  · exfalso; omega
theorem r_pl_O {G : mj_G} {M0 M : mj_M} {B : Nat → Int} {n lim tp bc pl na ta ba wa oa : Nat} {tr br : Nat → Nat} {T : Nat → Nat × Nat × Int × List Int × Nat} {Q : mj_P} {d : Nat} {x sp nw pn dl fa sa ca se ye ud : Nat} {z : Int} (hA : rv_AT G M0 B n lim tp bc pl na ta ba wa oa tr br T) (hX : rv_X G M0 x tp pl sp nw pn dl fa sa ca se ye ud) (hfr : ∀ a j, ¬ (a = tp ∧ j = 9) → M.2.2 a j = M0.2.2 a j) (f2 : M.1 tp 2 = 0) (hQ : ∀ M', Q (some (.inl z)) G M') : ∀ cb sb, wz (d + 7) mt_X11_plain.2.2.2.2.1 Q (mt_X11_plain.2.2.2.2.1.drop 14) [some (.inr (.inr (some x))), some (.inr (.inr (some pl))), none] [.inl z] G M cb sb := by
  obtain ⟨⟨gtp, gbc, gpl, gna, gta, gba, gwa, goa, gtr, gbr, itr, ibr, r1, r2, r3, r4, r5, r6, r7, r8, rb, rw0, n1, n2, hIw⟩, hT⟩ := id hA
  obtain ⟨⟨gx, gsp, gnw, gse, gye, gud, hD⟩, x_x0, x_x1, x_x2, x_x5, x_sp0, x_nw0, x_nw1, x_nw2, x_nw3⟩ := id hX
  have gdl := hD.1
  intro cb sb
  refine w_isn ?_
  show wz _ _ _ _ [some (.inr (.inr (some x))), some (.inr (.inr (some pl))), some (.inl z)] _ _ _ _ _
  refine w_aln rfl ?_
  refine w_gr gx rfl (by decide) rfl ((hfr x 0 (fun e => absurd e.1 (hn_ne gx gtp (by decide)))).trans x_x0) ?_
  refine w_gi gtp rfl (by decide) rfl (f2) ?_
  refine w_ifne (fun c1 => ?_) (fun c1 => ?_)
  · exfalso; omega
  · skip
    refine w_aln rfl ?_
    refine w_dupr ?_
    refine w_gi gx rfl (by decide) rfl (rfl) ?_
    refine w_ic ?_
    refine w_addw ?_
    intro z2 hz2 ez2
    refine w_pi gx rfl (by decide) rfl (fun q => by cases q) ?_
    refine w_aln rfl ?_
    refine w_aln rfl ?_
    refine w_gi gx rfl (by decide) rfl (hn_s) ?_
    refine w_pi gpl rfl (by decide) rfl (fun q => by cases q) ?_
    refine w_aln rfl ?_
    refine w_gr gx rfl (by decide) rfl ((hfr x 2 (fun e => absurd e.1 (hn_ne gx gtp (by decide)))).trans x_x2) ?_
    refine w_aln rfl ?_
    refine w_gr gx rfl (by decide) rfl ((hfr x 1 (fun e => absurd e.1 (hn_ne gx gtp (by decide)))).trans x_x1) ?_
    refine w_gr gnw rfl (by decide) rfl ((hfr nw 0 (fun e => absurd e.1 (hn_ne gnw gtp (by decide)))).trans x_nw0) ?_
    refine w_pr gsp rfl (by decide) rfl ?_
    refine w_aln rfl ?_
    refine w_gr gx rfl (by decide) rfl ((wz_nr (Or.inr (by decide))).trans ((hfr x 1 (fun e => absurd e.1 (hn_ne gx gtp (by decide)))).trans x_x1)) ?_
    refine w_aln rfl ?_
    refine w_pr gnw rfl (by decide) rfl ?_
    refine w_aln rfl ?_
    refine w_gr gx rfl (by decide) rfl ((wz_nr (Or.inr (by decide))).trans ((wz_nr (Or.inr (by decide))).trans ((hfr x 1 (fun e => absurd e.1 (hn_ne gx gtp (by decide)))).trans x_x1))) ?_
    refine w_gr gnw rfl (by decide) rfl ((wz_nr (Or.inr (by decide))).trans ((wz_nr (Or.inr (by decide))).trans ((hfr nw 1 (fun e => absurd e.1 (hn_ne gnw gtp (by decide)))).trans x_nw1))) ?_
    refine w_cv (st := []) rfl gdl rfl (Nat.le_of_ble_eq_true rfl) (fun kk h => h) (r_X1_clear (d := d + 6) (fa := fa) (sa := sa) (ca := ca) ?_ (fun M3 u2 u1 _ _ => ?_))
    · exact ⟨hD.1, hD.2.1, hD.2.2.1, hD.2.2.2.1, (wz_nr (Or.inl (hn_ne hD.1 gnw (by decide)))).trans ((wz_nr (Or.inl (hn_ne hD.1 gsp (by decide)))).trans ((hfr dl 0 (fun e => absurd e.1 (hn_ne hD.1 gtp (by decide)))).trans hD.2.2.2.2.1)), (wz_nr (Or.inl (hn_ne hD.1 gnw (by decide)))).trans ((wz_nr (Or.inl (hn_ne hD.1 gsp (by decide)))).trans ((hfr dl 1 (fun e => absurd e.1 (hn_ne hD.1 gtp (by decide)))).trans hD.2.2.2.2.2.1)), (wz_nr (Or.inl (hn_ne hD.1 gnw (by decide)))).trans ((wz_nr (Or.inl (hn_ne hD.1 gsp (by decide)))).trans ((hfr dl 2 (fun e => absurd e.1 (hn_ne hD.1 gtp (by decide)))).trans hD.2.2.2.2.2.2))⟩
    refine w_aln rfl ?_
    refine w_gr gx rfl (by decide) rfl ((congrFun (congrFun (congrArg Prod.snd u2) x) 1).trans ((wz_nr (Or.inr (by decide))).trans ((wz_nr (Or.inr (by decide))).trans ((hfr x 1 (fun e => absurd e.1 (hn_ne gx gtp (by decide)))).trans x_x1)))) ?_
    refine w_gr gnw rfl (by decide) rfl ((congrFun (congrFun (congrArg Prod.snd u2) nw) 2).trans ((wz_nr (Or.inr (by decide))).trans ((wz_nr (Or.inr (by decide))).trans ((hfr nw 2 (fun e => absurd e.1 (hn_ne gnw gtp (by decide)))).trans x_nw2)))) ?_
    refine w_cv (st := []) rfl gse rfl (Nat.le_of_ble_eq_true rfl) (fun kk h => h) ⟨Nat.le_of_ble_eq_true rfl, ?_⟩
    show wz (d + 6) mt_X5_clear.2.2.2.2.1 _ mt_X5_clear.2.2.2.2.1 [some (.inr (.inr (some se)))] [] _ _ _ _
    refine w_aln rfl ?_
    refine w_ic ?_
    refine w_pi gse rfl (by decide) rfl (fun q => by cases q) ?_
    refine w_aln rfl ?_
    refine w_ic ?_
    refine w_pi gse rfl (by decide) rfl (fun q => by cases q) ?_
    refine w_ret ?_
    refine w_aln rfl ?_
    refine w_gr gx rfl (by decide) rfl ((congrFun (congrFun (congrArg Prod.snd u2) x) 1).trans ((wz_nr (Or.inr (by decide))).trans ((wz_nr (Or.inr (by decide))).trans ((hfr x 1 (fun e => absurd e.1 (hn_ne gx gtp (by decide)))).trans x_x1)))) ?_
    refine w_gr gnw rfl (by decide) rfl ((congrFun (congrFun (congrArg Prod.snd u2) nw) 3).trans ((wz_nr (Or.inr (by decide))).trans ((wz_nr (Or.inr (by decide))).trans ((hfr nw 3 (fun e => absurd e.1 (hn_ne gnw gtp (by decide)))).trans x_nw3)))) ?_
    refine w_ic ?_
    refine w_pi gye rfl (by decide) rfl (fun _ => by omega) ?_
    refine w_aln rfl ?_
    refine w_gr gx rfl (by decide) rfl ((congrFun (congrFun (congrArg Prod.snd u2) x) 5).trans ((wz_nr (Or.inr (by decide))).trans ((wz_nr (Or.inr (by decide))).trans ((hfr x 5 (fun e => absurd e.1 (hn_ne gx gtp (by decide)))).trans x_x5)))) ?_
    refine w_ic ?_
    refine w_pi gud rfl (by decide) rfl (fun q => by cases q) ?_
    refine w_aln rfl ?_
    refine w_iln rfl ?_
    refine w_cv (st := []) rfl gx rfl (Nat.le_of_ble_eq_true rfl) (fun kk h => h) ⟨Nat.le_of_ble_eq_true rfl, ?_⟩
    show wz (d + 6) mt_X11_closeTape.2.2.2.2.1 _ mt_X11_closeTape.2.2.2.2.1 [some (.inr (.inr (some x))), some (.inl z)] [] _ _ _ _
    refine w_aln rfl ?_
    refine w_gr gx rfl (by decide) rfl ((congrFun (congrFun (congrArg Prod.snd u2) x) 0).trans ((wz_nr (Or.inl (hn_ne gx gnw (by decide)))).trans ((wz_nr (Or.inl (hn_ne gx gsp (by decide)))).trans ((hfr x 0 (fun e => absurd e.1 (hn_ne gx gtp (by decide)))).trans x_x0)))) ?_
    refine w_ic ?_
    refine w_pi gtp rfl (by decide) rfl (fun q => by cases q) ?_
    refine w_aln rfl ?_
    refine w_aln rfl ?_
    refine w_gr gx rfl (by decide) rfl ((congrFun (congrFun (congrArg Prod.snd u2) x) 0).trans ((wz_nr (Or.inl (hn_ne gx gnw (by decide)))).trans ((wz_nr (Or.inl (hn_ne gx gsp (by decide)))).trans ((hfr x 0 (fun e => absurd e.1 (hn_ne gx gtp (by decide)))).trans x_x0)))) ?_
    refine w_gi gtp rfl (by decide) rfl ((hn_n (Or.inr (by decide))).trans ((hn_n (Or.inr (by decide))).trans ((hn_n (Or.inr (by decide))).trans ((hn_n (Or.inr (by decide))).trans ((hn_n (Or.inr (by decide))).trans ((congrFun (u1 tp (hn_ne gtp gdl (by decide)) (hn_ne gtp hD.2.1 (by decide)) (hn_ne gtp hD.2.2.1 (by decide)) (hn_ne gtp hD.2.2.2.1 (by decide))) 2).trans ((hn_n (Or.inr (by decide))).trans ((hn_n (Or.inr (by decide))).trans (f2))))))))) ?_
    refine w_pi gx rfl (by decide) rfl (fun q => by cases q) ?_
    refine w_aln rfl ?_
    refine w_gi gx rfl (by decide) rfl (hn_s) ?_
    refine w_ifne (fun c3 => ?_) (fun c3 => ?_)
    · exfalso; omega
    · skip
      refine w_iln rfl ?_
      refine w_goto ?_
      refine w_iret (fun q => by cases q) ?_
      exact w_iret (fun q => by cases q) (hQ _)
theorem r_X11_plain {G : mj_G} {M : mj_M} {B : Nat → Int} {n tp bc pl na ta ba wa oa : Nat} {tr br : Nat → Nat} {T : Nat → Nat × Nat × Int × List Int × Nat} {Q : mj_P} {d : Nat} {x sp nw pn dl fa sa ca se ye ud : Nat} (hA : rv_AT G M B n 900 tp bc pl na ta ba wa oa tr br T) (hX : rv_X G M x tp pl sp nw pn dl fa sa ca se ye ud) (hn : M.1 tp 1 = (n : Int)) (h : ∀ PL WA OA TO BI NA, rv_0 PL WA OA TO BI NA → sp_rows T (fun f a => ∀ M', Q (some (.inl (rv_vf a))) G M') (fun PL WA OA TO BI nm r => ∀ M', Q (some (.inl (r : Int))) G M') (n + 1) PL WA OA TO BI (fun _ => []) 0 0) : mj_R mj_tab (d + 8) 138 [.inr (.inr (some x))] G M Q := by
  obtain ⟨⟨gtp, gbc, gpl, gna, gta, gba, gwa, goa, gtr, gbr, itr, ibr, r1, r2, r3, r4, r5, r6, r7, r8, rb, rw0, n1, n2, hIw⟩, hT⟩ := id hA
  obtain ⟨⟨gx, gsp, gnw, gse, gye, gud, hD⟩, x_x0, x_x1, x_x2, x_x5, x_sp0, x_nw0, x_nw1, x_nw2, x_nw3⟩ := id hX
  have gdl := hD.1
  refine ⟨Nat.le_of_ble_eq_true rfl, ?_⟩
  show wz (d + 7) mt_X11_plain.2.2.2.2.1 Q mt_X11_plain.2.2.2.2.1 [some (.inr (.inr (some x))), none, none] [] G M _ _
  refine w_aln rfl ?_
  refine w_gr gx rfl (by decide) rfl x_x2 ?_
  refine w_gr gsp rfl (by decide) rfl x_sp0 ?_
  refine w_asn ?_
  show wz _ _ _ _ [some (.inr (.inr (some x))), some (.inr (.inr (some pl))), none] _ _ _ _ _
  refine w_aln rfl ?_
  refine w_cv (st := []) rfl gpl rfl (Nat.le_of_ble_eq_true rfl) (fun kk h => h) (r_X3_clear (d := d + 6) (M0 := M) (PL := M.1 pl) (WA := M.1 wa) (OA := M.1 oa) (TO := fun s => M.1 (tr s)) (BI := fun s => M.1 (br s)) (NA := M.2.1 na) hA.1 ⟨rfl, rfl, rfl, fun _ _ => rfl, fun _ _ => rfl, rfl, fun _ _ _ _ _ _ => rfl, fun _ _ => rfl, rfl⟩ (fun PL WA OA TO BI NA M1 c1 z1 => ?_))
  obtain ⟨c5, c6, c7, c8, c9, c10, cf1, cf2, cf3⟩ := id c1
  have tpf : M1.1 tp = M.1 tp := cf1 tp (hn_ne gtp gpl (by decide)) (hn_ne gtp gwa (by decide)) (hn_ne gtp goa (by decide)) (fun t ht => hn_ne gtp (gtr t ht) (by decide)) (fun t ht => hn_ne gtp (gbr t ht) (by decide))
  refine w_aln rfl ?_
  refine w_gr gx rfl (by decide) rfl (by rw [cf3]; exact x_x0) ?_
  refine w_sp ?_
  refine w_cv (st := []) rfl gtp rfl (Nat.le_of_ble_eq_true rfl) (fun kk h => h) ⟨Nat.le_of_ble_eq_true rfl, ?_⟩
  show wz (d + 6) mt_X7_open.2.2.2.2.1 _ mt_X7_open.2.2.2.2.1 [some (.inr (.inr (some tp))), some (.inl 900)] [] _ _ _ _
  refine w_aln rfl ?_
  refine w_iln rfl ?_
  refine w_pi gtp rfl (by decide) rfl (fun q => by cases q) ?_
  refine w_aln rfl ?_
  refine w_ic ?_
  refine w_pi gtp rfl (by decide) rfl (fun q => by cases q) ?_
  refine w_aln rfl ?_
  refine w_ic ?_
  refine w_pi gtp rfl (by decide) rfl (fun q => by cases q) ?_
  refine w_aln rfl ?_
  refine w_ic ?_
  refine w_pi gtp rfl (by decide) rfl (fun q => by cases q) ?_
  refine w_ret ?_
  refine w_aln rfl ?_
  refine w_aln rfl ?_
  refine w_gr gx rfl (by decide) rfl (by show M1.2.2 x 0 = _; rw [cf3]; exact x_x0) ?_
  have e4 : ∀ b, b ≠ tp → (mj_p0 (mj_p0 (mj_p0 (mj_p0 M1 tp 10 900) tp 11 0) tp 2 0) tp 3 0).1 b = M1.1 b := fun b hb => (wz_c hb).trans ((wz_c hb).trans ((wz_c hb).trans (wz_c hb)))
  have n0 : ∀ s, s < 8 → NA s = rv_5 ((fun _ => []) s) ∧ rv_wo ((fun _ => []) s : List Int) := fun s hs => ⟨(z1.1 s hs).1, by show 0 ≤ 8; decide, fun y hy => by cases hy⟩
  have S0 : rv_S0 G M n 900 tp pl na wa oa tr br 0 PL WA OA TO BI (fun _ => []) (mj_p0 (mj_p0 (mj_p0 (mj_p0 M1 tp 10 900) tp 11 0) tp 2 0) tp 3 0) := ⟨⟨(hn_n (Or.inr (by decide))).trans ((hn_n (Or.inr (by decide))).trans ((hn_n (Or.inr (by decide))).trans ((hn_n (Or.inr (by decide))).trans ((congrFun tpf 1).trans hn)))), (hn_n (Or.inr (by decide))).trans ((hn_n (Or.inr (by decide))).trans ((hn_n (Or.inr (by decide))).trans hn_s)), (hn_n (Or.inr (by decide))).trans hn_s⟩, (hn_n (Or.inr (by decide))).trans ((hn_n (Or.inr (by decide))).trans hn_s), (e4 pl (hn_ne gpl gtp (by decide))).trans c5, (e4 wa (hn_ne gwa gtp (by decide))).trans c6, (e4 oa (hn_ne goa gtp (by decide))).trans c7, fun s hs => (e4 _ (hn_ne (gtr s hs) gtp (by decide))).trans (c8 s hs), fun s hs => (e4 _ (hn_ne (gbr s hs) gtp (by decide))).trans (c9 s hs), fun s hs => ⟨(congrFun c10 s).trans (n0 s hs).1, (n0 s hs).2⟩, fun a a1 a2 a3 a4 a5 a6 => (e4 a a1).trans (cf1 a a2 a3 a4 a5 a6), fun a a1 _ => cf2 a a1, fun a j _ => congrFun (congrFun cf3 a) j⟩
  refine w_cv (st := []) rfl gpl rfl (Nat.le_of_ble_eq_true rfl) (fun kk h => h) (r_X3_readRows (d := d) hA S0 ⟨by rw [z1.2.2.1]; decide, by rw [z1.2.2.1]; decide, by rw [z1.2.2.2.1]; decide, by rw [z1.2.2.2.1]; decide⟩ (sp_rows.mono (fun f a hf z M2 F2 => ?_) (fun PL2 WA2 OA2 TO2 BI2 nm2 r2 hk _ q2 M2 s2 => ?_) _ _ _ _ _ _ _ _ _ (h PL WA OA TO BI NA z1)))
  · exact r_pl_F hA hX F2.2.2.1.2.2 F2.1 F2.2.2.2 F2.2.1 hf _ _
  · exact r_pl_O hA hX s2.2.2.2.2.2.2.2.2.2.2 s2.1.2.2 hk _ _
end
section
/-! ===== the reference while it reads a PLAIN (laid by a program) ===== -/
theorem rv_sm : ∀ j : Fin 32, (Int32.ofInt (j.val : Int) &&& 31).toBitVec.smod 32 = BitVec.ofNat 32 j.val := by decide +kernel
theorem rv_s1 : ∀ j k : Fin 32, (BitVec.ofNat 32 1 <<< (BitVec.ofNat 32 k.val)).getLsbD j.val = decide (j = k) := by decide +kernel
theorem rv_bt_b (z : Int) (j : Nat) (hj : j < 32) : rv_bt z (j : Int) = if (Int32.ofInt z).toBitVec.getLsbD j = true then 1 else 0 := by
  unfold rv_bt
  rw [mj_it]
  have e1 : (Int32.ofInt z >>> (Int32.ofInt (j : Int) &&& 31) &&& Int32.ofInt 1).toBitVec = (BitVec.ofBool ((Int32.ofInt z).toBitVec.getLsbD j)).setWidth 32 := by
    rw [Int32.toBitVec_and, Int32.toBitVec_shiftRight, rv_sm ⟨j, hj⟩]
    show _ &&& 1#32 = _
    rw [BitVec.and_one_eq_setWidth_ofBool_getLsbD]
    congr 2
    show ((Int32.ofInt z).toBitVec.sshiftRight (BitVec.ofNat 32 j).toNat).getLsbD 0 = _
    have e : (BitVec.ofNat 32 j).toNat = j := by rw [BitVec.toNat_ofNat]; exact Nat.mod_eq_of_lt (by omega)
    rw [e, BitVec.getLsbD_sshiftRight]
    simp [hj]
  have e2 : ∀ b : Bool, ∀ x : Int32, x.toBitVec = (BitVec.ofBool b).setWidth 32 → x.toInt = if b = true then 1 else 0 := by
    intro b x hx
    have : x = (if b = true then 1 else 0 : Int32) := by
      apply Int32.toBitVec_inj.mp
      rw [hx]
      cases b <;> decide
    rw [this]
    cases b <;> decide
  exact e2 _ _ e1
theorem rv_bs_b (z : Int) (j k : Nat) (hj : j < 32) (hk : k < 32) : rv_bt (rv_bs z (k : Int)) (j : Int) = if j = k then 1 else rv_bt z (j : Int) := by
  rw [rv_bt_b _ j hj, rv_bt_b _ j hj]
  unfold rv_bs
  rw [mj_it, mj_it, Int32.toBitVec_or, Int32.toBitVec_shiftLeft, rv_sm ⟨k, hk⟩, BitVec.getLsbD_or]
  have e := rv_s1 ⟨j, hj⟩ ⟨k, hk⟩
  have e' : ((Int32.ofInt 1).toBitVec <<< (BitVec.ofNat 32 k)).getLsbD j = decide (j = k) := by
    rw [show (Int32.ofInt 1).toBitVec = BitVec.ofNat 32 1 by decide]
    rw [e]; exact decide_eq_decide.mpr ⟨fun h => congrArg Fin.val h, fun h => Fin.ext h⟩
  rw [e']
  by_cases c : j = k
  · rw [if_pos c]; simp [c]
  · rw [if_neg c]; simp [c]
/-- the reference's kinds of tokens -/
def rv_tkc (t : Nat × Nat × Int × List Int × Nat) : Int := if t.1 = 3 then (if t.2.2.1 = 59 ∨ t.2.2.1 = 40 ∨ t.2.2.1 = 41 ∨ (60 ≤ t.2.2.1 ∧ t.2.2.1 ≤ 62) then 3 else 4) else if t.1 = 5 then 4 else (t.1 : Int)
theorem rv_tkc_f {t : Nat × Nat × Int × List Int × Nat} (h : t.1 ≤ 5) : (rv_tkc t = 0 ∧ t.1 = 0) ∨ (rv_tkc t = 1 ∧ t.1 = 1) ∨ (rv_tkc t = 2 ∧ t.1 = 2) ∨ (rv_tkc t = 3 ∧ t.1 = 3) ∨ (rv_tkc t = 4 ∧ t.1 ≠ 0 ∧ t.1 ≠ 1 ∧ t.1 ≠ 2) := by
  unfold rv_tkc
  split
  · split <;> omega
  · split <;> omega
theorem rv_tkc_s {t : Nat × Nat × Int × List Int × Nat} (h : t.1 = 3) : (rv_tkc t = 3 ∧ (t.2.2.1 = 59 ∨ t.2.2.1 = 40 ∨ t.2.2.1 = 41 ∨ (60 ≤ t.2.2.1 ∧ t.2.2.1 ≤ 62))) ∨ (rv_tkc t = 4 ∧ ¬ (t.2.2.1 = 59 ∨ t.2.2.1 = 40 ∨ t.2.2.1 = 41 ∨ (60 ≤ t.2.2.1 ∧ t.2.2.1 ≤ 62))) := by
  unfold rv_tkc
  rw [if_pos h]
  split
  · rename_i c; exact Or.inl ⟨rfl, c⟩
  · rename_i c; exact Or.inr ⟨rfl, c⟩
def rv_tq (t : Nat × Nat × Int × List Int × Nat) (m : Nat) (M : mj_M) : Prop := M.1 m 11 = rv_tkc t ∧ M.1 m 12 = (t.2.1 : Int) ∧ (t.1 = 1 → M.2.1 m 17 = rv_8 t.2.2.2.1) ∧ (t.1 = 2 → M.1 m 14 = t.2.2.1 ∧ 0 ≤ t.2.2.1 ∧ t.2.2.1 ≤ 999) ∧ (t.1 = 3 → M.1 m 14 = t.2.2.1) ∧ (t.1 ≠ 0 → t.1 ≠ 5 → M.1 m 4 = (t.2.2.2.2 : Int))
theorem rv_tq_of {t : Nat × Nat × Int × List Int × Nat} {m : Nat} {M : mj_M} (h5 : t.1 ≤ 5) (h : rv_tr t m M) : rv_tq t m M := by
  obtain ⟨h0, h1, h2, h3, h4, h55, h12, h44⟩ := h
  refine ⟨?_, h12, fun e => (h1 e).2, fun e => (h2 e).2, fun e => (h3 e).1, h44⟩
  unfold rv_tkc
  split
  · rename_i c
    rcases (h3 c).2 with ⟨e, g⟩ | ⟨e, g⟩
    · rw [if_pos g]; exact e
    · rw [if_neg g]; exact e
  · split
    · rename_i c; exact h55 c
    · rename_i c1 c2
      have : t.1 = 0 ∨ t.1 = 1 ∨ t.1 = 2 ∨ t.1 = 4 := by omega
      rcases this with e | e | e | e
      · rw [h0 e, e]; rfl
      · rw [(h1 e).1, e]; rfl
      · rw [(h2 e).1, e]; rfl
      · rw [h4 e, e]; rfl
/-- where things of the reference lie -/
def rv_B (G : mj_G) (M0 : mj_M) (B : Nat → Int) (n lim m bt ha hd ns rs sx : Nat) : Prop := G m = (1012, 0) ∧ G bt = (50101, 940) ∧ G ha = (52100, 221) ∧ G hd = (56100, 4) ∧ G ns = (54103, 16) ∧ G rs = (55103, 24) ∧ M0.2.2 m 1 = some bt ∧ M0.2.2 m 7 = some ha ∧ M0.2.2 m 23 = some hd ∧ M0.2.2 m 9 = some ns ∧ M0.2.2 m 10 = some rs ∧ (∀ k, rv_u8 (M0.1 bt k) = B k) ∧ (∀ k, k < 24 → M0.2.1 rs k = rv_8 (rv_rs.getD k [])) ∧ n ≤ 940 ∧ lim ≤ 940 ∧ G sx = (51100, 537) ∧ M0.2.2 m 6 = some sx
/-- h against what is read -/
def rv_H (H : Nat → Int) (PL WA : Nat → Int) (TO BI : Nat → Nat → Int) : Prop := H 0 = PL 4 ∧ H 1 = PL 6 ∧ H 2 = PL 7 ∧ H 3 = PL 8 ∧ (∀ t w, t < 8 → w < 9 → H (4 + 9 * t + w) = TO t w) ∧ (∀ w, w < 12 → H (76 + w) = WA w) ∧ (∀ t w, t < 8 → w < 12 → H (88 + 12 * t + w) = BI t w ∧ 0 ≤ BI t w)
def rv_sw (M0 : mj_M) (sx m ha : Nat) (M : mj_M) : Prop := M.1 sx = M0.1 sx ∧ (∀ j, 25 ≤ j → M.1 m j = M0.1 m j) ∧ (∀ j, 184 ≤ j → j < 221 → M.1 ha j = 0)
theorem rv_sw.m {M0 M : mj_M} {sx m ha j : Nat} {v : Int} (h : rv_sw M0 sx m ha M) (h1 : sx ≠ m) (h2 : ha ≠ m) (hj : j < 25) : rv_sw M0 sx m ha (mj_p0 M m j v) := ⟨(wz_c h1).trans h.1, fun k hk => (hn_n (Or.inr (by omega))).trans (h.2.1 k hk), fun k a b => (hn_n (Or.inl h2)).trans (h.2.2 k a b)⟩
theorem rv_sw.h {M0 M : mj_M} {sx m ha j : Nat} {v : Int} (h : rv_sw M0 sx m ha M) (h1 : sx ≠ ha) (h2 : m ≠ ha) (hj : j < 184) : rv_sw M0 sx m ha (mj_p0 M ha j v) := ⟨(wz_c h1).trans h.1, fun k hk => (hn_n (Or.inl h2)).trans (h.2.1 k hk), fun k a b => (hn_n (Or.inr (by omega))).trans (h.2.2 k a b)⟩
theorem rv_sw.o {M0 M : mj_M} {sx m ha a j : Nat} {v : Int} (h : rv_sw M0 sx m ha M) (h1 : sx ≠ a) (h2 : m ≠ a) (h3 : ha ≠ a) : rv_sw M0 sx m ha (mj_p0 M a j v) := ⟨(wz_c h1).trans h.1, fun k hk => (hn_n (Or.inl h2)).trans (h.2.1 k hk), fun k a b => (hn_n (Or.inl h3)).trans (h.2.2 k a b)⟩
theorem rv_sw.c {M0 M M' : mj_M} {sx m ha : Nat} (h : rv_sw M0 sx m ha M) (oc : ∀ a, a ≠ m → M'.1 a = M.1 a) (om : ∀ k, ¬ k ∈ [4, 11, 12, 13, 14] → M'.1 m k = M.1 m k) (h1 : sx ≠ m) (h2 : ha ≠ m) : rv_sw M0 sx m ha M' := ⟨(oc sx h1).trans h.1, fun k hk => (om k (fun q => by simp at q; omega)).trans (h.2.1 k hk), fun k a b => by rw [oc ha h2]; exact h.2.2 k a b⟩
def rv_R (M0 : mj_M) (n lim m bt ha hd ns rs sx : Nat) (t : Nat × Nat × Int × List Int × Nat) (PL WA OA : Nat → Int) (TO BI : Nat → Nat → Int) (nm : Nat → List Int) (b g z r : Int) (M : mj_M) : Prop :=
  (M.1 m 3 = (n : Int) ∧ M.1 m 5 = (lim : Int) ∧ M.1 m 21 = PL 5 ∧ M.1 m 22 = PL 11 ∧ (∀ k : Nat, k < 3 → rv_bt (M.1 m 20) (k : Int) = PL (12 + k)) ∧ M.1 m 18 = g ∧ M.1 m 24 = z ∧ M.1 m 19 = r) ∧ rv_tq t m M ∧ rv_H (M.1 ha) PL WA TO BI ∧ (∀ s k : Nat, s < 4 → k < 8 → rv_bt (M.1 hd s) (k : Int) = rv_bt (OA k) ((s + 4 : Nat) : Int)) ∧ (∀ k : Nat, (k : Int) < b → M.2.1 ns (8 + k) = rv_8 (nm k) ∧ rv_wo (nm k)) ∧ M.2.2 = M0.2.2 ∧ M.2.1 rs = M0.2.1 rs ∧ M.1 bt = M0.1 bt ∧ rv_sw M0 sx m ha M
section RS
variable {G : mj_G} {M0 M : mj_M} {B : Nat → Int} {n lim m bt ha hd ns rs sx : Nat} {t : Nat × Nat × Int × List Int × Nat} {PL WA OA : Nat → Int} {TO BI : Nat → Nat → Int} {nm : Nat → List Int} {b g z r : Int}
theorem rv_tq.cg {M' : mj_M} (h : rv_tq t m M) (e : ∀ k, k = 4 ∨ k = 11 ∨ k = 12 ∨ k = 14 → M'.1 m k = M.1 m k) (e2 : M'.2.1 m 17 = M.2.1 m 17) : rv_tq t m M' := by
  unfold rv_tq at *
  rw [e 4 (by decide), e 11 (by decide), e 12 (by decide), e 14 (by decide), e2]; exact h
theorem rv_R.srain {v : Int} (hB : rv_B G M0 B n lim m bt ha hd ns rs sx) (h : rv_R M0 n lim m bt ha hd ns rs sx t PL WA OA TO BI nm b g z r M) : rv_R M0 n lim m bt ha hd ns rs sx t (rv_up PL 11 v) WA OA TO BI nm b g z r (mj_p0 M m 22 v) := by
  obtain ⟨gm, gbt, gha, ghd, gns, grs, -, -, -, -, -, -, -, -, -, gsx, -⟩ := hB
  obtain ⟨⟨h3, h5, h21, h22, h20, h18, h24, h19⟩, ht, hh, hd1, hn, e1, e2, e3, e4⟩ := h
  exact ⟨⟨(hn_n (Or.inr (by decide))).trans h3, (hn_n (Or.inr (by decide))).trans h5, ((hn_n (Or.inr (by decide))).trans h21).trans (rv_up_n (by decide)).symm, hn_s.trans rv_up_s.symm, fun k hk => by rw [show (mj_p0 M m 22 v).1 m 20 = M.1 m 20 from hn_n (Or.inr (by decide)), h20 k hk]; exact (rv_up_n (by omega)).symm, (hn_n (Or.inr (by decide))).trans h18, (hn_n (Or.inr (by decide))).trans h24, (hn_n (Or.inr (by decide))).trans h19⟩, ht.cg (fun k hk => hn_n (Or.inr (by omega))) rfl, by
    rw [wz_c (hn_ne gha gm (by decide))]
    obtain ⟨a0, a1, a2, a3, a4⟩ := hh
    exact ⟨a0.trans (rv_up_n (by decide)).symm, a1.trans (rv_up_n (by decide)).symm, a2.trans (rv_up_n (by decide)).symm, a3.trans (rv_up_n (by decide)).symm, a4⟩, fun s k a c => by rw [wz_c (hn_ne ghd gm (by decide))]; exact hd1 s k a c, hn, e1, e2, (wz_c (hn_ne gbt gm (by decide))).trans e3, e4.m (hn_ne gsx gm (by decide)) (hn_ne gha gm (by decide)) (by omega)⟩
theorem rv_R.sbids {v : Int} (hB : rv_B G M0 B n lim m bt ha hd ns rs sx) (h : rv_R M0 n lim m bt ha hd ns rs sx t PL WA OA TO BI nm b g z r M) : rv_R M0 n lim m bt ha hd ns rs sx t (rv_up PL 5 v) WA OA TO BI nm b g z r (mj_p0 M m 21 v) := by
  obtain ⟨gm, gbt, gha, ghd, gns, grs, -, -, -, -, -, -, -, -, -, gsx, -⟩ := hB
  obtain ⟨⟨h3, h5, h21, h22, h20, h18, h24, h19⟩, ht, hh, hd1, hn, e1, e2, e3, e4⟩ := h
  exact ⟨⟨(hn_n (Or.inr (by decide))).trans h3, (hn_n (Or.inr (by decide))).trans h5, hn_s.trans rv_up_s.symm, ((hn_n (Or.inr (by decide))).trans h22).trans (rv_up_n (by decide)).symm, fun k hk => by rw [show (mj_p0 M m 21 v).1 m 20 = M.1 m 20 from hn_n (Or.inr (by decide)), h20 k hk]; exact (rv_up_n (by omega)).symm, (hn_n (Or.inr (by decide))).trans h18, (hn_n (Or.inr (by decide))).trans h24, (hn_n (Or.inr (by decide))).trans h19⟩, ht.cg (fun k hk => hn_n (Or.inr (by omega))) rfl, by
    rw [wz_c (hn_ne gha gm (by decide))]
    obtain ⟨a0, a1, a2, a3, a4⟩ := hh
    exact ⟨a0.trans (rv_up_n (by decide)).symm, a1.trans (rv_up_n (by decide)).symm, a2.trans (rv_up_n (by decide)).symm, a3.trans (rv_up_n (by decide)).symm, a4⟩, fun s k a c => by rw [wz_c (hn_ne ghd gm (by decide))]; exact hd1 s k a c, hn, e1, e2, (wz_c (hn_ne gbt gm (by decide))).trans e3, e4.m (hn_ne gsx gm (by decide)) (hn_ne gha gm (by decide)) (by omega)⟩
theorem rv_R.sgot {v : Int} (hB : rv_B G M0 B n lim m bt ha hd ns rs sx) (h : rv_R M0 n lim m bt ha hd ns rs sx t PL WA OA TO BI nm b g z r M) : rv_R M0 n lim m bt ha hd ns rs sx t PL WA OA TO BI nm b v z r (mj_p0 M m 18 v) := by
  obtain ⟨gm, gbt, gha, ghd, gns, grs, -, -, -, -, -, -, -, -, -, gsx, -⟩ := hB
  obtain ⟨⟨h3, h5, h21, h22, h20, h18, h24, h19⟩, ht, hh, hd1, hn, e1, e2, e3, e4⟩ := h
  exact ⟨⟨(hn_n (Or.inr (by decide))).trans h3, (hn_n (Or.inr (by decide))).trans h5, (hn_n (Or.inr (by decide))).trans h21, (hn_n (Or.inr (by decide))).trans h22, fun k hk => by rw [show (mj_p0 M m 18 v).1 m 20 = M.1 m 20 from hn_n (Or.inr (by decide)), h20 k hk], hn_s, (hn_n (Or.inr (by decide))).trans h24, (hn_n (Or.inr (by decide))).trans h19⟩, ht.cg (fun k hk => hn_n (Or.inr (by omega))) rfl, by rw [wz_c (hn_ne gha gm (by decide))]; exact hh, fun s k a c => by rw [wz_c (hn_ne ghd gm (by decide))]; exact hd1 s k a c, hn, e1, e2, (wz_c (hn_ne gbt gm (by decide))).trans e3, e4.m (hn_ne gsx gm (by decide)) (hn_ne gha gm (by decide)) (by omega)⟩
theorem rv_R.sof {v : Int} (hB : rv_B G M0 B n lim m bt ha hd ns rs sx) (h : rv_R M0 n lim m bt ha hd ns rs sx t PL WA OA TO BI nm b g z r M) : rv_R M0 n lim m bt ha hd ns rs sx t PL WA OA TO BI nm b g v r (mj_p0 M m 24 v) := by
  obtain ⟨gm, gbt, gha, ghd, gns, grs, -, -, -, -, -, -, -, -, -, gsx, -⟩ := hB
  obtain ⟨⟨h3, h5, h21, h22, h20, h18, h24, h19⟩, ht, hh, hd1, hn, e1, e2, e3, e4⟩ := h
  exact ⟨⟨(hn_n (Or.inr (by decide))).trans h3, (hn_n (Or.inr (by decide))).trans h5, (hn_n (Or.inr (by decide))).trans h21, (hn_n (Or.inr (by decide))).trans h22, fun k hk => by rw [show (mj_p0 M m 24 v).1 m 20 = M.1 m 20 from hn_n (Or.inr (by decide)), h20 k hk], (hn_n (Or.inr (by decide))).trans h18, hn_s, (hn_n (Or.inr (by decide))).trans h19⟩, ht.cg (fun k hk => hn_n (Or.inr (by omega))) rfl, by rw [wz_c (hn_ne gha gm (by decide))]; exact hh, fun s k a c => by rw [wz_c (hn_ne ghd gm (by decide))]; exact hd1 s k a c, hn, e1, e2, (wz_c (hn_ne gbt gm (by decide))).trans e3, e4.m (hn_ne gsx gm (by decide)) (hn_ne gha gm (by decide)) (by omega)⟩
theorem rv_R.srow {v : Int} (hB : rv_B G M0 B n lim m bt ha hd ns rs sx) (h : rv_R M0 n lim m bt ha hd ns rs sx t PL WA OA TO BI nm b g z r M) : rv_R M0 n lim m bt ha hd ns rs sx t PL WA OA TO BI nm b g z v (mj_p0 M m 19 v) := by
  obtain ⟨gm, gbt, gha, ghd, gns, grs, -, -, -, -, -, -, -, -, -, gsx, -⟩ := hB
  obtain ⟨⟨h3, h5, h21, h22, h20, h18, h24, h19⟩, ht, hh, hd1, hn, e1, e2, e3, e4⟩ := h
  exact ⟨⟨(hn_n (Or.inr (by decide))).trans h3, (hn_n (Or.inr (by decide))).trans h5, (hn_n (Or.inr (by decide))).trans h21, (hn_n (Or.inr (by decide))).trans h22, fun k hk => by rw [show (mj_p0 M m 19 v).1 m 20 = M.1 m 20 from hn_n (Or.inr (by decide)), h20 k hk], (hn_n (Or.inr (by decide))).trans h18, (hn_n (Or.inr (by decide))).trans h24, hn_s⟩, ht.cg (fun k hk => hn_n (Or.inr (by omega))) rfl, by rw [wz_c (hn_ne gha gm (by decide))]; exact hh, fun s k a c => by rw [wz_c (hn_ne ghd gm (by decide))]; exact hd1 s k a c, hn, e1, e2, (wz_c (hn_ne gbt gm (by decide))).trans e3, e4.m (hn_ne gsx gm (by decide)) (hn_ne gha gm (by decide)) (by omega)⟩
theorem rv_R.sonce {k : Nat} (hB : rv_B G M0 B n lim m bt ha hd ns rs sx) (h : rv_R M0 n lim m bt ha hd ns rs sx t PL WA OA TO BI nm b g z r M) (hk : k < 3) : rv_R M0 n lim m bt ha hd ns rs sx t (rv_up PL (12 + k) 1) WA OA TO BI nm b g z r (mj_p0 M m 20 (rv_bs (M.1 m 20) (k : Int))) := by
  obtain ⟨gm, gbt, gha, ghd, gns, grs, -, -, -, -, -, -, -, -, -, gsx, -⟩ := hB
  obtain ⟨⟨h3, h5, h21, h22, h20, h18, h24, h19⟩, ht, hh, hd1, hn, e1, e2, e3, e4⟩ := h
  refine ⟨⟨(hn_n (Or.inr (by decide))).trans h3, (hn_n (Or.inr (by decide))).trans h5, ((hn_n (Or.inr (by decide))).trans h21).trans (rv_up_n (by omega)).symm, ((hn_n (Or.inr (by decide))).trans h22).trans (rv_up_n (by omega)).symm, fun j hj => ?_, (hn_n (Or.inr (by decide))).trans h18, (hn_n (Or.inr (by decide))).trans h24, (hn_n (Or.inr (by decide))).trans h19⟩, ht.cg (fun k hk => hn_n (Or.inr (by omega))) rfl, ?_, fun s k a c => by rw [wz_c (hn_ne ghd gm (by decide))]; exact hd1 s k a c, hn, e1, e2, (wz_c (hn_ne gbt gm (by decide))).trans e3, e4.m (hn_ne gsx gm (by decide)) (hn_ne gha gm (by decide)) (by omega)⟩
  · rw [hn_s, rv_bs_b _ j k (by omega) (by omega)]
    by_cases c : j = k
    · rw [if_pos c, c]; exact rv_up_s.symm
    · rw [if_neg c, h20 j hj]; exact (rv_up_n (by omega)).symm
  · rw [wz_c (hn_ne gha gm (by decide))]
    obtain ⟨a0, a1, a2, a3, a4⟩ := hh
    exact ⟨a0.trans (rv_up_n (by omega)).symm, a1.trans (rv_up_n (by omega)).symm, a2.trans (rv_up_n (by omega)).symm, a3.trans (rv_up_n (by omega)).symm, a4⟩
theorem rv_R.htold {j k i : Nat} {v : Int} (hB : rv_B G M0 B n lim m bt ha hd ns rs sx) (h : rv_R M0 n lim m bt ha hd ns rs sx t PL WA OA TO BI nm b g z r M) (hj : j = 4 + 9 * k + i) (hk : k < 8) (hi : i < 9) : rv_R M0 n lim m bt ha hd ns rs sx t PL WA OA (rv_up2 TO k i v) BI nm b g z r (mj_p0 M ha j v) := by
  obtain ⟨gm, gbt, gha, ghd, gns, grs, -, -, -, -, -, -, -, -, -, gsx, -⟩ := hB
  obtain ⟨⟨h3, h5, h21, h22, h20, h18, h24, h19⟩, ht, ⟨a0, a1, a2, a3, a4, a5, a6⟩, hd1, hn, e1, e2, e3, e4⟩ := h
  have cm : ∀ k, (mj_p0 M ha j v).1 m k = M.1 m k := fun k => hn_n (Or.inl (hn_ne gm gha (by decide)))
  subst hj
  refine ⟨⟨(cm _).trans h3, (cm _).trans h5, ((cm _).trans h21), ((cm _).trans h22), fun k hk => by rw [cm, h20 k hk], (cm _).trans h18, (cm _).trans h24, (cm _).trans h19⟩, ht.cg (fun k _ => cm k) rfl, ?_, fun s k a c => by rw [wz_c (hn_ne ghd gha (by decide))]; exact hd1 s k a c, hn, e1, e2, (wz_c (hn_ne gbt gha (by decide))).trans e3, e4.h (hn_ne gsx gha (by decide)) (hn_ne gm gha (by decide)) (by omega)⟩
  rw [wz_u]
  refine ⟨(rv_up_n (by omega)).trans a0, (rv_up_n (by omega)).trans a1, (rv_up_n (by omega)).trans a2, (rv_up_n (by omega)).trans a3, fun t w ht hw => ?_, fun w hw => (rv_up_n (by omega)).trans (a5 w hw), fun t w ht hw => ⟨(rv_up_n (by omega)).trans (a6 t w ht hw).1, (a6 t w ht hw).2⟩⟩
  by_cases c : t = k ∧ w = i
  · rw [c.1, c.2, rv_up2_s]; exact rv_up_s
  · rw [rv_up_n (by omega), a4 t w ht hw]
    by_cases c2 : t = k
    · rw [c2]; exact (rv_up2_n (fun e => c ⟨c2, e⟩)).symm
    · exact (congrFun (rv_up2_o c2) w).symm
theorem rv_R.hwat {j i : Nat} {v : Int} (hB : rv_B G M0 B n lim m bt ha hd ns rs sx) (h : rv_R M0 n lim m bt ha hd ns rs sx t PL WA OA TO BI nm b g z r M) (hj : j = 76 + i) (hi : i < 12) : rv_R M0 n lim m bt ha hd ns rs sx t PL (rv_up WA i v) OA TO BI nm b g z r (mj_p0 M ha j v) := by
  obtain ⟨gm, gbt, gha, ghd, gns, grs, -, -, -, -, -, -, -, -, -, gsx, -⟩ := hB
  obtain ⟨⟨h3, h5, h21, h22, h20, h18, h24, h19⟩, ht, ⟨a0, a1, a2, a3, a4, a5, a6⟩, hd1, hn, e1, e2, e3, e4⟩ := h
  have cm : ∀ k, (mj_p0 M ha j v).1 m k = M.1 m k := fun k => hn_n (Or.inl (hn_ne gm gha (by decide)))
  subst hj
  refine ⟨⟨(cm _).trans h3, (cm _).trans h5, ((cm _).trans h21), ((cm _).trans h22), fun k hk => by rw [cm, h20 k hk], (cm _).trans h18, (cm _).trans h24, (cm _).trans h19⟩, ht.cg (fun k _ => cm k) rfl, ?_, fun s k a c => by rw [wz_c (hn_ne ghd gha (by decide))]; exact hd1 s k a c, hn, e1, e2, (wz_c (hn_ne gbt gha (by decide))).trans e3, e4.h (hn_ne gsx gha (by decide)) (hn_ne gm gha (by decide)) (by omega)⟩
  rw [wz_u]
  refine ⟨(rv_up_n (by omega)).trans a0, (rv_up_n (by omega)).trans a1, (rv_up_n (by omega)).trans a2, (rv_up_n (by omega)).trans a3, fun t w ht hw => (rv_up_n (by omega)).trans (a4 t w ht hw), fun w hw => ?_, fun t w ht hw => ⟨(rv_up_n (by omega)).trans (a6 t w ht hw).1, (a6 t w ht hw).2⟩⟩
  by_cases c : w = i
  · rw [c]; exact rv_up_s.trans rv_up_s.symm
  · rw [rv_up_n (by omega), a5 w hw]; exact (rv_up_n c).symm
theorem rv_R.hbid {j k i : Nat} {v : Int} (hB : rv_B G M0 B n lim m bt ha hd ns rs sx) (h : rv_R M0 n lim m bt ha hd ns rs sx t PL WA OA TO BI nm b g z r M) (hj : j = 88 + 12 * k + i) (hk : k < 8) (hi : i < 12) (hv : 0 ≤ v) : rv_R M0 n lim m bt ha hd ns rs sx t PL WA OA TO (rv_up2 BI k i v) nm b g z r (mj_p0 M ha j v) := by
  obtain ⟨gm, gbt, gha, ghd, gns, grs, -, -, -, -, -, -, -, -, -, gsx, -⟩ := hB
  obtain ⟨⟨h3, h5, h21, h22, h20, h18, h24, h19⟩, ht, ⟨a0, a1, a2, a3, a4, a5, a6⟩, hd1, hn, e1, e2, e3, e4⟩ := h
  have cm : ∀ k, (mj_p0 M ha j v).1 m k = M.1 m k := fun k => hn_n (Or.inl (hn_ne gm gha (by decide)))
  subst hj
  refine ⟨⟨(cm _).trans h3, (cm _).trans h5, ((cm _).trans h21), ((cm _).trans h22), fun k hk => by rw [cm, h20 k hk], (cm _).trans h18, (cm _).trans h24, (cm _).trans h19⟩, ht.cg (fun k _ => cm k) rfl, ?_, fun s k a c => by rw [wz_c (hn_ne ghd gha (by decide))]; exact hd1 s k a c, hn, e1, e2, (wz_c (hn_ne gbt gha (by decide))).trans e3, e4.h (hn_ne gsx gha (by decide)) (hn_ne gm gha (by decide)) (by omega)⟩
  rw [wz_u]
  refine ⟨(rv_up_n (by omega)).trans a0, (rv_up_n (by omega)).trans a1, (rv_up_n (by omega)).trans a2, (rv_up_n (by omega)).trans a3, fun t w ht hw => (rv_up_n (by omega)).trans (a4 t w ht hw), fun w hw => (rv_up_n (by omega)).trans (a5 w hw), fun t w ht hw => ?_⟩
  by_cases c : t = k ∧ w = i
  · rw [c.1, c.2, rv_up2_s]; exact ⟨rv_up_s, hv⟩
  · rw [rv_up_n (by omega), (a6 t w ht hw).1]
    by_cases c2 : t = k
    · rw [c2, rv_up2_n (fun e => c ⟨c2, e⟩)]; exact ⟨rfl, by rw [← c2]; exact (a6 t w ht hw).2⟩
    · rw [rv_up2_o c2]; exact ⟨rfl, (a6 t w ht hw).2⟩
theorem rv_R.htow {j  : Nat} {v : Int} (hB : rv_B G M0 B n lim m bt ha hd ns rs sx) (h : rv_R M0 n lim m bt ha hd ns rs sx t PL WA OA TO BI nm b g z r M) (hj : j = 0)  : rv_R M0 n lim m bt ha hd ns rs sx t (rv_up PL 4 v) WA OA TO BI nm b g z r (mj_p0 M ha j v) := by
  obtain ⟨gm, gbt, gha, ghd, gns, grs, -, -, -, -, -, -, -, -, -, gsx, -⟩ := hB
  obtain ⟨⟨h3, h5, h21, h22, h20, h18, h24, h19⟩, ht, ⟨a0, a1, a2, a3, a4, a5, a6⟩, hd1, hn, e1, e2, e3, e4⟩ := h
  have cm : ∀ k, (mj_p0 M ha j v).1 m k = M.1 m k := fun k => hn_n (Or.inl (hn_ne gm gha (by decide)))
  subst hj
  refine ⟨⟨(cm _).trans h3, (cm _).trans h5, ((cm _).trans h21).trans (rv_up_n (by decide)).symm, ((cm _).trans h22).trans (rv_up_n (by decide)).symm, fun k hk => by rw [cm, h20 k hk]; exact (rv_up_n (by omega)).symm, (cm _).trans h18, (cm _).trans h24, (cm _).trans h19⟩, ht.cg (fun k _ => cm k) rfl, ?_, fun s k a c => by rw [wz_c (hn_ne ghd gha (by decide))]; exact hd1 s k a c, hn, e1, e2, (wz_c (hn_ne gbt gha (by decide))).trans e3, e4.h (hn_ne gsx gha (by decide)) (hn_ne gm gha (by decide)) (by omega)⟩
  rw [wz_u]
  exact ⟨rv_up_s.trans rv_up_s.symm, ((rv_up_n (by decide)).trans a1).trans (rv_up_n (by decide)).symm, ((rv_up_n (by decide)).trans a2).trans (rv_up_n (by decide)).symm, ((rv_up_n (by decide)).trans a3).trans (rv_up_n (by decide)).symm, fun t w ht hw => (rv_up_n (by omega)).trans (a4 t w ht hw), fun w hw => (rv_up_n (by omega)).trans (a5 w hw), fun t w ht hw => ⟨(rv_up_n (by omega)).trans (a6 t w ht hw).1, (a6 t w ht hw).2⟩⟩
theorem rv_R.hval0 {j  : Nat} {v : Int} (hB : rv_B G M0 B n lim m bt ha hd ns rs sx) (h : rv_R M0 n lim m bt ha hd ns rs sx t PL WA OA TO BI nm b g z r M) (hj : j = 1)  : rv_R M0 n lim m bt ha hd ns rs sx t (rv_up PL 6 v) WA OA TO BI nm b g z r (mj_p0 M ha j v) := by
  obtain ⟨gm, gbt, gha, ghd, gns, grs, -, -, -, -, -, -, -, -, -, gsx, -⟩ := hB
  obtain ⟨⟨h3, h5, h21, h22, h20, h18, h24, h19⟩, ht, ⟨a0, a1, a2, a3, a4, a5, a6⟩, hd1, hn, e1, e2, e3, e4⟩ := h
  have cm : ∀ k, (mj_p0 M ha j v).1 m k = M.1 m k := fun k => hn_n (Or.inl (hn_ne gm gha (by decide)))
  subst hj
  refine ⟨⟨(cm _).trans h3, (cm _).trans h5, ((cm _).trans h21).trans (rv_up_n (by decide)).symm, ((cm _).trans h22).trans (rv_up_n (by decide)).symm, fun k hk => by rw [cm, h20 k hk]; exact (rv_up_n (by omega)).symm, (cm _).trans h18, (cm _).trans h24, (cm _).trans h19⟩, ht.cg (fun k _ => cm k) rfl, ?_, fun s k a c => by rw [wz_c (hn_ne ghd gha (by decide))]; exact hd1 s k a c, hn, e1, e2, (wz_c (hn_ne gbt gha (by decide))).trans e3, e4.h (hn_ne gsx gha (by decide)) (hn_ne gm gha (by decide)) (by omega)⟩
  rw [wz_u]
  exact ⟨((rv_up_n (by decide)).trans a0).trans (rv_up_n (by decide)).symm, rv_up_s.trans rv_up_s.symm, ((rv_up_n (by decide)).trans a2).trans (rv_up_n (by decide)).symm, ((rv_up_n (by decide)).trans a3).trans (rv_up_n (by decide)).symm, fun t w ht hw => (rv_up_n (by omega)).trans (a4 t w ht hw), fun w hw => (rv_up_n (by omega)).trans (a5 w hw), fun t w ht hw => ⟨(rv_up_n (by omega)).trans (a6 t w ht hw).1, (a6 t w ht hw).2⟩⟩
theorem rv_R.hval1 {j  : Nat} {v : Int} (hB : rv_B G M0 B n lim m bt ha hd ns rs sx) (h : rv_R M0 n lim m bt ha hd ns rs sx t PL WA OA TO BI nm b g z r M) (hj : j = 2)  : rv_R M0 n lim m bt ha hd ns rs sx t (rv_up PL 7 v) WA OA TO BI nm b g z r (mj_p0 M ha j v) := by
  obtain ⟨gm, gbt, gha, ghd, gns, grs, -, -, -, -, -, -, -, -, -, gsx, -⟩ := hB
  obtain ⟨⟨h3, h5, h21, h22, h20, h18, h24, h19⟩, ht, ⟨a0, a1, a2, a3, a4, a5, a6⟩, hd1, hn, e1, e2, e3, e4⟩ := h
  have cm : ∀ k, (mj_p0 M ha j v).1 m k = M.1 m k := fun k => hn_n (Or.inl (hn_ne gm gha (by decide)))
  subst hj
  refine ⟨⟨(cm _).trans h3, (cm _).trans h5, ((cm _).trans h21).trans (rv_up_n (by decide)).symm, ((cm _).trans h22).trans (rv_up_n (by decide)).symm, fun k hk => by rw [cm, h20 k hk]; exact (rv_up_n (by omega)).symm, (cm _).trans h18, (cm _).trans h24, (cm _).trans h19⟩, ht.cg (fun k _ => cm k) rfl, ?_, fun s k a c => by rw [wz_c (hn_ne ghd gha (by decide))]; exact hd1 s k a c, hn, e1, e2, (wz_c (hn_ne gbt gha (by decide))).trans e3, e4.h (hn_ne gsx gha (by decide)) (hn_ne gm gha (by decide)) (by omega)⟩
  rw [wz_u]
  exact ⟨((rv_up_n (by decide)).trans a0).trans (rv_up_n (by decide)).symm, ((rv_up_n (by decide)).trans a1).trans (rv_up_n (by decide)).symm, rv_up_s.trans rv_up_s.symm, ((rv_up_n (by decide)).trans a3).trans (rv_up_n (by decide)).symm, fun t w ht hw => (rv_up_n (by omega)).trans (a4 t w ht hw), fun w hw => (rv_up_n (by omega)).trans (a5 w hw), fun t w ht hw => ⟨(rv_up_n (by omega)).trans (a6 t w ht hw).1, (a6 t w ht hw).2⟩⟩
theorem rv_R.hval2 {j  : Nat} {v : Int} (hB : rv_B G M0 B n lim m bt ha hd ns rs sx) (h : rv_R M0 n lim m bt ha hd ns rs sx t PL WA OA TO BI nm b g z r M) (hj : j = 3)  : rv_R M0 n lim m bt ha hd ns rs sx t (rv_up PL 8 v) WA OA TO BI nm b g z r (mj_p0 M ha j v) := by
  obtain ⟨gm, gbt, gha, ghd, gns, grs, -, -, -, -, -, -, -, -, -, gsx, -⟩ := hB
  obtain ⟨⟨h3, h5, h21, h22, h20, h18, h24, h19⟩, ht, ⟨a0, a1, a2, a3, a4, a5, a6⟩, hd1, hn, e1, e2, e3, e4⟩ := h
  have cm : ∀ k, (mj_p0 M ha j v).1 m k = M.1 m k := fun k => hn_n (Or.inl (hn_ne gm gha (by decide)))
  subst hj
  refine ⟨⟨(cm _).trans h3, (cm _).trans h5, ((cm _).trans h21).trans (rv_up_n (by decide)).symm, ((cm _).trans h22).trans (rv_up_n (by decide)).symm, fun k hk => by rw [cm, h20 k hk]; exact (rv_up_n (by omega)).symm, (cm _).trans h18, (cm _).trans h24, (cm _).trans h19⟩, ht.cg (fun k _ => cm k) rfl, ?_, fun s k a c => by rw [wz_c (hn_ne ghd gha (by decide))]; exact hd1 s k a c, hn, e1, e2, (wz_c (hn_ne gbt gha (by decide))).trans e3, e4.h (hn_ne gsx gha (by decide)) (hn_ne gm gha (by decide)) (by omega)⟩
  rw [wz_u]
  exact ⟨((rv_up_n (by decide)).trans a0).trans (rv_up_n (by decide)).symm, ((rv_up_n (by decide)).trans a1).trans (rv_up_n (by decide)).symm, ((rv_up_n (by decide)).trans a2).trans (rv_up_n (by decide)).symm, rv_up_s.trans rv_up_s.symm, fun t w ht hw => (rv_up_n (by omega)).trans (a4 t w ht hw), fun w hw => (rv_up_n (by omega)).trans (a5 w hw), fun t w ht hw => ⟨(rv_up_n (by omega)).trans (a6 t w ht hw).1, (a6 t w ht hw).2⟩⟩
theorem rv_R.shad {s k : Nat} (hB : rv_B G M0 B n lim m bt ha hd ns rs sx) (h : rv_R M0 n lim m bt ha hd ns rs sx t PL WA OA TO BI nm b g z r M) (hs : s < 4) (hk : k < 8) : rv_R M0 n lim m bt ha hd ns rs sx t PL WA (rv_up OA k (rv_bs (OA k) ((s + 4 : Nat) : Int))) TO BI nm b g z r (mj_p0 M hd s (rv_bs (M.1 hd s) (k : Int))) := by
  obtain ⟨gm, gbt, gha, ghd, gns, grs, -, -, -, -, -, -, -, -, -, gsx, -⟩ := hB
  obtain ⟨⟨h3, h5, h21, h22, h20, h18, h24, h19⟩, ht, hh, hd1, hn, e1, e2, e3, e4⟩ := h
  have cm : ∀ j, (mj_p0 M hd s (rv_bs (M.1 hd s) (k : Int))).1 m j = M.1 m j := fun j => hn_n (Or.inl (hn_ne gm ghd (by decide)))
  refine ⟨⟨(cm _).trans h3, (cm _).trans h5, (cm _).trans h21, (cm _).trans h22, fun k hk => by rw [cm, h20 k hk], (cm _).trans h18, (cm _).trans h24, (cm _).trans h19⟩, ht.cg (fun k _ => cm k) rfl, by rw [wz_c (hn_ne gha ghd (by decide))]; exact hh, fun s' k' a c => ?_, hn, e1, e2, (wz_c (hn_ne gbt ghd (by decide))).trans e3, e4.o (hn_ne gsx ghd (by decide)) (hn_ne gm ghd (by decide)) (hn_ne gha ghd (by decide))⟩
  rw [wz_u]
  by_cases cs : s' = s
  · rw [cs, rv_up_s, rv_bs_b _ k' k (by omega) (by omega)]
    by_cases ck : k' = k
    · rw [if_pos ck, ck, rv_up_s, rv_bs_b _ (s + 4) (s + 4) (by omega) (by omega), if_pos rfl]
    · rw [if_neg ck, rv_up_n ck]; exact hd1 s k' hs c
  · rw [rv_up_n cs, hd1 s' k' a c]
    by_cases ck : k' = k
    · rw [ck, rv_up_s, rv_bs_b _ (s' + 4) (s + 4) (by omega) (by omega), if_neg (by omega)]
    · rw [rv_up_n ck]
theorem rv_R.snm {j k : Nat} {w : List Int} (hB : rv_B G M0 B n lim m bt ha hd ns rs sx) (h : rv_R M0 n lim m bt ha hd ns rs sx t PL WA OA TO BI nm b g z r M) (hj : j = 8 + k) (hb : b = (k : Int)) (hw : rv_wo w) : rv_R M0 n lim m bt ha hd ns rs sx t PL WA OA TO BI (rv_upn nm k w) ((k : Int) + 1) g z r (mj_p1 M ns j (rv_8 w)) := by
  obtain ⟨gm, gbt, gha, ghd, gns, grs, -, -, -, -, -, -, -, -, -, gsx, -⟩ := hB
  obtain ⟨h0, ht, hh, hd1, hn, e1, e2, e3, e4⟩ := h
  refine ⟨h0, ht.cg (fun _ _ => rfl) (wz_nl (Or.inl (hn_ne gm gns (by decide)))), hh, hd1, fun s hs => ?_, e1, (funext fun k => wz_nl (Or.inl (hn_ne grs gns (by decide)))).trans e2, e3, e4⟩
  subst hj
  unfold rv_upn
  by_cases c : s = k
  · rw [if_pos c, c]; exact ⟨wz_sl, hw⟩
  · rw [if_neg c]; exact ⟨(wz_nl (Or.inr (by omega))).trans (hn s (by omega)).1, (hn s (by omega)).2⟩
/-- a fault of the reference -/
def rv_FR (M0 : mj_M) (m sx ha : Nat) (f : Int) (a : Nat) (M : mj_M) : Prop := M.1 m 15 = f ∧ M.1 m 16 = (a : Int) ∧ rv_sw M0 sx m ha M
theorem r_nxt {d q : Nat} {Q : mj_P} (hB : rv_B G M0 B n lim m bt ha hd ns rs sx) (h : rv_R M0 n lim m bt ha hd ns rs sx t PL WA OA TO BI nm b g z r M) (hk : t.1 ≠ 0) (hk5 : t.1 ≠ 5) (hp : t.2.2.2.2 = q) (hq : q ≤ n) (hQ : ∀ M', rv_R M0 n lim m bt ha hd ns rs sx (rv_T B n lim q) PL WA OA TO BI nm b g z r M' → Q none G M') : mj_R mj_tab (d + 2) 216 [.inr (.inr (some m))] G M Q := by
  obtain ⟨gm, gbt, gha, ghd, gns, grs, r1, r7, r23, r9, r10, rb, rr, n1, n2, gsx, r6⟩ := hB
  obtain ⟨⟨h3, h5, h21, h22, h20, h18, h24, h19⟩, ht, hh, hd1, hn, e1, e2, e3, e4⟩ := h
  refine r_X12_next (d := d) (B := B) (n := n) (lim := lim) (p := q) gm gbt n1 (by rw [e1]; exact r1) h3 h5 (by rw [ht.2.2.2.2.2 hk hk5, hp]) (fun k => by rw [e3]; exact rb k) (fun M' hM => hQ M' ?_)
  obtain ⟨o1, o2, o3, -⟩ := id hM
  have oc : ∀ a, a ≠ m → M'.1 a = M.1 a := fun a ha => funext fun k => o1 a k (fun e => ha e.1)
  have om : ∀ k, ¬ k ∈ [4, 11, 12, 13, 14] → M'.1 m k = M.1 m k := fun k hk => o1 m k (fun e => hk e.2)
  have ol : ∀ a, a ≠ m → M'.2.1 a = M.2.1 a := fun a ha => funext fun k => o2 a k (fun e => ha e.1)
  refine ⟨⟨(om 3 (by decide)).trans h3, (om 5 (by decide)).trans h5, (om 21 (by decide)).trans h21, (om 22 (by decide)).trans h22, fun k hk => by rw [om 20 (by decide)]; exact h20 k hk, (om 18 (by decide)).trans h18, (om 24 (by decide)).trans h24, (om 19 (by decide)).trans h19⟩, rv_tq_of (rv_T_w hq).1 (rv_nx_T hq hM), by rw [oc ha (hn_ne gha gm (by decide))]; exact hh, fun s k a c => by rw [oc hd (hn_ne ghd gm (by decide))]; exact hd1 s k a c, fun k hk => ⟨(congrFun (ol ns (hn_ne gns gm (by decide))) _).trans (hn k hk).1, (hn k hk).2⟩, o3.trans e1, (ol rs (hn_ne grs gm (by decide))).trans e2, (oc bt (hn_ne gbt gm (by decide))).trans e3, e4.c oc om (hn_ne gsx gm (by decide)) (hn_ne gha gm (by decide))⟩
end RS
end
