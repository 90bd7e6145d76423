/-! ===== the class's readRow, readRows (laid by a program) ===== -/
theorem rv_T_0 {B : Nat → Int} {n lim p : Nat} : ((rv_T B n lim p).1 = 0 → n ≤ lim) ∧ ((rv_T B n lim p).1 = 5 → lim < n) := by
  generalize hq : rv_sk B (min n lim) (min n lim - p) p = q
  rcases Nat.lt_or_ge q (min n lim) with c1 | c1
  · by_cases c2 : rv_an (B q) = true
    · unfold rv_T
      rw [hq, if_neg (Nat.not_le.mpr c1), if_pos c2]
      show ((if _ then 1 else if _ then 2 else 4) = 0 → _) ∧ ((if _ then 1 else if _ then 2 else 4) = 5 → _)
      split
      · exact ⟨fun e => absurd e (by decide), fun e => absurd e (by decide)⟩
      · split <;> exact ⟨fun e => absurd e (by decide), fun e => absurd e (by decide)⟩
    · rw [rv_T_s hq c1 c2]; exact ⟨fun e => absurd e (by show ¬ (3 : Nat) = 0; decide), fun e => absurd e (by show ¬ (3 : Nat) = 5; decide)⟩
  · rw [rv_T_e hq c1]
    show ((if n ≤ lim then 0 else 5) = 0 → _) ∧ ((if n ≤ lim then 0 else 5) = 5 → _)
    split
    · rename_i c; exact ⟨fun _ => c, fun e => absurd e (by decide)⟩
    · rename_i c; exact ⟨fun e => absurd e (by decide), fun _ => by omega⟩
set_option maxHeartbeats 8000000 in
theorem r_row_n {G : mj_G} {M0 M : mj_M} {B : Nat → Int} {n lim tp bc pl na ta ba wa oa : Nat} {tr br : Nat → Nat} {T : Nat → Nat × Nat × Int × List Int × Nat} {PL WA OA : Nat → Int} {TO BI : Nat → Nat → Int} {nm : Nat → List Int} {Q : mj_P} {d q : Nat} (hA : rv_AT G M0 B n lim tp bc pl na ta ba wa oa tr br T) (hS : rv_S G M0 n lim tp pl na wa oa tr br (T q) PL WA OA TO BI nm M) (hqn : q ≤ n) (hb : rv_pb PL) (e9 : M.2.2 tp 9 = none) (h10 : ∀ M', rv_F tp pl na wa oa tr br M0 1 (T q).2.1 M' → Q (some (.inl 0)) G M') : mj_R mj_tab (d + 6) 43 [.inr (.inr (some pl)), .inr (.inr (some tp))] G M Q := by
  obtain ⟨⟨gtp, gbc, gpl, gna, gta, gba, gwa, goa, gtr, gbr, itr, ibr, r1, r2, r3, r4, r5, r6, r7, r8, rb, rw0, n1, n2, hIw⟩, hT⟩ := id hA
  refine ⟨Nat.le_of_ble_eq_true rfl, ?_⟩
  show wz (d + 5) mt_X3_readRow.2.2.2.2.1 Q mt_X3_readRow.2.2.2.2.1 [some (.inr (.inr (some pl))), some (.inr (.inr (some tp))), none] [] G M _ _
  refine w_aln rfl ?_
  refine w_gro gtp rfl (by decide) rfl (e9) ?_
  refine w_asn ?_
  show wz _ _ _ _ [some (.inr (.inr (some pl))), some (.inr (.inr (some tp))), some (.inr (.inr none))] _ _ _ _ _
  refine w_aln rfl ?_
  refine w_ifnn (fun c1 => ?_) (fun c1 => ?_)
  · exact absurd rfl c1
  · skip
    refine w_aln rfl ?_
    refine w_ic ?_
    refine w_cv (st := []) rfl gtp rfl (Nat.le_of_ble_eq_true rfl) (fun kk h => h) (r_X7_refuse (d := d + 4) hA hS (by decide) (fun MF2 F2 => ?_))
    exact w_iret (fun _ => Or.inl rfl) (h10 _ F2)
set_option maxHeartbeats 8000000 in
theorem r_row_0 {G : mj_G} {M0 M : mj_M} {B : Nat → Int} {n lim tp bc pl na ta ba wa oa : Nat} {tr br : Nat → Nat} {T : Nat → Nat × Nat × Int × List Int × Nat} {PL WA OA : Nat → Int} {TO BI : Nat → Nat → Int} {nm : Nat → List Int} {Q : mj_P} {d q : Nat} (hA : rv_AT G M0 B n lim tp bc pl na ta ba wa oa tr br T) (hS : rv_S G M0 n lim tp pl na wa oa tr br (T q) PL WA OA TO BI nm M) (hqn : q ≤ n) (hb : rv_pb PL) {w : Nat} (gw : G w = (900050, 0)) (e9 : M.2.2 tp 9 = some w) (h0 : 0 = 0 → sp_town T PL WA OA TO BI nm q (fun f a => ∀ M', rv_F tp pl na wa oa tr br M0 f a M' → Q (some (.inl 0)) G M') (fun PL WA OA TO BI nm q' => q ≤ q' → q' ≤ n → rv_pb PL → ∀ M', rv_S G M0 n lim tp pl na wa oa tr br (T q') PL WA OA TO BI nm M' → Q (some (.inl 1)) G M')) : mj_R mj_tab (d + 6) 43 [.inr (.inr (some pl)), .inr (.inr (some tp))] G M Q := by
  obtain ⟨⟨gtp, gbc, gpl, gna, gta, gba, gwa, goa, gtr, gbr, itr, ibr, r1, r2, r3, r4, r5, r6, r7, r8, rb, rw0, n1, n2, hIw⟩, hT⟩ := id hA
  refine ⟨Nat.le_of_ble_eq_true rfl, ?_⟩
  show wz (d + 5) mt_X3_readRow.2.2.2.2.1 Q mt_X3_readRow.2.2.2.2.1 [some (.inr (.inr (some pl))), some (.inr (.inr (some tp))), none] [] G M _ _
  refine w_aln rfl ?_
  refine w_gr gtp rfl (by decide) rfl (e9) ?_
  refine w_asn ?_
  show wz _ _ _ _ [some (.inr (.inr (some pl))), some (.inr (.inr (some tp))), some (.inr (.inr (some w)))] _ _ _ _ _
  refine w_aln rfl ?_
  refine w_ifnn (fun c1 => ?_) (fun c1 => ?_)
  · skip
    refine w_aln rfl ?_
    refine w_gs ?_
    intro a2 ga2
    have ga2 : G a2 = (900050, 0) := ga2
    refine w_acne (fun c3 => ?_) (fun c3 => ?_)
    · exact absurd (congrArg some (hIw _ _ ((congrArg (fun x => x.1 % 1000) gw).trans rfl) (gw.trans ga2.symm))) c3
    · skip
      refine w_aln rfl ?_
      refine w_aln rfl ?_
      refine w_cv (st := []) rfl gpl rfl (Nat.le_of_ble_eq_true rfl) (fun kk h => h) (r_X3_readTown (d := d) hA hS hqn hb ((h0 rfl).mono (fun f a hf M1 F1 => ?_) (fun PL1 WA1 OA1 TO1 BI1 nm1 q1 hk1 g1 g2 hb1 M1 s1 => ?_)))
      · skip
        exact w_iret (fun _ => Or.inl rfl) (hf _ F1)
      · skip
        exact w_iret (fun _ => Or.inr rfl) (hk1 g1 g2 hb1 _ s1)
  · cases c1
set_option maxHeartbeats 8000000 in
theorem r_row_1 {G : mj_G} {M0 M : mj_M} {B : Nat → Int} {n lim tp bc pl na ta ba wa oa : Nat} {tr br : Nat → Nat} {T : Nat → Nat × Nat × Int × List Int × Nat} {PL WA OA : Nat → Int} {TO BI : Nat → Nat → Int} {nm : Nat → List Int} {Q : mj_P} {d q : Nat} (hA : rv_AT G M0 B n lim tp bc pl na ta ba wa oa tr br T) (hS : rv_S G M0 n lim tp pl na wa oa tr br (T q) PL WA OA TO BI nm M) (hqn : q ≤ n) (hb : rv_pb PL) {w : Nat} (gw : G w = (901050, 0)) (e9 : M.2.2 tp 9 = some w) (h1 : 0 = 0 → sp_water T PL WA OA TO BI nm q (fun f a => ∀ M', rv_F tp pl na wa oa tr br M0 f a M' → Q (some (.inl 0)) G M') (fun PL WA OA TO BI nm q' => q ≤ q' → q' ≤ n → rv_pb PL → ∀ M', rv_S G M0 n lim tp pl na wa oa tr br (T q') PL WA OA TO BI nm M' → Q (some (.inl 1)) G M')) : mj_R mj_tab (d + 6) 43 [.inr (.inr (some pl)), .inr (.inr (some tp))] G M Q := by
  obtain ⟨⟨gtp, gbc, gpl, gna, gta, gba, gwa, goa, gtr, gbr, itr, ibr, r1, r2, r3, r4, r5, r6, r7, r8, rb, rw0, n1, n2, hIw⟩, hT⟩ := id hA
  refine ⟨Nat.le_of_ble_eq_true rfl, ?_⟩
  show wz (d + 5) mt_X3_readRow.2.2.2.2.1 Q mt_X3_readRow.2.2.2.2.1 [some (.inr (.inr (some pl))), some (.inr (.inr (some tp))), none] [] G M _ _
  refine w_aln rfl ?_
  refine w_gr gtp rfl (by decide) rfl (e9) ?_
  refine w_asn ?_
  show wz _ _ _ _ [some (.inr (.inr (some pl))), some (.inr (.inr (some tp))), some (.inr (.inr (some w)))] _ _ _ _ _
  refine w_aln rfl ?_
  refine w_ifnn (fun c1 => ?_) (fun c1 => ?_)
  · skip
    refine w_aln rfl ?_
    refine w_gs ?_
    intro a2 ga2
    have ga2 : G a2 = (900050, 0) := ga2
    refine w_acne (fun c3 => ?_) (fun c3 => ?_)
    · skip
      refine w_aln rfl ?_
      refine w_gs ?_
      intro a4 ga4
      have ga4 : G a4 = (901050, 0) := ga4
      refine w_acne (fun c5 => ?_) (fun c5 => ?_)
      · exact absurd (congrArg some (hIw _ _ ((congrArg (fun x => x.1 % 1000) gw).trans rfl) (gw.trans ga4.symm))) c5
      · skip
        refine w_aln rfl ?_
        refine w_aln rfl ?_
        refine w_cv (st := []) rfl gpl rfl (Nat.le_of_ble_eq_true rfl) (fun kk h => h) (r_X3_readWater (d := d) hA hS hqn hb ((h1 rfl).mono (fun f a hf M1 F1 => ?_) (fun PL1 WA1 OA1 TO1 BI1 nm1 q1 hk1 g1 g2 hb1 M1 s1 => ?_)))
        · skip
          exact w_iret (fun _ => Or.inl rfl) (hf _ F1)
        · skip
          exact w_iret (fun _ => Or.inr rfl) (hk1 g1 g2 hb1 _ s1)
    · exact absurd (Option.some.inj c3) (hn_ne gw ga2 (by decide))
  · cases c1
set_option maxHeartbeats 8000000 in
theorem r_row_2 {G : mj_G} {M0 M : mj_M} {B : Nat → Int} {n lim tp bc pl na ta ba wa oa : Nat} {tr br : Nat → Nat} {T : Nat → Nat × Nat × Int × List Int × Nat} {PL WA OA : Nat → Int} {TO BI : Nat → Nat → Int} {nm : Nat → List Int} {Q : mj_P} {d q : Nat} (hA : rv_AT G M0 B n lim tp bc pl na ta ba wa oa tr br T) (hS : rv_S G M0 n lim tp pl na wa oa tr br (T q) PL WA OA TO BI nm M) (hqn : q ≤ n) (hb : rv_pb PL) {w : Nat} (gw : G w = (902050, 0)) (e9 : M.2.2 tp 9 = some w) (h2 : 0 = 0 → sp_bid T PL WA OA TO BI nm q (fun f a => ∀ M', rv_F tp pl na wa oa tr br M0 f a M' → Q (some (.inl 0)) G M') (fun PL WA OA TO BI nm q' => q ≤ q' → q' ≤ n → rv_pb PL → ∀ M', rv_S G M0 n lim tp pl na wa oa tr br (T q') PL WA OA TO BI nm M' → Q (some (.inl 1)) G M')) : mj_R mj_tab (d + 6) 43 [.inr (.inr (some pl)), .inr (.inr (some tp))] G M Q := by
  obtain ⟨⟨gtp, gbc, gpl, gna, gta, gba, gwa, goa, gtr, gbr, itr, ibr, r1, r2, r3, r4, r5, r6, r7, r8, rb, rw0, n1, n2, hIw⟩, hT⟩ := id hA
  refine ⟨Nat.le_of_ble_eq_true rfl, ?_⟩
  show wz (d + 5) mt_X3_readRow.2.2.2.2.1 Q mt_X3_readRow.2.2.2.2.1 [some (.inr (.inr (some pl))), some (.inr (.inr (some tp))), none] [] G M _ _
  refine w_aln rfl ?_
  refine w_gr gtp rfl (by decide) rfl (e9) ?_
  refine w_asn ?_
  show wz _ _ _ _ [some (.inr (.inr (some pl))), some (.inr (.inr (some tp))), some (.inr (.inr (some w)))] _ _ _ _ _
  refine w_aln rfl ?_
  refine w_ifnn (fun c1 => ?_) (fun c1 => ?_)
  · skip
    refine w_aln rfl ?_
    refine w_gs ?_
    intro a2 ga2
    have ga2 : G a2 = (900050, 0) := ga2
    refine w_acne (fun c3 => ?_) (fun c3 => ?_)
    · skip
      refine w_aln rfl ?_
      refine w_gs ?_
      intro a4 ga4
      have ga4 : G a4 = (901050, 0) := ga4
      refine w_acne (fun c5 => ?_) (fun c5 => ?_)
      · skip
        refine w_aln rfl ?_
        refine w_gs ?_
        intro a6 ga6
        have ga6 : G a6 = (902050, 0) := ga6
        refine w_acne (fun c7 => ?_) (fun c7 => ?_)
        · exact absurd (congrArg some (hIw _ _ ((congrArg (fun x => x.1 % 1000) gw).trans rfl) (gw.trans ga6.symm))) c7
        · skip
          refine w_aln rfl ?_
          refine w_aln rfl ?_
          refine w_cv (st := []) rfl gpl rfl (Nat.le_of_ble_eq_true rfl) (fun kk h => h) (r_X3_readBid (d := d) hA hS hqn hb ((h2 rfl).mono (fun f a hf M1 F1 => ?_) (fun PL1 WA1 OA1 TO1 BI1 nm1 q1 hk1 g1 g2 hb1 M1 s1 => ?_)))
          · skip
            exact w_iret (fun _ => Or.inl rfl) (hf _ F1)
          · skip
            exact w_iret (fun _ => Or.inr rfl) (hk1 g1 g2 hb1 _ s1)
      · exact absurd (Option.some.inj c5) (hn_ne gw ga4 (by decide))
    · exact absurd (Option.some.inj c3) (hn_ne gw ga2 (by decide))
  · cases c1
set_option maxHeartbeats 8000000 in
theorem r_row_3 {G : mj_G} {M0 M : mj_M} {B : Nat → Int} {n lim tp bc pl na ta ba wa oa : Nat} {tr br : Nat → Nat} {T : Nat → Nat × Nat × Int × List Int × Nat} {PL WA OA : Nat → Int} {TO BI : Nat → Nat → Int} {nm : Nat → List Int} {Q : mj_P} {d q : Nat} (hA : rv_AT G M0 B n lim tp bc pl na ta ba wa oa tr br T) (hS : rv_S G M0 n lim tp pl na wa oa tr br (T q) PL WA OA TO BI nm M) (hqn : q ≤ n) (hb : rv_pb PL) {w : Nat} (gw : G w = (903050, 0)) (e9 : M.2.2 tp 9 = some w) (h3 : 0 = 0 → sp_need T PL WA OA TO BI nm q (fun f a => ∀ M', rv_F tp pl na wa oa tr br M0 f a M' → Q (some (.inl 0)) G M') (fun PL WA OA TO BI nm q' => q ≤ q' → q' ≤ n → rv_pb PL → ∀ M', rv_S G M0 n lim tp pl na wa oa tr br (T q') PL WA OA TO BI nm M' → Q (some (.inl 1)) G M')) : mj_R mj_tab (d + 6) 43 [.inr (.inr (some pl)), .inr (.inr (some tp))] G M Q := by
  obtain ⟨⟨gtp, gbc, gpl, gna, gta, gba, gwa, goa, gtr, gbr, itr, ibr, r1, r2, r3, r4, r5, r6, r7, r8, rb, rw0, n1, n2, hIw⟩, hT⟩ := id hA
  refine ⟨Nat.le_of_ble_eq_true rfl, ?_⟩
  show wz (d + 5) mt_X3_readRow.2.2.2.2.1 Q mt_X3_readRow.2.2.2.2.1 [some (.inr (.inr (some pl))), some (.inr (.inr (some tp))), none] [] G M _ _
  refine w_aln rfl ?_
  refine w_gr gtp rfl (by decide) rfl (e9) ?_
  refine w_asn ?_
  show wz _ _ _ _ [some (.inr (.inr (some pl))), some (.inr (.inr (some tp))), some (.inr (.inr (some w)))] _ _ _ _ _
  refine w_aln rfl ?_
  refine w_ifnn (fun c1 => ?_) (fun c1 => ?_)
  · skip
    refine w_aln rfl ?_
    refine w_gs ?_
    intro a2 ga2
    have ga2 : G a2 = (900050, 0) := ga2
    refine w_acne (fun c3 => ?_) (fun c3 => ?_)
    · skip
      refine w_aln rfl ?_
      refine w_gs ?_
      intro a4 ga4
      have ga4 : G a4 = (901050, 0) := ga4
      refine w_acne (fun c5 => ?_) (fun c5 => ?_)
      · skip
        refine w_aln rfl ?_
        refine w_gs ?_
        intro a6 ga6
        have ga6 : G a6 = (902050, 0) := ga6
        refine w_acne (fun c7 => ?_) (fun c7 => ?_)
        · skip
          refine w_aln rfl ?_
          refine w_cv (st := []) rfl gw rfl (Nat.le_of_ble_eq_true rfl) (fun kk h => h) ⟨Nat.le_of_ble_eq_true rfl, ?_⟩
          show wz (d + 4) mt_X9_isAboutTown.2.2.2.2.1 _ mt_X9_isAboutTown.2.2.2.2.1 [some (.inr (.inr (some w)))] [] _ _ _ _
          refine w_aln rfl ?_
          refine w_gs ?_
          intro a8 ga8
          have ga8 : G a8 = (903050, 0) := ga8
          refine w_aceq (fun c9 => ?_) (fun c9 => ?_)
          · skip
            refine w_ic ?_
            refine w_goto ?_
            refine w_iret (fun _ => Or.inr rfl) ?_
            refine w_ifeq (fun c10 => ?_) (fun c10 => ?_)
            · exfalso; omega
            · skip
              refine w_aln rfl ?_
              refine w_aln rfl ?_
              refine w_aln rfl ?_
              refine w_cv (st := []) rfl gpl rfl (Nat.le_of_ble_eq_true rfl) (fun kk h => h) (r_X3_readAboutTown_need (d := d) gw hA hS hqn hb ((h3 rfl).mono (fun f a hf M1 F1 => ?_) (fun PL1 WA1 OA1 TO1 BI1 nm1 q1 hk1 g1 g2 hb1 M1 s1 => ?_)))
              · skip
                exact w_iret (fun _ => Or.inl rfl) (hf _ F1)
              · skip
                exact w_iret (fun _ => Or.inr rfl) (hk1 g1 g2 hb1 _ s1)
          · exact absurd (congrArg some (hIw _ _ ((congrArg (fun x => x.1 % 1000) gw).trans rfl) (gw.trans ga8.symm))) c9
        · exact absurd (Option.some.inj c7) (hn_ne gw ga6 (by decide))
      · exact absurd (Option.some.inj c5) (hn_ne gw ga4 (by decide))
    · exact absurd (Option.some.inj c3) (hn_ne gw ga2 (by decide))
  · cases c1
set_option maxHeartbeats 8000000 in
theorem r_row_4 {G : mj_G} {M0 M : mj_M} {B : Nat → Int} {n lim tp bc pl na ta ba wa oa : Nat} {tr br : Nat → Nat} {T : Nat → Nat × Nat × Int × List Int × Nat} {PL WA OA : Nat → Int} {TO BI : Nat → Nat → Int} {nm : Nat → List Int} {Q : mj_P} {d q : Nat} (hA : rv_AT G M0 B n lim tp bc pl na ta ba wa oa tr br T) (hS : rv_S G M0 n lim tp pl na wa oa tr br (T q) PL WA OA TO BI nm M) (hqn : q ≤ n) (hb : rv_pb PL) {w : Nat} (gw : G w = (904050, 0)) (e9 : M.2.2 tp 9 = some w) (h4 : 0 = 0 → sp_mill T PL WA OA TO BI nm q (fun f a => ∀ M', rv_F tp pl na wa oa tr br M0 f a M' → Q (some (.inl 0)) G M') (fun PL WA OA TO BI nm q' => q ≤ q' → q' ≤ n → rv_pb PL → ∀ M', rv_S G M0 n lim tp pl na wa oa tr br (T q') PL WA OA TO BI nm M' → Q (some (.inl 1)) G M')) : mj_R mj_tab (d + 6) 43 [.inr (.inr (some pl)), .inr (.inr (some tp))] G M Q := by
  obtain ⟨⟨gtp, gbc, gpl, gna, gta, gba, gwa, goa, gtr, gbr, itr, ibr, r1, r2, r3, r4, r5, r6, r7, r8, rb, rw0, n1, n2, hIw⟩, hT⟩ := id hA
  refine ⟨Nat.le_of_ble_eq_true rfl, ?_⟩
  show wz (d + 5) mt_X3_readRow.2.2.2.2.1 Q mt_X3_readRow.2.2.2.2.1 [some (.inr (.inr (some pl))), some (.inr (.inr (some tp))), none] [] G M _ _
  refine w_aln rfl ?_
  refine w_gr gtp rfl (by decide) rfl (e9) ?_
  refine w_asn ?_
  show wz _ _ _ _ [some (.inr (.inr (some pl))), some (.inr (.inr (some tp))), some (.inr (.inr (some w)))] _ _ _ _ _
  refine w_aln rfl ?_
  refine w_ifnn (fun c1 => ?_) (fun c1 => ?_)
  · skip
    refine w_aln rfl ?_
    refine w_gs ?_
    intro a2 ga2
    have ga2 : G a2 = (900050, 0) := ga2
    refine w_acne (fun c3 => ?_) (fun c3 => ?_)
    · skip
      refine w_aln rfl ?_
      refine w_gs ?_
      intro a4 ga4
      have ga4 : G a4 = (901050, 0) := ga4
      refine w_acne (fun c5 => ?_) (fun c5 => ?_)
      · skip
        refine w_aln rfl ?_
        refine w_gs ?_
        intro a6 ga6
        have ga6 : G a6 = (902050, 0) := ga6
        refine w_acne (fun c7 => ?_) (fun c7 => ?_)
        · skip
          refine w_aln rfl ?_
          refine w_cv (st := []) rfl gw rfl (Nat.le_of_ble_eq_true rfl) (fun kk h => h) ⟨Nat.le_of_ble_eq_true rfl, ?_⟩
          show wz (d + 4) mt_X9_isAboutTown.2.2.2.2.1 _ mt_X9_isAboutTown.2.2.2.2.1 [some (.inr (.inr (some w)))] [] _ _ _ _
          refine w_aln rfl ?_
          refine w_gs ?_
          intro a8 ga8
          have ga8 : G a8 = (903050, 0) := ga8
          refine w_aceq (fun c9 => ?_) (fun c9 => ?_)
          · exact absurd (Option.some.inj c9) (hn_ne gw ga8 (by decide))
          · skip
            refine w_aln rfl ?_
            refine w_gs ?_
            intro a10 ga10
            have ga10 : G a10 = (904050, 0) := ga10
            refine w_aceq (fun c11 => ?_) (fun c11 => ?_)
            · skip
              refine w_ic ?_
              refine w_goto ?_
              refine w_iret (fun _ => Or.inr rfl) ?_
              refine w_ifeq (fun c12 => ?_) (fun c12 => ?_)
              · exfalso; omega
              · skip
                refine w_aln rfl ?_
                refine w_aln rfl ?_
                refine w_aln rfl ?_
                refine w_cv (st := []) rfl gpl rfl (Nat.le_of_ble_eq_true rfl) (fun kk h => h) (r_X3_readAboutTown_mill (d := d) gw hA hS hqn hb ((h4 rfl).mono (fun f a hf M1 F1 => ?_) (fun PL1 WA1 OA1 TO1 BI1 nm1 q1 hk1 g1 g2 hb1 M1 s1 => ?_)))
                · skip
                  exact w_iret (fun _ => Or.inl rfl) (hf _ F1)
                · skip
                  exact w_iret (fun _ => Or.inr rfl) (hk1 g1 g2 hb1 _ s1)
            · exact absurd (congrArg some (hIw _ _ ((congrArg (fun x => x.1 % 1000) gw).trans rfl) (gw.trans ga10.symm))) c11
        · exact absurd (Option.some.inj c7) (hn_ne gw ga6 (by decide))
      · exact absurd (Option.some.inj c5) (hn_ne gw ga4 (by decide))
    · exact absurd (Option.some.inj c3) (hn_ne gw ga2 (by decide))
  · cases c1
set_option maxHeartbeats 8000000 in
theorem r_row_5 {G : mj_G} {M0 M : mj_M} {B : Nat → Int} {n lim tp bc pl na ta ba wa oa : Nat} {tr br : Nat → Nat} {T : Nat → Nat × Nat × Int × List Int × Nat} {PL WA OA : Nat → Int} {TO BI : Nat → Nat → Int} {nm : Nat → List Int} {Q : mj_P} {d q : Nat} (hA : rv_AT G M0 B n lim tp bc pl na ta ba wa oa tr br T) (hS : rv_S G M0 n lim tp pl na wa oa tr br (T q) PL WA OA TO BI nm M) (hqn : q ≤ n) (hb : rv_pb PL) {w : Nat} (gw : G w = (905050, 0)) (e9 : M.2.2 tp 9 = some w) (h5 : 0 = 0 → sp_bridge T PL WA OA TO BI nm q (fun f a => ∀ M', rv_F tp pl na wa oa tr br M0 f a M' → Q (some (.inl 0)) G M') (fun PL WA OA TO BI nm q' => q ≤ q' → q' ≤ n → rv_pb PL → ∀ M', rv_S G M0 n lim tp pl na wa oa tr br (T q') PL WA OA TO BI nm M' → Q (some (.inl 1)) G M')) : mj_R mj_tab (d + 6) 43 [.inr (.inr (some pl)), .inr (.inr (some tp))] G M Q := by
  obtain ⟨⟨gtp, gbc, gpl, gna, gta, gba, gwa, goa, gtr, gbr, itr, ibr, r1, r2, r3, r4, r5, r6, r7, r8, rb, rw0, n1, n2, hIw⟩, hT⟩ := id hA
  refine ⟨Nat.le_of_ble_eq_true rfl, ?_⟩
  show wz (d + 5) mt_X3_readRow.2.2.2.2.1 Q mt_X3_readRow.2.2.2.2.1 [some (.inr (.inr (some pl))), some (.inr (.inr (some tp))), none] [] G M _ _
  refine w_aln rfl ?_
  refine w_gr gtp rfl (by decide) rfl (e9) ?_
  refine w_asn ?_
  show wz _ _ _ _ [some (.inr (.inr (some pl))), some (.inr (.inr (some tp))), some (.inr (.inr (some w)))] _ _ _ _ _
  refine w_aln rfl ?_
  refine w_ifnn (fun c1 => ?_) (fun c1 => ?_)
  · skip
    refine w_aln rfl ?_
    refine w_gs ?_
    intro a2 ga2
    have ga2 : G a2 = (900050, 0) := ga2
    refine w_acne (fun c3 => ?_) (fun c3 => ?_)
    · skip
      refine w_aln rfl ?_
      refine w_gs ?_
      intro a4 ga4
      have ga4 : G a4 = (901050, 0) := ga4
      refine w_acne (fun c5 => ?_) (fun c5 => ?_)
      · skip
        refine w_aln rfl ?_
        refine w_gs ?_
        intro a6 ga6
        have ga6 : G a6 = (902050, 0) := ga6
        refine w_acne (fun c7 => ?_) (fun c7 => ?_)
        · skip
          refine w_aln rfl ?_
          refine w_cv (st := []) rfl gw rfl (Nat.le_of_ble_eq_true rfl) (fun kk h => h) ⟨Nat.le_of_ble_eq_true rfl, ?_⟩
          show wz (d + 4) mt_X9_isAboutTown.2.2.2.2.1 _ mt_X9_isAboutTown.2.2.2.2.1 [some (.inr (.inr (some w)))] [] _ _ _ _
          refine w_aln rfl ?_
          refine w_gs ?_
          intro a8 ga8
          have ga8 : G a8 = (903050, 0) := ga8
          refine w_aceq (fun c9 => ?_) (fun c9 => ?_)
          · exact absurd (Option.some.inj c9) (hn_ne gw ga8 (by decide))
          · skip
            refine w_aln rfl ?_
            refine w_gs ?_
            intro a10 ga10
            have ga10 : G a10 = (904050, 0) := ga10
            refine w_aceq (fun c11 => ?_) (fun c11 => ?_)
            · exact absurd (Option.some.inj c11) (hn_ne gw ga10 (by decide))
            · skip
              refine w_aln rfl ?_
              refine w_gs ?_
              intro a12 ga12
              have ga12 : G a12 = (905050, 0) := ga12
              refine w_aceq (fun c13 => ?_) (fun c13 => ?_)
              · skip
                refine w_ic ?_
                refine w_goto ?_
                refine w_iret (fun _ => Or.inr rfl) ?_
                refine w_ifeq (fun c14 => ?_) (fun c14 => ?_)
                · exfalso; omega
                · skip
                  refine w_aln rfl ?_
                  refine w_aln rfl ?_
                  refine w_aln rfl ?_
                  refine w_cv (st := []) rfl gpl rfl (Nat.le_of_ble_eq_true rfl) (fun kk h => h) (r_X3_readAboutTown_bridge (d := d) gw hA hS hqn hb ((h5 rfl).mono (fun f a hf M1 F1 => ?_) (fun PL1 WA1 OA1 TO1 BI1 nm1 q1 hk1 g1 g2 hb1 M1 s1 => ?_)))
                  · skip
                    exact w_iret (fun _ => Or.inl rfl) (hf _ F1)
                  · skip
                    exact w_iret (fun _ => Or.inr rfl) (hk1 g1 g2 hb1 _ s1)
              · exact absurd (congrArg some (hIw _ _ ((congrArg (fun x => x.1 % 1000) gw).trans rfl) (gw.trans ga12.symm))) c13
        · exact absurd (Option.some.inj c7) (hn_ne gw ga6 (by decide))
      · exact absurd (Option.some.inj c5) (hn_ne gw ga4 (by decide))
    · exact absurd (Option.some.inj c3) (hn_ne gw ga2 (by decide))
  · cases c1
set_option maxHeartbeats 8000000 in
theorem r_row_6 {G : mj_G} {M0 M : mj_M} {B : Nat → Int} {n lim tp bc pl na ta ba wa oa : Nat} {tr br : Nat → Nat} {T : Nat → Nat × Nat × Int × List Int × Nat} {PL WA OA : Nat → Int} {TO BI : Nat → Nat → Int} {nm : Nat → List Int} {Q : mj_P} {d q : Nat} (hA : rv_AT G M0 B n lim tp bc pl na ta ba wa oa tr br T) (hS : rv_S G M0 n lim tp pl na wa oa tr br (T q) PL WA OA TO BI nm M) (hqn : q ≤ n) (hb : rv_pb PL) {w : Nat} (gw : G w = (906050, 0)) (e9 : M.2.2 tp 9 = some w) (h6 : 0 = 0 → sp_field T PL WA OA TO BI nm q (fun f a => ∀ M', rv_F tp pl na wa oa tr br M0 f a M' → Q (some (.inl 0)) G M') (fun PL WA OA TO BI nm q' => q ≤ q' → q' ≤ n → rv_pb PL → ∀ M', rv_S G M0 n lim tp pl na wa oa tr br (T q') PL WA OA TO BI nm M' → Q (some (.inl 1)) G M')) : mj_R mj_tab (d + 6) 43 [.inr (.inr (some pl)), .inr (.inr (some tp))] G M Q := by
  obtain ⟨⟨gtp, gbc, gpl, gna, gta, gba, gwa, goa, gtr, gbr, itr, ibr, r1, r2, r3, r4, r5, r6, r7, r8, rb, rw0, n1, n2, hIw⟩, hT⟩ := id hA
  refine ⟨Nat.le_of_ble_eq_true rfl, ?_⟩
  show wz (d + 5) mt_X3_readRow.2.2.2.2.1 Q mt_X3_readRow.2.2.2.2.1 [some (.inr (.inr (some pl))), some (.inr (.inr (some tp))), none] [] G M _ _
  refine w_aln rfl ?_
  refine w_gr gtp rfl (by decide) rfl (e9) ?_
  refine w_asn ?_
  show wz _ _ _ _ [some (.inr (.inr (some pl))), some (.inr (.inr (some tp))), some (.inr (.inr (some w)))] _ _ _ _ _
  refine w_aln rfl ?_
  refine w_ifnn (fun c1 => ?_) (fun c1 => ?_)
  · skip
    refine w_aln rfl ?_
    refine w_gs ?_
    intro a2 ga2
    have ga2 : G a2 = (900050, 0) := ga2
    refine w_acne (fun c3 => ?_) (fun c3 => ?_)
    · skip
      refine w_aln rfl ?_
      refine w_gs ?_
      intro a4 ga4
      have ga4 : G a4 = (901050, 0) := ga4
      refine w_acne (fun c5 => ?_) (fun c5 => ?_)
      · skip
        refine w_aln rfl ?_
        refine w_gs ?_
        intro a6 ga6
        have ga6 : G a6 = (902050, 0) := ga6
        refine w_acne (fun c7 => ?_) (fun c7 => ?_)
        · skip
          refine w_aln rfl ?_
          refine w_cv (st := []) rfl gw rfl (Nat.le_of_ble_eq_true rfl) (fun kk h => h) ⟨Nat.le_of_ble_eq_true rfl, ?_⟩
          show wz (d + 4) mt_X9_isAboutTown.2.2.2.2.1 _ mt_X9_isAboutTown.2.2.2.2.1 [some (.inr (.inr (some w)))] [] _ _ _ _
          refine w_aln rfl ?_
          refine w_gs ?_
          intro a8 ga8
          have ga8 : G a8 = (903050, 0) := ga8
          refine w_aceq (fun c9 => ?_) (fun c9 => ?_)
          · exact absurd (Option.some.inj c9) (hn_ne gw ga8 (by decide))
          · skip
            refine w_aln rfl ?_
            refine w_gs ?_
            intro a10 ga10
            have ga10 : G a10 = (904050, 0) := ga10
            refine w_aceq (fun c11 => ?_) (fun c11 => ?_)
            · exact absurd (Option.some.inj c11) (hn_ne gw ga10 (by decide))
            · skip
              refine w_aln rfl ?_
              refine w_gs ?_
              intro a12 ga12
              have ga12 : G a12 = (905050, 0) := ga12
              refine w_aceq (fun c13 => ?_) (fun c13 => ?_)
              · exact absurd (Option.some.inj c13) (hn_ne gw ga12 (by decide))
              · skip
                refine w_aln rfl ?_
                refine w_gs ?_
                intro a14 ga14
                have ga14 : G a14 = (906050, 0) := ga14
                refine w_acne (fun c15 => ?_) (fun c15 => ?_)
                · exact absurd (congrArg some (hIw _ _ ((congrArg (fun x => x.1 % 1000) gw).trans rfl) (gw.trans ga14.symm))) c15
                · skip
                  refine w_ic ?_
                  refine w_goto ?_
                  refine w_iret (fun _ => Or.inr rfl) ?_
                  refine w_ifeq (fun c16 => ?_) (fun c16 => ?_)
                  · exfalso; omega
                  · skip
                    refine w_aln rfl ?_
                    refine w_aln rfl ?_
                    refine w_aln rfl ?_
                    refine w_cv (st := []) rfl gpl rfl (Nat.le_of_ble_eq_true rfl) (fun kk h => h) (r_X3_readAboutTown_field (d := d) gw hA hS hqn hb ((h6 rfl).mono (fun f a hf M1 F1 => ?_) (fun PL1 WA1 OA1 TO1 BI1 nm1 q1 hk1 g1 g2 hb1 M1 s1 => ?_)))
                    · skip
                      exact w_iret (fun _ => Or.inl rfl) (hf _ F1)
                    · skip
                      exact w_iret (fun _ => Or.inr rfl) (hk1 g1 g2 hb1 _ s1)
        · exact absurd (Option.some.inj c7) (hn_ne gw ga6 (by decide))
      · exact absurd (Option.some.inj c5) (hn_ne gw ga4 (by decide))
    · exact absurd (Option.some.inj c3) (hn_ne gw ga2 (by decide))
  · cases c1
set_option maxHeartbeats 8000000 in
theorem r_row_7 {G : mj_G} {M0 M : mj_M} {B : Nat → Int} {n lim tp bc pl na ta ba wa oa : Nat} {tr br : Nat → Nat} {T : Nat → Nat × Nat × Int × List Int × Nat} {PL WA OA : Nat → Int} {TO BI : Nat → Nat → Int} {nm : Nat → List Int} {Q : mj_P} {d q : Nat} (hA : rv_AT G M0 B n lim tp bc pl na ta ba wa oa tr br T) (hS : rv_S G M0 n lim tp pl na wa oa tr br (T q) PL WA OA TO BI nm M) (hqn : q ≤ n) (hb : rv_pb PL) {w : Nat} (gw : G w = (907050, 0)) (e9 : M.2.2 tp 9 = some w) (h7 : 0 = 0 → sp_move T PL WA OA TO BI nm q (fun f a => ∀ M', rv_F tp pl na wa oa tr br M0 f a M' → Q (some (.inl 0)) G M') (fun PL WA OA TO BI nm q' => q ≤ q' → q' ≤ n → rv_pb PL → ∀ M', rv_S G M0 n lim tp pl na wa oa tr br (T q') PL WA OA TO BI nm M' → Q (some (.inl 1)) G M')) : mj_R mj_tab (d + 6) 43 [.inr (.inr (some pl)), .inr (.inr (some tp))] G M Q := by
  obtain ⟨⟨gtp, gbc, gpl, gna, gta, gba, gwa, goa, gtr, gbr, itr, ibr, r1, r2, r3, r4, r5, r6, r7, r8, rb, rw0, n1, n2, hIw⟩, hT⟩ := id hA
  refine ⟨Nat.le_of_ble_eq_true rfl, ?_⟩
  show wz (d + 5) mt_X3_readRow.2.2.2.2.1 Q mt_X3_readRow.2.2.2.2.1 [some (.inr (.inr (some pl))), some (.inr (.inr (some tp))), none] [] G M _ _
  refine w_aln rfl ?_
  refine w_gr gtp rfl (by decide) rfl (e9) ?_
  refine w_asn ?_
  show wz _ _ _ _ [some (.inr (.inr (some pl))), some (.inr (.inr (some tp))), some (.inr (.inr (some w)))] _ _ _ _ _
  refine w_aln rfl ?_
  refine w_ifnn (fun c1 => ?_) (fun c1 => ?_)
  · skip
    refine w_aln rfl ?_
    refine w_gs ?_
    intro a2 ga2
    have ga2 : G a2 = (900050, 0) := ga2
    refine w_acne (fun c3 => ?_) (fun c3 => ?_)
    · skip
      refine w_aln rfl ?_
      refine w_gs ?_
      intro a4 ga4
      have ga4 : G a4 = (901050, 0) := ga4
      refine w_acne (fun c5 => ?_) (fun c5 => ?_)
      · skip
        refine w_aln rfl ?_
        refine w_gs ?_
        intro a6 ga6
        have ga6 : G a6 = (902050, 0) := ga6
        refine w_acne (fun c7 => ?_) (fun c7 => ?_)
        · skip
          refine w_aln rfl ?_
          refine w_cv (st := []) rfl gw rfl (Nat.le_of_ble_eq_true rfl) (fun kk h => h) ⟨Nat.le_of_ble_eq_true rfl, ?_⟩
          show wz (d + 4) mt_X9_isAboutTown.2.2.2.2.1 _ mt_X9_isAboutTown.2.2.2.2.1 [some (.inr (.inr (some w)))] [] _ _ _ _
          refine w_aln rfl ?_
          refine w_gs ?_
          intro a8 ga8
          have ga8 : G a8 = (903050, 0) := ga8
          refine w_aceq (fun c9 => ?_) (fun c9 => ?_)
          · exact absurd (Option.some.inj c9) (hn_ne gw ga8 (by decide))
          · skip
            refine w_aln rfl ?_
            refine w_gs ?_
            intro a10 ga10
            have ga10 : G a10 = (904050, 0) := ga10
            refine w_aceq (fun c11 => ?_) (fun c11 => ?_)
            · exact absurd (Option.some.inj c11) (hn_ne gw ga10 (by decide))
            · skip
              refine w_aln rfl ?_
              refine w_gs ?_
              intro a12 ga12
              have ga12 : G a12 = (905050, 0) := ga12
              refine w_aceq (fun c13 => ?_) (fun c13 => ?_)
              · exact absurd (Option.some.inj c13) (hn_ne gw ga12 (by decide))
              · skip
                refine w_aln rfl ?_
                refine w_gs ?_
                intro a14 ga14
                have ga14 : G a14 = (906050, 0) := ga14
                refine w_acne (fun c15 => ?_) (fun c15 => ?_)
                · skip
                  refine w_ic ?_
                  refine w_iret (fun _ => Or.inl rfl) ?_
                  refine w_ifeq (fun c16 => ?_) (fun c16 => ?_)
                  · skip
                    refine w_aln rfl ?_
                    refine w_gs ?_
                    intro a17 ga17
                    have ga17 : G a17 = (907050, 0) := ga17
                    refine w_acne (fun c18 => ?_) (fun c18 => ?_)
                    · exact absurd (congrArg some (hIw _ _ ((congrArg (fun x => x.1 % 1000) gw).trans rfl) (gw.trans ga17.symm))) c18
                    · skip
                      refine w_aln rfl ?_
                      refine w_aln rfl ?_
                      refine w_cv (st := []) rfl gpl rfl (Nat.le_of_ble_eq_true rfl) (fun kk h => h) (r_X3_readMove (d := d) hA hS hqn hb ((h7 rfl).mono (fun f a hf M1 F1 => ?_) (fun PL1 WA1 OA1 TO1 BI1 nm1 q1 hk1 g1 g2 hb1 M1 s1 => ?_)))
                      · skip
                        exact w_iret (fun _ => Or.inl rfl) (hf _ F1)
                      · skip
                        exact w_iret (fun _ => Or.inr rfl) (hk1 g1 g2 hb1 _ s1)
                  · exfalso; omega
                · exact absurd (Option.some.inj c15) (hn_ne gw ga14 (by decide))
        · exact absurd (Option.some.inj c7) (hn_ne gw ga6 (by decide))
      · exact absurd (Option.some.inj c5) (hn_ne gw ga4 (by decide))
    · exact absurd (Option.some.inj c3) (hn_ne gw ga2 (by decide))
  · cases c1
set_option maxHeartbeats 8000000 in
theorem r_row_8 {G : mj_G} {M0 M : mj_M} {B : Nat → Int} {n lim tp bc pl na ta ba wa oa : Nat} {tr br : Nat → Nat} {T : Nat → Nat × Nat × Int × List Int × Nat} {PL WA OA : Nat → Int} {TO BI : Nat → Nat → Int} {nm : Nat → List Int} {Q : mj_P} {d q : Nat} (hA : rv_AT G M0 B n lim tp bc pl na ta ba wa oa tr br T) (hS : rv_S G M0 n lim tp pl na wa oa tr br (T q) PL WA OA TO BI nm M) (hqn : q ≤ n) (hb : rv_pb PL) {w : Nat} (gw : G w = (908050, 0)) (e9 : M.2.2 tp 9 = some w) (h8 : 0 = 0 → sp_fish T PL WA OA TO BI nm q (fun f a => ∀ M', rv_F tp pl na wa oa tr br M0 f a M' → Q (some (.inl 0)) G M') (fun PL WA OA TO BI nm q' => q ≤ q' → q' ≤ n → rv_pb PL → ∀ M', rv_S G M0 n lim tp pl na wa oa tr br (T q') PL WA OA TO BI nm M' → Q (some (.inl 1)) G M')) : mj_R mj_tab (d + 6) 43 [.inr (.inr (some pl)), .inr (.inr (some tp))] G M Q := by
  obtain ⟨⟨gtp, gbc, gpl, gna, gta, gba, gwa, goa, gtr, gbr, itr, ibr, r1, r2, r3, r4, r5, r6, r7, r8, rb, rw0, n1, n2, hIw⟩, hT⟩ := id hA
  refine ⟨Nat.le_of_ble_eq_true rfl, ?_⟩
  show wz (d + 5) mt_X3_readRow.2.2.2.2.1 Q mt_X3_readRow.2.2.2.2.1 [some (.inr (.inr (some pl))), some (.inr (.inr (some tp))), none] [] G M _ _
  refine w_aln rfl ?_
  refine w_gr gtp rfl (by decide) rfl (e9) ?_
  refine w_asn ?_
  show wz _ _ _ _ [some (.inr (.inr (some pl))), some (.inr (.inr (some tp))), some (.inr (.inr (some w)))] _ _ _ _ _
  refine w_aln rfl ?_
  refine w_ifnn (fun c1 => ?_) (fun c1 => ?_)
  · skip
    refine w_aln rfl ?_
    refine w_gs ?_
    intro a2 ga2
    have ga2 : G a2 = (900050, 0) := ga2
    refine w_acne (fun c3 => ?_) (fun c3 => ?_)
    · skip
      refine w_aln rfl ?_
      refine w_gs ?_
      intro a4 ga4
      have ga4 : G a4 = (901050, 0) := ga4
      refine w_acne (fun c5 => ?_) (fun c5 => ?_)
      · skip
        refine w_aln rfl ?_
        refine w_gs ?_
        intro a6 ga6
        have ga6 : G a6 = (902050, 0) := ga6
        refine w_acne (fun c7 => ?_) (fun c7 => ?_)
        · skip
          refine w_aln rfl ?_
          refine w_cv (st := []) rfl gw rfl (Nat.le_of_ble_eq_true rfl) (fun kk h => h) ⟨Nat.le_of_ble_eq_true rfl, ?_⟩
          show wz (d + 4) mt_X9_isAboutTown.2.2.2.2.1 _ mt_X9_isAboutTown.2.2.2.2.1 [some (.inr (.inr (some w)))] [] _ _ _ _
          refine w_aln rfl ?_
          refine w_gs ?_
          intro a8 ga8
          have ga8 : G a8 = (903050, 0) := ga8
          refine w_aceq (fun c9 => ?_) (fun c9 => ?_)
          · exact absurd (Option.some.inj c9) (hn_ne gw ga8 (by decide))
          · skip
            refine w_aln rfl ?_
            refine w_gs ?_
            intro a10 ga10
            have ga10 : G a10 = (904050, 0) := ga10
            refine w_aceq (fun c11 => ?_) (fun c11 => ?_)
            · exact absurd (Option.some.inj c11) (hn_ne gw ga10 (by decide))
            · skip
              refine w_aln rfl ?_
              refine w_gs ?_
              intro a12 ga12
              have ga12 : G a12 = (905050, 0) := ga12
              refine w_aceq (fun c13 => ?_) (fun c13 => ?_)
              · exact absurd (Option.some.inj c13) (hn_ne gw ga12 (by decide))
              · skip
                refine w_aln rfl ?_
                refine w_gs ?_
                intro a14 ga14
                have ga14 : G a14 = (906050, 0) := ga14
                refine w_acne (fun c15 => ?_) (fun c15 => ?_)
                · skip
                  refine w_ic ?_
                  refine w_iret (fun _ => Or.inl rfl) ?_
                  refine w_ifeq (fun c16 => ?_) (fun c16 => ?_)
                  · skip
                    refine w_aln rfl ?_
                    refine w_gs ?_
                    intro a17 ga17
                    have ga17 : G a17 = (907050, 0) := ga17
                    refine w_acne (fun c18 => ?_) (fun c18 => ?_)
                    · skip
                      refine w_aln rfl ?_
                      refine w_gs ?_
                      intro a19 ga19
                      have ga19 : G a19 = (908050, 0) := ga19
                      refine w_acne (fun c20 => ?_) (fun c20 => ?_)
                      · exact absurd (congrArg some (hIw _ _ ((congrArg (fun x => x.1 % 1000) gw).trans rfl) (gw.trans ga19.symm))) c20
                      · skip
                        refine w_aln rfl ?_
                        refine w_aln rfl ?_
                        refine w_cv (st := []) rfl gpl rfl (Nat.le_of_ble_eq_true rfl) (fun kk h => h) (r_X3_readFish (d := d) hA hS hqn hb ((h8 rfl).mono (fun f a hf M1 F1 => ?_) (fun PL1 WA1 OA1 TO1 BI1 nm1 q1 hk1 g1 g2 hb1 M1 s1 => ?_)))
                        · skip
                          exact w_iret (fun _ => Or.inl rfl) (hf _ F1)
                        · skip
                          exact w_iret (fun _ => Or.inr rfl) (hk1 g1 g2 hb1 _ s1)
                    · exact absurd (Option.some.inj c18) (hn_ne gw ga17 (by decide))
                  · exfalso; omega
                · exact absurd (Option.some.inj c15) (hn_ne gw ga14 (by decide))
        · exact absurd (Option.some.inj c7) (hn_ne gw ga6 (by decide))
      · exact absurd (Option.some.inj c5) (hn_ne gw ga4 (by decide))
    · exact absurd (Option.some.inj c3) (hn_ne gw ga2 (by decide))
  · cases c1
set_option maxHeartbeats 8000000 in
theorem r_row_9 {G : mj_G} {M0 M : mj_M} {B : Nat → Int} {n lim tp bc pl na ta ba wa oa : Nat} {tr br : Nat → Nat} {T : Nat → Nat × Nat × Int × List Int × Nat} {PL WA OA : Nat → Int} {TO BI : Nat → Nat → Int} {nm : Nat → List Int} {Q : mj_P} {d q : Nat} (hA : rv_AT G M0 B n lim tp bc pl na ta ba wa oa tr br T) (hS : rv_S G M0 n lim tp pl na wa oa tr br (T q) PL WA OA TO BI nm M) (hqn : q ≤ n) (hb : rv_pb PL) {w : Nat} (gw : G w = (909050, 0)) (e9 : M.2.2 tp 9 = some w) (h9 : 0 = 0 → sp_patience T PL WA OA TO BI nm q (fun f a => ∀ M', rv_F tp pl na wa oa tr br M0 f a M' → Q (some (.inl 0)) G M') (fun PL WA OA TO BI nm q' => q ≤ q' → q' ≤ n → rv_pb PL → ∀ M', rv_S G M0 n lim tp pl na wa oa tr br (T q') PL WA OA TO BI nm M' → Q (some (.inl 1)) G M')) : mj_R mj_tab (d + 6) 43 [.inr (.inr (some pl)), .inr (.inr (some tp))] G M Q := by
  obtain ⟨⟨gtp, gbc, gpl, gna, gta, gba, gwa, goa, gtr, gbr, itr, ibr, r1, r2, r3, r4, r5, r6, r7, r8, rb, rw0, n1, n2, hIw⟩, hT⟩ := id hA
  refine ⟨Nat.le_of_ble_eq_true rfl, ?_⟩
  show wz (d + 5) mt_X3_readRow.2.2.2.2.1 Q mt_X3_readRow.2.2.2.2.1 [some (.inr (.inr (some pl))), some (.inr (.inr (some tp))), none] [] G M _ _
  refine w_aln rfl ?_
  refine w_gr gtp rfl (by decide) rfl (e9) ?_
  refine w_asn ?_
  show wz _ _ _ _ [some (.inr (.inr (some pl))), some (.inr (.inr (some tp))), some (.inr (.inr (some w)))] _ _ _ _ _
  refine w_aln rfl ?_
  refine w_ifnn (fun c1 => ?_) (fun c1 => ?_)
  · skip
    refine w_aln rfl ?_
    refine w_gs ?_
    intro a2 ga2
    have ga2 : G a2 = (900050, 0) := ga2
    refine w_acne (fun c3 => ?_) (fun c3 => ?_)
    · skip
      refine w_aln rfl ?_
      refine w_gs ?_
      intro a4 ga4
      have ga4 : G a4 = (901050, 0) := ga4
      refine w_acne (fun c5 => ?_) (fun c5 => ?_)
      · skip
        refine w_aln rfl ?_
        refine w_gs ?_
        intro a6 ga6
        have ga6 : G a6 = (902050, 0) := ga6
        refine w_acne (fun c7 => ?_) (fun c7 => ?_)
        · skip
          refine w_aln rfl ?_
          refine w_cv (st := []) rfl gw rfl (Nat.le_of_ble_eq_true rfl) (fun kk h => h) ⟨Nat.le_of_ble_eq_true rfl, ?_⟩
          show wz (d + 4) mt_X9_isAboutTown.2.2.2.2.1 _ mt_X9_isAboutTown.2.2.2.2.1 [some (.inr (.inr (some w)))] [] _ _ _ _
          refine w_aln rfl ?_
          refine w_gs ?_
          intro a8 ga8
          have ga8 : G a8 = (903050, 0) := ga8
          refine w_aceq (fun c9 => ?_) (fun c9 => ?_)
          · exact absurd (Option.some.inj c9) (hn_ne gw ga8 (by decide))
          · skip
            refine w_aln rfl ?_
            refine w_gs ?_
            intro a10 ga10
            have ga10 : G a10 = (904050, 0) := ga10
            refine w_aceq (fun c11 => ?_) (fun c11 => ?_)
            · exact absurd (Option.some.inj c11) (hn_ne gw ga10 (by decide))
            · skip
              refine w_aln rfl ?_
              refine w_gs ?_
              intro a12 ga12
              have ga12 : G a12 = (905050, 0) := ga12
              refine w_aceq (fun c13 => ?_) (fun c13 => ?_)
              · exact absurd (Option.some.inj c13) (hn_ne gw ga12 (by decide))
              · skip
                refine w_aln rfl ?_
                refine w_gs ?_
                intro a14 ga14
                have ga14 : G a14 = (906050, 0) := ga14
                refine w_acne (fun c15 => ?_) (fun c15 => ?_)
                · skip
                  refine w_ic ?_
                  refine w_iret (fun _ => Or.inl rfl) ?_
                  refine w_ifeq (fun c16 => ?_) (fun c16 => ?_)
                  · skip
                    refine w_aln rfl ?_
                    refine w_gs ?_
                    intro a17 ga17
                    have ga17 : G a17 = (907050, 0) := ga17
                    refine w_acne (fun c18 => ?_) (fun c18 => ?_)
                    · skip
                      refine w_aln rfl ?_
                      refine w_gs ?_
                      intro a19 ga19
                      have ga19 : G a19 = (908050, 0) := ga19
                      refine w_acne (fun c20 => ?_) (fun c20 => ?_)
                      · skip
                        refine w_aln rfl ?_
                        refine w_gs ?_
                        intro a21 ga21
                        have ga21 : G a21 = (909050, 0) := ga21
                        refine w_acne (fun c22 => ?_) (fun c22 => ?_)
                        · exact absurd (congrArg some (hIw _ _ ((congrArg (fun x => x.1 % 1000) gw).trans rfl) (gw.trans ga21.symm))) c22
                        · skip
                          refine w_aln rfl ?_
                          refine w_aln rfl ?_
                          refine w_cv (st := []) rfl gpl rfl (Nat.le_of_ble_eq_true rfl) (fun kk h => h) (r_X3_readPatience (d := d) hA hS hqn hb ((h9 rfl).mono (fun f a hf M1 F1 => ?_) (fun PL1 WA1 OA1 TO1 BI1 nm1 q1 hk1 g1 g2 hb1 M1 s1 => ?_)))
                          · skip
                            exact w_iret (fun _ => Or.inl rfl) (hf _ F1)
                          · skip
                            exact w_iret (fun _ => Or.inr rfl) (hk1 g1 g2 hb1 _ s1)
                      · exact absurd (Option.some.inj c20) (hn_ne gw ga19 (by decide))
                    · exact absurd (Option.some.inj c18) (hn_ne gw ga17 (by decide))
                  · exfalso; omega
                · exact absurd (Option.some.inj c15) (hn_ne gw ga14 (by decide))
        · exact absurd (Option.some.inj c7) (hn_ne gw ga6 (by decide))
      · exact absurd (Option.some.inj c5) (hn_ne gw ga4 (by decide))
    · exact absurd (Option.some.inj c3) (hn_ne gw ga2 (by decide))
  · cases c1
set_option maxHeartbeats 8000000 in
theorem r_row_10 {G : mj_G} {M0 M : mj_M} {B : Nat → Int} {n lim tp bc pl na ta ba wa oa : Nat} {tr br : Nat → Nat} {T : Nat → Nat × Nat × Int × List Int × Nat} {PL WA OA : Nat → Int} {TO BI : Nat → Nat → Int} {nm : Nat → List Int} {Q : mj_P} {d q : Nat} (hA : rv_AT G M0 B n lim tp bc pl na ta ba wa oa tr br T) (hS : rv_S G M0 n lim tp pl na wa oa tr br (T q) PL WA OA TO BI nm M) (hqn : q ≤ n) (hb : rv_pb PL) {w : Nat} (gw : G w = (910050, 0)) (e9 : M.2.2 tp 9 = some w) (h10 : ∀ M', rv_F tp pl na wa oa tr br M0 1 (T q).2.1 M' → Q (some (.inl 0)) G M') : mj_R mj_tab (d + 6) 43 [.inr (.inr (some pl)), .inr (.inr (some tp))] G M Q := by
  obtain ⟨⟨gtp, gbc, gpl, gna, gta, gba, gwa, goa, gtr, gbr, itr, ibr, r1, r2, r3, r4, r5, r6, r7, r8, rb, rw0, n1, n2, hIw⟩, hT⟩ := id hA
  refine ⟨Nat.le_of_ble_eq_true rfl, ?_⟩
  show wz (d + 5) mt_X3_readRow.2.2.2.2.1 Q mt_X3_readRow.2.2.2.2.1 [some (.inr (.inr (some pl))), some (.inr (.inr (some tp))), none] [] G M _ _
  refine w_aln rfl ?_
  refine w_gr gtp rfl (by decide) rfl (e9) ?_
  refine w_asn ?_
  show wz _ _ _ _ [some (.inr (.inr (some pl))), some (.inr (.inr (some tp))), some (.inr (.inr (some w)))] _ _ _ _ _
  refine w_aln rfl ?_
  refine w_ifnn (fun c1 => ?_) (fun c1 => ?_)
  · skip
    refine w_aln rfl ?_
    refine w_gs ?_
    intro a2 ga2
    have ga2 : G a2 = (900050, 0) := ga2
    refine w_acne (fun c3 => ?_) (fun c3 => ?_)
    · skip
      refine w_aln rfl ?_
      refine w_gs ?_
      intro a4 ga4
      have ga4 : G a4 = (901050, 0) := ga4
      refine w_acne (fun c5 => ?_) (fun c5 => ?_)
      · skip
        refine w_aln rfl ?_
        refine w_gs ?_
        intro a6 ga6
        have ga6 : G a6 = (902050, 0) := ga6
        refine w_acne (fun c7 => ?_) (fun c7 => ?_)
        · skip
          refine w_aln rfl ?_
          refine w_cv (st := []) rfl gw rfl (Nat.le_of_ble_eq_true rfl) (fun kk h => h) ⟨Nat.le_of_ble_eq_true rfl, ?_⟩
          show wz (d + 4) mt_X9_isAboutTown.2.2.2.2.1 _ mt_X9_isAboutTown.2.2.2.2.1 [some (.inr (.inr (some w)))] [] _ _ _ _
          refine w_aln rfl ?_
          refine w_gs ?_
          intro a8 ga8
          have ga8 : G a8 = (903050, 0) := ga8
          refine w_aceq (fun c9 => ?_) (fun c9 => ?_)
          · exact absurd (Option.some.inj c9) (hn_ne gw ga8 (by decide))
          · skip
            refine w_aln rfl ?_
            refine w_gs ?_
            intro a10 ga10
            have ga10 : G a10 = (904050, 0) := ga10
            refine w_aceq (fun c11 => ?_) (fun c11 => ?_)
            · exact absurd (Option.some.inj c11) (hn_ne gw ga10 (by decide))
            · skip
              refine w_aln rfl ?_
              refine w_gs ?_
              intro a12 ga12
              have ga12 : G a12 = (905050, 0) := ga12
              refine w_aceq (fun c13 => ?_) (fun c13 => ?_)
              · exact absurd (Option.some.inj c13) (hn_ne gw ga12 (by decide))
              · skip
                refine w_aln rfl ?_
                refine w_gs ?_
                intro a14 ga14
                have ga14 : G a14 = (906050, 0) := ga14
                refine w_acne (fun c15 => ?_) (fun c15 => ?_)
                · skip
                  refine w_ic ?_
                  refine w_iret (fun _ => Or.inl rfl) ?_
                  refine w_ifeq (fun c16 => ?_) (fun c16 => ?_)
                  · skip
                    refine w_aln rfl ?_
                    refine w_gs ?_
                    intro a17 ga17
                    have ga17 : G a17 = (907050, 0) := ga17
                    refine w_acne (fun c18 => ?_) (fun c18 => ?_)
                    · skip
                      refine w_aln rfl ?_
                      refine w_gs ?_
                      intro a19 ga19
                      have ga19 : G a19 = (908050, 0) := ga19
                      refine w_acne (fun c20 => ?_) (fun c20 => ?_)
                      · skip
                        refine w_aln rfl ?_
                        refine w_gs ?_
                        intro a21 ga21
                        have ga21 : G a21 = (909050, 0) := ga21
                        refine w_acne (fun c22 => ?_) (fun c22 => ?_)
                        · skip
                          refine w_aln rfl ?_
                          refine w_ic ?_
                          refine w_cv (st := []) rfl gtp rfl (Nat.le_of_ble_eq_true rfl) (fun kk h => h) (r_X7_refuse (d := d + 4) hA hS (by decide) (fun MF23 F23 => ?_))
                          exact w_iret (fun _ => Or.inl rfl) (h10 _ F23)
                        · exact absurd (Option.some.inj c22) (hn_ne gw ga21 (by decide))
                      · exact absurd (Option.some.inj c20) (hn_ne gw ga19 (by decide))
                    · exact absurd (Option.some.inj c18) (hn_ne gw ga17 (by decide))
                  · exfalso; omega
                · exact absurd (Option.some.inj c15) (hn_ne gw ga14 (by decide))
        · exact absurd (Option.some.inj c7) (hn_ne gw ga6 (by decide))
      · exact absurd (Option.some.inj c5) (hn_ne gw ga4 (by decide))
    · exact absurd (Option.some.inj c3) (hn_ne gw ga2 (by decide))
  · cases c1
set_option maxHeartbeats 8000000 in
theorem r_row_11 {G : mj_G} {M0 M : mj_M} {B : Nat → Int} {n lim tp bc pl na ta ba wa oa : Nat} {tr br : Nat → Nat} {T : Nat → Nat × Nat × Int × List Int × Nat} {PL WA OA : Nat → Int} {TO BI : Nat → Nat → Int} {nm : Nat → List Int} {Q : mj_P} {d q : Nat} (hA : rv_AT G M0 B n lim tp bc pl na ta ba wa oa tr br T) (hS : rv_S G M0 n lim tp pl na wa oa tr br (T q) PL WA OA TO BI nm M) (hqn : q ≤ n) (hb : rv_pb PL) {w : Nat} (gw : G w = (911050, 0)) (e9 : M.2.2 tp 9 = some w) (h10 : ∀ M', rv_F tp pl na wa oa tr br M0 1 (T q).2.1 M' → Q (some (.inl 0)) G M') : mj_R mj_tab (d + 6) 43 [.inr (.inr (some pl)), .inr (.inr (some tp))] G M Q := by
  obtain ⟨⟨gtp, gbc, gpl, gna, gta, gba, gwa, goa, gtr, gbr, itr, ibr, r1, r2, r3, r4, r5, r6, r7, r8, rb, rw0, n1, n2, hIw⟩, hT⟩ := id hA
  refine ⟨Nat.le_of_ble_eq_true rfl, ?_⟩
  show wz (d + 5) mt_X3_readRow.2.2.2.2.1 Q mt_X3_readRow.2.2.2.2.1 [some (.inr (.inr (some pl))), some (.inr (.inr (some tp))), none] [] G M _ _
  refine w_aln rfl ?_
  refine w_gr gtp rfl (by decide) rfl (e9) ?_
  refine w_asn ?_
  show wz _ _ _ _ [some (.inr (.inr (some pl))), some (.inr (.inr (some tp))), some (.inr (.inr (some w)))] _ _ _ _ _
  refine w_aln rfl ?_
  refine w_ifnn (fun c1 => ?_) (fun c1 => ?_)
  · skip
    refine w_aln rfl ?_
    refine w_gs ?_
    intro a2 ga2
    have ga2 : G a2 = (900050, 0) := ga2
    refine w_acne (fun c3 => ?_) (fun c3 => ?_)
    · skip
      refine w_aln rfl ?_
      refine w_gs ?_
      intro a4 ga4
      have ga4 : G a4 = (901050, 0) := ga4
      refine w_acne (fun c5 => ?_) (fun c5 => ?_)
      · skip
        refine w_aln rfl ?_
        refine w_gs ?_
        intro a6 ga6
        have ga6 : G a6 = (902050, 0) := ga6
        refine w_acne (fun c7 => ?_) (fun c7 => ?_)
        · skip
          refine w_aln rfl ?_
          refine w_cv (st := []) rfl gw rfl (Nat.le_of_ble_eq_true rfl) (fun kk h => h) ⟨Nat.le_of_ble_eq_true rfl, ?_⟩
          show wz (d + 4) mt_X9_isAboutTown.2.2.2.2.1 _ mt_X9_isAboutTown.2.2.2.2.1 [some (.inr (.inr (some w)))] [] _ _ _ _
          refine w_aln rfl ?_
          refine w_gs ?_
          intro a8 ga8
          have ga8 : G a8 = (903050, 0) := ga8
          refine w_aceq (fun c9 => ?_) (fun c9 => ?_)
          · exact absurd (Option.some.inj c9) (hn_ne gw ga8 (by decide))
          · skip
            refine w_aln rfl ?_
            refine w_gs ?_
            intro a10 ga10
            have ga10 : G a10 = (904050, 0) := ga10
            refine w_aceq (fun c11 => ?_) (fun c11 => ?_)
            · exact absurd (Option.some.inj c11) (hn_ne gw ga10 (by decide))
            · skip
              refine w_aln rfl ?_
              refine w_gs ?_
              intro a12 ga12
              have ga12 : G a12 = (905050, 0) := ga12
              refine w_aceq (fun c13 => ?_) (fun c13 => ?_)
              · exact absurd (Option.some.inj c13) (hn_ne gw ga12 (by decide))
              · skip
                refine w_aln rfl ?_
                refine w_gs ?_
                intro a14 ga14
                have ga14 : G a14 = (906050, 0) := ga14
                refine w_acne (fun c15 => ?_) (fun c15 => ?_)
                · skip
                  refine w_ic ?_
                  refine w_iret (fun _ => Or.inl rfl) ?_
                  refine w_ifeq (fun c16 => ?_) (fun c16 => ?_)
                  · skip
                    refine w_aln rfl ?_
                    refine w_gs ?_
                    intro a17 ga17
                    have ga17 : G a17 = (907050, 0) := ga17
                    refine w_acne (fun c18 => ?_) (fun c18 => ?_)
                    · skip
                      refine w_aln rfl ?_
                      refine w_gs ?_
                      intro a19 ga19
                      have ga19 : G a19 = (908050, 0) := ga19
                      refine w_acne (fun c20 => ?_) (fun c20 => ?_)
                      · skip
                        refine w_aln rfl ?_
                        refine w_gs ?_
                        intro a21 ga21
                        have ga21 : G a21 = (909050, 0) := ga21
                        refine w_acne (fun c22 => ?_) (fun c22 => ?_)
                        · skip
                          refine w_aln rfl ?_
                          refine w_ic ?_
                          refine w_cv (st := []) rfl gtp rfl (Nat.le_of_ble_eq_true rfl) (fun kk h => h) (r_X7_refuse (d := d + 4) hA hS (by decide) (fun MF23 F23 => ?_))
                          exact w_iret (fun _ => Or.inl rfl) (h10 _ F23)
                        · exact absurd (Option.some.inj c22) (hn_ne gw ga21 (by decide))
                      · exact absurd (Option.some.inj c20) (hn_ne gw ga19 (by decide))
                    · exact absurd (Option.some.inj c18) (hn_ne gw ga17 (by decide))
                  · exfalso; omega
                · exact absurd (Option.some.inj c15) (hn_ne gw ga14 (by decide))
        · exact absurd (Option.some.inj c7) (hn_ne gw ga6 (by decide))
      · exact absurd (Option.some.inj c5) (hn_ne gw ga4 (by decide))
    · exact absurd (Option.some.inj c3) (hn_ne gw ga2 (by decide))
  · cases c1
set_option maxHeartbeats 8000000 in
theorem r_row_12 {G : mj_G} {M0 M : mj_M} {B : Nat → Int} {n lim tp bc pl na ta ba wa oa : Nat} {tr br : Nat → Nat} {T : Nat → Nat × Nat × Int × List Int × Nat} {PL WA OA : Nat → Int} {TO BI : Nat → Nat → Int} {nm : Nat → List Int} {Q : mj_P} {d q : Nat} (hA : rv_AT G M0 B n lim tp bc pl na ta ba wa oa tr br T) (hS : rv_S G M0 n lim tp pl na wa oa tr br (T q) PL WA OA TO BI nm M) (hqn : q ≤ n) (hb : rv_pb PL) {w : Nat} (gw : G w = (912050, 0)) (e9 : M.2.2 tp 9 = some w) (h10 : ∀ M', rv_F tp pl na wa oa tr br M0 1 (T q).2.1 M' → Q (some (.inl 0)) G M') : mj_R mj_tab (d + 6) 43 [.inr (.inr (some pl)), .inr (.inr (some tp))] G M Q := by
  obtain ⟨⟨gtp, gbc, gpl, gna, gta, gba, gwa, goa, gtr, gbr, itr, ibr, r1, r2, r3, r4, r5, r6, r7, r8, rb, rw0, n1, n2, hIw⟩, hT⟩ := id hA
  refine ⟨Nat.le_of_ble_eq_true rfl, ?_⟩
  show wz (d + 5) mt_X3_readRow.2.2.2.2.1 Q mt_X3_readRow.2.2.2.2.1 [some (.inr (.inr (some pl))), some (.inr (.inr (some tp))), none] [] G M _ _
  refine w_aln rfl ?_
  refine w_gr gtp rfl (by decide) rfl (e9) ?_
  refine w_asn ?_
  show wz _ _ _ _ [some (.inr (.inr (some pl))), some (.inr (.inr (some tp))), some (.inr (.inr (some w)))] _ _ _ _ _
  refine w_aln rfl ?_
  refine w_ifnn (fun c1 => ?_) (fun c1 => ?_)
  · skip
    refine w_aln rfl ?_
    refine w_gs ?_
    intro a2 ga2
    have ga2 : G a2 = (900050, 0) := ga2
    refine w_acne (fun c3 => ?_) (fun c3 => ?_)
    · skip
      refine w_aln rfl ?_
      refine w_gs ?_
      intro a4 ga4
      have ga4 : G a4 = (901050, 0) := ga4
      refine w_acne (fun c5 => ?_) (fun c5 => ?_)
      · skip
        refine w_aln rfl ?_
        refine w_gs ?_
        intro a6 ga6
        have ga6 : G a6 = (902050, 0) := ga6
        refine w_acne (fun c7 => ?_) (fun c7 => ?_)
        · skip
          refine w_aln rfl ?_
          refine w_cv (st := []) rfl gw rfl (Nat.le_of_ble_eq_true rfl) (fun kk h => h) ⟨Nat.le_of_ble_eq_true rfl, ?_⟩
          show wz (d + 4) mt_X9_isAboutTown.2.2.2.2.1 _ mt_X9_isAboutTown.2.2.2.2.1 [some (.inr (.inr (some w)))] [] _ _ _ _
          refine w_aln rfl ?_
          refine w_gs ?_
          intro a8 ga8
          have ga8 : G a8 = (903050, 0) := ga8
          refine w_aceq (fun c9 => ?_) (fun c9 => ?_)
          · exact absurd (Option.some.inj c9) (hn_ne gw ga8 (by decide))
          · skip
            refine w_aln rfl ?_
            refine w_gs ?_
            intro a10 ga10
            have ga10 : G a10 = (904050, 0) := ga10
            refine w_aceq (fun c11 => ?_) (fun c11 => ?_)
            · exact absurd (Option.some.inj c11) (hn_ne gw ga10 (by decide))
            · skip
              refine w_aln rfl ?_
              refine w_gs ?_
              intro a12 ga12
              have ga12 : G a12 = (905050, 0) := ga12
              refine w_aceq (fun c13 => ?_) (fun c13 => ?_)
              · exact absurd (Option.some.inj c13) (hn_ne gw ga12 (by decide))
              · skip
                refine w_aln rfl ?_
                refine w_gs ?_
                intro a14 ga14
                have ga14 : G a14 = (906050, 0) := ga14
                refine w_acne (fun c15 => ?_) (fun c15 => ?_)
                · skip
                  refine w_ic ?_
                  refine w_iret (fun _ => Or.inl rfl) ?_
                  refine w_ifeq (fun c16 => ?_) (fun c16 => ?_)
                  · skip
                    refine w_aln rfl ?_
                    refine w_gs ?_
                    intro a17 ga17
                    have ga17 : G a17 = (907050, 0) := ga17
                    refine w_acne (fun c18 => ?_) (fun c18 => ?_)
                    · skip
                      refine w_aln rfl ?_
                      refine w_gs ?_
                      intro a19 ga19
                      have ga19 : G a19 = (908050, 0) := ga19
                      refine w_acne (fun c20 => ?_) (fun c20 => ?_)
                      · skip
                        refine w_aln rfl ?_
                        refine w_gs ?_
                        intro a21 ga21
                        have ga21 : G a21 = (909050, 0) := ga21
                        refine w_acne (fun c22 => ?_) (fun c22 => ?_)
                        · skip
                          refine w_aln rfl ?_
                          refine w_ic ?_
                          refine w_cv (st := []) rfl gtp rfl (Nat.le_of_ble_eq_true rfl) (fun kk h => h) (r_X7_refuse (d := d + 4) hA hS (by decide) (fun MF23 F23 => ?_))
                          exact w_iret (fun _ => Or.inl rfl) (h10 _ F23)
                        · exact absurd (Option.some.inj c22) (hn_ne gw ga21 (by decide))
                      · exact absurd (Option.some.inj c20) (hn_ne gw ga19 (by decide))
                    · exact absurd (Option.some.inj c18) (hn_ne gw ga17 (by decide))
                  · exfalso; omega
                · exact absurd (Option.some.inj c15) (hn_ne gw ga14 (by decide))
        · exact absurd (Option.some.inj c7) (hn_ne gw ga6 (by decide))
      · exact absurd (Option.some.inj c5) (hn_ne gw ga4 (by decide))
    · exact absurd (Option.some.inj c3) (hn_ne gw ga2 (by decide))
  · cases c1
set_option maxHeartbeats 8000000 in
theorem r_row_13 {G : mj_G} {M0 M : mj_M} {B : Nat → Int} {n lim tp bc pl na ta ba wa oa : Nat} {tr br : Nat → Nat} {T : Nat → Nat × Nat × Int × List Int × Nat} {PL WA OA : Nat → Int} {TO BI : Nat → Nat → Int} {nm : Nat → List Int} {Q : mj_P} {d q : Nat} (hA : rv_AT G M0 B n lim tp bc pl na ta ba wa oa tr br T) (hS : rv_S G M0 n lim tp pl na wa oa tr br (T q) PL WA OA TO BI nm M) (hqn : q ≤ n) (hb : rv_pb PL) {w : Nat} (gw : G w = (913050, 0)) (e9 : M.2.2 tp 9 = some w) (h10 : ∀ M', rv_F tp pl na wa oa tr br M0 1 (T q).2.1 M' → Q (some (.inl 0)) G M') : mj_R mj_tab (d + 6) 43 [.inr (.inr (some pl)), .inr (.inr (some tp))] G M Q := by
  obtain ⟨⟨gtp, gbc, gpl, gna, gta, gba, gwa, goa, gtr, gbr, itr, ibr, r1, r2, r3, r4, r5, r6, r7, r8, rb, rw0, n1, n2, hIw⟩, hT⟩ := id hA
  refine ⟨Nat.le_of_ble_eq_true rfl, ?_⟩
  show wz (d + 5) mt_X3_readRow.2.2.2.2.1 Q mt_X3_readRow.2.2.2.2.1 [some (.inr (.inr (some pl))), some (.inr (.inr (some tp))), none] [] G M _ _
  refine w_aln rfl ?_
  refine w_gr gtp rfl (by decide) rfl (e9) ?_
  refine w_asn ?_
  show wz _ _ _ _ [some (.inr (.inr (some pl))), some (.inr (.inr (some tp))), some (.inr (.inr (some w)))] _ _ _ _ _
  refine w_aln rfl ?_
  refine w_ifnn (fun c1 => ?_) (fun c1 => ?_)
  · skip
    refine w_aln rfl ?_
    refine w_gs ?_
    intro a2 ga2
    have ga2 : G a2 = (900050, 0) := ga2
    refine w_acne (fun c3 => ?_) (fun c3 => ?_)
    · skip
      refine w_aln rfl ?_
      refine w_gs ?_
      intro a4 ga4
      have ga4 : G a4 = (901050, 0) := ga4
      refine w_acne (fun c5 => ?_) (fun c5 => ?_)
      · skip
        refine w_aln rfl ?_
        refine w_gs ?_
        intro a6 ga6
        have ga6 : G a6 = (902050, 0) := ga6
        refine w_acne (fun c7 => ?_) (fun c7 => ?_)
        · skip
          refine w_aln rfl ?_
          refine w_cv (st := []) rfl gw rfl (Nat.le_of_ble_eq_true rfl) (fun kk h => h) ⟨Nat.le_of_ble_eq_true rfl, ?_⟩
          show wz (d + 4) mt_X9_isAboutTown.2.2.2.2.1 _ mt_X9_isAboutTown.2.2.2.2.1 [some (.inr (.inr (some w)))] [] _ _ _ _
          refine w_aln rfl ?_
          refine w_gs ?_
          intro a8 ga8
          have ga8 : G a8 = (903050, 0) := ga8
          refine w_aceq (fun c9 => ?_) (fun c9 => ?_)
          · exact absurd (Option.some.inj c9) (hn_ne gw ga8 (by decide))
          · skip
            refine w_aln rfl ?_
            refine w_gs ?_
            intro a10 ga10
            have ga10 : G a10 = (904050, 0) := ga10
            refine w_aceq (fun c11 => ?_) (fun c11 => ?_)
            · exact absurd (Option.some.inj c11) (hn_ne gw ga10 (by decide))
            · skip
              refine w_aln rfl ?_
              refine w_gs ?_
              intro a12 ga12
              have ga12 : G a12 = (905050, 0) := ga12
              refine w_aceq (fun c13 => ?_) (fun c13 => ?_)
              · exact absurd (Option.some.inj c13) (hn_ne gw ga12 (by decide))
              · skip
                refine w_aln rfl ?_
                refine w_gs ?_
                intro a14 ga14
                have ga14 : G a14 = (906050, 0) := ga14
                refine w_acne (fun c15 => ?_) (fun c15 => ?_)
                · skip
                  refine w_ic ?_
                  refine w_iret (fun _ => Or.inl rfl) ?_
                  refine w_ifeq (fun c16 => ?_) (fun c16 => ?_)
                  · skip
                    refine w_aln rfl ?_
                    refine w_gs ?_
                    intro a17 ga17
                    have ga17 : G a17 = (907050, 0) := ga17
                    refine w_acne (fun c18 => ?_) (fun c18 => ?_)
                    · skip
                      refine w_aln rfl ?_
                      refine w_gs ?_
                      intro a19 ga19
                      have ga19 : G a19 = (908050, 0) := ga19
                      refine w_acne (fun c20 => ?_) (fun c20 => ?_)
                      · skip
                        refine w_aln rfl ?_
                        refine w_gs ?_
                        intro a21 ga21
                        have ga21 : G a21 = (909050, 0) := ga21
                        refine w_acne (fun c22 => ?_) (fun c22 => ?_)
                        · skip
                          refine w_aln rfl ?_
                          refine w_ic ?_
                          refine w_cv (st := []) rfl gtp rfl (Nat.le_of_ble_eq_true rfl) (fun kk h => h) (r_X7_refuse (d := d + 4) hA hS (by decide) (fun MF23 F23 => ?_))
                          exact w_iret (fun _ => Or.inl rfl) (h10 _ F23)
                        · exact absurd (Option.some.inj c22) (hn_ne gw ga21 (by decide))
                      · exact absurd (Option.some.inj c20) (hn_ne gw ga19 (by decide))
                    · exact absurd (Option.some.inj c18) (hn_ne gw ga17 (by decide))
                  · exfalso; omega
                · exact absurd (Option.some.inj c15) (hn_ne gw ga14 (by decide))
        · exact absurd (Option.some.inj c7) (hn_ne gw ga6 (by decide))
      · exact absurd (Option.some.inj c5) (hn_ne gw ga4 (by decide))
    · exact absurd (Option.some.inj c3) (hn_ne gw ga2 (by decide))
  · cases c1
set_option maxHeartbeats 8000000 in
theorem r_row_14 {G : mj_G} {M0 M : mj_M} {B : Nat → Int} {n lim tp bc pl na ta ba wa oa : Nat} {tr br : Nat → Nat} {T : Nat → Nat × Nat × Int × List Int × Nat} {PL WA OA : Nat → Int} {TO BI : Nat → Nat → Int} {nm : Nat → List Int} {Q : mj_P} {d q : Nat} (hA : rv_AT G M0 B n lim tp bc pl na ta ba wa oa tr br T) (hS : rv_S G M0 n lim tp pl na wa oa tr br (T q) PL WA OA TO BI nm M) (hqn : q ≤ n) (hb : rv_pb PL) {w : Nat} (gw : G w = (914050, 0)) (e9 : M.2.2 tp 9 = some w) (h10 : ∀ M', rv_F tp pl na wa oa tr br M0 1 (T q).2.1 M' → Q (some (.inl 0)) G M') : mj_R mj_tab (d + 6) 43 [.inr (.inr (some pl)), .inr (.inr (some tp))] G M Q := by
  obtain ⟨⟨gtp, gbc, gpl, gna, gta, gba, gwa, goa, gtr, gbr, itr, ibr, r1, r2, r3, r4, r5, r6, r7, r8, rb, rw0, n1, n2, hIw⟩, hT⟩ := id hA
  refine ⟨Nat.le_of_ble_eq_true rfl, ?_⟩
  show wz (d + 5) mt_X3_readRow.2.2.2.2.1 Q mt_X3_readRow.2.2.2.2.1 [some (.inr (.inr (some pl))), some (.inr (.inr (some tp))), none] [] G M _ _
  refine w_aln rfl ?_
  refine w_gr gtp rfl (by decide) rfl (e9) ?_
  refine w_asn ?_
  show wz _ _ _ _ [some (.inr (.inr (some pl))), some (.inr (.inr (some tp))), some (.inr (.inr (some w)))] _ _ _ _ _
  refine w_aln rfl ?_
  refine w_ifnn (fun c1 => ?_) (fun c1 => ?_)
  · skip
    refine w_aln rfl ?_
    refine w_gs ?_
    intro a2 ga2
    have ga2 : G a2 = (900050, 0) := ga2
    refine w_acne (fun c3 => ?_) (fun c3 => ?_)
    · skip
      refine w_aln rfl ?_
      refine w_gs ?_
      intro a4 ga4
      have ga4 : G a4 = (901050, 0) := ga4
      refine w_acne (fun c5 => ?_) (fun c5 => ?_)
      · skip
        refine w_aln rfl ?_
        refine w_gs ?_
        intro a6 ga6
        have ga6 : G a6 = (902050, 0) := ga6
        refine w_acne (fun c7 => ?_) (fun c7 => ?_)
        · skip
          refine w_aln rfl ?_
          refine w_cv (st := []) rfl gw rfl (Nat.le_of_ble_eq_true rfl) (fun kk h => h) ⟨Nat.le_of_ble_eq_true rfl, ?_⟩
          show wz (d + 4) mt_X9_isAboutTown.2.2.2.2.1 _ mt_X9_isAboutTown.2.2.2.2.1 [some (.inr (.inr (some w)))] [] _ _ _ _
          refine w_aln rfl ?_
          refine w_gs ?_
          intro a8 ga8
          have ga8 : G a8 = (903050, 0) := ga8
          refine w_aceq (fun c9 => ?_) (fun c9 => ?_)
          · exact absurd (Option.some.inj c9) (hn_ne gw ga8 (by decide))
          · skip
            refine w_aln rfl ?_
            refine w_gs ?_
            intro a10 ga10
            have ga10 : G a10 = (904050, 0) := ga10
            refine w_aceq (fun c11 => ?_) (fun c11 => ?_)
            · exact absurd (Option.some.inj c11) (hn_ne gw ga10 (by decide))
            · skip
              refine w_aln rfl ?_
              refine w_gs ?_
              intro a12 ga12
              have ga12 : G a12 = (905050, 0) := ga12
              refine w_aceq (fun c13 => ?_) (fun c13 => ?_)
              · exact absurd (Option.some.inj c13) (hn_ne gw ga12 (by decide))
              · skip
                refine w_aln rfl ?_
                refine w_gs ?_
                intro a14 ga14
                have ga14 : G a14 = (906050, 0) := ga14
                refine w_acne (fun c15 => ?_) (fun c15 => ?_)
                · skip
                  refine w_ic ?_
                  refine w_iret (fun _ => Or.inl rfl) ?_
                  refine w_ifeq (fun c16 => ?_) (fun c16 => ?_)
                  · skip
                    refine w_aln rfl ?_
                    refine w_gs ?_
                    intro a17 ga17
                    have ga17 : G a17 = (907050, 0) := ga17
                    refine w_acne (fun c18 => ?_) (fun c18 => ?_)
                    · skip
                      refine w_aln rfl ?_
                      refine w_gs ?_
                      intro a19 ga19
                      have ga19 : G a19 = (908050, 0) := ga19
                      refine w_acne (fun c20 => ?_) (fun c20 => ?_)
                      · skip
                        refine w_aln rfl ?_
                        refine w_gs ?_
                        intro a21 ga21
                        have ga21 : G a21 = (909050, 0) := ga21
                        refine w_acne (fun c22 => ?_) (fun c22 => ?_)
                        · skip
                          refine w_aln rfl ?_
                          refine w_ic ?_
                          refine w_cv (st := []) rfl gtp rfl (Nat.le_of_ble_eq_true rfl) (fun kk h => h) (r_X7_refuse (d := d + 4) hA hS (by decide) (fun MF23 F23 => ?_))
                          exact w_iret (fun _ => Or.inl rfl) (h10 _ F23)
                        · exact absurd (Option.some.inj c22) (hn_ne gw ga21 (by decide))
                      · exact absurd (Option.some.inj c20) (hn_ne gw ga19 (by decide))
                    · exact absurd (Option.some.inj c18) (hn_ne gw ga17 (by decide))
                  · exfalso; omega
                · exact absurd (Option.some.inj c15) (hn_ne gw ga14 (by decide))
        · exact absurd (Option.some.inj c7) (hn_ne gw ga6 (by decide))
      · exact absurd (Option.some.inj c5) (hn_ne gw ga4 (by decide))
    · exact absurd (Option.some.inj c3) (hn_ne gw ga2 (by decide))
  · cases c1
set_option maxHeartbeats 8000000 in
theorem r_row_15 {G : mj_G} {M0 M : mj_M} {B : Nat → Int} {n lim tp bc pl na ta ba wa oa : Nat} {tr br : Nat → Nat} {T : Nat → Nat × Nat × Int × List Int × Nat} {PL WA OA : Nat → Int} {TO BI : Nat → Nat → Int} {nm : Nat → List Int} {Q : mj_P} {d q : Nat} (hA : rv_AT G M0 B n lim tp bc pl na ta ba wa oa tr br T) (hS : rv_S G M0 n lim tp pl na wa oa tr br (T q) PL WA OA TO BI nm M) (hqn : q ≤ n) (hb : rv_pb PL) {w : Nat} (gw : G w = (915050, 0)) (e9 : M.2.2 tp 9 = some w) (h10 : ∀ M', rv_F tp pl na wa oa tr br M0 1 (T q).2.1 M' → Q (some (.inl 0)) G M') : mj_R mj_tab (d + 6) 43 [.inr (.inr (some pl)), .inr (.inr (some tp))] G M Q := by
  obtain ⟨⟨gtp, gbc, gpl, gna, gta, gba, gwa, goa, gtr, gbr, itr, ibr, r1, r2, r3, r4, r5, r6, r7, r8, rb, rw0, n1, n2, hIw⟩, hT⟩ := id hA
  refine ⟨Nat.le_of_ble_eq_true rfl, ?_⟩
  show wz (d + 5) mt_X3_readRow.2.2.2.2.1 Q mt_X3_readRow.2.2.2.2.1 [some (.inr (.inr (some pl))), some (.inr (.inr (some tp))), none] [] G M _ _
  refine w_aln rfl ?_
  refine w_gr gtp rfl (by decide) rfl (e9) ?_
  refine w_asn ?_
  show wz _ _ _ _ [some (.inr (.inr (some pl))), some (.inr (.inr (some tp))), some (.inr (.inr (some w)))] _ _ _ _ _
  refine w_aln rfl ?_
  refine w_ifnn (fun c1 => ?_) (fun c1 => ?_)
  · skip
    refine w_aln rfl ?_
    refine w_gs ?_
    intro a2 ga2
    have ga2 : G a2 = (900050, 0) := ga2
    refine w_acne (fun c3 => ?_) (fun c3 => ?_)
    · skip
      refine w_aln rfl ?_
      refine w_gs ?_
      intro a4 ga4
      have ga4 : G a4 = (901050, 0) := ga4
      refine w_acne (fun c5 => ?_) (fun c5 => ?_)
      · skip
        refine w_aln rfl ?_
        refine w_gs ?_
        intro a6 ga6
        have ga6 : G a6 = (902050, 0) := ga6
        refine w_acne (fun c7 => ?_) (fun c7 => ?_)
        · skip
          refine w_aln rfl ?_
          refine w_cv (st := []) rfl gw rfl (Nat.le_of_ble_eq_true rfl) (fun kk h => h) ⟨Nat.le_of_ble_eq_true rfl, ?_⟩
          show wz (d + 4) mt_X9_isAboutTown.2.2.2.2.1 _ mt_X9_isAboutTown.2.2.2.2.1 [some (.inr (.inr (some w)))] [] _ _ _ _
          refine w_aln rfl ?_
          refine w_gs ?_
          intro a8 ga8
          have ga8 : G a8 = (903050, 0) := ga8
          refine w_aceq (fun c9 => ?_) (fun c9 => ?_)
          · exact absurd (Option.some.inj c9) (hn_ne gw ga8 (by decide))
          · skip
            refine w_aln rfl ?_
            refine w_gs ?_
            intro a10 ga10
            have ga10 : G a10 = (904050, 0) := ga10
            refine w_aceq (fun c11 => ?_) (fun c11 => ?_)
            · exact absurd (Option.some.inj c11) (hn_ne gw ga10 (by decide))
            · skip
              refine w_aln rfl ?_
              refine w_gs ?_
              intro a12 ga12
              have ga12 : G a12 = (905050, 0) := ga12
              refine w_aceq (fun c13 => ?_) (fun c13 => ?_)
              · exact absurd (Option.some.inj c13) (hn_ne gw ga12 (by decide))
              · skip
                refine w_aln rfl ?_
                refine w_gs ?_
                intro a14 ga14
                have ga14 : G a14 = (906050, 0) := ga14
                refine w_acne (fun c15 => ?_) (fun c15 => ?_)
                · skip
                  refine w_ic ?_
                  refine w_iret (fun _ => Or.inl rfl) ?_
                  refine w_ifeq (fun c16 => ?_) (fun c16 => ?_)
                  · skip
                    refine w_aln rfl ?_
                    refine w_gs ?_
                    intro a17 ga17
                    have ga17 : G a17 = (907050, 0) := ga17
                    refine w_acne (fun c18 => ?_) (fun c18 => ?_)
                    · skip
                      refine w_aln rfl ?_
                      refine w_gs ?_
                      intro a19 ga19
                      have ga19 : G a19 = (908050, 0) := ga19
                      refine w_acne (fun c20 => ?_) (fun c20 => ?_)
                      · skip
                        refine w_aln rfl ?_
                        refine w_gs ?_
                        intro a21 ga21
                        have ga21 : G a21 = (909050, 0) := ga21
                        refine w_acne (fun c22 => ?_) (fun c22 => ?_)
                        · skip
                          refine w_aln rfl ?_
                          refine w_ic ?_
                          refine w_cv (st := []) rfl gtp rfl (Nat.le_of_ble_eq_true rfl) (fun kk h => h) (r_X7_refuse (d := d + 4) hA hS (by decide) (fun MF23 F23 => ?_))
                          exact w_iret (fun _ => Or.inl rfl) (h10 _ F23)
                        · exact absurd (Option.some.inj c22) (hn_ne gw ga21 (by decide))
                      · exact absurd (Option.some.inj c20) (hn_ne gw ga19 (by decide))
                    · exact absurd (Option.some.inj c18) (hn_ne gw ga17 (by decide))
                  · exfalso; omega
                · exact absurd (Option.some.inj c15) (hn_ne gw ga14 (by decide))
        · exact absurd (Option.some.inj c7) (hn_ne gw ga6 (by decide))
      · exact absurd (Option.some.inj c5) (hn_ne gw ga4 (by decide))
    · exact absurd (Option.some.inj c3) (hn_ne gw ga2 (by decide))
  · cases c1
set_option maxHeartbeats 8000000 in
theorem r_row_16 {G : mj_G} {M0 M : mj_M} {B : Nat → Int} {n lim tp bc pl na ta ba wa oa : Nat} {tr br : Nat → Nat} {T : Nat → Nat × Nat × Int × List Int × Nat} {PL WA OA : Nat → Int} {TO BI : Nat → Nat → Int} {nm : Nat → List Int} {Q : mj_P} {d q : Nat} (hA : rv_AT G M0 B n lim tp bc pl na ta ba wa oa tr br T) (hS : rv_S G M0 n lim tp pl na wa oa tr br (T q) PL WA OA TO BI nm M) (hqn : q ≤ n) (hb : rv_pb PL) {w : Nat} (gw : G w = (916050, 0)) (e9 : M.2.2 tp 9 = some w) (h10 : ∀ M', rv_F tp pl na wa oa tr br M0 1 (T q).2.1 M' → Q (some (.inl 0)) G M') : mj_R mj_tab (d + 6) 43 [.inr (.inr (some pl)), .inr (.inr (some tp))] G M Q := by
  obtain ⟨⟨gtp, gbc, gpl, gna, gta, gba, gwa, goa, gtr, gbr, itr, ibr, r1, r2, r3, r4, r5, r6, r7, r8, rb, rw0, n1, n2, hIw⟩, hT⟩ := id hA
  refine ⟨Nat.le_of_ble_eq_true rfl, ?_⟩
  show wz (d + 5) mt_X3_readRow.2.2.2.2.1 Q mt_X3_readRow.2.2.2.2.1 [some (.inr (.inr (some pl))), some (.inr (.inr (some tp))), none] [] G M _ _
  refine w_aln rfl ?_
  refine w_gr gtp rfl (by decide) rfl (e9) ?_
  refine w_asn ?_
  show wz _ _ _ _ [some (.inr (.inr (some pl))), some (.inr (.inr (some tp))), some (.inr (.inr (some w)))] _ _ _ _ _
  refine w_aln rfl ?_
  refine w_ifnn (fun c1 => ?_) (fun c1 => ?_)
  · skip
    refine w_aln rfl ?_
    refine w_gs ?_
    intro a2 ga2
    have ga2 : G a2 = (900050, 0) := ga2
    refine w_acne (fun c3 => ?_) (fun c3 => ?_)
    · skip
      refine w_aln rfl ?_
      refine w_gs ?_
      intro a4 ga4
      have ga4 : G a4 = (901050, 0) := ga4
      refine w_acne (fun c5 => ?_) (fun c5 => ?_)
      · skip
        refine w_aln rfl ?_
        refine w_gs ?_
        intro a6 ga6
        have ga6 : G a6 = (902050, 0) := ga6
        refine w_acne (fun c7 => ?_) (fun c7 => ?_)
        · skip
          refine w_aln rfl ?_
          refine w_cv (st := []) rfl gw rfl (Nat.le_of_ble_eq_true rfl) (fun kk h => h) ⟨Nat.le_of_ble_eq_true rfl, ?_⟩
          show wz (d + 4) mt_X9_isAboutTown.2.2.2.2.1 _ mt_X9_isAboutTown.2.2.2.2.1 [some (.inr (.inr (some w)))] [] _ _ _ _
          refine w_aln rfl ?_
          refine w_gs ?_
          intro a8 ga8
          have ga8 : G a8 = (903050, 0) := ga8
          refine w_aceq (fun c9 => ?_) (fun c9 => ?_)
          · exact absurd (Option.some.inj c9) (hn_ne gw ga8 (by decide))
          · skip
            refine w_aln rfl ?_
            refine w_gs ?_
            intro a10 ga10
            have ga10 : G a10 = (904050, 0) := ga10
            refine w_aceq (fun c11 => ?_) (fun c11 => ?_)
            · exact absurd (Option.some.inj c11) (hn_ne gw ga10 (by decide))
            · skip
              refine w_aln rfl ?_
              refine w_gs ?_
              intro a12 ga12
              have ga12 : G a12 = (905050, 0) := ga12
              refine w_aceq (fun c13 => ?_) (fun c13 => ?_)
              · exact absurd (Option.some.inj c13) (hn_ne gw ga12 (by decide))
              · skip
                refine w_aln rfl ?_
                refine w_gs ?_
                intro a14 ga14
                have ga14 : G a14 = (906050, 0) := ga14
                refine w_acne (fun c15 => ?_) (fun c15 => ?_)
                · skip
                  refine w_ic ?_
                  refine w_iret (fun _ => Or.inl rfl) ?_
                  refine w_ifeq (fun c16 => ?_) (fun c16 => ?_)
                  · skip
                    refine w_aln rfl ?_
                    refine w_gs ?_
                    intro a17 ga17
                    have ga17 : G a17 = (907050, 0) := ga17
                    refine w_acne (fun c18 => ?_) (fun c18 => ?_)
                    · skip
                      refine w_aln rfl ?_
                      refine w_gs ?_
                      intro a19 ga19
                      have ga19 : G a19 = (908050, 0) := ga19
                      refine w_acne (fun c20 => ?_) (fun c20 => ?_)
                      · skip
                        refine w_aln rfl ?_
                        refine w_gs ?_
                        intro a21 ga21
                        have ga21 : G a21 = (909050, 0) := ga21
                        refine w_acne (fun c22 => ?_) (fun c22 => ?_)
                        · skip
                          refine w_aln rfl ?_
                          refine w_ic ?_
                          refine w_cv (st := []) rfl gtp rfl (Nat.le_of_ble_eq_true rfl) (fun kk h => h) (r_X7_refuse (d := d + 4) hA hS (by decide) (fun MF23 F23 => ?_))
                          exact w_iret (fun _ => Or.inl rfl) (h10 _ F23)
                        · exact absurd (Option.some.inj c22) (hn_ne gw ga21 (by decide))
                      · exact absurd (Option.some.inj c20) (hn_ne gw ga19 (by decide))
                    · exact absurd (Option.some.inj c18) (hn_ne gw ga17 (by decide))
                  · exfalso; omega
                · exact absurd (Option.some.inj c15) (hn_ne gw ga14 (by decide))
        · exact absurd (Option.some.inj c7) (hn_ne gw ga6 (by decide))
      · exact absurd (Option.some.inj c5) (hn_ne gw ga4 (by decide))
    · exact absurd (Option.some.inj c3) (hn_ne gw ga2 (by decide))
  · cases c1
set_option maxHeartbeats 8000000 in
theorem r_row_17 {G : mj_G} {M0 M : mj_M} {B : Nat → Int} {n lim tp bc pl na ta ba wa oa : Nat} {tr br : Nat → Nat} {T : Nat → Nat × Nat × Int × List Int × Nat} {PL WA OA : Nat → Int} {TO BI : Nat → Nat → Int} {nm : Nat → List Int} {Q : mj_P} {d q : Nat} (hA : rv_AT G M0 B n lim tp bc pl na ta ba wa oa tr br T) (hS : rv_S G M0 n lim tp pl na wa oa tr br (T q) PL WA OA TO BI nm M) (hqn : q ≤ n) (hb : rv_pb PL) {w : Nat} (gw : G w = (917050, 0)) (e9 : M.2.2 tp 9 = some w) (h10 : ∀ M', rv_F tp pl na wa oa tr br M0 1 (T q).2.1 M' → Q (some (.inl 0)) G M') : mj_R mj_tab (d + 6) 43 [.inr (.inr (some pl)), .inr (.inr (some tp))] G M Q := by
  obtain ⟨⟨gtp, gbc, gpl, gna, gta, gba, gwa, goa, gtr, gbr, itr, ibr, r1, r2, r3, r4, r5, r6, r7, r8, rb, rw0, n1, n2, hIw⟩, hT⟩ := id hA
  refine ⟨Nat.le_of_ble_eq_true rfl, ?_⟩
  show wz (d + 5) mt_X3_readRow.2.2.2.2.1 Q mt_X3_readRow.2.2.2.2.1 [some (.inr (.inr (some pl))), some (.inr (.inr (some tp))), none] [] G M _ _
  refine w_aln rfl ?_
  refine w_gr gtp rfl (by decide) rfl (e9) ?_
  refine w_asn ?_
  show wz _ _ _ _ [some (.inr (.inr (some pl))), some (.inr (.inr (some tp))), some (.inr (.inr (some w)))] _ _ _ _ _
  refine w_aln rfl ?_
  refine w_ifnn (fun c1 => ?_) (fun c1 => ?_)
  · skip
    refine w_aln rfl ?_
    refine w_gs ?_
    intro a2 ga2
    have ga2 : G a2 = (900050, 0) := ga2
    refine w_acne (fun c3 => ?_) (fun c3 => ?_)
    · skip
      refine w_aln rfl ?_
      refine w_gs ?_
      intro a4 ga4
      have ga4 : G a4 = (901050, 0) := ga4
      refine w_acne (fun c5 => ?_) (fun c5 => ?_)
      · skip
        refine w_aln rfl ?_
        refine w_gs ?_
        intro a6 ga6
        have ga6 : G a6 = (902050, 0) := ga6
        refine w_acne (fun c7 => ?_) (fun c7 => ?_)
        · skip
          refine w_aln rfl ?_
          refine w_cv (st := []) rfl gw rfl (Nat.le_of_ble_eq_true rfl) (fun kk h => h) ⟨Nat.le_of_ble_eq_true rfl, ?_⟩
          show wz (d + 4) mt_X9_isAboutTown.2.2.2.2.1 _ mt_X9_isAboutTown.2.2.2.2.1 [some (.inr (.inr (some w)))] [] _ _ _ _
          refine w_aln rfl ?_
          refine w_gs ?_
          intro a8 ga8
          have ga8 : G a8 = (903050, 0) := ga8
          refine w_aceq (fun c9 => ?_) (fun c9 => ?_)
          · exact absurd (Option.some.inj c9) (hn_ne gw ga8 (by decide))
          · skip
            refine w_aln rfl ?_
            refine w_gs ?_
            intro a10 ga10
            have ga10 : G a10 = (904050, 0) := ga10
            refine w_aceq (fun c11 => ?_) (fun c11 => ?_)
            · exact absurd (Option.some.inj c11) (hn_ne gw ga10 (by decide))
            · skip
              refine w_aln rfl ?_
              refine w_gs ?_
              intro a12 ga12
              have ga12 : G a12 = (905050, 0) := ga12
              refine w_aceq (fun c13 => ?_) (fun c13 => ?_)
              · exact absurd (Option.some.inj c13) (hn_ne gw ga12 (by decide))
              · skip
                refine w_aln rfl ?_
                refine w_gs ?_
                intro a14 ga14
                have ga14 : G a14 = (906050, 0) := ga14
                refine w_acne (fun c15 => ?_) (fun c15 => ?_)
                · skip
                  refine w_ic ?_
                  refine w_iret (fun _ => Or.inl rfl) ?_
                  refine w_ifeq (fun c16 => ?_) (fun c16 => ?_)
                  · skip
                    refine w_aln rfl ?_
                    refine w_gs ?_
                    intro a17 ga17
                    have ga17 : G a17 = (907050, 0) := ga17
                    refine w_acne (fun c18 => ?_) (fun c18 => ?_)
                    · skip
                      refine w_aln rfl ?_
                      refine w_gs ?_
                      intro a19 ga19
                      have ga19 : G a19 = (908050, 0) := ga19
                      refine w_acne (fun c20 => ?_) (fun c20 => ?_)
                      · skip
                        refine w_aln rfl ?_
                        refine w_gs ?_
                        intro a21 ga21
                        have ga21 : G a21 = (909050, 0) := ga21
                        refine w_acne (fun c22 => ?_) (fun c22 => ?_)
                        · skip
                          refine w_aln rfl ?_
                          refine w_ic ?_
                          refine w_cv (st := []) rfl gtp rfl (Nat.le_of_ble_eq_true rfl) (fun kk h => h) (r_X7_refuse (d := d + 4) hA hS (by decide) (fun MF23 F23 => ?_))
                          exact w_iret (fun _ => Or.inl rfl) (h10 _ F23)
                        · exact absurd (Option.some.inj c22) (hn_ne gw ga21 (by decide))
                      · exact absurd (Option.some.inj c20) (hn_ne gw ga19 (by decide))
                    · exact absurd (Option.some.inj c18) (hn_ne gw ga17 (by decide))
                  · exfalso; omega
                · exact absurd (Option.some.inj c15) (hn_ne gw ga14 (by decide))
        · exact absurd (Option.some.inj c7) (hn_ne gw ga6 (by decide))
      · exact absurd (Option.some.inj c5) (hn_ne gw ga4 (by decide))
    · exact absurd (Option.some.inj c3) (hn_ne gw ga2 (by decide))
  · cases c1
set_option maxHeartbeats 8000000 in
theorem r_row_18 {G : mj_G} {M0 M : mj_M} {B : Nat → Int} {n lim tp bc pl na ta ba wa oa : Nat} {tr br : Nat → Nat} {T : Nat → Nat × Nat × Int × List Int × Nat} {PL WA OA : Nat → Int} {TO BI : Nat → Nat → Int} {nm : Nat → List Int} {Q : mj_P} {d q : Nat} (hA : rv_AT G M0 B n lim tp bc pl na ta ba wa oa tr br T) (hS : rv_S G M0 n lim tp pl na wa oa tr br (T q) PL WA OA TO BI nm M) (hqn : q ≤ n) (hb : rv_pb PL) {w : Nat} (gw : G w = (918050, 0)) (e9 : M.2.2 tp 9 = some w) (h10 : ∀ M', rv_F tp pl na wa oa tr br M0 1 (T q).2.1 M' → Q (some (.inl 0)) G M') : mj_R mj_tab (d + 6) 43 [.inr (.inr (some pl)), .inr (.inr (some tp))] G M Q := by
  obtain ⟨⟨gtp, gbc, gpl, gna, gta, gba, gwa, goa, gtr, gbr, itr, ibr, r1, r2, r3, r4, r5, r6, r7, r8, rb, rw0, n1, n2, hIw⟩, hT⟩ := id hA
  refine ⟨Nat.le_of_ble_eq_true rfl, ?_⟩
  show wz (d + 5) mt_X3_readRow.2.2.2.2.1 Q mt_X3_readRow.2.2.2.2.1 [some (.inr (.inr (some pl))), some (.inr (.inr (some tp))), none] [] G M _ _
  refine w_aln rfl ?_
  refine w_gr gtp rfl (by decide) rfl (e9) ?_
  refine w_asn ?_
  show wz _ _ _ _ [some (.inr (.inr (some pl))), some (.inr (.inr (some tp))), some (.inr (.inr (some w)))] _ _ _ _ _
  refine w_aln rfl ?_
  refine w_ifnn (fun c1 => ?_) (fun c1 => ?_)
  · skip
    refine w_aln rfl ?_
    refine w_gs ?_
    intro a2 ga2
    have ga2 : G a2 = (900050, 0) := ga2
    refine w_acne (fun c3 => ?_) (fun c3 => ?_)
    · skip
      refine w_aln rfl ?_
      refine w_gs ?_
      intro a4 ga4
      have ga4 : G a4 = (901050, 0) := ga4
      refine w_acne (fun c5 => ?_) (fun c5 => ?_)
      · skip
        refine w_aln rfl ?_
        refine w_gs ?_
        intro a6 ga6
        have ga6 : G a6 = (902050, 0) := ga6
        refine w_acne (fun c7 => ?_) (fun c7 => ?_)
        · skip
          refine w_aln rfl ?_
          refine w_cv (st := []) rfl gw rfl (Nat.le_of_ble_eq_true rfl) (fun kk h => h) ⟨Nat.le_of_ble_eq_true rfl, ?_⟩
          show wz (d + 4) mt_X9_isAboutTown.2.2.2.2.1 _ mt_X9_isAboutTown.2.2.2.2.1 [some (.inr (.inr (some w)))] [] _ _ _ _
          refine w_aln rfl ?_
          refine w_gs ?_
          intro a8 ga8
          have ga8 : G a8 = (903050, 0) := ga8
          refine w_aceq (fun c9 => ?_) (fun c9 => ?_)
          · exact absurd (Option.some.inj c9) (hn_ne gw ga8 (by decide))
          · skip
            refine w_aln rfl ?_
            refine w_gs ?_
            intro a10 ga10
            have ga10 : G a10 = (904050, 0) := ga10
            refine w_aceq (fun c11 => ?_) (fun c11 => ?_)
            · exact absurd (Option.some.inj c11) (hn_ne gw ga10 (by decide))
            · skip
              refine w_aln rfl ?_
              refine w_gs ?_
              intro a12 ga12
              have ga12 : G a12 = (905050, 0) := ga12
              refine w_aceq (fun c13 => ?_) (fun c13 => ?_)
              · exact absurd (Option.some.inj c13) (hn_ne gw ga12 (by decide))
              · skip
                refine w_aln rfl ?_
                refine w_gs ?_
                intro a14 ga14
                have ga14 : G a14 = (906050, 0) := ga14
                refine w_acne (fun c15 => ?_) (fun c15 => ?_)
                · skip
                  refine w_ic ?_
                  refine w_iret (fun _ => Or.inl rfl) ?_
                  refine w_ifeq (fun c16 => ?_) (fun c16 => ?_)
                  · skip
                    refine w_aln rfl ?_
                    refine w_gs ?_
                    intro a17 ga17
                    have ga17 : G a17 = (907050, 0) := ga17
                    refine w_acne (fun c18 => ?_) (fun c18 => ?_)
                    · skip
                      refine w_aln rfl ?_
                      refine w_gs ?_
                      intro a19 ga19
                      have ga19 : G a19 = (908050, 0) := ga19
                      refine w_acne (fun c20 => ?_) (fun c20 => ?_)
                      · skip
                        refine w_aln rfl ?_
                        refine w_gs ?_
                        intro a21 ga21
                        have ga21 : G a21 = (909050, 0) := ga21
                        refine w_acne (fun c22 => ?_) (fun c22 => ?_)
                        · skip
                          refine w_aln rfl ?_
                          refine w_ic ?_
                          refine w_cv (st := []) rfl gtp rfl (Nat.le_of_ble_eq_true rfl) (fun kk h => h) (r_X7_refuse (d := d + 4) hA hS (by decide) (fun MF23 F23 => ?_))
                          exact w_iret (fun _ => Or.inl rfl) (h10 _ F23)
                        · exact absurd (Option.some.inj c22) (hn_ne gw ga21 (by decide))
                      · exact absurd (Option.some.inj c20) (hn_ne gw ga19 (by decide))
                    · exact absurd (Option.some.inj c18) (hn_ne gw ga17 (by decide))
                  · exfalso; omega
                · exact absurd (Option.some.inj c15) (hn_ne gw ga14 (by decide))
        · exact absurd (Option.some.inj c7) (hn_ne gw ga6 (by decide))
      · exact absurd (Option.some.inj c5) (hn_ne gw ga4 (by decide))
    · exact absurd (Option.some.inj c3) (hn_ne gw ga2 (by decide))
  · cases c1
set_option maxHeartbeats 8000000 in
theorem r_row_19 {G : mj_G} {M0 M : mj_M} {B : Nat → Int} {n lim tp bc pl na ta ba wa oa : Nat} {tr br : Nat → Nat} {T : Nat → Nat × Nat × Int × List Int × Nat} {PL WA OA : Nat → Int} {TO BI : Nat → Nat → Int} {nm : Nat → List Int} {Q : mj_P} {d q : Nat} (hA : rv_AT G M0 B n lim tp bc pl na ta ba wa oa tr br T) (hS : rv_S G M0 n lim tp pl na wa oa tr br (T q) PL WA OA TO BI nm M) (hqn : q ≤ n) (hb : rv_pb PL) {w : Nat} (gw : G w = (919050, 0)) (e9 : M.2.2 tp 9 = some w) (h10 : ∀ M', rv_F tp pl na wa oa tr br M0 1 (T q).2.1 M' → Q (some (.inl 0)) G M') : mj_R mj_tab (d + 6) 43 [.inr (.inr (some pl)), .inr (.inr (some tp))] G M Q := by
  obtain ⟨⟨gtp, gbc, gpl, gna, gta, gba, gwa, goa, gtr, gbr, itr, ibr, r1, r2, r3, r4, r5, r6, r7, r8, rb, rw0, n1, n2, hIw⟩, hT⟩ := id hA
  refine ⟨Nat.le_of_ble_eq_true rfl, ?_⟩
  show wz (d + 5) mt_X3_readRow.2.2.2.2.1 Q mt_X3_readRow.2.2.2.2.1 [some (.inr (.inr (some pl))), some (.inr (.inr (some tp))), none] [] G M _ _
  refine w_aln rfl ?_
  refine w_gr gtp rfl (by decide) rfl (e9) ?_
  refine w_asn ?_
  show wz _ _ _ _ [some (.inr (.inr (some pl))), some (.inr (.inr (some tp))), some (.inr (.inr (some w)))] _ _ _ _ _
  refine w_aln rfl ?_
  refine w_ifnn (fun c1 => ?_) (fun c1 => ?_)
  · skip
    refine w_aln rfl ?_
    refine w_gs ?_
    intro a2 ga2
    have ga2 : G a2 = (900050, 0) := ga2
    refine w_acne (fun c3 => ?_) (fun c3 => ?_)
    · skip
      refine w_aln rfl ?_
      refine w_gs ?_
      intro a4 ga4
      have ga4 : G a4 = (901050, 0) := ga4
      refine w_acne (fun c5 => ?_) (fun c5 => ?_)
      · skip
        refine w_aln rfl ?_
        refine w_gs ?_
        intro a6 ga6
        have ga6 : G a6 = (902050, 0) := ga6
        refine w_acne (fun c7 => ?_) (fun c7 => ?_)
        · skip
          refine w_aln rfl ?_
          refine w_cv (st := []) rfl gw rfl (Nat.le_of_ble_eq_true rfl) (fun kk h => h) ⟨Nat.le_of_ble_eq_true rfl, ?_⟩
          show wz (d + 4) mt_X9_isAboutTown.2.2.2.2.1 _ mt_X9_isAboutTown.2.2.2.2.1 [some (.inr (.inr (some w)))] [] _ _ _ _
          refine w_aln rfl ?_
          refine w_gs ?_
          intro a8 ga8
          have ga8 : G a8 = (903050, 0) := ga8
          refine w_aceq (fun c9 => ?_) (fun c9 => ?_)
          · exact absurd (Option.some.inj c9) (hn_ne gw ga8 (by decide))
          · skip
            refine w_aln rfl ?_
            refine w_gs ?_
            intro a10 ga10
            have ga10 : G a10 = (904050, 0) := ga10
            refine w_aceq (fun c11 => ?_) (fun c11 => ?_)
            · exact absurd (Option.some.inj c11) (hn_ne gw ga10 (by decide))
            · skip
              refine w_aln rfl ?_
              refine w_gs ?_
              intro a12 ga12
              have ga12 : G a12 = (905050, 0) := ga12
              refine w_aceq (fun c13 => ?_) (fun c13 => ?_)
              · exact absurd (Option.some.inj c13) (hn_ne gw ga12 (by decide))
              · skip
                refine w_aln rfl ?_
                refine w_gs ?_
                intro a14 ga14
                have ga14 : G a14 = (906050, 0) := ga14
                refine w_acne (fun c15 => ?_) (fun c15 => ?_)
                · skip
                  refine w_ic ?_
                  refine w_iret (fun _ => Or.inl rfl) ?_
                  refine w_ifeq (fun c16 => ?_) (fun c16 => ?_)
                  · skip
                    refine w_aln rfl ?_
                    refine w_gs ?_
                    intro a17 ga17
                    have ga17 : G a17 = (907050, 0) := ga17
                    refine w_acne (fun c18 => ?_) (fun c18 => ?_)
                    · skip
                      refine w_aln rfl ?_
                      refine w_gs ?_
                      intro a19 ga19
                      have ga19 : G a19 = (908050, 0) := ga19
                      refine w_acne (fun c20 => ?_) (fun c20 => ?_)
                      · skip
                        refine w_aln rfl ?_
                        refine w_gs ?_
                        intro a21 ga21
                        have ga21 : G a21 = (909050, 0) := ga21
                        refine w_acne (fun c22 => ?_) (fun c22 => ?_)
                        · skip
                          refine w_aln rfl ?_
                          refine w_ic ?_
                          refine w_cv (st := []) rfl gtp rfl (Nat.le_of_ble_eq_true rfl) (fun kk h => h) (r_X7_refuse (d := d + 4) hA hS (by decide) (fun MF23 F23 => ?_))
                          exact w_iret (fun _ => Or.inl rfl) (h10 _ F23)
                        · exact absurd (Option.some.inj c22) (hn_ne gw ga21 (by decide))
                      · exact absurd (Option.some.inj c20) (hn_ne gw ga19 (by decide))
                    · exact absurd (Option.some.inj c18) (hn_ne gw ga17 (by decide))
                  · exfalso; omega
                · exact absurd (Option.some.inj c15) (hn_ne gw ga14 (by decide))
        · exact absurd (Option.some.inj c7) (hn_ne gw ga6 (by decide))
      · exact absurd (Option.some.inj c5) (hn_ne gw ga4 (by decide))
    · exact absurd (Option.some.inj c3) (hn_ne gw ga2 (by decide))
  · cases c1
set_option maxHeartbeats 8000000 in
theorem r_row_20 {G : mj_G} {M0 M : mj_M} {B : Nat → Int} {n lim tp bc pl na ta ba wa oa : Nat} {tr br : Nat → Nat} {T : Nat → Nat × Nat × Int × List Int × Nat} {PL WA OA : Nat → Int} {TO BI : Nat → Nat → Int} {nm : Nat → List Int} {Q : mj_P} {d q : Nat} (hA : rv_AT G M0 B n lim tp bc pl na ta ba wa oa tr br T) (hS : rv_S G M0 n lim tp pl na wa oa tr br (T q) PL WA OA TO BI nm M) (hqn : q ≤ n) (hb : rv_pb PL) {w : Nat} (gw : G w = (920050, 0)) (e9 : M.2.2 tp 9 = some w) (h10 : ∀ M', rv_F tp pl na wa oa tr br M0 1 (T q).2.1 M' → Q (some (.inl 0)) G M') : mj_R mj_tab (d + 6) 43 [.inr (.inr (some pl)), .inr (.inr (some tp))] G M Q := by
  obtain ⟨⟨gtp, gbc, gpl, gna, gta, gba, gwa, goa, gtr, gbr, itr, ibr, r1, r2, r3, r4, r5, r6, r7, r8, rb, rw0, n1, n2, hIw⟩, hT⟩ := id hA
  refine ⟨Nat.le_of_ble_eq_true rfl, ?_⟩
  show wz (d + 5) mt_X3_readRow.2.2.2.2.1 Q mt_X3_readRow.2.2.2.2.1 [some (.inr (.inr (some pl))), some (.inr (.inr (some tp))), none] [] G M _ _
  refine w_aln rfl ?_
  refine w_gr gtp rfl (by decide) rfl (e9) ?_
  refine w_asn ?_
  show wz _ _ _ _ [some (.inr (.inr (some pl))), some (.inr (.inr (some tp))), some (.inr (.inr (some w)))] _ _ _ _ _
  refine w_aln rfl ?_
  refine w_ifnn (fun c1 => ?_) (fun c1 => ?_)
  · skip
    refine w_aln rfl ?_
    refine w_gs ?_
    intro a2 ga2
    have ga2 : G a2 = (900050, 0) := ga2
    refine w_acne (fun c3 => ?_) (fun c3 => ?_)
    · skip
      refine w_aln rfl ?_
      refine w_gs ?_
      intro a4 ga4
      have ga4 : G a4 = (901050, 0) := ga4
      refine w_acne (fun c5 => ?_) (fun c5 => ?_)
      · skip
        refine w_aln rfl ?_
        refine w_gs ?_
        intro a6 ga6
        have ga6 : G a6 = (902050, 0) := ga6
        refine w_acne (fun c7 => ?_) (fun c7 => ?_)
        · skip
          refine w_aln rfl ?_
          refine w_cv (st := []) rfl gw rfl (Nat.le_of_ble_eq_true rfl) (fun kk h => h) ⟨Nat.le_of_ble_eq_true rfl, ?_⟩
          show wz (d + 4) mt_X9_isAboutTown.2.2.2.2.1 _ mt_X9_isAboutTown.2.2.2.2.1 [some (.inr (.inr (some w)))] [] _ _ _ _
          refine w_aln rfl ?_
          refine w_gs ?_
          intro a8 ga8
          have ga8 : G a8 = (903050, 0) := ga8
          refine w_aceq (fun c9 => ?_) (fun c9 => ?_)
          · exact absurd (Option.some.inj c9) (hn_ne gw ga8 (by decide))
          · skip
            refine w_aln rfl ?_
            refine w_gs ?_
            intro a10 ga10
            have ga10 : G a10 = (904050, 0) := ga10
            refine w_aceq (fun c11 => ?_) (fun c11 => ?_)
            · exact absurd (Option.some.inj c11) (hn_ne gw ga10 (by decide))
            · skip
              refine w_aln rfl ?_
              refine w_gs ?_
              intro a12 ga12
              have ga12 : G a12 = (905050, 0) := ga12
              refine w_aceq (fun c13 => ?_) (fun c13 => ?_)
              · exact absurd (Option.some.inj c13) (hn_ne gw ga12 (by decide))
              · skip
                refine w_aln rfl ?_
                refine w_gs ?_
                intro a14 ga14
                have ga14 : G a14 = (906050, 0) := ga14
                refine w_acne (fun c15 => ?_) (fun c15 => ?_)
                · skip
                  refine w_ic ?_
                  refine w_iret (fun _ => Or.inl rfl) ?_
                  refine w_ifeq (fun c16 => ?_) (fun c16 => ?_)
                  · skip
                    refine w_aln rfl ?_
                    refine w_gs ?_
                    intro a17 ga17
                    have ga17 : G a17 = (907050, 0) := ga17
                    refine w_acne (fun c18 => ?_) (fun c18 => ?_)
                    · skip
                      refine w_aln rfl ?_
                      refine w_gs ?_
                      intro a19 ga19
                      have ga19 : G a19 = (908050, 0) := ga19
                      refine w_acne (fun c20 => ?_) (fun c20 => ?_)
                      · skip
                        refine w_aln rfl ?_
                        refine w_gs ?_
                        intro a21 ga21
                        have ga21 : G a21 = (909050, 0) := ga21
                        refine w_acne (fun c22 => ?_) (fun c22 => ?_)
                        · skip
                          refine w_aln rfl ?_
                          refine w_ic ?_
                          refine w_cv (st := []) rfl gtp rfl (Nat.le_of_ble_eq_true rfl) (fun kk h => h) (r_X7_refuse (d := d + 4) hA hS (by decide) (fun MF23 F23 => ?_))
                          exact w_iret (fun _ => Or.inl rfl) (h10 _ F23)
                        · exact absurd (Option.some.inj c22) (hn_ne gw ga21 (by decide))
                      · exact absurd (Option.some.inj c20) (hn_ne gw ga19 (by decide))
                    · exact absurd (Option.some.inj c18) (hn_ne gw ga17 (by decide))
                  · exfalso; omega
                · exact absurd (Option.some.inj c15) (hn_ne gw ga14 (by decide))
        · exact absurd (Option.some.inj c7) (hn_ne gw ga6 (by decide))
      · exact absurd (Option.some.inj c5) (hn_ne gw ga4 (by decide))
    · exact absurd (Option.some.inj c3) (hn_ne gw ga2 (by decide))
  · cases c1
set_option maxHeartbeats 8000000 in
theorem r_row_21 {G : mj_G} {M0 M : mj_M} {B : Nat → Int} {n lim tp bc pl na ta ba wa oa : Nat} {tr br : Nat → Nat} {T : Nat → Nat × Nat × Int × List Int × Nat} {PL WA OA : Nat → Int} {TO BI : Nat → Nat → Int} {nm : Nat → List Int} {Q : mj_P} {d q : Nat} (hA : rv_AT G M0 B n lim tp bc pl na ta ba wa oa tr br T) (hS : rv_S G M0 n lim tp pl na wa oa tr br (T q) PL WA OA TO BI nm M) (hqn : q ≤ n) (hb : rv_pb PL) {w : Nat} (gw : G w = (921050, 0)) (e9 : M.2.2 tp 9 = some w) (h10 : ∀ M', rv_F tp pl na wa oa tr br M0 1 (T q).2.1 M' → Q (some (.inl 0)) G M') : mj_R mj_tab (d + 6) 43 [.inr (.inr (some pl)), .inr (.inr (some tp))] G M Q := by
  obtain ⟨⟨gtp, gbc, gpl, gna, gta, gba, gwa, goa, gtr, gbr, itr, ibr, r1, r2, r3, r4, r5, r6, r7, r8, rb, rw0, n1, n2, hIw⟩, hT⟩ := id hA
  refine ⟨Nat.le_of_ble_eq_true rfl, ?_⟩
  show wz (d + 5) mt_X3_readRow.2.2.2.2.1 Q mt_X3_readRow.2.2.2.2.1 [some (.inr (.inr (some pl))), some (.inr (.inr (some tp))), none] [] G M _ _
  refine w_aln rfl ?_
  refine w_gr gtp rfl (by decide) rfl (e9) ?_
  refine w_asn ?_
  show wz _ _ _ _ [some (.inr (.inr (some pl))), some (.inr (.inr (some tp))), some (.inr (.inr (some w)))] _ _ _ _ _
  refine w_aln rfl ?_
  refine w_ifnn (fun c1 => ?_) (fun c1 => ?_)
  · skip
    refine w_aln rfl ?_
    refine w_gs ?_
    intro a2 ga2
    have ga2 : G a2 = (900050, 0) := ga2
    refine w_acne (fun c3 => ?_) (fun c3 => ?_)
    · skip
      refine w_aln rfl ?_
      refine w_gs ?_
      intro a4 ga4
      have ga4 : G a4 = (901050, 0) := ga4
      refine w_acne (fun c5 => ?_) (fun c5 => ?_)
      · skip
        refine w_aln rfl ?_
        refine w_gs ?_
        intro a6 ga6
        have ga6 : G a6 = (902050, 0) := ga6
        refine w_acne (fun c7 => ?_) (fun c7 => ?_)
        · skip
          refine w_aln rfl ?_
          refine w_cv (st := []) rfl gw rfl (Nat.le_of_ble_eq_true rfl) (fun kk h => h) ⟨Nat.le_of_ble_eq_true rfl, ?_⟩
          show wz (d + 4) mt_X9_isAboutTown.2.2.2.2.1 _ mt_X9_isAboutTown.2.2.2.2.1 [some (.inr (.inr (some w)))] [] _ _ _ _
          refine w_aln rfl ?_
          refine w_gs ?_
          intro a8 ga8
          have ga8 : G a8 = (903050, 0) := ga8
          refine w_aceq (fun c9 => ?_) (fun c9 => ?_)
          · exact absurd (Option.some.inj c9) (hn_ne gw ga8 (by decide))
          · skip
            refine w_aln rfl ?_
            refine w_gs ?_
            intro a10 ga10
            have ga10 : G a10 = (904050, 0) := ga10
            refine w_aceq (fun c11 => ?_) (fun c11 => ?_)
            · exact absurd (Option.some.inj c11) (hn_ne gw ga10 (by decide))
            · skip
              refine w_aln rfl ?_
              refine w_gs ?_
              intro a12 ga12
              have ga12 : G a12 = (905050, 0) := ga12
              refine w_aceq (fun c13 => ?_) (fun c13 => ?_)
              · exact absurd (Option.some.inj c13) (hn_ne gw ga12 (by decide))
              · skip
                refine w_aln rfl ?_
                refine w_gs ?_
                intro a14 ga14
                have ga14 : G a14 = (906050, 0) := ga14
                refine w_acne (fun c15 => ?_) (fun c15 => ?_)
                · skip
                  refine w_ic ?_
                  refine w_iret (fun _ => Or.inl rfl) ?_
                  refine w_ifeq (fun c16 => ?_) (fun c16 => ?_)
                  · skip
                    refine w_aln rfl ?_
                    refine w_gs ?_
                    intro a17 ga17
                    have ga17 : G a17 = (907050, 0) := ga17
                    refine w_acne (fun c18 => ?_) (fun c18 => ?_)
                    · skip
                      refine w_aln rfl ?_
                      refine w_gs ?_
                      intro a19 ga19
                      have ga19 : G a19 = (908050, 0) := ga19
                      refine w_acne (fun c20 => ?_) (fun c20 => ?_)
                      · skip
                        refine w_aln rfl ?_
                        refine w_gs ?_
                        intro a21 ga21
                        have ga21 : G a21 = (909050, 0) := ga21
                        refine w_acne (fun c22 => ?_) (fun c22 => ?_)
                        · skip
                          refine w_aln rfl ?_
                          refine w_ic ?_
                          refine w_cv (st := []) rfl gtp rfl (Nat.le_of_ble_eq_true rfl) (fun kk h => h) (r_X7_refuse (d := d + 4) hA hS (by decide) (fun MF23 F23 => ?_))
                          exact w_iret (fun _ => Or.inl rfl) (h10 _ F23)
                        · exact absurd (Option.some.inj c22) (hn_ne gw ga21 (by decide))
                      · exact absurd (Option.some.inj c20) (hn_ne gw ga19 (by decide))
                    · exact absurd (Option.some.inj c18) (hn_ne gw ga17 (by decide))
                  · exfalso; omega
                · exact absurd (Option.some.inj c15) (hn_ne gw ga14 (by decide))
        · exact absurd (Option.some.inj c7) (hn_ne gw ga6 (by decide))
      · exact absurd (Option.some.inj c5) (hn_ne gw ga4 (by decide))
    · exact absurd (Option.some.inj c3) (hn_ne gw ga2 (by decide))
  · cases c1
set_option maxHeartbeats 8000000 in
theorem r_row_22 {G : mj_G} {M0 M : mj_M} {B : Nat → Int} {n lim tp bc pl na ta ba wa oa : Nat} {tr br : Nat → Nat} {T : Nat → Nat × Nat × Int × List Int × Nat} {PL WA OA : Nat → Int} {TO BI : Nat → Nat → Int} {nm : Nat → List Int} {Q : mj_P} {d q : Nat} (hA : rv_AT G M0 B n lim tp bc pl na ta ba wa oa tr br T) (hS : rv_S G M0 n lim tp pl na wa oa tr br (T q) PL WA OA TO BI nm M) (hqn : q ≤ n) (hb : rv_pb PL) {w : Nat} (gw : G w = (922050, 0)) (e9 : M.2.2 tp 9 = some w) (h10 : ∀ M', rv_F tp pl na wa oa tr br M0 1 (T q).2.1 M' → Q (some (.inl 0)) G M') : mj_R mj_tab (d + 6) 43 [.inr (.inr (some pl)), .inr (.inr (some tp))] G M Q := by
  obtain ⟨⟨gtp, gbc, gpl, gna, gta, gba, gwa, goa, gtr, gbr, itr, ibr, r1, r2, r3, r4, r5, r6, r7, r8, rb, rw0, n1, n2, hIw⟩, hT⟩ := id hA
  refine ⟨Nat.le_of_ble_eq_true rfl, ?_⟩
  show wz (d + 5) mt_X3_readRow.2.2.2.2.1 Q mt_X3_readRow.2.2.2.2.1 [some (.inr (.inr (some pl))), some (.inr (.inr (some tp))), none] [] G M _ _
  refine w_aln rfl ?_
  refine w_gr gtp rfl (by decide) rfl (e9) ?_
  refine w_asn ?_
  show wz _ _ _ _ [some (.inr (.inr (some pl))), some (.inr (.inr (some tp))), some (.inr (.inr (some w)))] _ _ _ _ _
  refine w_aln rfl ?_
  refine w_ifnn (fun c1 => ?_) (fun c1 => ?_)
  · skip
    refine w_aln rfl ?_
    refine w_gs ?_
    intro a2 ga2
    have ga2 : G a2 = (900050, 0) := ga2
    refine w_acne (fun c3 => ?_) (fun c3 => ?_)
    · skip
      refine w_aln rfl ?_
      refine w_gs ?_
      intro a4 ga4
      have ga4 : G a4 = (901050, 0) := ga4
      refine w_acne (fun c5 => ?_) (fun c5 => ?_)
      · skip
        refine w_aln rfl ?_
        refine w_gs ?_
        intro a6 ga6
        have ga6 : G a6 = (902050, 0) := ga6
        refine w_acne (fun c7 => ?_) (fun c7 => ?_)
        · skip
          refine w_aln rfl ?_
          refine w_cv (st := []) rfl gw rfl (Nat.le_of_ble_eq_true rfl) (fun kk h => h) ⟨Nat.le_of_ble_eq_true rfl, ?_⟩
          show wz (d + 4) mt_X9_isAboutTown.2.2.2.2.1 _ mt_X9_isAboutTown.2.2.2.2.1 [some (.inr (.inr (some w)))] [] _ _ _ _
          refine w_aln rfl ?_
          refine w_gs ?_
          intro a8 ga8
          have ga8 : G a8 = (903050, 0) := ga8
          refine w_aceq (fun c9 => ?_) (fun c9 => ?_)
          · exact absurd (Option.some.inj c9) (hn_ne gw ga8 (by decide))
          · skip
            refine w_aln rfl ?_
            refine w_gs ?_
            intro a10 ga10
            have ga10 : G a10 = (904050, 0) := ga10
            refine w_aceq (fun c11 => ?_) (fun c11 => ?_)
            · exact absurd (Option.some.inj c11) (hn_ne gw ga10 (by decide))
            · skip
              refine w_aln rfl ?_
              refine w_gs ?_
              intro a12 ga12
              have ga12 : G a12 = (905050, 0) := ga12
              refine w_aceq (fun c13 => ?_) (fun c13 => ?_)
              · exact absurd (Option.some.inj c13) (hn_ne gw ga12 (by decide))
              · skip
                refine w_aln rfl ?_
                refine w_gs ?_
                intro a14 ga14
                have ga14 : G a14 = (906050, 0) := ga14
                refine w_acne (fun c15 => ?_) (fun c15 => ?_)
                · skip
                  refine w_ic ?_
                  refine w_iret (fun _ => Or.inl rfl) ?_
                  refine w_ifeq (fun c16 => ?_) (fun c16 => ?_)
                  · skip
                    refine w_aln rfl ?_
                    refine w_gs ?_
                    intro a17 ga17
                    have ga17 : G a17 = (907050, 0) := ga17
                    refine w_acne (fun c18 => ?_) (fun c18 => ?_)
                    · skip
                      refine w_aln rfl ?_
                      refine w_gs ?_
                      intro a19 ga19
                      have ga19 : G a19 = (908050, 0) := ga19
                      refine w_acne (fun c20 => ?_) (fun c20 => ?_)
                      · skip
                        refine w_aln rfl ?_
                        refine w_gs ?_
                        intro a21 ga21
                        have ga21 : G a21 = (909050, 0) := ga21
                        refine w_acne (fun c22 => ?_) (fun c22 => ?_)
                        · skip
                          refine w_aln rfl ?_
                          refine w_ic ?_
                          refine w_cv (st := []) rfl gtp rfl (Nat.le_of_ble_eq_true rfl) (fun kk h => h) (r_X7_refuse (d := d + 4) hA hS (by decide) (fun MF23 F23 => ?_))
                          exact w_iret (fun _ => Or.inl rfl) (h10 _ F23)
                        · exact absurd (Option.some.inj c22) (hn_ne gw ga21 (by decide))
                      · exact absurd (Option.some.inj c20) (hn_ne gw ga19 (by decide))
                    · exact absurd (Option.some.inj c18) (hn_ne gw ga17 (by decide))
                  · exfalso; omega
                · exact absurd (Option.some.inj c15) (hn_ne gw ga14 (by decide))
        · exact absurd (Option.some.inj c7) (hn_ne gw ga6 (by decide))
      · exact absurd (Option.some.inj c5) (hn_ne gw ga4 (by decide))
    · exact absurd (Option.some.inj c3) (hn_ne gw ga2 (by decide))
  · cases c1
set_option maxHeartbeats 8000000 in
theorem r_row_23 {G : mj_G} {M0 M : mj_M} {B : Nat → Int} {n lim tp bc pl na ta ba wa oa : Nat} {tr br : Nat → Nat} {T : Nat → Nat × Nat × Int × List Int × Nat} {PL WA OA : Nat → Int} {TO BI : Nat → Nat → Int} {nm : Nat → List Int} {Q : mj_P} {d q : Nat} (hA : rv_AT G M0 B n lim tp bc pl na ta ba wa oa tr br T) (hS : rv_S G M0 n lim tp pl na wa oa tr br (T q) PL WA OA TO BI nm M) (hqn : q ≤ n) (hb : rv_pb PL) {w : Nat} (gw : G w = (923050, 0)) (e9 : M.2.2 tp 9 = some w) (h10 : ∀ M', rv_F tp pl na wa oa tr br M0 1 (T q).2.1 M' → Q (some (.inl 0)) G M') : mj_R mj_tab (d + 6) 43 [.inr (.inr (some pl)), .inr (.inr (some tp))] G M Q := by
  obtain ⟨⟨gtp, gbc, gpl, gna, gta, gba, gwa, goa, gtr, gbr, itr, ibr, r1, r2, r3, r4, r5, r6, r7, r8, rb, rw0, n1, n2, hIw⟩, hT⟩ := id hA
  refine ⟨Nat.le_of_ble_eq_true rfl, ?_⟩
  show wz (d + 5) mt_X3_readRow.2.2.2.2.1 Q mt_X3_readRow.2.2.2.2.1 [some (.inr (.inr (some pl))), some (.inr (.inr (some tp))), none] [] G M _ _
  refine w_aln rfl ?_
  refine w_gr gtp rfl (by decide) rfl (e9) ?_
  refine w_asn ?_
  show wz _ _ _ _ [some (.inr (.inr (some pl))), some (.inr (.inr (some tp))), some (.inr (.inr (some w)))] _ _ _ _ _
  refine w_aln rfl ?_
  refine w_ifnn (fun c1 => ?_) (fun c1 => ?_)
  · skip
    refine w_aln rfl ?_
    refine w_gs ?_
    intro a2 ga2
    have ga2 : G a2 = (900050, 0) := ga2
    refine w_acne (fun c3 => ?_) (fun c3 => ?_)
    · skip
      refine w_aln rfl ?_
      refine w_gs ?_
      intro a4 ga4
      have ga4 : G a4 = (901050, 0) := ga4
      refine w_acne (fun c5 => ?_) (fun c5 => ?_)
      · skip
        refine w_aln rfl ?_
        refine w_gs ?_
        intro a6 ga6
        have ga6 : G a6 = (902050, 0) := ga6
        refine w_acne (fun c7 => ?_) (fun c7 => ?_)
        · skip
          refine w_aln rfl ?_
          refine w_cv (st := []) rfl gw rfl (Nat.le_of_ble_eq_true rfl) (fun kk h => h) ⟨Nat.le_of_ble_eq_true rfl, ?_⟩
          show wz (d + 4) mt_X9_isAboutTown.2.2.2.2.1 _ mt_X9_isAboutTown.2.2.2.2.1 [some (.inr (.inr (some w)))] [] _ _ _ _
          refine w_aln rfl ?_
          refine w_gs ?_
          intro a8 ga8
          have ga8 : G a8 = (903050, 0) := ga8
          refine w_aceq (fun c9 => ?_) (fun c9 => ?_)
          · exact absurd (Option.some.inj c9) (hn_ne gw ga8 (by decide))
          · skip
            refine w_aln rfl ?_
            refine w_gs ?_
            intro a10 ga10
            have ga10 : G a10 = (904050, 0) := ga10
            refine w_aceq (fun c11 => ?_) (fun c11 => ?_)
            · exact absurd (Option.some.inj c11) (hn_ne gw ga10 (by decide))
            · skip
              refine w_aln rfl ?_
              refine w_gs ?_
              intro a12 ga12
              have ga12 : G a12 = (905050, 0) := ga12
              refine w_aceq (fun c13 => ?_) (fun c13 => ?_)
              · exact absurd (Option.some.inj c13) (hn_ne gw ga12 (by decide))
              · skip
                refine w_aln rfl ?_
                refine w_gs ?_
                intro a14 ga14
                have ga14 : G a14 = (906050, 0) := ga14
                refine w_acne (fun c15 => ?_) (fun c15 => ?_)
                · skip
                  refine w_ic ?_
                  refine w_iret (fun _ => Or.inl rfl) ?_
                  refine w_ifeq (fun c16 => ?_) (fun c16 => ?_)
                  · skip
                    refine w_aln rfl ?_
                    refine w_gs ?_
                    intro a17 ga17
                    have ga17 : G a17 = (907050, 0) := ga17
                    refine w_acne (fun c18 => ?_) (fun c18 => ?_)
                    · skip
                      refine w_aln rfl ?_
                      refine w_gs ?_
                      intro a19 ga19
                      have ga19 : G a19 = (908050, 0) := ga19
                      refine w_acne (fun c20 => ?_) (fun c20 => ?_)
                      · skip
                        refine w_aln rfl ?_
                        refine w_gs ?_
                        intro a21 ga21
                        have ga21 : G a21 = (909050, 0) := ga21
                        refine w_acne (fun c22 => ?_) (fun c22 => ?_)
                        · skip
                          refine w_aln rfl ?_
                          refine w_ic ?_
                          refine w_cv (st := []) rfl gtp rfl (Nat.le_of_ble_eq_true rfl) (fun kk h => h) (r_X7_refuse (d := d + 4) hA hS (by decide) (fun MF23 F23 => ?_))
                          exact w_iret (fun _ => Or.inl rfl) (h10 _ F23)
                        · exact absurd (Option.some.inj c22) (hn_ne gw ga21 (by decide))
                      · exact absurd (Option.some.inj c20) (hn_ne gw ga19 (by decide))
                    · exact absurd (Option.some.inj c18) (hn_ne gw ga17 (by decide))
                  · exfalso; omega
                · exact absurd (Option.some.inj c15) (hn_ne gw ga14 (by decide))
        · exact absurd (Option.some.inj c7) (hn_ne gw ga6 (by decide))
      · exact absurd (Option.some.inj c5) (hn_ne gw ga4 (by decide))
    · exact absurd (Option.some.inj c3) (hn_ne gw ga2 (by decide))
  · cases c1
theorem r_X3_readRow {G : mj_G} {M0 M : mj_M} {B : Nat → Int} {n lim tp bc pl na ta ba wa oa : Nat} {tr br : Nat → Nat} {T : Nat → Nat × Nat × Int × List Int × Nat} {PL WA OA : Nat → Int} {TO BI : Nat → Nat → Int} {nm : Nat → List Int} {Q : mj_P} {d q : Nat} (hA : rv_AT G M0 B n lim tp bc pl na ta ba wa oa tr br T) (hS : rv_S G M0 n lim tp pl na wa oa tr br (T q) PL WA OA TO BI nm M) (hqn : q ≤ n) (hb : rv_pb PL) (h : sp_row T PL WA OA TO BI nm q (fun f a => ∀ M', rv_F tp pl na wa oa tr br M0 f a M' → Q (some (.inl 0)) G M') (fun PL WA OA TO BI nm q' => q ≤ q' → q' ≤ n → rv_pb PL → ∀ M', rv_S G M0 n lim tp pl na wa oa tr br (T q') PL WA OA TO BI nm M' → Q (some (.inl 1)) G M')) : mj_R mj_tab (d + 6) 43 [.inr (.inr (some pl)), .inr (.inr (some tp))] G M Q := by
  obtain ⟨k4, k5, k11, k6, k7, k8, k9⟩ := id hS.2.1
  by_cases c : (T q).1 = 1
  · rcases (k8 c).2 with ⟨j, w, j1, j2, gw, e9⟩ | ⟨j1, e9⟩
    · obtain ⟨h0, h1, h2, h3, h4, h5, h6, h7, h8, h9, h10⟩ := h.1 j j1 c (rv_5i (rv_rs_o j j1) (rv_x_wo hA hqn c) ((rv_rs_5 j j1).trans j2))
      have hj : j = 0 ∨ j = 1 ∨ j = 2 ∨ j = 3 ∨ j = 4 ∨ j = 5 ∨ j = 6 ∨ j = 7 ∨ j = 8 ∨ j = 9 ∨ j = 10 ∨ j = 11 ∨ j = 12 ∨ j = 13 ∨ j = 14 ∨ j = 15 ∨ j = 16 ∨ j = 17 ∨ j = 18 ∨ j = 19 ∨ j = 20 ∨ j = 21 ∨ j = 22 ∨ j = 23 := by omega
      rcases hj with rfl | rfl | rfl | rfl | rfl | rfl | rfl | rfl | rfl | rfl | rfl | rfl | rfl | rfl | rfl | rfl | rfl | rfl | rfl | rfl | rfl | rfl | rfl | rfl
      · exact r_row_0 hA hS hqn hb gw e9 (fun _ => h0 rfl)
      · exact r_row_1 hA hS hqn hb gw e9 (fun _ => h1 rfl)
      · exact r_row_2 hA hS hqn hb gw e9 (fun _ => h2 rfl)
      · exact r_row_3 hA hS hqn hb gw e9 (fun _ => h3 rfl)
      · exact r_row_4 hA hS hqn hb gw e9 (fun _ => h4 rfl)
      · exact r_row_5 hA hS hqn hb gw e9 (fun _ => h5 rfl)
      · exact r_row_6 hA hS hqn hb gw e9 (fun _ => h6 rfl)
      · exact r_row_7 hA hS hqn hb gw e9 (fun _ => h7 rfl)
      · exact r_row_8 hA hS hqn hb gw e9 (fun _ => h8 rfl)
      · exact r_row_9 hA hS hqn hb gw e9 (fun _ => h9 rfl)
      · exact r_row_10 hA hS hqn hb gw e9 (h10 (by decide))
      · exact r_row_11 hA hS hqn hb gw e9 (h10 (by decide))
      · exact r_row_12 hA hS hqn hb gw e9 (h10 (by decide))
      · exact r_row_13 hA hS hqn hb gw e9 (h10 (by decide))
      · exact r_row_14 hA hS hqn hb gw e9 (h10 (by decide))
      · exact r_row_15 hA hS hqn hb gw e9 (h10 (by decide))
      · exact r_row_16 hA hS hqn hb gw e9 (h10 (by decide))
      · exact r_row_17 hA hS hqn hb gw e9 (h10 (by decide))
      · exact r_row_18 hA hS hqn hb gw e9 (h10 (by decide))
      · exact r_row_19 hA hS hqn hb gw e9 (h10 (by decide))
      · exact r_row_20 hA hS hqn hb gw e9 (h10 (by decide))
      · exact r_row_21 hA hS hqn hb gw e9 (h10 (by decide))
      · exact r_row_22 hA hS hqn hb gw e9 (h10 (by decide))
      · exact r_row_23 hA hS hqn hb gw e9 (h10 (by decide))
    · exact r_row_n hA hS hqn hb e9 (h.2 (fun g => g.2 ((rv_nam5 (rv_x_wo hA hqn c)).mpr j1)))
  · exact r_row_n hA hS hqn hb (k9 c) (h.2 (fun g => c g.1))
theorem r_X7_finish {G : mj_G} {M0 M : mj_M} {B : Nat → Int} {n lim tp bc pl na ta ba wa oa : Nat} {tr br : Nat → Nat} {T : Nat → Nat × Nat × Int × List Int × Nat} {PL WA OA : Nat → Int} {TO BI : Nat → Nat → Int} {nm : Nat → List Int} {Q : mj_P} {d q : Nat} (hA : rv_AT G M0 B n lim tp bc pl na ta ba wa oa tr br T) (hS : rv_S G M0 n lim tp pl na wa oa tr br (T q) PL WA OA TO BI nm M) (h0 : (T q).1 = 0 → Q (some (.inl 1)) G M) (h5 : (T q).1 = 5 → ∀ M', rv_F tp pl na wa oa tr br M0 1 (T q).2.1 M' → Q (some (.inl 0)) G M') (hc : (T q).1 = 0 ∨ (T q).1 = 5) : mj_R mj_tab (d + 2) 70 [.inr (.inr (some tp))] G M Q := by
  obtain ⟨⟨gtp, gbc, gpl, gna, gta, gba, gwa, goa, gtr, gbr, itr, ibr, r1, r2, r3, r4, r5, r6, r7, r8, rb, rw0, n1, n2, hIw⟩, hT⟩ := id hA
  obtain ⟨k4, k5, k11, k6, k7, k8, k9⟩ := id hS.2.1
  have ht := rv_T_0 (B := B) (n := n) (lim := lim) (p := q)
  rw [← hT] at ht
  refine ⟨Nat.le_of_ble_eq_true rfl, ?_⟩
  show wz (d + 1) mt_X7_finish.2.2.2.2.1 Q mt_X7_finish.2.2.2.2.1 [some (.inr (.inr (some tp)))] [] G M _ _
  refine w_aln rfl ?_
  refine w_gi gtp rfl (by decide) rfl rfl ?_
  refine w_ifne (fun c => by exfalso; omega) (fun c => ?_)
  refine w_aln rfl ?_
  refine w_gi gtp rfl (by decide) rfl hS.1.1 ?_
  refine w_aln rfl ?_
  refine w_gi gtp rfl (by decide) rfl hS.1.2.1 ?_
  refine w_cmle (fun c2 => ?_) (fun c2 => ?_)
  · refine w_ic ?_
    refine w_goto ?_
    refine w_iret (fun _ => Or.inr rfl) (h0 ?_)
    rcases hc with e | e
    · exact e
    · have := ht.2 e; exfalso; omega
  · refine w_aln rfl ?_
    refine w_ic ?_
    refine w_cv (st := []) rfl gtp rfl (Nat.le_of_ble_eq_true rfl) (fun kk h => h) (r_X7_refuse (d := d) hA hS (by decide) (fun M' F => ?_))
    refine w_ifeq (fun c => ?_) (fun c => absurd rfl c)
    refine w_ic ?_
    refine w_iret (fun _ => Or.inl rfl) (h5 ?_ M' F)
    rcases hc with e | e
    · have := ht.1 e; exfalso; omega
    · exact e
/-- rows to the end of a text; r have been read, T q is the token now -/
def sp_rows (T : Nat → Nat × Nat × Int × List Int × Nat) (Kf : Int → Nat → Prop) (Ko : (Nat → Int) → (Nat → Int) → (Nat → Int) → (Nat → Nat → Int) → (Nat → Nat → Int) → (Nat → List Int) → Nat → Prop) : Nat → (Nat → Int) → (Nat → Int) → (Nat → Int) → (Nat → Nat → Int) → (Nat → Nat → Int) → (Nat → List Int) → Nat → Nat → Prop
  | 0, _, _, _, _, _, _, _, _ => True
  | f + 1, PL, WA, OA, TO, BI, nm, r, q => ((T q).1 = 0 → Ko PL WA OA TO BI nm r) ∧ ((T q).1 = 5 → Kf 1 (T q).2.1) ∧ ((T q).1 ≠ 0 → (T q).1 ≠ 5 → sp_row T PL WA OA TO BI nm q Kf (fun PL' WA' OA' TO' BI' nm' q' => sp_sgn T 59 (rv_x T q') Kf (sp_rows T Kf Ko f PL' WA' OA' TO' BI' nm' (r + 1) (rv_x T (rv_x T q')))))
theorem r_rows1 {G : mj_G} {M0 : mj_M} {B : Nat → Int} {n lim tp bc pl na ta ba wa oa : Nat} {tr br : Nat → Nat} {T : Nat → Nat × Nat × Int × List Int × Nat} {Q : mj_P} {d : Nat} (hA : rv_AT G M0 B n lim tp bc pl na ta ba wa oa tr br T) : ∀ (f q r : Nat) (PL WA OA : Nat → Int) (TO BI : Nat → Nat → Int) (nm : Nat → List Int) (M : mj_M) (cb sb : Nat), n < q + f → q ≤ n → r ≤ q → rv_pb PL → rv_S G M0 n lim tp pl na wa oa tr br (T q) PL WA OA TO BI nm M → sp_rows T (fun f a => ∀ z M', rv_F tp pl na wa oa tr br M0 f a M' → Q (some (.inl z)) G M') (fun PL WA OA TO BI nm r => rv_pb PL → ∀ q' M', rv_S G M0 n lim tp pl na wa oa tr br (T q') PL WA OA TO BI nm M' → Q (some (.inl (r : Int))) G M') f PL WA OA TO BI nm r q → wz (d + 6) mt_X3_readRows.2.2.2.2.1 Q (mt_X3_readRows.2.2.2.2.1.drop 4) [some (.inr (.inr (some pl))), some (.inr (.inr (some tp))), some (.inl (r : Int))] [] G M cb sb := by
  obtain ⟨⟨gtp, gbc, gpl, gna, gta, gba, gwa, goa, gtr, gbr, itr, ibr, r1, r2, r3, r4, r5, r6, r7, r8, rb, rw0, n1, n2, hIw⟩, hT⟩ := id hA
  intro f
  induction f with
  | zero => intro q r PL WA OA TO BI nm M cb sb g1 g2 g3; exfalso; omega
  | succ f ih =>
    intro q r PL WA OA TO BI nm M cb sb g1 g2 g3 hb hS h
    obtain ⟨k4, -⟩ := id hS.2.1
    obtain ⟨h0, h5, hr⟩ := h
    have hw := rv_x_w hA g2
    refine w_aln rfl ?_
    refine w_gi gtp rfl (by decide) rfl rfl ?_
    refine w_ifeq (fun c => ?_) (fun c => ?_)
    · refine w_aln rfl ?_
      refine w_cv (st := []) rfl gtp rfl (Nat.le_of_ble_eq_true rfl) (fun kk h => h) (r_X7_finish (d := d + 4) hA hS (fun e => ?_) (fun e M' F => ?_) (by omega))
      · refine w_pop ?_
        refine w_iln rfl ?_
        exact w_iret (fun q => by cases q) (h0 e hb q M hS)
      · refine w_pop ?_
        refine w_iln rfl ?_
        exact w_iret (fun q => by cases q) (h5 e _ M' F)
    · have e0 : (T q).1 ≠ 0 := by omega
      have e5 : (T q).1 ≠ 5 := by omega
      have hlt := hw.2.2.2.1 e0 e5
      have hle := hw.2.2.2.2.2
      refine w_iln rfl ?_
      refine w_sp ?_
      refine w_cmge (fun c2 => by exfalso; omega) (fun c2 => ?_)
      refine w_aln rfl ?_
      refine w_aln rfl ?_
      refine w_cv (st := []) rfl gpl rfl (Nat.le_of_ble_eq_true rfl) (fun kk h => h) (r_X3_readRow (d := d) hA hS g2 hb ((hr e0 e5).mono (fun f a hf M1 F1 => ?_) (fun PL1 WA1 OA1 TO1 BI1 nm1 q1 hk1 g4 g5 hb1 M1 s1 => ?_)))
      · refine w_ifeq (fun _ => ?_) (fun c => absurd rfl c)
        refine w_iln rfl ?_
        exact w_iret (fun q => by cases q) (hf _ M1 F1)
      · refine w_ifeq (fun c => absurd c (by decide)) (fun _ => ?_)
        refine w_aln rfl ?_
        refine w_bp ?_
        refine w_cv (st := []) rfl gtp rfl (Nat.le_of_ble_eq_true rfl) (fun kk h => h) (r_X7_nextSign (d := d + 2) hA s1 g5 (hk1.mono (fun f a hf M2 F2 => ?_) (fun e3 hk2 M2 s2 => ?_)))
        · refine w_ifne (fun c => absurd rfl c) (fun _ => ?_)
          refine w_iln rfl ?_
          exact w_iret (fun q => by cases q) (hf _ M2 F2)
        · refine w_ifne (fun _ => ?_) (fun c => absurd c (by decide))
          refine w_ii rfl ⟨by omega, by omega⟩ ?_
          refine w_aln rfl ?_
          have g6 := rv_x_le hA g5
          have g7 := rv_x_ge hA g5
          have g8 := (rv_x_w hA g6).2.2.2.1 (by omega) (by omega)
          have g9 := rv_x_le hA g6
          refine w_cv (st := []) rfl gtp rfl (Nat.le_of_ble_eq_true rfl) (fun kk h => h) (r_adv2 (d := d + 3) hA s2 g6 (fun M3 s3 => ?_))
          refine w_goto ?_
          exact ih (rv_x T (rv_x T q1)) (r + 1) PL1 WA1 OA1 TO1 BI1 nm1 M3 _ _ (by unfold rv_x at *; omega) g9 (by unfold rv_x at *; omega) hb1 s3 hk2
