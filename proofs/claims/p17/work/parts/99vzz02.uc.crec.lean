/-! ===== the class reads a SENTENCE: its recursion ===== -/
def se_c0 (G : mj_G) (B : Nat → Int) (n tp bc pl na ta ba wa oa : Nat) (tr br : Nat → Nat) (T : Nat → (Nat × Nat × Int × List Int × Nat)) (PL WA OA : Nat → Int) (TO BI : Nat → Nat → Int) (nm : Nat → List Int) (se st sg nu : Nat) (N : Nat) : Prop := ∀ (g D d q o : Nat) (cs : (List (Nat × Int × Int))) (M0 M : mj_M) (Q : mj_P), d + g = 9 → q ≤ n → o ≤ 20 → cs.length ≤ 2 * o → rv_AT G M0 B n 200 tp bc pl na ta ba wa oa tr br T → se_D G M0 se st sg nu → rv_S G M0 n 200 tp pl na wa oa tr br (T q) PL WA OA TO BI nm M → se_R G M0 se st sg nu cs o → 3 * g + 6 ≤ D → se_P T (fun f a => ∀ M0' M', se_o se st sg nu M0 M0' → rv_F tp pl na wa oa tr br M0' f a M' → Q (some (.inl 0)) G M') N 0 d (fun q' o' cs' => q ≤ q' → q' ≤ n → o < o' → cs'.length + 1 + 2 * o ≤ cs.length + 2 * o' → o' ≤ 20 → ∀ M0' M', rv_AT G M0' B n 200 tp bc pl na ta ba wa oa tr br T → se_o se st sg nu M0 M0' → rv_S G M0' n 200 tp pl na wa oa tr br (T q') PL WA OA TO BI nm M' → se_R G M0' se st sg nu cs' o' → Q (some (.inl 1)) G M') q o cs → mj_R mj_tab D 65 [.inr (.inr (some se)), .inr (.inr (some tp)), .inl (d : Int)] G M Q
def se_c1 (G : mj_G) (B : Nat → Int) (n tp bc pl na ta ba wa oa : Nat) (tr br : Nat → Nat) (T : Nat → (Nat × Nat × Int × List Int × Nat)) (PL WA OA : Nat → Int) (TO BI : Nat → Nat → Int) (nm : Nat → List Int) (se st sg nu : Nat) (N : Nat) : Prop := ∀ (g D d q o : Nat) (cs : (List (Nat × Int × Int))) (M0 M : mj_M) (Q : mj_P), d + g = 9 → q ≤ n → o ≤ 20 → cs.length ≤ 2 * o → rv_AT G M0 B n 200 tp bc pl na ta ba wa oa tr br T → se_D G M0 se st sg nu → rv_S G M0 n 200 tp pl na wa oa tr br (T q) PL WA OA TO BI nm M → se_R G M0 se st sg nu cs o → 3 * g + 6 ≤ D → ∀ (i cb sb : Nat), i < o → se_P T (fun f a => ∀ M0' M', se_o se st sg nu M0 M0' → rv_F tp pl na wa oa tr br M0' f a M' → Q (some (.inl 0)) G M') N 1 d (fun q' o' cs' => q ≤ q' → q' ≤ n → o ≤ o' → cs'.length + 2 * o ≤ cs.length + 2 * o' → o' ≤ 20 → ∀ M0' M', rv_AT G M0' B n 200 tp bc pl na ta ba wa oa tr br T → se_o se st sg nu M0 M0' → rv_S G M0' n 200 tp pl na wa oa tr br (T q') PL WA OA TO BI nm M' → se_R G M0' se st sg nu cs' o' → Q (some (.inl 1)) G M') q o cs → wz D mt_X5_readAll.2.2.2.2.1 Q (mt_X5_readAll.2.2.2.2.1.drop 9) [some (.inr (.inr (some se))), some (.inr (.inr (some tp))), some (.inl (d : Int)), some (.inl (i : Int))] [] G M cb sb
def se_c2 (G : mj_G) (B : Nat → Int) (n tp bc pl na ta ba wa oa : Nat) (tr br : Nat → Nat) (T : Nat → (Nat × Nat × Int × List Int × Nat)) (PL WA OA : Nat → Int) (TO BI : Nat → Nat → Int) (nm : Nat → List Int) (se st sg nu : Nat) (N : Nat) : Prop := ∀ (g D d q o : Nat) (cs : (List (Nat × Int × Int))) (M0 M : mj_M) (Q : mj_P), d + g = 9 → q ≤ n → o ≤ 20 → cs.length ≤ 2 * o → rv_AT G M0 B n 200 tp bc pl na ta ba wa oa tr br T → se_D G M0 se st sg nu → rv_S G M0 n 200 tp pl na wa oa tr br (T q) PL WA OA TO BI nm M → se_R G M0 se st sg nu cs o → 3 * g + 7 ≤ D → se_P T (fun f a => ∀ M0' M', se_o se st sg nu M0 M0' → rv_F tp pl na wa oa tr br M0' f a M' → Q (some (.inl 0)) G M') N 2 d (fun q' o' cs' => q ≤ q' → q' ≤ n → o < o' → cs'.length + 1 + 2 * o ≤ cs.length + 2 * o' → o' ≤ 20 → ∀ M0' M', rv_AT G M0' B n 200 tp bc pl na ta ba wa oa tr br T → se_o se st sg nu M0 M0' → rv_S G M0' n 200 tp pl na wa oa tr br (T q') PL WA OA TO BI nm M' → se_R G M0' se st sg nu cs' o' → Q (some (.inl 1)) G M') q o cs → mj_R mj_tab D 61 [.inr (.inr (some se)), .inr (.inr (some tp)), .inl (d : Int)] G M Q
def se_c3 (G : mj_G) (B : Nat → Int) (n tp bc pl na ta ba wa oa : Nat) (tr br : Nat → Nat) (T : Nat → (Nat × Nat × Int × List Int × Nat)) (PL WA OA : Nat → Int) (TO BI : Nat → Nat → Int) (nm : Nat → List Int) (se st sg nu : Nat) (N : Nat) : Prop := ∀ (g D d q o : Nat) (cs : (List (Nat × Int × Int))) (M0 M : mj_M) (Q : mj_P), d + g = 9 → q ≤ n → o ≤ 20 → cs.length ≤ 2 * o → rv_AT G M0 B n 200 tp bc pl na ta ba wa oa tr br T → se_D G M0 se st sg nu → rv_S G M0 n 200 tp pl na wa oa tr br (T q) PL WA OA TO BI nm M → se_R G M0 se st sg nu cs o → 3 * g + 8 ≤ D → se_P T (fun f a => ∀ M0' M', se_o se st sg nu M0 M0' → rv_F tp pl na wa oa tr br M0' f a M' → Q (some (.inl 0)) G M') N 3 d (fun q' o' cs' => q ≤ q' → q' ≤ n → o < o' → cs'.length + 1 + 2 * o ≤ cs.length + 2 * o' → o' ≤ 20 → ∀ M0' M', rv_AT G M0' B n 200 tp bc pl na ta ba wa oa tr br T → se_o se st sg nu M0 M0' → rv_S G M0' n 200 tp pl na wa oa tr br (T q') PL WA OA TO BI nm M' → se_R G M0' se st sg nu cs' o' → Q (some (.inl 1)) G M') q o cs → mj_R mj_tab D 63 [.inr (.inr (some se)), .inr (.inr (some tp)), .inl (d : Int)] G M Q
def se_c4 (G : mj_G) (B : Nat → Int) (n tp bc pl na ta ba wa oa : Nat) (tr br : Nat → Nat) (T : Nat → (Nat × Nat × Int × List Int × Nat)) (PL WA OA : Nat → Int) (TO BI : Nat → Nat → Int) (nm : Nat → List Int) (se st sg nu : Nat) (N : Nat) : Prop := ∀ (g D d q o : Nat) (cs : (List (Nat × Int × Int))) (M0 M : mj_M) (Q : mj_P), d + g = 9 → q ≤ n → o ≤ 20 → cs.length ≤ 2 * o → rv_AT G M0 B n 200 tp bc pl na ta ba wa oa tr br T → se_D G M0 se st sg nu → rv_S G M0 n 200 tp pl na wa oa tr br (T q) PL WA OA TO BI nm M → se_R G M0 se st sg nu cs o → 3 * g + 7 ≤ D → ∀ (i cb sb : Nat), i < o → se_P T (fun f a => ∀ M0' M', se_o se st sg nu M0 M0' → rv_F tp pl na wa oa tr br M0' f a M' → Q (some (.inl 0)) G M') N 4 d (fun q' o' cs' => q ≤ q' → q' ≤ n → o ≤ o' → cs'.length + 2 * o ≤ cs.length + 2 * o' → o' ≤ 20 → ∀ M0' M', rv_AT G M0' B n 200 tp bc pl na ta ba wa oa tr br T → se_o se st sg nu M0 M0' → rv_S G M0' n 200 tp pl na wa oa tr br (T q') PL WA OA TO BI nm M' → se_R G M0' se st sg nu cs' o' → Q (some (.inl 1)) G M') q o cs → wz D mt_X5_readCond.2.2.2.2.1 Q (mt_X5_readCond.2.2.2.2.1.drop 9) [some (.inr (.inr (some se))), some (.inr (.inr (some tp))), some (.inl (d : Int)), some (.inl (i : Int))] [] G M cb sb
section UC
variable {G : mj_G} {B : Nat → Int} {n tp bc pl na ta ba wa oa : Nat} {tr br : Nat → Nat} {T : Nat → (Nat × Nat × Int × List Int × Nat)} {PL WA OA : Nat → Int} {TO BI : Nat → Nat → Int} {nm : Nat → List Int} {se st sg nu : Nat}
theorem se_l1 {N : Nat} (h0 : se_c0 G B n tp bc pl na ta ba wa oa tr br T PL WA OA TO BI nm se st sg nu N) (h1 : se_c1 G B n tp bc pl na ta ba wa oa tr br T PL WA OA TO BI nm se st sg nu N) : se_c1 G B n tp bc pl na ta ba wa oa tr br T PL WA OA TO BI nm se st sg nu (N + 1) := by
  intro g D d q o cs M0 M Q hg hq ho hl hA hD hS hR hd i cb sb hi h
  have gtp := hA.1.1
  have gse := hD.1
  obtain ⟨⟨gtp, gbc, gpl, gna, gta, gba, gwa, goa, gtr, gbr, itr, ibr, r1, r2, r3, r4, r5, r6, r7, r8, rb, rw0, n1, n2, hIw⟩, hT⟩ := id hA
  obtain ⟨e, rfl⟩ : ∃ e, D = e + 6 := ⟨D - 6, by omega⟩
  have out : ¬ se_j (T q) = 13 → ∀ cb sb, wz (e + 6) mt_X5_readAll.2.2.2.2.1 Q (mt_X5_readAll.2.2.2.2.1.drop 33) [some (.inr (.inr (some se))), some (.inr (.inr (some tp))), some (.inl (d : Int)), some (.inl (i : Int))] [] G M cb sb := fun c cb sb => by
    refine w_ic ?_
    exact w_iret (fun _ => Or.inr rfl) (h.2 c (Nat.le_refl q) hq (Nat.le_refl o) (Nat.le_refl _) ho M0 M hA se_o.refl hS hR)
  refine w_iln rfl ?_
  refine w_bp ?_
  refine w_cmge (fun c => by exfalso; omega) (fun c => ?_)
  refine w_aln rfl ?_
  rcases se_wd hA hS hq with ⟨w, e9, j1, gw⟩ | ⟨j1, e9⟩
  · refine w_gr gtp rfl (by decide) rfl e9 ?_
    refine w_gs ?_
    intro a ga
    have ee := se_eq (k := 13) hIw gw ga
    refine w_acne (fun c => out (fun h => c (ee.2 h)) _ _) (fun c => ?_)
    have jq := ee.1 c
    have k1 := (se_j_lt j1).1
    have l1 := rv_x_le hA hq
    have p1 := rv_x_ge hA hq
    refine w_aln rfl ?_
    refine w_cv (st := []) rfl gtp rfl (Nat.le_of_ble_eq_true rfl) (fun kk h => h) (r_adv2 (d := e + 3) hA hS hq (fun M1 s1 => ?_))
    refine w_aln rfl ?_
    refine w_aln rfl ?_
    refine w_iln rfl ?_
    refine w_cv (st := []) rfl gse rfl (Nat.le_of_ble_eq_true rfl) (fun kk h => h) (h0 g (e + 6) d (rv_x T q) o cs M0 M1 _ hg l1 ho hl hA hD s1 hR (by omega) ?_)
    refine se_P.mono (fun f a hf M0' M' o1 F1 => ?_) N 0 d _ _ _ _ _ (fun q1 o1 cs1 hk p2 l2 lo ll l20 M0' M' a1 oo s2 r2 => ?_) (h.1 jq)
    · refine w_ifne (fun c => absurd rfl c) (fun _ => ?_)
      refine w_ic ?_
      exact w_iret (fun _ => Or.inl rfl) (hf M0' M' o1 F1)
    · refine w_ifne (fun _ => ?_) (fun c => absurd c (by decide))
      refine w_aln rfl ?_
      refine w_gs ?_
      intro a2 ga2
      refine w_ic ?_
      refine w_ic ?_
      refine w_cv (st := []) rfl gse rfl (Nat.le_of_ble_eq_true rfl) (fun kk h => h) (r_X5_add (d := e + 5) (j := 13) a1 s2 (hD.so oo) r2 (by omega) ga2 (fun M0'' M'' a3 o3 s3 r3 => ?_))
      refine w_pop ?_
      refine w_ii rfl ⟨by omega, by omega⟩ ?_
      refine w_goto ?_
      refine h1 g (e + 6) d q1 o1 (cs1 ++ [(13, 0, 0)]) M0'' M'' Q hg l2 l20 (by rw [se_len]; omega) a3 ((hD.so oo).so o3) s3 r3 hd (i + 1) _ _ (by omega) ?_
      refine se_P.mono (fun f a hf N0 N' o4 F4 => hf N0 N' ((oo.trans o3).trans o4) F4) N 1 d _ _ _ _ _ (fun q2 o2 cs2 hk2 p3 l3 lo3 ll3 l23 N0 N' a4 o4 s4 r4 => hk2 (by omega) l3 (by omega) (by rw [se_len] at ll3; omega) l23 N0 N' a4 ((oo.trans o3).trans o4) s4 r4) hk
  · refine w_gro gtp rfl (by decide) rfl e9 ?_
    refine w_gs ?_
    intro a ga
    refine w_acne (fun c => out (by omega) _ _) (fun c => by cases c)
theorem se_l4 {N : Nat} (h0 : se_c2 G B n tp bc pl na ta ba wa oa tr br T PL WA OA TO BI nm se st sg nu N) (h1 : se_c4 G B n tp bc pl na ta ba wa oa tr br T PL WA OA TO BI nm se st sg nu N) : se_c4 G B n tp bc pl na ta ba wa oa tr br T PL WA OA TO BI nm se st sg nu (N + 1) := by
  intro g D d q o cs M0 M Q hg hq ho hl hA hD hS hR hd i cb sb hi h
  have gtp := hA.1.1
  have gse := hD.1
  obtain ⟨⟨gtp, gbc, gpl, gna, gta, gba, gwa, goa, gtr, gbr, itr, ibr, r1, r2, r3, r4, r5, r6, r7, r8, rb, rw0, n1, n2, hIw⟩, hT⟩ := id hA
  obtain ⟨e, rfl⟩ : ∃ e, D = e + 6 := ⟨D - 6, by omega⟩
  have out : ¬ se_j (T q) = 12 → ∀ cb sb, wz (e + 6) mt_X5_readCond.2.2.2.2.1 Q (mt_X5_readCond.2.2.2.2.1.drop 33) [some (.inr (.inr (some se))), some (.inr (.inr (some tp))), some (.inl (d : Int)), some (.inl (i : Int))] [] G M cb sb := fun c cb sb => by
    refine w_ic ?_
    exact w_iret (fun _ => Or.inr rfl) (h.2 c (Nat.le_refl q) hq (Nat.le_refl o) (Nat.le_refl _) ho M0 M hA se_o.refl hS hR)
  refine w_iln rfl ?_
  refine w_bp ?_
  refine w_cmge (fun c => by exfalso; omega) (fun c => ?_)
  refine w_aln rfl ?_
  rcases se_wd hA hS hq with ⟨w, e9, j1, gw⟩ | ⟨j1, e9⟩
  · refine w_gr gtp rfl (by decide) rfl e9 ?_
    refine w_gs ?_
    intro a ga
    have ee := se_eq (k := 12) hIw gw ga
    refine w_acne (fun c => out (fun h => c (ee.2 h)) _ _) (fun c => ?_)
    have jq := ee.1 c
    have k1 := (se_j_lt j1).1
    have l1 := rv_x_le hA hq
    have p1 := rv_x_ge hA hq
    refine w_aln rfl ?_
    refine w_cv (st := []) rfl gtp rfl (Nat.le_of_ble_eq_true rfl) (fun kk h => h) (r_adv2 (d := e + 3) hA hS hq (fun M1 s1 => ?_))
    refine w_aln rfl ?_
    refine w_aln rfl ?_
    refine w_iln rfl ?_
    refine w_cv (st := []) rfl gse rfl (Nat.le_of_ble_eq_true rfl) (fun kk h => h) (h0 g (e + 6) d (rv_x T q) o cs M0 M1 _ hg l1 ho hl hA hD s1 hR (by omega) ?_)
    refine se_P.mono (fun f a hf M0' M' o1 F1 => ?_) N 2 d _ _ _ _ _ (fun q1 o1 cs1 hk p2 l2 lo ll l20 M0' M' a1 oo s2 r2 => ?_) (h.1 jq)
    · refine w_ifne (fun c => absurd rfl c) (fun _ => ?_)
      refine w_ic ?_
      exact w_iret (fun _ => Or.inl rfl) (hf M0' M' o1 F1)
    · refine w_ifne (fun _ => ?_) (fun c => absurd c (by decide))
      refine w_aln rfl ?_
      refine w_gs ?_
      intro a2 ga2
      refine w_ic ?_
      refine w_ic ?_
      refine w_cv (st := []) rfl gse rfl (Nat.le_of_ble_eq_true rfl) (fun kk h => h) (r_X5_add (d := e + 5) (j := 12) a1 s2 (hD.so oo) r2 (by omega) ga2 (fun M0'' M'' a3 o3 s3 r3 => ?_))
      refine w_pop ?_
      refine w_ii rfl ⟨by omega, by omega⟩ ?_
      refine w_goto ?_
      refine h1 g (e + 6) d q1 o1 (cs1 ++ [(12, 0, 0)]) M0'' M'' Q hg l2 l20 (by rw [se_len]; omega) a3 ((hD.so oo).so o3) s3 r3 hd (i + 1) _ _ (by omega) ?_
      refine se_P.mono (fun f a hf N0 N' o4 F4 => hf N0 N' ((oo.trans o3).trans o4) F4) N 4 d _ _ _ _ _ (fun q2 o2 cs2 hk2 p3 l3 lo3 ll3 l23 N0 N' a4 o4 s4 r4 => hk2 (by omega) l3 (by omega) (by rw [se_len] at ll3; omega) l23 N0 N' a4 ((oo.trans o3).trans o4) s4 r4) hk
  · refine w_gro gtp rfl (by decide) rfl e9 ?_
    refine w_gs ?_
    intro a ga
    refine w_acne (fun c => out (by omega) _ _) (fun c => by cases c)
theorem se_w2 {N : Nat} (h0 : se_c0 G B n tp bc pl na ta ba wa oa tr br T PL WA OA TO BI nm se st sg nu N) (h1 : se_c1 G B n tp bc pl na ta ba wa oa tr br T PL WA OA TO BI nm se st sg nu N) : se_c2 G B n tp bc pl na ta ba wa oa tr br T PL WA OA TO BI nm se st sg nu (N + 1) := by
  intro g D d q o cs M0 M Q hg hq ho hl hA hD hS hR hd h
  have gse := hD.1
  obtain ⟨e, rfl⟩ : ∃ e, D = e + 7 := ⟨D - 7, by omega⟩
  refine ⟨Nat.le_of_ble_eq_true rfl, ?_⟩
  show wz (e + 6) mt_X5_readAll.2.2.2.2.1 Q mt_X5_readAll.2.2.2.2.1 [some (.inr (.inr (some se))), some (.inr (.inr (some tp))), some (.inl (d : Int)), none] [] G M _ _
  refine w_aln rfl ?_
  refine w_aln rfl ?_
  refine w_iln rfl ?_
  refine w_cv (st := []) rfl gse rfl (Nat.le_of_ble_eq_true rfl) (fun kk h => h) (h0 g (e + 6) d q o cs M0 M _ hg hq ho hl hA hD hS hR (by omega) ?_)
  refine se_P.mono (fun f a hf M0' M' o1 F1 => ?_) N 0 d _ _ _ _ _ (fun q1 o1 cs1 hk p2 l2 lo ll l20 M0' M' a1 oo s2 r2 => ?_) h
  · refine w_ifne (fun c => absurd rfl c) (fun _ => ?_)
    refine w_ic ?_
    exact w_iret (fun _ => Or.inl rfl) (hf M0' M' o1 F1)
  · refine w_ifne (fun _ => ?_) (fun c => absurd c (by decide))
    refine w_ic ?_
    refine w_isn ?_
    refine h1 g (e + 6) d q1 o1 cs1 M0' M' Q hg l2 l20 (by omega) a1 (hD.so oo) s2 r2 (by omega) 0 _ _ (by omega) ?_
    exact se_P.mono (fun f a hf N0 N' o4 F4 => hf N0 N' (oo.trans o4) F4) N 1 d _ _ _ _ _ (fun q2 o2 cs2 hk2 p3 l3 lo3 ll3 l23 N0 N' a4 o4 s4 r4 => hk2 (by omega) l3 (by omega) (by omega) l23 N0 N' a4 (oo.trans o4) s4 r4) hk
theorem se_w3 {N : Nat} (h0 : se_c2 G B n tp bc pl na ta ba wa oa tr br T PL WA OA TO BI nm se st sg nu N) (h1 : se_c4 G B n tp bc pl na ta ba wa oa tr br T PL WA OA TO BI nm se st sg nu N) : se_c3 G B n tp bc pl na ta ba wa oa tr br T PL WA OA TO BI nm se st sg nu (N + 1) := by
  intro g D d q o cs M0 M Q hg hq ho hl hA hD hS hR hd h
  have gse := hD.1
  obtain ⟨e, rfl⟩ : ∃ e, D = e + 7 := ⟨D - 7, by omega⟩
  refine ⟨Nat.le_of_ble_eq_true rfl, ?_⟩
  show wz (e + 6) mt_X5_readCond.2.2.2.2.1 Q mt_X5_readCond.2.2.2.2.1 [some (.inr (.inr (some se))), some (.inr (.inr (some tp))), some (.inl (d : Int)), none] [] G M _ _
  refine w_aln rfl ?_
  refine w_aln rfl ?_
  refine w_iln rfl ?_
  refine w_cv (st := []) rfl gse rfl (Nat.le_of_ble_eq_true rfl) (fun kk h => h) (h0 g (e + 6) d q o cs M0 M _ hg hq ho hl hA hD hS hR (by omega) ?_)
  refine se_P.mono (fun f a hf M0' M' o1 F1 => ?_) N 2 d _ _ _ _ _ (fun q1 o1 cs1 hk p2 l2 lo ll l20 M0' M' a1 oo s2 r2 => ?_) h
  · refine w_ifne (fun c => absurd rfl c) (fun _ => ?_)
    refine w_ic ?_
    exact w_iret (fun _ => Or.inl rfl) (hf M0' M' o1 F1)
  · refine w_ifne (fun _ => ?_) (fun c => absurd c (by decide))
    refine w_ic ?_
    refine w_isn ?_
    refine h1 g (e + 6) d q1 o1 cs1 M0' M' Q hg l2 l20 (by omega) a1 (hD.so oo) s2 r2 (by omega) 0 _ _ (by omega) ?_
    exact se_P.mono (fun f a hf N0 N' o4 F4 => hf N0 N' (oo.trans o4) F4) N 4 d _ _ _ _ _ (fun q2 o2 cs2 hk2 p3 l3 lo3 ll3 l23 N0 N' a4 o4 s4 r4 => hk2 (by omega) l3 (by omega) (by omega) l23 N0 N' a4 (oo.trans o4) s4 r4) hk
theorem se_one {N : Nat} (h0 : se_c0 G B n tp bc pl na ta ba wa oa tr br T PL WA OA TO BI nm se st sg nu N) (h3 : se_c3 G B n tp bc pl na ta ba wa oa tr br T PL WA OA TO BI nm se st sg nu N) : se_c0 G B n tp bc pl na ta ba wa oa tr br T PL WA OA TO BI nm se st sg nu (N + 1) := by
  intro g D d q o cs M0 M Q hg hq ho hl hA hD hS hR hd h
  have gtp := hA.1.1
  have hD0 := hD
  obtain ⟨gse, gst, gsg, gnu, e0, e1, e2⟩ := hD0
  obtain ⟨⟨gtp, gbc, gpl, gna, gta, gba, gwa, goa, gtr, gbr, itr, ibr, r1, r2, r3, r4, r5, r6, r7, r8, rb, rw0, n1, n2, hIw⟩, hT⟩ := id hA
  have hx : ∀ x ∈ [1006, 34105, 35100, 36100], x ≠ 1008 ∧ x ≠ 1004 ∧ x ≠ 29100 ∧ x ≠ 30100 ∧ x ≠ 26100 ∧ x ≠ 28100 := by decide
  have m5 : M.1 se 5 = (o : Int) := (congrFun (rv_S.fx hA hS gse (hx _ (by decide))) 5).trans hR.2.1
  have l1 := rv_x_le hA hq
  have p1 := rv_x_ge hA hq
  obtain ⟨e, rfl⟩ : ∃ e, D = e + 6 := ⟨D - 6, by omega⟩
  -- behind the count of ONES and the next token
  have oo : se_o se st sg nu M0 (mj_p0 M0 se 5 ((o : Int) + 1)) := ⟨fun a a1 _ _ => wz_c a1, rfl, fun _ _ => rfl⟩
  have aa := hA.so hD oo
  have dd := hD.so oo
  have rr : se_R G (mj_p0 M0 se 5 ((o : Int) + 1)) se st sg nu cs (o + 1) := ⟨(hn_n (Or.inr (by decide))).trans hR.1, hn_s.trans rfl, fun j hj => by
    obtain ⟨b1, b2, b3⟩ := hR.2.2 j hj
    exact ⟨b1, (congrFun (wz_c (hn_ne gsg gse (by decide))) j).trans b2, (congrFun (wz_c (hn_ne gnu gse (by decide))) j).trans b3⟩⟩
  have main : ∀ (r : Option Nat) (b : Int), se_b (T q) → ((se_s (T q) 40 ∧ b = 1) ∨ (¬ se_s (T q) 40 ∧ b = 0 ∧ ∃ w, r = some w ∧ G w = (900050 + 1000 * se_j (T q), 0))) → ∀ cb sb, wz (e + 5) mt_X5_readOne.2.2.2.2.1 Q (mt_X5_readOne.2.2.2.2.1.drop 16) [some (.inr (.inr (some se))), some (.inr (.inr (some tp))), some (.inl (d : Int)), some (.inr (.inr r)), some (.inl b)] [] G M cb sb := by
    intro r b hb hc cb sb
    obtain ⟨h4, h5⟩ := h.1 hb
    refine w_aln rfl ?_
    refine w_gi gse rfl (by decide) rfl m5 ?_
    refine w_bp ?_
    have full : (20 ≤ o ∨ 8 < d) → ∀ cb sb, wz (e + 5) mt_X5_readOne.2.2.2.2.1 Q (mt_X5_readOne.2.2.2.2.1.drop 23) [some (.inr (.inr (some se))), some (.inr (.inr (some tp))), some (.inl (d : Int)), some (.inr (.inr r)), some (.inl b)] [] G M cb sb := fun c cb sb => by
      refine w_aln rfl ?_
      refine w_ic ?_
      refine w_cv (st := []) rfl gtp rfl (Nat.le_of_ble_eq_true rfl) (fun kk h => h) (r_X7_refuse (d := e + 4) hA hS (by decide) (fun M' F1 => ?_))
      exact w_iret (fun _ => Or.inl rfl) (h4 c M0 M' se_o.refl F1)
    refine w_cmge (fun c => full (by omega) _ _) (fun c => ?_)
    refine w_iln rfl ?_
    refine w_bp ?_
    refine w_cmle (fun c2 => ?_) (fun c2 => full (by omega) _ _)
    have hk := h5 (by omega)
    refine w_aln rfl ?_
    refine w_dupr ?_
    refine w_gi gse rfl (by decide) rfl m5 ?_
    refine w_ic ?_
    refine w_add ⟨by omega, by omega⟩ ?_
    refine w_pi gse rfl (by decide) rfl (fun q => by cases q) ?_
    have s0 := rv_S.put (j := 5) (v := (o : Int) + 1) hA hS gse (hx _ (by decide))
    refine w_aln rfl ?_
    refine w_cv (st := []) rfl gtp rfl (Nat.le_of_ble_eq_true rfl) (fun kk h => h) (r_adv2 (d := e + 2) aa s0 hq (fun M1 s1 => ?_))
    refine w_il rfl ?_
    rcases hc with ⟨c40, rfl⟩ | ⟨c40, rfl, w, rfl, gw⟩
    · refine w_ifeq (fun c => absurd c (by decide)) (fun _ => ?_)
      refine w_aln rfl ?_
      refine w_aln rfl ?_
      refine w_iln rfl ?_
      refine w_ic ?_
      refine w_add ⟨by omega, by omega⟩ ?_
      refine w_cv (st := []) rfl gse rfl (Nat.le_of_ble_eq_true rfl) (fun kk h => h) (h3 (g - 1) (e + 5) (d + 1) (rv_x T q) (o + 1) cs _ M1 _ (by omega) l1 (by omega) (by omega) aa dd s1 rr (by omega) ?_)
      have fin : ∀ (M' : mj_M) cb sb, Q (some (.inl 0)) G M' → wz (e + 5) mt_X5_readOne.2.2.2.2.1 Q (mt_X5_readOne.2.2.2.2.1.drop 50) [some (.inr (.inr (some se))), some (.inr (.inr (some tp))), some (.inl (d : Int)), some (.inr (.inr r)), some (.inl 1)] [] G M' cb sb := fun M' cb sb hQ => by
        refine w_ic ?_
        exact w_iret (fun _ => Or.inl rfl) hQ
      refine se_P.mono (fun f a hf M0' M' o1 F1 => ?_) N 3 (d + 1) _ _ _ _ _ (fun q1 o1 cs1 hk p2 l2 lo ll l20 M0' M' a1 o2 s2 r2 => ?_) (hk.1 c40)
      · refine w_ifeq (fun _ => ?_) (fun c => absurd rfl c)
        exact fin M' _ _ (hf M0' M' (oo.trans o1) F1)
      · refine w_ifeq (fun c => absurd c (by decide)) (fun _ => ?_)
        refine w_aln rfl ?_
        refine w_aln rfl ?_
        have l3 := rv_x_le a1 l2
        have p3 := rv_x_ge a1 l2
        refine w_cv (st := []) rfl gse rfl (Nat.le_of_ble_eq_true rfl) (fun kk h => h) (r_readClosing (d := e + 1) (se := se) a1 s2 l2 ⟨fun c M2 s3 => ?_, fun c M2 F2 => ?_⟩)
        · refine w_ifeq (fun c => absurd c (by decide)) (fun _ => ?_)
          refine w_ic ?_
          refine w_goto ?_
          exact w_iret (fun _ => Or.inr rfl) (hk.1 c (by omega) l3 (by omega) (by omega) l20 M0' M2 a1 (oo.trans o2) s3 r2)
        · refine w_ifeq (fun _ => ?_) (fun c => absurd rfl c)
          exact fin M2 _ _ (hk.2 c M0' M2 (oo.trans o2) F2)
    · refine w_ifeq (fun _ => ?_) (fun c => absurd rfl c)
      have hj : 14 ≤ se_j (T q) ∧ se_j (T q) < 24 := hb.resolve_left c40
      refine w_aln rfl ?_
      refine w_gs ?_
      intro a ga
      have ee := se_eq (k := 14) hIw gw ga
      refine w_acne (fun c => ?_) (fun c => ?_)
      · have n14 : se_j (T q) ≠ 14 := fun h => c (ee.2 h)
        have leaf : se_j (T q) = 15 ∨ se_j (T q) = 16 → ∀ cb sb, wz (e + 5) mt_X5_readOne.2.2.2.2.1 Q (mt_X5_readOne.2.2.2.2.1.drop 78) [some (.inr (.inr (some se))), some (.inr (.inr (some tp))), some (.inl (d : Int)), some (.inr (.inr (some w))), some (.inl 0)] [] G M1 cb sb := fun c15 cb sb => by
          refine w_aln rfl ?_
          refine w_aln rfl ?_
          refine w_ic ?_
          refine w_ic ?_
          refine w_cv (st := []) rfl gse rfl (Nat.le_of_ble_eq_true rfl) (fun kk h => h) (r_X5_add (d := e + 4) aa s1 dd rr (by omega) gw (fun M0' M' a3 o3 s3 r3 => ?_))
          exact w_iret (fun _ => Or.inr rfl) (hk.2.2.1 c15 p1 l1 (by omega) (by rw [se_len]; omega) (by omega) M0' M' a3 (oo.trans o3) s3 r3)
        refine w_aln rfl ?_
        refine w_gs ?_
        intro a5 ga5
        have e5 := se_eq (k := 15) hIw gw ga5
        refine w_aceq (fun c => leaf (Or.inl (e5.1 c)) _ _) (fun c5 => ?_)
        have n15 : se_j (T q) ≠ 15 := fun h => c5 (e5.2 h)
        refine w_aln rfl ?_
        refine w_gs ?_
        intro a6 ga6
        have e6 := se_eq (k := 16) hIw gw ga6
        refine w_acne (fun c6 => ?_) (fun c6 => leaf (Or.inr (e6.1 c6)) _ _)
        have n16 : se_j (T q) ≠ 16 := fun h => c6 (e6.2 h)
        refine w_aln rfl ?_
        refine w_aln rfl ?_
        refine w_aln rfl ?_
        refine w_cv (st := []) rfl gse rfl (Nat.le_of_ble_eq_true rfl) (fun kk h => h) (r_readMeasure (d := e) aa s1 l1 dd rr (by omega) gw ((hk.2.2.2 (by omega) hj.2).mono (fun f a hf M' F1 => ?_) (fun z v q1 hk2 p2 l2 M0' M' a3 o3 s3 r3 => ?_)))
        · exact w_iret (fun _ => Or.inl rfl) (hf _ M' oo F1)
        · exact w_iret (fun _ => Or.inr rfl) (hk2 (by omega) l2 (by omega) (by rw [se_len]; omega) (by omega) M0' M' a3 (oo.trans o3) s3 r3)
      · have c14 := ee.1 c
        refine w_aln rfl ?_
        refine w_aln rfl ?_
        refine w_iln rfl ?_
        refine w_ic ?_
        refine w_add ⟨by omega, by omega⟩ ?_
        refine w_cv (st := []) rfl gse rfl (Nat.le_of_ble_eq_true rfl) (fun kk h => h) (h0 (g - 1) (e + 5) (d + 1) (rv_x T q) (o + 1) cs _ M1 _ (by omega) l1 (by omega) (by omega) aa dd s1 rr (by omega) ?_)
        refine se_P.mono (fun f a hf M0' M' o1 F1 => ?_) N 0 (d + 1) _ _ _ _ _ (fun q1 o1 cs1 hk p2 l2 lo ll l20 M0' M' a1 o2 s2 r2 => ?_) (hk.2.1 c14)
        · refine w_ifeq (fun _ => ?_) (fun c => absurd rfl c)
          refine w_ic ?_
          exact w_iret (fun _ => Or.inl rfl) (hf M0' M' (oo.trans o1) F1)
        · refine w_ifeq (fun c => absurd c (by decide)) (fun _ => ?_)
          refine w_aln rfl ?_
          refine w_gs ?_
          intro a2 ga2
          refine w_ic ?_
          refine w_ic ?_
          refine w_cv (st := []) rfl gse rfl (Nat.le_of_ble_eq_true rfl) (fun kk h => h) (r_X5_add (d := e + 4) (j := 14) a1 s2 (dd.so o2) r2 (by omega) ga2 (fun M0'' M'' a3 o3 s3 r3 => ?_))
          refine w_ifeq (fun c => absurd c (by decide)) (fun _ => ?_)
          refine w_ic ?_
          refine w_goto ?_
          exact w_iret (fun _ => Or.inr rfl) (hk (by omega) l2 (by omega) (by rw [se_len]; omega) l20 M0'' M'' a3 ((oo.trans o2).trans o3) s3 r3)
  have no : ∀ (r : Option Nat) (b : Int), ¬ se_b (T q) → ∀ cb sb, wz (e + 5) mt_X5_readOne.2.2.2.2.1 Q (mt_X5_readOne.2.2.2.2.1.drop 12) [some (.inr (.inr (some se))), some (.inr (.inr (some tp))), some (.inl (d : Int)), some (.inr (.inr r)), some (.inl b)] [] G M cb sb := fun r b hb cb sb => by
    refine w_aln rfl ?_
    refine w_ic ?_
    refine w_cv (st := []) rfl gtp rfl (Nat.le_of_ble_eq_true rfl) (fun kk h => h) (r_X7_refuse (d := e + 4) hA hS (by decide) (fun M' F1 => ?_))
    exact w_iret (fun _ => Or.inl rfl) (h.2 hb M0 M' se_o.refl F1)
  have start : ∀ (r : Option Nat), M.2.2 tp 9 = r → ((∃ w, r = some w ∧ se_j (T q) < 24 ∧ G w = (900050 + 1000 * se_j (T q), 0)) ∨ (se_j (T q) = 24 ∧ r = none)) → mj_R mj_tab (e + 6) 65 [.inr (.inr (some se)), .inr (.inr (some tp)), .inl (d : Int)] G M Q := fun r e9 hr => by
    refine ⟨Nat.le_of_ble_eq_true rfl, ?_⟩
    show wz (e + 5) mt_X5_readOne.2.2.2.2.1 Q mt_X5_readOne.2.2.2.2.1 [some (.inr (.inr (some se))), some (.inr (.inr (some tp))), some (.inl (d : Int)), none, none] [] G M _ _
    refine w_aln rfl ?_
    refine w_gro gtp rfl (by decide) rfl e9 ?_
    refine w_asn ?_
    show wz _ _ _ _ [some (.inr (.inr (some se))), some (.inr (.inr (some tp))), some (.inl (d : Int)), some (.inr (.inr r)), none] _ _ _ _ _
    refine w_aln rfl ?_
    refine w_bp ?_
    refine w_cv (st := []) rfl gtp rfl (Nat.le_of_ble_eq_true rfl) (fun kk h => h) (r_X7_isSign (d := e + 4) hA hS (fun c => ?_) (fun c => ?_))
    · refine w_is ?_
      show wz _ _ _ _ [some (.inr (.inr (some se))), some (.inr (.inr (some tp))), some (.inl (d : Int)), some (.inr (.inr r)), some (.inl 1)] _ _ _ _ _
      refine w_il rfl ?_
      refine w_ifne (fun _ => ?_) (fun c => absurd c (by decide))
      exact main r 1 (Or.inl c) (Or.inl ⟨c, rfl⟩) _ _
    · refine w_is ?_
      show wz _ _ _ _ [some (.inr (.inr (some se))), some (.inr (.inr (some tp))), some (.inl (d : Int)), some (.inr (.inr r)), some (.inl 0)] _ _ _ _ _
      refine w_il rfl ?_
      refine w_ifne (fun c => absurd rfl c) (fun _ => ?_)
      refine w_aln rfl ?_
      refine w_cs (st := []) rfl (Nat.le_of_ble_eq_true rfl) (fun kk h => h) (se_begins (d := e + 3) hIw hr (fun hj => ?_) (fun hj => ?_))
      · refine w_ifne (fun _ => ?_) (fun c => absurd c (by decide))
        refine main r 0 (Or.inr hj) (Or.inr ⟨c, rfl, ?_⟩) _ _
        rcases hr with ⟨w, r1, -, gw⟩ | ⟨j1, -⟩
        · exact ⟨w, r1, gw⟩
        · exfalso; omega
      · refine w_ifne (fun c => absurd rfl c) (fun _ => ?_)
        exact no r 0 (fun hb => hb.elim c hj) _ _
  rcases se_wd hA hS hq with ⟨w, e9, j1, gw⟩ | ⟨j1, e9⟩
  · exact start (some w) e9 (Or.inl ⟨w, rfl, j1, gw⟩)
  · exact start none e9 (Or.inr ⟨j1, rfl⟩)
theorem se_all : ∀ N : Nat, se_c0 G B n tp bc pl na ta ba wa oa tr br T PL WA OA TO BI nm se st sg nu N ∧ se_c1 G B n tp bc pl na ta ba wa oa tr br T PL WA OA TO BI nm se st sg nu N ∧ se_c2 G B n tp bc pl na ta ba wa oa tr br T PL WA OA TO BI nm se st sg nu N ∧ se_c3 G B n tp bc pl na ta ba wa oa tr br T PL WA OA TO BI nm se st sg nu N ∧ se_c4 G B n tp bc pl na ta ba wa oa tr br T PL WA OA TO BI nm se st sg nu N
  | 0 => ⟨fun _ _ _ _ _ _ _ _ _ _ _ _ _ _ _ _ _ _ h => False.elim h, fun _ _ _ _ _ _ _ _ _ _ _ _ _ _ _ _ _ _ _ _ _ _ h => False.elim h, fun _ _ _ _ _ _ _ _ _ _ _ _ _ _ _ _ _ _ h => False.elim h, fun _ _ _ _ _ _ _ _ _ _ _ _ _ _ _ _ _ _ h => False.elim h, fun _ _ _ _ _ _ _ _ _ _ _ _ _ _ _ _ _ _ _ _ _ _ h => False.elim h⟩
  | N + 1 => by
    obtain ⟨h0, h1, h2, h3, h4⟩ := se_all N
    exact ⟨se_one h0 h3, se_l1 h0 h1, se_w2 h0 h1, se_w3 h2 h4, se_l4 h2 h4⟩
end UC
