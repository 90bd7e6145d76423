/-! ===== the reference reads a SENTENCE: its loop follows the spec ===== -/
def sr_head (G : mj_G) (Mb : mj_M) (n m rd sk : Nat) (T : Nat → (Nat × Nat × Int × List Int × Nat)) (Q : mj_P) (d : Nat) (M : mj_M) : Prop := ∀ cb sb, wz (d + 3) mt_X12_sentence.2.2.2.2.1 Q (mt_X12_sentence.2.2.2.2.1.drop 28) [some (.inr (.inr (some m))), some (.inl 1), none] [] G M cb sb
/-- the loop behind nots(), a ONE being told -/
def sr_C (G : mj_G) (Mb : mj_M) (n m rd sk : Nat) (T : Nat → (Nat × Nat × Int × List Int × Nat)) (Q : mj_P) (d : Nat) (S : List Int) (dn q o : Nat) (cs : (List (Nat × Int × Int))) : Prop := ∀ M, sr_H Mb n m rd sk T S (dn : Int) 1 q o cs M → ((T q).1 = 0 → ∀ cb sb, wz (d + 3) mt_X12_sentence.2.2.2.2.1 Q (mt_X12_sentence.2.2.2.2.1.drop 38) [some (.inr (.inr (some m))), some (.inl 1), none] [] G M cb sb) ∧ (¬ (T q).1 = 0 → ∀ cb sb cb2 sb2, wz (d + 2) mt_X12_behind.2.2.2.2.1 (fun r G M => wz (d + 3) mt_X12_sentence.2.2.2.2.1 Q (mt_X12_sentence.2.2.2.2.1.drop 61) [some (.inr (.inr (some m))), some (.inl 1), none] (mj_ret r []) G M cb2 sb2) (mt_X12_behind.2.2.2.2.1.drop 2) [some (.inr (.inr (some m)))] [] G M cb sb)
/-- .. an ALL being told, P0 waiting below -/
def sr_E (G : mj_G) (Mb : mj_M) (n m rd sk : Nat) (T : Nat → (Nat × Nat × Int × List Int × Nat)) (Q : mj_P) (d : Nat) (P0 S : List Int) (dn q o : Nat) (cs' : (List (Nat × Int × Int))) : Prop := ∀ (X : List Int) (cs : (List (Nat × Int × Int))), (X = [] ∨ X = [11]) → cs' = cs ++ X.map se_cv → ¬ se_j (T q) = 13 → sr_C G Mb n m rd sk T Q d (X ++ (P0 ++ S)) dn q o cs
/-- .. a COND being told -/
def sr_D (G : mj_G) (Mb : mj_M) (n m rd sk : Nat) (T : Nat → (Nat × Nat × Int × List Int × Nat)) (Q : mj_P) (d : Nat) (S : List Int) (dn q o : Nat) (cs' : (List (Nat × Int × Int))) : Prop := ∀ (X P0 : List Int) (cs : (List (Nat × Int × Int))), (X = [] ∨ X = [11]) → (P0 = [] ∨ P0 = [12]) → cs' = (cs ++ X.map se_cv) ++ P0.map se_cv → ¬ se_j (T q) = 13 → ¬ se_j (T q) = 12 → sr_C G Mb n m rd sk T Q d (X ++ (P0 ++ S)) dn q o cs
def sr_sO (G : mj_G) (Mb : mj_M) (n m rd sk : Nat) (T : Nat → (Nat × Nat × Int × List Int × Nat)) (Q : mj_P) (d : Nat) (N : Nat) : Prop := ∀ (k dn : Nat) (S : List Int) (q o : Nat) (cs : (List (Nat × Int × Int))) (Ko : Nat → Nat → (List (Nat × Int × Int)) → Prop), sr_n10 S → dn + k ≤ 9 → 1 ≤ dn → k + S.length + 1 ≤ 3 * (dn + k) → o ≤ 20 → cs.length + k ≤ 2 * o → se_P T (fun f a => ∀ M', sr_F Mb m rd sk f a M' → Q (some (.inl (rv_vf a))) G M') N 0 (dn + k) Ko q o cs → (∀ q' o' cs', Ko q' o' cs' → q' ≤ n → o < o' → o' ≤ 20 → cs'.length + 1 + 2 * o ≤ cs.length + 2 * o' → sr_C G Mb n m rd sk T Q d S dn q' o' (cs' ++ List.replicate k (14, 0, 0))) → ∀ M, sr_H Mb n m rd sk T (List.replicate k 10 ++ S) ((dn + k : Nat) : Int) 0 q o cs M → sr_head G Mb n m rd sk T Q d M
def sr_sK (G : mj_G) (Mb : mj_M) (n m rd sk : Nat) (T : Nat → (Nat × Nat × Int × List Int × Nat)) (Q : mj_P) (d : Nat) (N : Nat) : Prop := ∀ (dn : Nat) (S : List Int) (q o : Nat) (cs : (List (Nat × Int × Int))) (Ko : Nat → Nat → (List (Nat × Int × Int)) → Prop), sr_nb S → 1 ≤ dn → dn ≤ 9 → S.length + 3 ≤ 3 * dn → o ≤ 20 → cs.length ≤ 2 * o → se_P T (fun f a => ∀ M', sr_F Mb m rd sk f a M' → Q (some (.inl (rv_vf a))) G M') N 3 dn Ko q o cs → (∀ q' o' cs', Ko q' o' cs' → q' ≤ n → o < o' → o' ≤ 20 → cs'.length + 1 + 2 * o ≤ cs.length + 2 * o' → sr_D G Mb n m rd sk T Q d S dn q' o' cs') → ∀ M, sr_H Mb n m rd sk T S (dn : Int) 0 q o cs M → sr_head G Mb n m rd sk T Q d M
def sr_sL (G : mj_G) (Mb : mj_M) (n m rd sk : Nat) (T : Nat → (Nat × Nat × Int × List Int × Nat)) (Q : mj_P) (d : Nat) (N : Nat) : Prop := ∀ (P0 : List Int) (dn : Nat) (S : List Int) (q o : Nat) (cs : (List (Nat × Int × Int))) (Ko : Nat → Nat → (List (Nat × Int × Int)) → Prop), (P0 = [] ∨ P0 = [12]) → sr_nb S → 1 ≤ dn → dn ≤ 9 → S.length + 3 ≤ 3 * dn → o ≤ 20 → cs.length ≤ 2 * o → se_P T (fun f a => ∀ M', sr_F Mb m rd sk f a M' → Q (some (.inl (rv_vf a))) G M') N 2 dn Ko q o cs → (∀ q' o' cs', Ko q' o' cs' → q' ≤ n → o < o' → o' ≤ 20 → cs'.length + 1 + 2 * o ≤ cs.length + 2 * o' → sr_E G Mb n m rd sk T Q d P0 S dn q' o' cs') → ∀ M, sr_H Mb n m rd sk T (P0 ++ S) (dn : Int) 0 q o cs M → sr_head G Mb n m rd sk T Q d M
def sr_sA (G : mj_G) (Mb : mj_M) (n m rd sk : Nat) (T : Nat → (Nat × Nat × Int × List Int × Nat)) (Q : mj_P) (d : Nat) (N : Nat) : Prop := ∀ (X P0 : List Int) (dn : Nat) (S : List Int) (q o : Nat) (cs : (List (Nat × Int × Int))) (Ko : Nat → Nat → (List (Nat × Int × Int)) → Prop), (X = [] ∨ X = [11]) → (P0 = [] ∨ P0 = [12]) → sr_nb S → 1 ≤ dn → dn ≤ 9 → S.length + 3 ≤ 3 * dn → o ≤ 20 → cs.length + X.length + 1 ≤ 2 * o → se_P T (fun f a => ∀ M', sr_F Mb m rd sk f a M' → Q (some (.inl (rv_vf a))) G M') N 1 dn Ko q o (cs ++ X.map se_cv) → (∀ q' o' cs', Ko q' o' cs' → q' ≤ n → o ≤ o' → o' ≤ 20 → cs'.length + 2 * o ≤ cs.length + X.length + 2 * o' → sr_E G Mb n m rd sk T Q d P0 S dn q' o' cs') → sr_C G Mb n m rd sk T Q d (X ++ (P0 ++ S)) dn q o cs
def sr_sB (G : mj_G) (Mb : mj_M) (n m rd sk : Nat) (T : Nat → (Nat × Nat × Int × List Int × Nat)) (Q : mj_P) (d : Nat) (N : Nat) : Prop := ∀ (X P0 : List Int) (dn : Nat) (S : List Int) (q o : Nat) (cs : (List (Nat × Int × Int))) (Ko : Nat → Nat → (List (Nat × Int × Int)) → Prop), (X = [] ∨ X = [11]) → (P0 = [] ∨ P0 = [12]) → sr_nb S → 1 ≤ dn → dn ≤ 9 → S.length + 3 ≤ 3 * dn → o ≤ 20 → cs.length + X.length + P0.length + 1 ≤ 2 * o → ¬ se_j (T q) = 13 → se_P T (fun f a => ∀ M', sr_F Mb m rd sk f a M' → Q (some (.inl (rv_vf a))) G M') N 4 dn Ko q o ((cs ++ X.map se_cv) ++ P0.map se_cv) → (∀ q' o' cs', Ko q' o' cs' → q' ≤ n → o ≤ o' → o' ≤ 20 → cs'.length + 2 * o ≤ cs.length + X.length + P0.length + 2 * o' → sr_D G Mb n m rd sk T Q d S dn q' o' cs') → sr_C G Mb n m rd sk T Q d (X ++ (P0 ++ S)) dn q o cs
section UG
variable {G : mj_G} {Mb : mj_M} {B : Nat → Int} {n m bt rd sk : Nat} {T : Nat → (Nat × Nat × Int × List Int × Nat)} {Q : mj_P} {d : Nat}
theorem sr_x1 {X : List Int} (h : X = [] ∨ X = [11]) : (∀ y ∈ X, y = 11) ∧ X.length ≤ 1 ∧ X.map se_cv = X.map (fun _ => ((13 : Nat), (0 : Int), (0 : Int))) := by
  rcases h with rfl | rfl
  · exact ⟨fun y hy => by cases hy, by decide, rfl⟩
  · exact ⟨fun y hy => List.mem_singleton.mp hy, by decide, rfl⟩
theorem sr_p1 {P0 : List Int} (h : P0 = [] ∨ P0 = [12]) : (∀ y ∈ P0, y = (11 : Int) ∨ y = 12) ∧ P0.length ≤ 1 := by
  rcases h with rfl | rfl
  · exact ⟨fun y hy => by cases hy, by decide⟩
  · exact ⟨fun y hy => Or.inr (List.mem_singleton.mp hy), by decide⟩
theorem sr_pn {P0 S : List Int} (h : P0 = [] ∨ P0 = [12]) (hS : sr_nb S) : sr_n10 (P0 ++ S) ∧ (P0 ++ S = [] ∨ ∃ y S', P0 ++ S = y :: S' ∧ y ≠ 11 ∧ ¬ (y = 12 ∧ (11 : Int) = 12)) := by
  rcases h with rfl | rfl
  · refine ⟨hS.n10, ?_⟩
    rcases hS with rfl | ⟨S', rfl⟩
    · exact Or.inl rfl
    · exact Or.inr ⟨13, S', rfl, by decide, fun e => absurd e.2 (by decide)⟩
  · exact ⟨Or.inr ⟨12, S, rfl, by decide⟩, Or.inr ⟨12, S, rfl, by decide, fun e => absurd e.2 (by decide)⟩⟩
theorem sr_whole {S : List Int} {k dn q o : Nat} {cs : (List (Nat × Int × Int))} (hA : sr_A G Mb B n m bt rd sk T) (hS : sr_n10 S) (hk : cs.length + k ≤ 44) (hl : S.length + k ≤ 45) (hd : dn + k ≤ 100) (hC : sr_C G Mb n m rd sk T Q d S dn q o (cs ++ List.replicate k (14, 0, 0))) : ∀ M, sr_H Mb n m rd sk T (List.replicate k 10 ++ S) ((dn + k : Nat) : Int) 1 q o cs M → sr_head G Mb n m rd sk T Q d M := by
  intro M h cb sb
  obtain ⟨⟨gm, gbt, grd, gsk⟩, ⟨r1, r8, r52⟩, -⟩ := id hA
  obtain ⟨h1, h2, h3, h4, h5, h6, p1, p2, p3, p4, p5, p6, p7⟩ := id h
  have hk5 := rv_tkc_f (sr_tw hA h6).1
  have h' : sr_H Mb n m rd sk T (List.replicate k 10 ++ S) ((dn : Int) + (k : Int)) 1 q o cs M := by
    rw [show (dn : Int) + (k : Int) = ((dn + k : Nat) : Int) by omega]
    exact h
  refine w_iln rfl ?_
  refine w_ifeq (fun c => absurd c (by decide)) (fun _ => ?_)
  refine w_aln rfl ?_
  refine w_gi gm rfl (by decide) rfl p5 ?_
  refine w_ifeq (fun c => absurd c (by decide)) (fun _ => ?_)
  refine w_aln rfl ?_
  refine w_gi gm rfl (by decide) rfl h5.1 ?_
  refine w_ifne (fun c => ?_) (fun c => ?_)
  · refine w_aln rfl ?_
    refine w_gi gm rfl (by decide) rfl p5 ?_
    refine w_ifeq (fun c => absurd c (by decide)) (fun _ => ?_)
    refine w_aln rfl ?_
    refine w_cv (st := []) rfl gm rfl (Nat.le_of_ble_eq_true rfl) (fun kk h => h) ⟨Nat.le_of_ble_eq_true rfl, ?_⟩
    show wz (d + 2) mt_X12_behind.2.2.2.2.1 _ mt_X12_behind.2.2.2.2.1 [some (.inr (.inr (some m)))] [] _ _ _ _
    refine w_aln rfl ?_
    refine w_cv (st := []) rfl gm rfl (Nat.le_of_ble_eq_true rfl) (fun kk h => h) ⟨Nat.le_of_ble_eq_true rfl, ?_⟩
    show wz (d + 1) mt_X12_nots.2.2.2.2.1 _ mt_X12_nots.2.2.2.2.1 [some (.inr (.inr (some m)))] [] _ _ _ _
    exact sr_nots (d := d) (kk0 := k) (dp := (dn : Int)) hA hl ⟨by omega, by omega⟩ hS (fun M' h' => (hC M' h').2 (by omega) _ _ _ _) k cs M _ _ (Nat.le_refl k) rfl hk h'
  · refine w_aln rfl ?_
    refine w_cv (st := []) rfl gm rfl (Nat.le_of_ble_eq_true rfl) (fun kk h => h) ⟨Nat.le_of_ble_eq_true rfl, ?_⟩
    show wz (d + 2) mt_X12_nots.2.2.2.2.1 _ mt_X12_nots.2.2.2.2.1 [some (.inr (.inr (some m)))] [] _ _ _ _
    exact sr_nots (d := d + 1) (kk0 := k) (dp := (dn : Int)) hA hl ⟨by omega, by omega⟩ hS (fun M' h' => (hC M' h').1 (by omega) _ _) k cs M _ _ (Nat.le_refl k) rfl hk h'
/-- a call of behind, operand has told a FAULT -/
theorem sr_tellF {M : mj_M} {f : Int} {a : Nat} (gm : G m = (1012, 0)) (hF : sr_F Mb m rd sk f a M) (hQ : Q (some (.inl (rv_vf a))) G M) (v2 : Option mj_V) (cb sb : Nat) : wz (d + 3) mt_X12_sentence.2.2.2.2.1 Q (mt_X12_sentence.2.2.2.2.1.drop 66) [some (.inr (.inr (some m))), some (.inl 1), v2] [] G M cb sb := by
  refine w_ic ?_
  refine w_aln rfl ?_
  refine w_gi gm rfl (by decide) rfl hF.2.1 ?_
  refine w_subw ?_
  intro z hz ez
  have ev : z = rv_vf a := ez
  rw [ev]
  exact w_iret (fun q => by cases q) hQ
theorem sr_A1 {N : Nat} (hA : sr_A G Mb B n m bt rd sk T) (hO : sr_sO G Mb n m rd sk T Q d N) (hI : sr_sA G Mb n m rd sk T Q d N) : sr_sA G Mb n m rd sk T Q d (N + 1) := by
  intro X P0 dn S q o cs Ko hX hP hS d1 d9 hl ho hc h hk M hH
  have gm := hA.1.1
  obtain ⟨x1, x2, x3⟩ := sr_x1 hX
  obtain ⟨y1, y2⟩ := sr_p1 hP
  obtain ⟨w1, w2⟩ := sr_pn hP hS
  have qn := hH.2.2.2.2.2.1
  have le : (P0 ++ S).length = P0.length + S.length := List.length_append
  have lx : (cs ++ X.map se_cv).length = cs.length + X.length := by rw [List.length_append, List.length_map]
  by_cases c : se_j (T q) = 13
  · have k1 := (se_j_lt (t := T q) (by omega)).1
    refine ⟨fun e => by exfalso; omega, fun _ cb sb cb2 sb2 => ?_⟩
    refine sr_bAnd (d := d) (X := X) (R := P0 ++ S) hA x1 w2 hH c (by omega) (by omega) (fun M' hM' => ?_) cb sb
    refine w_ifne (fun _ => ?_) (fun c => absurd c (by decide))
    refine hO 0 dn (11 :: (P0 ++ S)) (rv_x T q) o _ _ (Or.inr ⟨11, _, rfl, by decide⟩) d9 d1 (by show 0 + ((P0 ++ S).length + 1) + 1 ≤ 3 * (dn + 0); omega) ho (by omega) (h.1 c) (fun q' o' cs' hk' l1 l2 l3 l4 => ?_) M' hM' cb2 sb2
    have e0 : cs' ++ List.replicate 0 ((14 : Nat), (0 : Int), (0 : Int)) = cs' := List.append_nil cs'
    rw [e0]
    exact hI [11] P0 dn S q' o' cs' Ko (Or.inr rfl) hP hS d1 d9 hl l3 (by show cs'.length + 1 + 1 ≤ 2 * o'; omega) hk' (fun q'' o'' cs'' hk2 g1 g2 g3 g4 => hk q'' o'' cs'' hk2 g1 (by omega) g3 (by have g4 : cs''.length + 2 * o' ≤ cs'.length + 1 + 2 * o'' := g4; omega))
  · exact hk q o _ (h.2 c) qn (Nat.le_refl o) ho (by omega) X cs hX rfl c M hH
theorem sr_B1 {N : Nat} (hA : sr_A G Mb B n m bt rd sk T) (hL : sr_sL G Mb n m rd sk T Q d N) (hI : sr_sB G Mb n m rd sk T Q d N) : sr_sB G Mb n m rd sk T Q d (N + 1) := by
  intro X P0 dn S q o cs Ko hX hP hS d1 d9 hl ho hc n13 h hk M hH
  have gm := hA.1.1
  obtain ⟨x1, x2, x3⟩ := sr_x1 hX
  obtain ⟨y1, y2⟩ := sr_p1 hP
  have qn := hH.2.2.2.2.2.1
  have lx : ((cs ++ X.map se_cv) ++ P0.map se_cv).length = cs.length + X.length + P0.length := by rw [List.length_append, List.length_append, List.length_map, List.length_map]
  by_cases c : se_j (T q) = 12
  · have k1 := (se_j_lt (t := T q) (by omega)).1
    refine ⟨fun e => by exfalso; omega, fun _ cb sb cb2 sb2 => ?_⟩
    have hH2 : sr_H Mb n m rd sk T ((X ++ P0) ++ S) (dn : Int) 1 q o cs M := by rw [List.append_assoc]; exact hH
    refine sr_bOr (d := d) (P := X ++ P0) hA (fun y hy => (List.mem_append.mp hy).elim (fun z => Or.inl (x1 y z)) (y1 y)) hS hH2 c (by rw [List.length_append]; omega) (by rw [List.length_append]; omega) (fun M' hM' => ?_) cb sb
    rw [List.map_append, ← List.append_assoc] at hM'
    refine w_ifne (fun _ => ?_) (fun c => absurd c (by decide))
    refine hL [12] dn S (rv_x T q) o _ _ (Or.inr rfl) hS d1 d9 hl ho (by omega) (h.1 c) (fun q' o' cs' hk' l1 l2 l3 l4 => ?_) M' hM' cb2 sb2
    intro X2 cs2 hX2 e2 n13'
    obtain ⟨u1, u2, u3⟩ := sr_x1 hX2
    have l2' : cs'.length = cs2.length + X2.length := by rw [e2, List.length_append, List.length_map]
    refine hI X2 [12] dn S q' o' cs2 Ko hX2 (Or.inr rfl) hS d1 d9 hl l3 (by show cs2.length + X2.length + 1 + 1 ≤ 2 * o'; omega) n13' (by rw [← e2]; exact hk') (fun q'' o'' cs'' hk2 g1 g2 g3 g4 => hk q'' o'' cs'' hk2 g1 (by omega) g3 (by have g4 : cs''.length + 2 * o' ≤ cs2.length + X2.length + 1 + 2 * o'' := g4; omega))
  · exact hk q o _ (h.2 c) qn (Nat.le_refl o) ho (by omega) X P0 cs hX hP rfl n13 c M hH
theorem sr_L1 {N : Nat} (hA : sr_A G Mb B n m bt rd sk T) (hO : sr_sO G Mb n m rd sk T Q d N) (hI : sr_sA G Mb n m rd sk T Q d N) : sr_sL G Mb n m rd sk T Q d (N + 1) := by
  intro P0 dn S q o cs Ko hP hS d1 d9 hl ho hc h hk M hH
  obtain ⟨y1, y2⟩ := sr_p1 hP
  obtain ⟨w1, w2⟩ := sr_pn hP hS
  have le : (P0 ++ S).length = P0.length + S.length := List.length_append
  refine hO 0 dn (P0 ++ S) q o cs _ w1 d9 d1 (by show 0 + (P0 ++ S).length + 1 ≤ 3 * (dn + 0); omega) ho hc h (fun q' o' cs' hk' l1 l2 l3 l4 => ?_) M hH
  have e0 : cs' ++ List.replicate 0 ((14 : Nat), (0 : Int), (0 : Int)) = cs' := List.append_nil cs'
  rw [e0]
  exact hI [] P0 dn S q' o' cs' Ko (Or.inl rfl) hP hS d1 d9 hl l3 (by show cs'.length + 0 + 1 ≤ 2 * o'; omega) (by show se_P T _ N 1 dn Ko q' o' (cs' ++ []); rw [List.append_nil]; exact hk') (fun q'' o'' cs'' hk2 g1 g2 g3 g4 => hk q'' o'' cs'' hk2 g1 (by omega) g3 (by have g4 : cs''.length + 2 * o' ≤ cs'.length + 0 + 2 * o'' := g4; omega))
theorem sr_K1 {N : Nat} (hA : sr_A G Mb B n m bt rd sk T) (hL : sr_sL G Mb n m rd sk T Q d N) (hI : sr_sB G Mb n m rd sk T Q d N) : sr_sK G Mb n m rd sk T Q d (N + 1) := by
  intro dn S q o cs Ko hS d1 d9 hl ho hc h hk M hH
  refine hL [] dn S q o cs _ (Or.inl rfl) hS d1 d9 hl ho hc h (fun q' o' cs' hk' l1 l2 l3 l4 => ?_) M hH
  intro X2 cs2 hX2 e2 n13'
  obtain ⟨u1, u2, u3⟩ := sr_x1 hX2
  have l2' : cs'.length = cs2.length + X2.length := by rw [e2, List.length_append, List.length_map]
  exact hI X2 [] dn S q' o' cs2 Ko hX2 (Or.inl rfl) hS d1 d9 hl l3 (by show cs2.length + X2.length + 0 + 1 ≤ 2 * o'; omega) n13' (by show se_P T _ N 4 dn Ko q' o' ((cs2 ++ X2.map se_cv) ++ []); rw [List.append_nil, ← e2]; exact hk') (fun q'' o'' cs'' hk2 g1 g2 g3 g4 => hk q'' o'' cs'' hk2 g1 (by omega) g3 (by have g4 : cs''.length + 2 * o' ≤ cs2.length + X2.length + 0 + 2 * o'' := g4; omega))
theorem sr_O1 {N : Nat} (hA : sr_A G Mb B n m bt rd sk T) (hO : sr_sO G Mb n m rd sk T Q d N) (hK : sr_sK G Mb n m rd sk T Q d N) : sr_sO G Mb n m rd sk T Q d (N + 1) := by
  intro k dn S q o cs Ko hS d9 d1 hl ho hc h hk M hH cb sb
  obtain ⟨⟨gm, gbt, grd, gsk⟩, ⟨r1, r8, r52⟩, -⟩ := id hA
  have p5 := hH.2.2.2.2.2.2.2.2.2.2.1
  have lr : (List.replicate k (10 : Int) ++ S).length = k + S.length := by rw [List.length_append, List.length_replicate]
  have whole : ∀ q' o' cs', Ko q' o' cs' → q' ≤ n → o < o' → o' ≤ 20 → cs'.length + 1 + 2 * o ≤ cs.length + 2 * o' → ∀ M', sr_H Mb n m rd sk T (List.replicate k 10 ++ S) ((dn + k : Nat) : Int) 1 q' o' cs' M' → sr_head G Mb n m rd sk T Q d M' := fun q' o' cs' hk' l1 l2 l3 l4 => sr_whole hA hS (by omega) (by omega) (by omega) (hk q' o' cs' hk' l1 l2 l3 l4)
  refine w_iln rfl ?_
  refine w_ifeq (fun c => absurd c (by decide)) (fun _ => ?_)
  refine w_aln rfl ?_
  refine w_gi gm rfl (by decide) rfl p5 ?_
  refine w_ifeq (fun _ => ?_) (fun c => absurd rfl c)
  refine w_aln rfl ?_
  refine w_gi gm rfl (by decide) rfl p5 ?_
  refine w_ifeq (fun _ => ?_) (fun c => absurd rfl c)
  refine w_aln rfl ?_
  refine w_cv (st := []) rfl gm rfl (Nat.le_of_ble_eq_true rfl) (fun kk h => h) (sr_operand (d := d) (dn := dn + k) hA hH ho d9 (by omega) (by omega) (fun f a hfa M' F => ?_) (fun cb' nf c14 M' s => ?_) (fun cb' nf c40 M' s => ?_) (fun cb' nf c15 M' s => ?_) (fun cb' nf c17 c24 cz k2 hv M' s => ?_))
  · refine w_ifne (fun c => absurd rfl c) (fun _ => ?_)
    refine sr_tellF gm F ?_ _ _ _
    rcases hfa with ⟨rfl, hb | ⟨hb, nf, j17, j24, hz⟩⟩ | ⟨rfl, hb, hfull, rfl⟩
    · obtain ⟨hb, rfl⟩ := hb
      exact h.2 hb M' F
    · have hm := ((h.1 hb).2 nf).2.2.2 j17 j24
      rcases hz with ⟨nz, rfl⟩ | ⟨cz, n2, rfl⟩
      · exact hm.2 nz M' F
      · exact (hm.1 cz).2 n2 M' F
    · exact (h.1 hb).1 hfull M' F
  · refine w_ifne (fun _ => ?_) (fun c => absurd c (by decide))
    refine hO (k + 1) dn S (rv_x T q) (o + 1) cs _ hS (by omega) d1 (by omega) (by omega) (by omega) (((h.1 cb').2 nf).2.1 c14) (fun q' o' cs' hk' l1 l2 l3 l4 => ?_) M' s cb sb
    have e1 : cs' ++ List.replicate (k + 1) ((14 : Nat), (0 : Int), (0 : Int)) = (cs' ++ [(14, 0, 0)]) ++ List.replicate k (14, 0, 0) := by rw [List.append_assoc]; rfl
    rw [e1]
    exact hk q' o' _ hk' l1 (by omega) l3 (by rw [se_len]; omega)
  · refine w_ifne (fun _ => ?_) (fun c => absurd c (by decide))
    refine hK (dn + k + 1) (13 :: (List.replicate k 10 ++ S)) (rv_x T q) (o + 1) cs _ (Or.inr ⟨_, rfl⟩) (by omega) (by omega) (by show (List.replicate k (10 : Int) ++ S).length + 1 + 3 ≤ 3 * (dn + k + 1); omega) (by omega) (by omega) (((h.1 cb').2 nf).1 c40) (fun q' o' cs' hk' l1 l2 l3 l4 => ?_) M' s cb sb
    intro X P0 cs2 hX hP e2 n13 n12 M2 h2
    obtain ⟨x1, x2, x3⟩ := sr_x1 hX
    obtain ⟨y1, y2⟩ := sr_p1 hP
    have l2' : cs'.length = cs2.length + X.length + P0.length := by rw [e2, List.length_append, List.length_append, List.length_map, List.length_map]
    have e3 : cs2 ++ (X ++ P0).map se_cv = cs' := by rw [List.map_append, ← List.append_assoc]; exact e2.symm
    have h2' : sr_H Mb n m rd sk T ((X ++ P0) ++ (13 :: (List.replicate k 10 ++ S))) ((dn + k + 1 : Nat) : Int) 1 q' o' cs2 M2 := by rw [List.append_assoc]; exact h2
    have hy : ∀ y ∈ X ++ P0, y = (11 : Int) ∨ y = 12 := fun y hy => (List.mem_append.mp hy).elim (fun z => Or.inl (x1 y z)) (y1 y)
    have lxp : (X ++ P0).length = X.length + P0.length := List.length_append
    have lb : (13 :: (List.replicate k (10 : Int) ++ S)).length = k + S.length + 1 := by show (List.replicate k (10 : Int) ++ S).length + 1 = _; rw [lr]
    refine ⟨fun e0 cb sb => ?_, fun e0 cb sb cb2 sb2 => ?_⟩
    · -- the text ends within a bracket
      have n41 : ¬ se_s (T q') 41 := fun g => by have := g.1; omega
      refine w_aln rfl ?_
      refine w_bp ?_
      refine w_cv (st := []) rfl gm rfl (Nat.le_of_ble_eq_true rfl) (fun kk h => h) ⟨Nat.le_of_ble_eq_true rfl, ?_⟩
      show wz (d + 2) mt_X12_joins.2.2.2.2.1 _ mt_X12_joins.2.2.2.2.1 [some (.inr (.inr (some m))), some (.inl 12)] [] _ _ _ _
      refine sr_joins (d := d + 1) hA (Or.inr rfl) (sr_nb.j12 (Or.inr ⟨_, rfl⟩)) (fun M3 h3 => ?_) (X ++ P0) cs2 M2 _ _ (fun y hy' => (hy y hy').imp id (fun e => ⟨e, rfl⟩)) e3 (by omega) (by omega) h2'
      have p3 := h3.2.2.2.2.2.2.2.2.1
      refine w_aln rfl ?_
      refine w_gi gm rfl (by decide) rfl p3 ?_
      have tl : (((13 : Int) :: (List.replicate k 10 ++ S)).length : Int) = ((k + S.length + 1 : Nat) : Int) := by rw [lb]
      refine w_ifle (fun c => by exfalso; omega) (fun _ => ?_)
      refine w_aln rfl ?_
      refine w_ic ?_
      refine w_cv (st := []) rfl gm rfl (Nat.le_of_ble_eq_true rfl) (fun kk h => h) (sr_bad (d := d + 2) hA h3 (fun M4 F4 => ?_))
      refine w_pop ?_
      refine w_ic ?_
      refine w_aln rfl ?_
      refine w_gi gm rfl (by decide) rfl F4.2.1 ?_
      refine w_subw ?_
      intro z hz ez
      have ev : z = rv_vf (T q').2.1 := ez
      rw [ev]
      exact w_iret (fun q => by cases q) (hk'.2 n41 M4 F4)
    · refine sr_bElse (d := d) (P := X ++ P0) hA hy (Or.inr ⟨_, rfl⟩) h2' n13 n12 (by omega) (by omega) ⟨by omega, by omega⟩ (fun S' M3 eS c41 s3 => ?_) (fun cF M3 F3 => ?_) cb sb
      · obtain rfl : S' = List.replicate k 10 ++ S := (List.cons.inj eS).2.symm
        rw [e3] at s3
        refine w_ifne (fun _ => ?_) (fun c => absurd c (by decide))
        refine whole (rv_x T q') o' cs' (hk'.1 c41) (sr_xl hA l1) (by omega) l3 (by omega) M3 ?_ cb2 sb2
        rw [show ((dn + k + 1 : Nat) : Int) - 1 = ((dn + k : Nat) : Int) by omega] at s3
        exact s3
      · refine w_ifne (fun c => absurd rfl c) (fun _ => ?_)
        refine w_goto ?_
        refine sr_tellF gm F3 ?_ _ _ _
        rcases cF with cF | cF
        · cases cF
        · exact hk'.2 cF M3 F3
  · refine w_ifne (fun _ => ?_) (fun c => absurd c (by decide))
    exact whole _ _ _ (((h.1 cb').2 nf).2.2.1 c15) s.2.2.2.2.2.1 (by omega) (by omega) (by rw [se_len]; omega) M' s cb sb
  · refine w_ifne (fun _ => ?_) (fun c => absurd c (by decide))
    have hm := (((h.1 cb').2 nf).2.2.2 c17 c24).1 cz
    exact whole _ _ _ (((hm.1 k2).1 hv.1).1 hv.2) s.2.2.2.2.2.1 (by omega) (by omega) (by rw [se_len]; omega) M' s cb sb
theorem sr_all (hA : sr_A G Mb B n m bt rd sk T) : ∀ N : Nat, sr_sO G Mb n m rd sk T Q d N ∧ sr_sA G Mb n m rd sk T Q d N ∧ sr_sL G Mb n m rd sk T Q d N ∧ sr_sK G Mb n m rd sk T Q d N ∧ sr_sB G Mb n m rd sk T Q d N
  | 0 => ⟨fun _ _ _ _ _ _ _ _ _ _ _ _ _ h => False.elim h, fun _ _ _ _ _ _ _ _ _ _ _ _ _ _ _ _ h => False.elim h, fun _ _ _ _ _ _ _ _ _ _ _ _ _ _ h => False.elim h, fun _ _ _ _ _ _ _ _ _ _ _ _ h => False.elim h, fun _ _ _ _ _ _ _ _ _ _ _ _ _ _ _ _ _ h => False.elim h⟩
  | N + 1 => by
    obtain ⟨hO, hI, hL, hK, hB⟩ := sr_all hA N
    exact ⟨sr_O1 hA hO hK, sr_A1 hA hO hI, sr_L1 hA hO hI, sr_K1 hA hL hB, sr_B1 hA hL hB⟩
end UG
