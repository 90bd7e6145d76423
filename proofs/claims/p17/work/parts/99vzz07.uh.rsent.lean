/-! ===== the reference's sentence() ===== -/
/-- s tells the codes cs -/
def sq_R (s : Nat) (cs : (List (Nat × Int × Int))) (M : mj_M) : Prop := M.1 s 356 = (cs.length : Int) ∧ ∀ j, j < cs.length → M.1 s (357 + 3 * j) = se_k (cs.getD j (0, 0, 0)).1 ∧ M.1 s (358 + 3 * j) = (cs.getD j (0, 0, 0)).2.1 ∧ M.1 s (359 + 3 * j) = (cs.getD j (0, 0, 0)).2.2
def sq_O (m s : Nat) (cs : (List (Nat × Int × Int))) (M M' : mj_M) : Prop := sq_R s cs M' ∧ (∀ j, j < 356 → M'.1 s j = M.1 s j) ∧ M'.1 m 15 = 0
section UH
variable {G : mj_G} {M : mj_M} {B : Nat → Int} {n m bt rd sk s : Nat} {T : Nat → (Nat × Nat × Int × List Int × Nat)} {Q : mj_P} {d : Nat}
theorem sq_cp {Mc : mj_M} {L : Nat} (gm : G m = (1012, 0)) (gs : G s = (51100, 537)) (grd : G rd = (53100, 135)) (m6 : Mc.2.2 m 6 = some s) (m8 : Mc.2.2 m 8 = some rd) (m53 : Mc.1 m 53 = (L : Int)) (hL : L ≤ 45) (hQ : ∀ M', M'.2 = Mc.2 → (∀ a, a ≠ s → M'.1 a = Mc.1 a) → (∀ j, j < 3 * L → M'.1 s (357 + j) = Mc.1 rd j) → (∀ j, j < 357 → M'.1 s j = Mc.1 s j) → Q (some (.inl (Mc.1 m 54))) G M') : ∀ (k i : Nat) (M : mj_M) (cb sb : Nat), i + k = 3 * L → M.2 = Mc.2 → (∀ a, a ≠ s → M.1 a = Mc.1 a) → (∀ j, j < i → M.1 s (357 + j) = Mc.1 rd j) → (∀ j, j < 357 → M.1 s j = Mc.1 s j) → wz d mt_X12_sentence.2.2.2.2.1 Q (mt_X12_sentence.2.2.2.2.1.drop 79) [some (.inr (.inr (some m))), some (.inl 0), some (.inl (i : Int))] [] G M cb sb := by
  have ms : m ≠ s := hn_ne gm gs (by decide)
  have rs : rd ≠ s := hn_ne grd gs (by decide)
  intro k
  induction k with
  | zero =>
    intro i M cb sb e h1 h2 h3 h4
    refine w_iln rfl ?_
    refine w_ic ?_
    refine w_aln rfl ?_
    refine w_gi gm rfl (by decide) rfl ((congrFun (h2 m ms) 53).trans m53) ?_
    refine w_mul ⟨by omega, by omega⟩ ?_
    refine w_cmge (fun c => ?_) (fun c => by exfalso; omega)
    refine w_aln rfl ?_
    refine w_gi gm rfl (by decide) rfl (congrFun (h2 m ms) 54) ?_
    exact w_iret (fun q => by cases q) (hQ M h1 h2 (fun j hj => h3 j (by omega)) h4)
  | succ k ih =>
    intro i M cb sb e h1 h2 h3 h4
    refine w_iln rfl ?_
    refine w_ic ?_
    refine w_aln rfl ?_
    refine w_gi gm rfl (by decide) rfl ((congrFun (h2 m ms) 53).trans m53) ?_
    refine w_mul ⟨by omega, by omega⟩ ?_
    refine w_cmge (fun c => by exfalso; omega) (fun c => ?_)
    refine w_aln rfl ?_
    refine w_gr gm rfl (by decide) rfl (by rw [h1]; exact m6) ?_
    refine w_sp ?_
    refine w_iln rfl ?_
    refine w_add ⟨by omega, by omega⟩ ?_
    refine w_aln rfl ?_
    refine w_gr gm rfl (by decide) rfl (by rw [h1]; exact m8) ?_
    refine w_iln rfl ?_
    refine w_iald (v := Mc.1 rd i) grd rfl (by omega) (by show (i : Int) < ((135 : Nat) : Int); omega) (by rw [Int.toNat_natCast]; exact congrFun (h2 rd rs) i) ?_
    refine w_iast gs rfl (by decide) (by omega) (by show (357 : Int) + (i : Int) < ((537 : Nat) : Int); omega) ?_
    rw [show ((357 : Int) + (i : Int)).toNat = 357 + i by omega]
    refine w_ii rfl ⟨by omega, by omega⟩ ?_
    refine w_goto ?_
    refine ih (i + 1) _ _ _ (by omega) h1 (fun a ha => (wz_c ha).trans (h2 a ha)) (fun j hj => ?_) (fun j hj => (hn_n (Or.inr (by omega))).trans (h4 j hj))
    by_cases c2 : j = i
    · rw [c2]; exact hn_s
    · exact (hn_n (Or.inr (by omega))).trans (h3 j (by omega))
theorem r_X12_sentence (gm : G m = (1012, 0)) (gbt : G bt = (50101, 940)) (grd : G rd = (53100, 135)) (gsk : G sk = (68100, 45)) (gs : G s = (51100, 537)) (m1 : M.2.2 m 1 = some bt) (m6 : M.2.2 m 6 = some s) (m8 : M.2.2 m 8 = some rd) (m52 : M.2.2 m 52 = some sk) (rb : ∀ k, rv_u8 (M.1 bt k) = B k) (n1 : n ≤ 940) (hn : M.1 m 2 = (n : Int)) (hT : T = rv_T B n 200) (h : se_A T (fun f a => ∀ M', M'.1 s = M.1 s ∧ M'.1 m 15 = f → Q (some (.inl (rv_vf a))) G M') (fun o cs => 0 < o → o ≤ 20 → cs.length + 1 ≤ 2 * o → ∀ M', sq_O m s cs M M' → Q (some (.inl (o : Int))) G M') (4 * n + 7)) : mj_R mj_tab (d + 4) 239 [.inr (.inr (some m))] G M Q := by
  have bm : bt ≠ m := hn_ne gbt gm (by decide)
  have sm : s ≠ m := hn_ne gs gm (by decide)
  refine ⟨Nat.le_of_ble_eq_true rfl, ?_⟩
  show wz (d + 3) mt_X12_sentence.2.2.2.2.1 Q mt_X12_sentence.2.2.2.2.1 [some (.inr (.inr (some m))), none, none] [] G M _ _
  refine w_aln rfl ?_
  refine w_ic ?_
  refine w_pi gm rfl (by decide) rfl (fun q => by cases q) ?_
  refine w_aln rfl ?_
  refine w_sp ?_
  refine w_cv (st := []) rfl gm rfl (Nat.le_of_ble_eq_true rfl) (fun kk h => h) ⟨Nat.le_of_ble_eq_true rfl, ?_⟩
  show wz (d + 2) mt_X12_taken.2.2.2.2.1 _ mt_X12_taken.2.2.2.2.1 [some (.inr (.inr (some m))), some (.inl 200)] [] _ _ _ _
  refine w_aln rfl ?_
  refine w_aln rfl ?_
  refine w_gi gm rfl (by decide) rfl (v := (n : Int)) ((hn_n (Or.inr (by decide))).trans hn) ?_
  refine w_pi gm rfl (by decide) rfl (fun q => by cases q) ?_
  refine w_aln rfl ?_
  refine w_ic ?_
  refine w_pi gm rfl (by decide) rfl (fun q => by cases q) ?_
  refine w_aln rfl ?_
  refine w_ic ?_
  refine w_pi gm rfl (by decide) rfl (fun q => by cases q) ?_
  refine w_aln rfl ?_
  refine w_iln rfl ?_
  refine w_pi gm rfl (by decide) rfl (fun q => by cases q) ?_
  refine w_ret ?_
  refine w_aln rfl ?_
  refine w_ic ?_
  refine w_pi gm rfl (by decide) rfl (fun q => by cases q) ?_
  refine w_aln rfl ?_
  refine w_ic ?_
  refine w_pi gm rfl (by decide) rfl (fun q => by cases q) ?_
  refine w_aln rfl ?_
  refine w_ic ?_
  refine w_pi gm rfl (by decide) rfl (fun q => by cases q) ?_
  refine w_aln rfl ?_
  refine w_ic ?_
  refine w_pi gm rfl (by decide) rfl (fun q => by cases q) ?_
  refine w_aln rfl ?_
  refine w_ic ?_
  refine w_pi gm rfl (by decide) rfl (fun q => by cases q) ?_
  refine w_aln rfl ?_
  refine w_ic ?_
  refine w_pi gm rfl (by decide) rfl (fun q => by cases q) ?_
  refine w_aln rfl ?_
  have eo : ∀ a, a ≠ m → (mj_p0 (mj_p0 (mj_p0 (mj_p0 (mj_p0 (mj_p0 (mj_p0 (mj_p0 (mj_p0 (mj_p0 (mj_p0 M m 0 0) m 3 (n : Int)) m 2 0) m 4 0) m 5 200) m 15 0) m 53 0) m 54 0) m 55 0) m 56 1) m 57 0).1 a = M.1 a := fun a ha => (wz_c ha).trans ((wz_c ha).trans ((wz_c ha).trans ((wz_c ha).trans ((wz_c ha).trans ((wz_c ha).trans ((wz_c ha).trans ((wz_c ha).trans ((wz_c ha).trans ((wz_c ha).trans (wz_c ha))))))))))
  have hA : sr_A G (mj_p0 (mj_p0 (mj_p0 (mj_p0 (mj_p0 (mj_p0 (mj_p0 (mj_p0 (mj_p0 (mj_p0 (mj_p0 M m 0 0) m 3 (n : Int)) m 2 0) m 4 0) m 5 200) m 15 0) m 53 0) m 54 0) m 55 0) m 56 1) m 57 0) B n m bt rd sk T := ⟨⟨gm, gbt, grd, gsk⟩, ⟨m1, m8, m52⟩, fun k => by rw [eo bt bm]; exact rb k, n1, (hn_n (Or.inr (by decide))).trans ((hn_n (Or.inr (by decide))).trans ((hn_n (Or.inr (by decide))).trans ((hn_n (Or.inr (by decide))).trans ((hn_n (Or.inr (by decide))).trans ((hn_n (Or.inr (by decide))).trans ((hn_n (Or.inr (by decide))).trans ((hn_n (Or.inr (by decide))).trans ((hn_n (Or.inr (by decide))).trans (hn_s))))))))), (hn_n (Or.inr (by decide))).trans ((hn_n (Or.inr (by decide))).trans ((hn_n (Or.inr (by decide))).trans ((hn_n (Or.inr (by decide))).trans ((hn_n (Or.inr (by decide))).trans ((hn_n (Or.inr (by decide))).trans (hn_s)))))), hT⟩
  have b4 : (mj_p0 (mj_p0 (mj_p0 (mj_p0 (mj_p0 (mj_p0 (mj_p0 (mj_p0 (mj_p0 (mj_p0 (mj_p0 M m 0 0) m 3 (n : Int)) m 2 0) m 4 0) m 5 200) m 15 0) m 53 0) m 54 0) m 55 0) m 56 1) m 57 0).1 m 4 = ((0 : Nat) : Int) := (hn_n (Or.inr (by decide))).trans ((hn_n (Or.inr (by decide))).trans ((hn_n (Or.inr (by decide))).trans ((hn_n (Or.inr (by decide))).trans ((hn_n (Or.inr (by decide))).trans ((hn_n (Or.inr (by decide))).trans ((hn_n (Or.inr (by decide))).trans (hn_s)))))))
  have b15 : (mj_p0 (mj_p0 (mj_p0 (mj_p0 (mj_p0 (mj_p0 (mj_p0 (mj_p0 (mj_p0 (mj_p0 (mj_p0 M m 0 0) m 3 (n : Int)) m 2 0) m 4 0) m 5 200) m 15 0) m 53 0) m 54 0) m 55 0) m 56 1) m 57 0).1 m 15 = 0 := (hn_n (Or.inr (by decide))).trans ((hn_n (Or.inr (by decide))).trans ((hn_n (Or.inr (by decide))).trans ((hn_n (Or.inr (by decide))).trans ((hn_n (Or.inr (by decide))).trans (hn_s)))))
  have b53 : (mj_p0 (mj_p0 (mj_p0 (mj_p0 (mj_p0 (mj_p0 (mj_p0 (mj_p0 (mj_p0 (mj_p0 (mj_p0 M m 0 0) m 3 (n : Int)) m 2 0) m 4 0) m 5 200) m 15 0) m 53 0) m 54 0) m 55 0) m 56 1) m 57 0).1 m 53 = 0 := (hn_n (Or.inr (by decide))).trans ((hn_n (Or.inr (by decide))).trans ((hn_n (Or.inr (by decide))).trans ((hn_n (Or.inr (by decide))).trans (hn_s))))
  have b54 : (mj_p0 (mj_p0 (mj_p0 (mj_p0 (mj_p0 (mj_p0 (mj_p0 (mj_p0 (mj_p0 (mj_p0 (mj_p0 M m 0 0) m 3 (n : Int)) m 2 0) m 4 0) m 5 200) m 15 0) m 53 0) m 54 0) m 55 0) m 56 1) m 57 0).1 m 54 = 0 := (hn_n (Or.inr (by decide))).trans ((hn_n (Or.inr (by decide))).trans ((hn_n (Or.inr (by decide))).trans (hn_s)))
  have b55 : (mj_p0 (mj_p0 (mj_p0 (mj_p0 (mj_p0 (mj_p0 (mj_p0 (mj_p0 (mj_p0 (mj_p0 (mj_p0 M m 0 0) m 3 (n : Int)) m 2 0) m 4 0) m 5 200) m 15 0) m 53 0) m 54 0) m 55 0) m 56 1) m 57 0).1 m 55 = 0 := (hn_n (Or.inr (by decide))).trans ((hn_n (Or.inr (by decide))).trans (hn_s))
  have b56 : (mj_p0 (mj_p0 (mj_p0 (mj_p0 (mj_p0 (mj_p0 (mj_p0 (mj_p0 (mj_p0 (mj_p0 (mj_p0 M m 0 0) m 3 (n : Int)) m 2 0) m 4 0) m 5 200) m 15 0) m 53 0) m 54 0) m 55 0) m 56 1) m 57 0).1 m 56 = 1 := (hn_n (Or.inr (by decide))).trans (hn_s)
  have b57 : (mj_p0 (mj_p0 (mj_p0 (mj_p0 (mj_p0 (mj_p0 (mj_p0 (mj_p0 (mj_p0 (mj_p0 (mj_p0 M m 0 0) m 3 (n : Int)) m 2 0) m 4 0) m 5 200) m 15 0) m 53 0) m 54 0) m 55 0) m 56 1) m 57 0).1 m 57 = 0 := hn_s
  have m6' : (mj_p0 (mj_p0 (mj_p0 (mj_p0 (mj_p0 (mj_p0 (mj_p0 (mj_p0 (mj_p0 (mj_p0 (mj_p0 M m 0 0) m 3 (n : Int)) m 2 0) m 4 0) m 5 200) m 15 0) m 53 0) m 54 0) m 55 0) m 56 1) m 57 0).2.2 m 6 = some s := m6
  have m8' : (mj_p0 (mj_p0 (mj_p0 (mj_p0 (mj_p0 (mj_p0 (mj_p0 (mj_p0 (mj_p0 (mj_p0 (mj_p0 M m 0 0) m 3 (n : Int)) m 2 0) m 4 0) m 5 200) m 15 0) m 53 0) m 54 0) m 55 0) m 56 1) m 57 0).2.2 m 8 = some rd := m8
  generalize (mj_p0 (mj_p0 (mj_p0 (mj_p0 (mj_p0 (mj_p0 (mj_p0 (mj_p0 (mj_p0 (mj_p0 (mj_p0 M m 0 0) m 3 (n : Int)) m 2 0) m 4 0) m 5 200) m 15 0) m 53 0) m 54 0) m 55 0) m 56 1) m 57 0) = Mb at *
  have tz : (T 0) = rv_T B n 200 0 := by rw [hT]
  refine w_cv (st := []) rfl gm rfl (Nat.le_of_ble_eq_true rfl) (fun kk h => h) (r_X12_next (d := d + 1) (B := B) (n := n) (lim := 200) (p := 0) gm gbt n1 hA.2.1.1 hA.2.2.2.2.1 hA.2.2.2.2.2.1 b4 hA.2.2.1 (fun M1 hM => ?_))
  obtain ⟨o1, o2, o3, -⟩ := id hM
  have oc : ∀ a, a ≠ m → M1.1 a = Mb.1 a := fun a ha => funext fun k => o1 a k (fun e => ha e.1)
  have om : ∀ k, ¬ k ∈ [4, 11, 12, 13, 14] → M1.1 m k = Mb.1 m k := fun k hk => o1 m k (fun e => hk e.2)
  have ol : ∀ a, a ≠ m → M1.2.1 a = Mb.2.1 a := fun a ha => funext fun k => o2 a k (fun e => ha e.1)
  have hH : sr_H Mb n m rd sk T [] ((1 : Nat) : Int) 0 0 0 [] M1 := by
    refine ⟨fun a a1 _ _ => oc a a1, o3, ol, fun k hk => om k (fun e => hk ?_), by rw [tz]; exact rv_tq_of (rv_T_w (Nat.zero_le n)).1 (rv_nx_T (Nat.zero_le n) hM), Nat.zero_le n, (om 53 (by decide)).trans b53, (om 54 (by decide)).trans b54, (om 55 (by decide)).trans b55, (om 56 (by decide)).trans b56, (om 57 (by decide)).trans b57, fun j hj => absurd hj (Nat.not_lt_zero j), trivial⟩
    simp only [List.mem_cons, List.not_mem_nil, or_false] at e ⊢
    omega
  have es : ∀ M2 : mj_M, (∀ a, a ≠ m → a ≠ rd → a ≠ sk → M2.1 a = Mb.1 a) → M2.1 s = M.1 s := fun M2 hm => (hm s sm (hn_ne gs grd (by decide)) (hn_ne gs gsk (by decide))).trans (eo s sm)
  refine w_ic ?_
  refine w_isn ?_
  show wz _ _ _ _ [some (.inr (.inr (some m))), some (.inl 1), none] _ _ _ _ _
  refine (sr_all hA (4 * n + 7)).2.2.2.1 1 [] 0 0 [] _ (Or.inl rfl) (by decide) (by decide) (by decide) (by decide) (by decide) (se_P.mono (fun f a hf M' F => hf M' ⟨es M' F.2.2, F.1⟩) (4 * n + 7) 3 1 _ _ _ _ _ (fun q o cs k => k) h) (fun q' o' cs' hk l1 l2 l3 l4 => ?_) M1 hH _ _
  intro X P0 cs2 hX hP e2 n13 n12 M2 h2
  obtain ⟨x1, x2, x3⟩ := sr_x1 hX
  obtain ⟨y1, y2⟩ := sr_p1 hP
  have l4 : cs'.length + 1 + 0 ≤ 0 + 2 * o' := l4
  have l2' : cs'.length = cs2.length + X.length + P0.length := by rw [e2, List.length_append, List.length_append, List.length_map, List.length_map]
  have e3 : cs2 ++ (X ++ P0).map se_cv = cs' := by rw [List.map_append, ← List.append_assoc]; exact e2.symm
  have h2' : sr_H Mb n m rd sk T ((X ++ P0) ++ []) ((1 : Nat) : Int) 1 q' o' cs2 M2 := by rw [List.append_assoc]; exact h2
  have hy : ∀ y ∈ X ++ P0, y = (11 : Int) ∨ y = 12 := fun y hy => (List.mem_append.mp hy).elim (fun z => Or.inl (x1 y z)) (y1 y)
  have lxp : (X ++ P0).length = X.length + P0.length := List.length_append
  have l0 : ([] : List Int).length = 0 := rfl
  refine ⟨fun e0 cb sb => ?_, fun e0 cb sb cb2 sb2 => ?_⟩
  · refine w_aln rfl ?_
    refine w_bp ?_
    refine w_cv (st := []) rfl gm rfl (Nat.le_of_ble_eq_true rfl) (fun kk h => h) ⟨Nat.le_of_ble_eq_true rfl, ?_⟩
    show wz (d + 2) mt_X12_joins.2.2.2.2.1 _ mt_X12_joins.2.2.2.2.1 [some (.inr (.inr (some m))), some (.inl 12)] [] _ _ _ _
    refine sr_joins (d := d + 1) hA (Or.inr rfl) (Or.inl rfl) (fun M3 h3 => ?_) (X ++ P0) cs2 M2 _ _ (fun y hy' => (hy y hy').imp id (fun e => ⟨e, rfl⟩)) e3 (by omega) (by omega) h2'
    obtain ⟨g1, g2, g3, g4, g5, g6, p1, p2, p3, p4, p5, p6, p7⟩ := id h3
    refine w_aln rfl ?_
    refine w_gi gm rfl (by decide) rfl p3 ?_
    refine w_ifle (fun _ => ?_) (fun c => absurd c (by decide))
    refine w_ic ?_
    refine w_isn ?_
    show wz _ _ _ _ [some (.inr (.inr (some m))), some (.inl 0), none] _ _ _ _ _
    refine w_goto ?_
    refine w_iln rfl ?_
    refine w_ifeq (fun _ => ?_) (fun c => absurd rfl c)
    refine w_aln rfl ?_
    refine w_gr gm rfl (by decide) rfl (by rw [g2]; exact m6') ?_
    refine w_sp ?_
    refine w_aln rfl ?_
    refine w_gi gm rfl (by decide) rfl p1 ?_
    refine w_iast gs rfl (by decide) (by decide) (by decide) ?_
    refine w_ic ?_
    refine w_isn ?_
    show wz _ _ _ _ [some (.inr (.inr (some m))), some (.inl 0), some (.inl ((0 : Nat) : Int))] _ _ _ _ _
    have msn : m ≠ s := sm.symm
    refine sq_cp (L := cs'.length) (Mc := mj_p0 M3 s 356 (cs'.length : Int)) gm gs grd (by show M3.2.2 m 6 = _; rw [g2]; exact m6') (by show M3.2.2 m 8 = _; rw [g2]; exact m8') ((congrFun (wz_c msn) 53).trans p1) (by omega) (fun M' v1 v2 v3 v4 => ?_) (3 * cs'.length) 0 _ _ _ (by omega) rfl (fun _ _ => rfl) (fun j hj => absurd hj (Nat.not_lt_zero j)) (fun _ _ => rfl)
    have eo54 : (mj_p0 M3 s 356 (cs'.length : Int)).1 m 54 = (o' : Int) := (congrFun (wz_c msn) 54).trans p2
    rw [eo54]
    have er : (mj_p0 M3 s 356 (cs'.length : Int)).1 rd = M3.1 rd := wz_c (hn_ne grd gs (by decide))
    refine hk.1 e0 (by omega) l3 (by omega) M' ⟨⟨(v4 356 (by decide)).trans hn_s, fun j hj => ?_⟩, fun j hj => (v4 j (by omega)).trans ((hn_n (Or.inr (by omega))).trans (congrFun (es M3 g1) j)), (congrFun (v2 m msn) 15).trans ((congrFun (wz_c msn) 15).trans ((g4 15 (by decide)).trans b15))⟩
    obtain ⟨b1, b2, b3⟩ := p6 j hj
    refine ⟨(v3 (3 * j) (by omega)).trans ((congrFun er _).trans b1), ?_, ?_⟩
    · have q := (v3 (3 * j + 1) (by omega)).trans ((congrFun er _).trans b2)
      rw [show 357 + (3 * j + 1) = 358 + 3 * j by omega] at q
      exact q
    · have q := (v3 (3 * j + 2) (by omega)).trans ((congrFun er _).trans b3)
      rw [show 357 + (3 * j + 2) = 359 + 3 * j by omega] at q
      exact q
  · refine sr_bElse (d := d) (P := X ++ P0) (S := []) hA hy (Or.inl rfl) h2' n13 n12 (by omega) (by omega) ⟨by decide, by decide⟩ (fun S' M3 eS c41 s3 => by cases eS) (fun cF M3 F3 => ?_) cb sb
    refine w_ifne (fun c => absurd rfl c) (fun _ => ?_)
    refine w_goto ?_
    exact sr_tellF gm F3 (hk.2 e0 M3 ⟨es M3 F3.2.2, F3.1⟩) _ _ _
end UH
