/-! ===== copies: rows for arraycopy, a PLAIN copied, contracts of two objects ===== -/
theorem w_cp0 {d : Nat} {full : List mj_E} {Q : mj_P} {rest : List mj_E} {L : mj_L} {st : List mj_V} {G : mj_G} {M : mj_M} {cb sb pc : Nat} {im : Int} {k w a b ta na tb nb : Nat} {sp dp n : Int} (ha : G a = (ta, na)) (hta : ta % 1000 = 100) (hb : G b = (tb, nb)) (htb : tb % 1000 = 100) (h9 : tb < 900000) (h1 : 0 ≤ sp) (h2 : 0 ≤ dp) (h3 : 0 ≤ n) (h4 : sp + n ≤ na) (h5 : dp + n ≤ nb) (h8 : mj_cat st ≤ 8) (kk : wz d full Q rest L st G (mj_cp0 M a b sp.toNat dp.toNat n.toNat) cb sb) : wz d full Q ((.invokestatic k, pc, [3, w], im) :: rest) L (.inl n :: .inl dp :: .inr (.inr (some b)) :: .inl sp :: .inr (.inr (some a)) :: st) G M cb sb := wz_st ⟨ta, na, ha, hta, tb, nb, hb, htb, h9, h1, h2, h3, h4, h5, h8, kk⟩
theorem w_cp1 {d : Nat} {full : List mj_E} {Q : mj_P} {rest : List mj_E} {L : mj_L} {st : List mj_V} {G : mj_G} {M : mj_M} {cb sb pc : Nat} {im : Int} {k w a b ta na tb nb : Nat} {sp dp n : Int} (ha : G a = (ta, na)) (hta : ta % 1000 = 103) (hb : G b = (tb, nb)) (htb : tb % 1000 = 103) (h9 : tb < 900000) (h1 : 0 ≤ sp) (h2 : 0 ≤ dp) (h3 : 0 ≤ n) (h4 : sp + n ≤ na) (h5 : dp + n ≤ nb) (h8 : mj_cat st ≤ 8) (kk : wz d full Q rest L st G (mj_cp1 M a b sp.toNat dp.toNat n.toNat) cb sb) : wz d full Q ((.invokestatic k, pc, [4, w], im) :: rest) L (.inl n :: .inl dp :: .inr (.inr (some b)) :: .inl sp :: .inr (.inr (some a)) :: st) G M cb sb := wz_st ⟨ta, na, ha, hta, tb, nb, hb, htb, h9, h1, h2, h3, h4, h5, h8, kk⟩
theorem cp0_o {M : mj_M} {a b x n : Nat} (h : x ≠ b) : (mj_cp0 M a b 0 0 n).1 x = M.1 x := funext fun _ => if_neg (fun e => h e.1)
theorem cp0_i {M : mj_M} {a b n j : Nat} (h : j < n) : (mj_cp0 M a b 0 0 n).1 b j = M.1 a j := (if_pos ⟨rfl, Nat.zero_le j, by omega⟩).trans (by rw [Nat.zero_add, Nat.sub_zero])
theorem cp1_o {M : mj_M} {a b x n : Nat} (h : x ≠ b) : (mj_cp1 M a b 0 0 n).2.1 x = M.2.1 x := funext fun _ => if_neg (fun e => h e.1)
theorem cp1_i {M : mj_M} {a b n j : Nat} (h : j < n) : (mj_cp1 M a b 0 0 n).2.1 b j = M.2.1 a j := (if_pos ⟨rfl, Nat.zero_le j, by omega⟩).trans (by rw [Nat.zero_add, Nat.sub_zero])
/-- a PLAIN's cells -/
def rv_K (G : mj_G) (M : mj_M) (pl na ta ba wa : Nat) (tr br : Nat → Nat) : Prop := G pl = (1004, 0) ∧ G na = (24103, 8) ∧ G ta = (25104, 8) ∧ G ba = (27104, 8) ∧ G wa = (29100, 12) ∧ (∀ t, t < 8 → G (tr t) = (26100, 9)) ∧ (∀ t, t < 8 → G (br t) = (28100, 12)) ∧ (∀ t s, t < 8 → s < 8 → tr t = tr s → t = s) ∧ (∀ t s, t < 8 → s < 8 → br t = br s → t = s) ∧ M.2.2 pl 0 = some na ∧ M.2.2 pl 1 = some ta ∧ M.2.2 pl 2 = some ba ∧ M.2.2 pl 3 = some wa ∧ (∀ t, t < 8 → M.2.2 ta t = some (tr t)) ∧ (∀ t, t < 8 → M.2.2 ba t = some (br t))
/-- two PLAINS apart -/
def rv_ap (pl na wa pl' na' wa' : Nat) (tr br tr' br' : Nat → Nat) : Prop := pl ≠ pl' ∧ na ≠ na' ∧ wa ≠ wa' ∧ (∀ t s, t < 8 → s < 8 → tr t ≠ tr' s) ∧ (∀ t s, t < 8 → s < 8 → br t ≠ br' s)
/-- one PLAIN copied to another (the first with dashes) -/
def rv_cp (pl na wa pl' na' wa' : Nat) (tr br tr' br' : Nat → Nat) (M M' : mj_M) : Prop := (∀ k, 4 ≤ k → k ≤ 9 → M'.1 pl' k = M.1 pl k) ∧ (∀ k, ¬ (4 ≤ k ∧ k ≤ 9) → M'.1 pl' k = M.1 pl' k) ∧ (∀ t, t < 8 → ∀ w, w < 9 → M'.1 (tr' t) w = M.1 (tr t) w) ∧ (∀ t, t < 8 → ∀ w, w < 12 → M'.1 (br' t) w = M.1 (br t) w) ∧ (∀ w, w < 12 → M'.1 wa' w = M.1 wa w) ∧ (∀ s, s < 8 → M'.2.1 na' s = M.2.1 na s) ∧ M'.2.2 = M.2.2 ∧ (∀ a, a ≠ na' → M'.2.1 a = M.2.1 a) ∧ (∀ a, a ≠ pl' → a ≠ wa' → (∀ t, t < 8 → a ≠ tr' t) → (∀ t, t < 8 → a ≠ br' t) → M'.1 a = M.1 a)
section CP
variable {G : mj_G} {M0 : mj_M} {pl na ta ba wa pl' na' ta' ba' wa' : Nat} {tr br tr' br' : Nat → Nat} {d : Nat} {Q : mj_P}
theorem r_cp_loop (hB : rv_K G M0 pl na ta ba wa tr br) (hA : rv_K G M0 pl' na' ta' ba' wa' tr' br') (hp : rv_ap pl na wa pl' na' wa' tr br tr' br') : ∀ (f t : Nat) (M : mj_M) (cb sb : Nat), t + f = 8 → M.2.2 = M0.2.2 → M.2.1 = M0.2.1 → (∀ a, (∀ s, s < 8 → a ≠ tr' s) → (∀ s, s < 8 → a ≠ br' s) → M.1 a = M0.1 a) → (∀ s, s < t → (∀ w, w < 9 → M.1 (tr' s) w = M0.1 (tr s) w) ∧ (∀ w, w < 12 → M.1 (br' s) w = M0.1 (br s) w)) → (∀ M', M'.2.2 = M0.2.2 → M'.2.1 = M0.2.1 → (∀ a, (∀ s, s < 8 → a ≠ tr' s) → (∀ s, s < 8 → a ≠ br' s) → M'.1 a = M0.1 a) → (∀ s, s < 8 → (∀ w, w < 9 → M'.1 (tr' s) w = M0.1 (tr s) w) ∧ (∀ w, w < 12 → M'.1 (br' s) w = M0.1 (br s) w)) → wz d mt_X3_copy.2.2.2.2.1 Q (mt_X3_copy.2.2.2.2.1.drop 39) [some (.inr (.inr (some pl'))), some (.inr (.inr (some pl))), some (.inl 8)] [] G M' cb sb) → wz d mt_X3_copy.2.2.2.2.1 Q (mt_X3_copy.2.2.2.2.1.drop 10) [some (.inr (.inr (some pl'))), some (.inr (.inr (some pl))), some (.inl (t : Int))] [] G M cb sb := by
  obtain ⟨gpl, gna, gta, gba, gwa, gtr, gbr, itr, ibr, b0, b1, b2, b3, bt, bb⟩ := hB
  obtain ⟨gpl', gna', gta', gba', gwa', gtr', gbr', itr', ibr', a0, a1, a2, a3, at', ab'⟩ := hA
  obtain ⟨p1, p2, p3, p4, p5⟩ := hp
  intro f
  induction f with
  | zero =>
    intro t M cb sb hk e2 e1 e0 hz kk
    have e : t = 8 := by omega
    subst e
    refine w_iln rfl ?_
    refine w_bp ?_
    refine w_cmge (fun c => ?_) (fun c => by exfalso; omega)
    exact kk M e2 e1 e0 hz
  | succ f ih =>
    intro t M cb sb hk e2 e1 e0 hz kk
    have ht : t < 8 := by omega
    have tt : ((t : Int)).toNat = t := by omega
    refine w_iln rfl ?_
    refine w_bp ?_
    refine w_cmge (fun c => by exfalso; omega) (fun c => ?_)
    refine w_aln rfl ?_
    refine w_gr gpl rfl (by decide) rfl (by rw [e2]; exact b1) ?_
    refine w_iln rfl ?_
    refine w_aald (b := tr t) gta rfl (by omega) (by show (t : Int) < ((8 : Nat) : Int); omega) (by rw [e2, tt]; exact bt t ht) ?_
    refine w_ic ?_
    refine w_aln rfl ?_
    refine w_gr gpl' rfl (by decide) rfl (by rw [e2]; exact a1) ?_
    refine w_iln rfl ?_
    refine w_aald (b := tr' t) gta' rfl (by omega) (by show (t : Int) < ((8 : Nat) : Int); omega) (by rw [e2, tt]; exact at' t ht) ?_
    refine w_ic ?_
    refine w_bp ?_
    refine w_cp0 (gtr t ht) rfl (gtr' t ht) rfl (by decide) (by decide) (by decide) (by decide) (by decide) (by decide) (Nat.zero_le 8) ?_
    refine w_aln rfl ?_
    refine w_gr gpl rfl (by decide) rfl (by show M.2.2 pl 2 = _; rw [e2]; exact b2) ?_
    refine w_iln rfl ?_
    refine w_aald (b := br t) gba rfl (by omega) (by show (t : Int) < ((8 : Nat) : Int); omega) (by show M.2.2 ba _ = _; rw [e2, tt]; exact bb t ht) ?_
    refine w_ic ?_
    refine w_aln rfl ?_
    refine w_gr gpl' rfl (by decide) rfl (by show M.2.2 pl' 2 = _; rw [e2]; exact a2) ?_
    refine w_iln rfl ?_
    refine w_aald (b := br' t) gba' rfl (by omega) (by show (t : Int) < ((8 : Nat) : Int); omega) (by show M.2.2 ba' _ = _; rw [e2, tt]; exact ab' t ht) ?_
    refine w_ic ?_
    refine w_bp ?_
    refine w_cp0 (gbr t ht) rfl (gbr' t ht) rfl (by decide) (by decide) (by decide) (by decide) (by decide) (by decide) (Nat.zero_le 8) ?_
    refine w_ii rfl ⟨by omega, by omega⟩ ?_
    refine w_goto ?_
    have fr : ∀ a, a ≠ tr' t → a ≠ br' t → (mj_cp0 (mj_cp0 M (tr t) (tr' t) 0 0 9) (br t) (br' t) 0 0 12).1 a = M.1 a := fun a n1 n2 => (cp0_o n2).trans (cp0_o n1)
    refine ih (t + 1) (mj_cp0 (mj_cp0 M (tr t) (tr' t) 0 0 9) (br t) (br' t) 0 0 12) _ _ (by omega) e2 e1 (fun a n1 n2 => (fr a (n1 t ht) (n2 t ht)).trans (e0 a n1 n2)) (fun s hs => ?_) kk
    by_cases c1 : s = t
    · subst c1
      refine ⟨fun w hw => ?_, fun w hw => ?_⟩
      · rw [cp0_o (hn_ne (gtr' s ht) (gbr' s ht) (by decide)), cp0_i hw]
        exact congrFun (e0 _ (fun q hq => p4 s q ht hq) (fun q hq => hn_ne (gtr s ht) (gbr' q hq) (by decide))) w
      · rw [cp0_i hw, cp0_o (hn_ne (gbr s ht) (gtr' s ht) (by decide))]
        exact congrFun (e0 _ (fun q hq => hn_ne (gbr s ht) (gtr' q hq) (by decide)) (fun q hq => p5 s q ht hq)) w
    · have hs8 : s < 8 := by omega
      obtain ⟨z1, z2⟩ := hz s (by omega)
      refine ⟨fun w hw => ?_, fun w hw => ?_⟩
      · rw [fr _ (fun e => c1 (itr' s t hs8 ht e)) (hn_ne (gtr' s hs8) (gbr' t ht) (by decide))]; exact z1 w hw
      · rw [fr _ (hn_ne (gbr' s hs8) (gtr' t ht) (by decide)) (fun e => c1 (ibr' s t hs8 ht e))]; exact z2 w hw
theorem r_X3_copy {M : mj_M} (hB : rv_K G M pl na ta ba wa tr br) (hA : rv_K G M pl' na' ta' ba' wa' tr' br') (hp : rv_ap pl na wa pl' na' wa' tr br tr' br') (hQ : ∀ M', rv_cp pl na wa pl' na' wa' tr br tr' br' M M' → Q none G M') : mj_R mj_tab (d + 1) 32 [.inr (.inr (some pl')), .inr (.inr (some pl))] G M Q := by
  obtain ⟨gpl, gna, gta, gba, gwa, gtr, gbr, itr, ibr, b0, b1, b2, b3, bt, bb⟩ := id hB
  obtain ⟨gpl', gna', gta', gba', gwa', gtr', gbr', itr', ibr', a0, a1, a2, a3, at', ab'⟩ := id hA
  obtain ⟨p1, p2, p3, p4, p5⟩ := id hp
  refine ⟨Nat.le_of_ble_eq_true rfl, ?_⟩
  show wz d mt_X3_copy.2.2.2.2.1 Q mt_X3_copy.2.2.2.2.1 [some (.inr (.inr (some pl'))), some (.inr (.inr (some pl))), none] [] G M _ _
  refine w_aln rfl ?_
  refine w_gr gpl rfl (by decide) rfl b0 ?_
  refine w_ic ?_
  refine w_aln rfl ?_
  refine w_gr gpl' rfl (by decide) rfl a0 ?_
  refine w_ic ?_
  refine w_bp ?_
  refine w_cp1 gna rfl gna' rfl (by decide) (by decide) (by decide) (by decide) (by decide) (by decide) (Nat.zero_le 8) ?_
  refine w_ic ?_
  refine w_isn ?_
  have kB : rv_K G (mj_cp1 M na na' 0 0 8) pl na ta ba wa tr br := hB
  have kA : rv_K G (mj_cp1 M na na' 0 0 8) pl' na' ta' ba' wa' tr' br' := hA
  refine r_cp_loop kB kA hp 8 0 (mj_cp1 M na na' 0 0 8) _ _ (by omega) rfl rfl (fun _ _ _ => rfl) (fun s hs => absurd hs (Nat.not_lt_zero s)) (fun M1 e2 e1 e0 hz => ?_)
  have e0' : ∀ a, (∀ s, s < 8 → a ≠ tr' s) → (∀ s, s < 8 → a ≠ br' s) → M1.1 a = M.1 a := e0
  refine w_aln rfl ?_
  refine w_gr gpl rfl (by decide) rfl (by rw [e2]; exact b3) ?_
  refine w_ic ?_
  refine w_aln rfl ?_
  refine w_gr gpl' rfl (by decide) rfl (by rw [e2]; exact a3) ?_
  refine w_ic ?_
  refine w_bp ?_
  refine w_cp0 gwa rfl gwa' rfl (by decide) (by decide) (by decide) (by decide) (by decide) (by decide) (Nat.zero_le 8) ?_
  have hpl : M1.1 pl = M.1 pl := e0' pl (fun s hs => hn_ne gpl (gtr' s hs) (by decide)) (fun s hs => hn_ne gpl (gbr' s hs) (by decide))
  have hpl' : M1.1 pl' = M.1 pl' := e0' pl' (fun s hs => hn_ne gpl' (gtr' s hs) (by decide)) (fun s hs => hn_ne gpl' (gbr' s hs) (by decide))
  have hwa : M1.1 wa = M.1 wa := e0' wa (fun s hs => hn_ne gwa (gtr' s hs) (by decide)) (fun s hs => hn_ne gwa (gbr' s hs) (by decide))
  have q0 : ∀ k, (mj_cp0 M1 wa wa' 0 0 12).1 pl k = M.1 pl k := fun k => congrFun ((cp0_o (hn_ne gpl gwa' (by decide))).trans hpl) k
  refine w_aln rfl ?_
  refine w_aln rfl ?_
  refine w_gi gpl rfl (by decide) rfl (v := M.1 pl 4) (q0 4) ?_
  refine w_pi gpl' rfl (by decide) rfl (fun q => by cases q) ?_
  refine w_aln rfl ?_
  refine w_aln rfl ?_
  refine w_gi gpl rfl (by decide) rfl (v := M.1 pl 5) ((hn_n (Or.inl p1)).trans (q0 5)) ?_
  refine w_pi gpl' rfl (by decide) rfl (fun q => by cases q) ?_
  refine w_aln rfl ?_
  refine w_aln rfl ?_
  refine w_gi gpl rfl (by decide) rfl (v := M.1 pl 6) ((hn_n (Or.inl p1)).trans ((hn_n (Or.inl p1)).trans (q0 6))) ?_
  refine w_pi gpl' rfl (by decide) rfl (fun q => by cases q) ?_
  refine w_aln rfl ?_
  refine w_aln rfl ?_
  refine w_gi gpl rfl (by decide) rfl (v := M.1 pl 7) ((hn_n (Or.inl p1)).trans ((hn_n (Or.inl p1)).trans ((hn_n (Or.inl p1)).trans (q0 7)))) ?_
  refine w_pi gpl' rfl (by decide) rfl (fun q => by cases q) ?_
  refine w_aln rfl ?_
  refine w_aln rfl ?_
  refine w_gi gpl rfl (by decide) rfl (v := M.1 pl 8) ((hn_n (Or.inl p1)).trans ((hn_n (Or.inl p1)).trans ((hn_n (Or.inl p1)).trans ((hn_n (Or.inl p1)).trans (q0 8))))) ?_
  refine w_pi gpl' rfl (by decide) rfl (fun q => by cases q) ?_
  refine w_aln rfl ?_
  refine w_aln rfl ?_
  refine w_gi gpl rfl (by decide) rfl (v := M.1 pl 9) ((hn_n (Or.inl p1)).trans ((hn_n (Or.inl p1)).trans ((hn_n (Or.inl p1)).trans ((hn_n (Or.inl p1)).trans ((hn_n (Or.inl p1)).trans (q0 9)))))) ?_
  refine w_pi gpl' rfl (by decide) rfl (fun q => by cases q) ?_
  have r1 : ∀ a, a ≠ pl' → (mj_p0 (mj_p0 (mj_p0 (mj_p0 (mj_p0 (mj_p0 (mj_cp0 M1 wa wa' 0 0 12) pl' 4 (M.1 pl 4)) pl' 5 (M.1 pl 5)) pl' 6 (M.1 pl 6)) pl' 7 (M.1 pl 7)) pl' 8 (M.1 pl 8)) pl' 9 (M.1 pl 9)).1 a = (mj_cp0 M1 wa wa' 0 0 12).1 a := fun a ha => (wz_c ha).trans ((wz_c ha).trans ((wz_c ha).trans ((wz_c ha).trans ((wz_c ha).trans (wz_c ha)))))
  refine w_ret (hQ _ ⟨fun k k1 k2 => ?_, fun k hk => ?_, fun t ht w hw => ?_, fun t ht w hw => ?_, fun w hw => ?_, fun s hs => ?_, e2, fun a ha => ?_, fun a n1 n2 n3 n4 => ?_⟩)
  · have : k = 4 ∨ k = 5 ∨ k = 6 ∨ k = 7 ∨ k = 8 ∨ k = 9 := by omega
    rcases this with rfl | rfl | rfl | rfl | rfl | rfl
    · exact (hn_n (Or.inr (by decide))).trans ((hn_n (Or.inr (by decide))).trans ((hn_n (Or.inr (by decide))).trans ((hn_n (Or.inr (by decide))).trans ((hn_n (Or.inr (by decide))).trans (hn_s)))))
    · exact (hn_n (Or.inr (by decide))).trans ((hn_n (Or.inr (by decide))).trans ((hn_n (Or.inr (by decide))).trans ((hn_n (Or.inr (by decide))).trans (hn_s))))
    · exact (hn_n (Or.inr (by decide))).trans ((hn_n (Or.inr (by decide))).trans ((hn_n (Or.inr (by decide))).trans (hn_s)))
    · exact (hn_n (Or.inr (by decide))).trans ((hn_n (Or.inr (by decide))).trans (hn_s))
    · exact (hn_n (Or.inr (by decide))).trans (hn_s)
    · exact hn_s
  · exact (hn_n (Or.inr (by omega))).trans ((hn_n (Or.inr (by omega))).trans ((hn_n (Or.inr (by omega))).trans ((hn_n (Or.inr (by omega))).trans ((hn_n (Or.inr (by omega))).trans ((hn_n (Or.inr (by omega))).trans ((congrFun (cp0_o (hn_ne gpl' gwa' (by decide))) k).trans (congrFun hpl' k)))))))
  · exact (congrFun (r1 _ (hn_ne (gtr' t ht) gpl' (by decide))) w).trans ((congrFun (cp0_o (hn_ne (gtr' t ht) gwa' (by decide))) w).trans ((hz t ht).1 w hw))
  · exact (congrFun (r1 _ (hn_ne (gbr' t ht) gpl' (by decide))) w).trans ((congrFun (cp0_o (hn_ne (gbr' t ht) gwa' (by decide))) w).trans ((hz t ht).2 w hw))
  · exact (congrFun (r1 _ (hn_ne gwa' gpl' (by decide))) w).trans ((cp0_i hw).trans (congrFun hwa w))
  · show M1.2.1 na' s = _
    rw [e1]; exact cp1_i hs
  · show M1.2.1 a = _
    rw [e1]; exact cp1_o ha
  · exact (r1 a n1).trans ((cp0_o n2).trans (e0' a n3 n4))
end CP
theorem lw_R2g {G : mj_G} {o o' t t' n : Nat} {f : Nat → Int} (ho : G o = (t, 0)) (ho' : G o' = (t', 0)) (h0 : t ≠ 0) (h1 : t ≠ 1) (h50 : t ≠ 50) (h0' : t' ≠ 0) (h1' : t' ≠ 1) (h50' : t' ≠ 50) : ab_RR (n, f, 2, lw_w2 o o') G [(t, 0), (t', 0)] := ⟨rfl, fun i q h => by
  cases i with
  | zero =>
    cases h
    exact Or.inr (Or.inr (Or.inr ⟨h0, h1, h50, o, rfl, ho⟩))
  | succ i => cases i with
    | zero =>
      cases h
      exact Or.inr (Or.inr (Or.inr ⟨h0', h1', h50', o', rfl, ho'⟩))
    | succ i => cases h⟩
/-- a contract of two objects that answers nothing -/
theorem lw_cc {c : ab_co} {t t' o o' dd : Nat} {G : mj_G} {M : mj_M} {Q : mj_P} (hok : ab_ok c) (hp : ab_p c = ([], [(t, 0), (t', 0)], [], [some (.inr (.inr 0)), some (.inr (.inr 1))])) (hd : ab_h c ≤ dd) (ho : G o = (t, 0)) (ho' : G o' = (t', 0)) (h0 : t ≠ 0) (h1 : t ≠ 1) (h50 : t ≠ 50) (h0' : t' ≠ 0) (h1' : t' ≠ 1) (h50' : t' ≠ 50) (hr : (ab_o c).all (fun po => po.1.isNone) = true) (hI : ab_Inv G M) (hQ : ∀ M', ab_Inv G M' → ab_frm (ab_w c) G M M' → Q none G M') : mj_R mj_tab (dd + 1) (ab_y c) [.inr (.inr (some o)), .inr (.inr (some o'))] G M Q := by
  refine hok dd hd G M (0, hn_g [], 2, lw_w2 o o') _ Q (by rw [hp]; exact hn_Y0) (by rw [hp]; exact lw_R2g ho ho' h0 h1 h50 h0' h1' h50') (by rw [hp]; exact fun e he => by cases he) (by rw [hp]; exact ⟨_, _, rfl, ⟨Nat.le_of_ble_eq_true rfl, rfl⟩, _, _, rfl, ⟨Nat.le_of_ble_eq_true rfl, rfl⟩, rfl⟩) hI (fun r M' i f ⟨po, hpo, h⟩ => ?_)
  have hn := List.all_eq_true.mp hr po hpo
  obtain ⟨p, ms⟩ := po
  cases p with
  | some p => cases hn
  | none =>
    have hr : r = none := h.1
    rw [hr]; exact hQ M' i f
