/-! ===== leaf methods of both sides: letters, digits, a byte of the tape (laid by a program) ===== -/
/-- a byte as a number from 0 to 255 -/
def rv_u8 (b : Int) : Int := (Int32.ofInt b &&& Int32.ofInt 255).toInt
theorem wz_sl {M : mj_M} {a k : Nat} {z : Int64} : (mj_p1 M a k z).2.1 a k = z := if_pos ⟨rfl, rfl⟩
theorem wz_nl {M : mj_M} {a k x j : Nat} {z : Int64} (h : x ≠ a ∨ j ≠ k) : (mj_p1 M a k z).2.1 x j = M.2.1 x j := if_neg (fun e => h.elim (fun q => q e.1) (fun q => q e.2))
theorem wz_sr {M : mj_M} {a k : Nat} {z : Option Nat} : (mj_p2 M a k z).2.2 a k = z := if_pos ⟨rfl, rfl⟩
theorem wz_nr {M : mj_M} {a k x j : Nat} {z : Option Nat} (h : x ≠ a ∨ j ≠ k) : (mj_p2 M a k z).2.2 x j = M.2.2 x j := if_neg (fun e => h.elim (fun q => q e.1) (fun q => q e.2))
theorem r_X7_isLetter {d : Nat} {v : Int} {G : mj_G} {M : mj_M} {Q : mj_P} (h1 : 97 ≤ v → v ≤ 122 → Q (some (.inl 1)) G M) (h0 : v < 97 ∨ 122 < v → Q (some (.inl 0)) G M) : mj_R mj_tab (d + 1) 74 [.inl v] G M Q := by
  refine ⟨Nat.le_of_ble_eq_true rfl, ?_⟩
  show wz d mt_X7_isLetter.2.2.2.2.1 Q mt_X7_isLetter.2.2.2.2.1 [some (.inl v)] [] G M _ _
  refine w_iln rfl ?_
  refine w_bp ?_
  refine w_cmlt (fun c1 => ?_) (fun c1 => ?_)
  · skip
    refine w_ic ?_
    exact w_iret (fun _ => Or.inl rfl) (h0 (by omega))
  · skip
    refine w_iln rfl ?_
    refine w_bp ?_
    refine w_cmgt (fun c2 => ?_) (fun c2 => ?_)
    · skip
      refine w_ic ?_
      exact w_iret (fun _ => Or.inl rfl) (h0 (by omega))
    · skip
      refine w_ic ?_
      refine w_goto ?_
      exact w_iret (fun _ => Or.inr rfl) (h1 (by omega) (by omega))
theorem r_X7_isDigit {d : Nat} {v : Int} {G : mj_G} {M : mj_M} {Q : mj_P} (h1 : 48 ≤ v → v ≤ 57 → Q (some (.inl 1)) G M) (h0 : v < 48 ∨ 57 < v → Q (some (.inl 0)) G M) : mj_R mj_tab (d + 1) 73 [.inl v] G M Q := by
  refine ⟨Nat.le_of_ble_eq_true rfl, ?_⟩
  show wz d mt_X7_isDigit.2.2.2.2.1 Q mt_X7_isDigit.2.2.2.2.1 [some (.inl v)] [] G M _ _
  refine w_iln rfl ?_
  refine w_bp ?_
  refine w_cmlt (fun c1 => ?_) (fun c1 => ?_)
  · skip
    refine w_ic ?_
    exact w_iret (fun _ => Or.inl rfl) (h0 (by omega))
  · skip
    refine w_iln rfl ?_
    refine w_bp ?_
    refine w_cmgt (fun c2 => ?_) (fun c2 => ?_)
    · skip
      refine w_ic ?_
      exact w_iret (fun _ => Or.inl rfl) (h0 (by omega))
    · skip
      refine w_ic ?_
      refine w_goto ?_
      exact w_iret (fun _ => Or.inr rfl) (h1 (by omega) (by omega))
theorem r_X12_isSmall {d : Nat} {v : Int} {G : mj_G} {M : mj_M} {Q : mj_P} (h1 : 97 ≤ v → v ≤ 122 → Q (some (.inl 1)) G M) (h0 : v < 97 ∨ 122 < v → Q (some (.inl 0)) G M) : mj_R mj_tab (d + 1) 204 [.inl v] G M Q := by
  refine ⟨Nat.le_of_ble_eq_true rfl, ?_⟩
  show wz d mt_X12_isSmall.2.2.2.2.1 Q mt_X12_isSmall.2.2.2.2.1 [some (.inl v)] [] G M _ _
  refine w_iln rfl ?_
  refine w_bp ?_
  refine w_cmlt (fun c1 => ?_) (fun c1 => ?_)
  · skip
    refine w_ic ?_
    exact w_iret (fun _ => Or.inl rfl) (h0 (by omega))
  · skip
    refine w_iln rfl ?_
    refine w_bp ?_
    refine w_cmgt (fun c2 => ?_) (fun c2 => ?_)
    · skip
      refine w_ic ?_
      exact w_iret (fun _ => Or.inl rfl) (h0 (by omega))
    · skip
      refine w_ic ?_
      refine w_goto ?_
      exact w_iret (fun _ => Or.inr rfl) (h1 (by omega) (by omega))
theorem r_X12_isDigit {d : Nat} {v : Int} {G : mj_G} {M : mj_M} {Q : mj_P} (h1 : 48 ≤ v → v ≤ 57 → Q (some (.inl 1)) G M) (h0 : v < 48 ∨ 57 < v → Q (some (.inl 0)) G M) : mj_R mj_tab (d + 1) 197 [.inl v] G M Q := by
  refine ⟨Nat.le_of_ble_eq_true rfl, ?_⟩
  show wz d mt_X12_isDigit.2.2.2.2.1 Q mt_X12_isDigit.2.2.2.2.1 [some (.inl v)] [] G M _ _
  refine w_iln rfl ?_
  refine w_bp ?_
  refine w_cmlt (fun c1 => ?_) (fun c1 => ?_)
  · skip
    refine w_ic ?_
    exact w_iret (fun _ => Or.inl rfl) (h0 (by omega))
  · skip
    refine w_iln rfl ?_
    refine w_bp ?_
    refine w_cmgt (fun c2 => ?_) (fun c2 => ?_)
    · skip
      refine w_ic ?_
      exact w_iret (fun _ => Or.inl rfl) (h0 (by omega))
    · skip
      refine w_ic ?_
      refine w_goto ?_
      exact w_iret (fun _ => Or.inr rfl) (h1 (by omega) (by omega))
theorem r_X7_valueAt {d : Nat} {tp bc n p : Nat} {B : Nat → Int} {G : mj_G} {M : mj_M} {Q : mj_P} (ht : G tp = (1008, 0)) (hb : G bc = (38101, 940)) (hn : n ≤ 940) (f0 : M.2.2 tp 0 = some bc) (fs : M.1 tp 1 = (n : Int)) (fb : ∀ k, rv_u8 (M.1 bc k) = B k) (h1 : p < n → Q (some (.inl (B p))) G M) (h0 : n ≤ p → Q (some (.inl (-1))) G M) : mj_R mj_tab (d + 1) 84 [.inr (.inr (some tp)), .inl (p : Int)] G M Q := by
  refine ⟨Nat.le_of_ble_eq_true rfl, ?_⟩
  show wz d mt_X7_valueAt.2.2.2.2.1 Q mt_X7_valueAt.2.2.2.2.1 [some (.inr (.inr (some tp))), some (.inl (p : Int))] [] G M _ _
  refine w_iln rfl ?_
  refine w_iflt (fun c1 => ?_) (fun c1 => ?_)
  · skip
    refine w_ic ?_
    exact w_iret (fun q => absurd q (by decide)) (h0 (by omega))
  · skip
    refine w_iln rfl ?_
    refine w_aln rfl ?_
    refine w_gi ht rfl (by decide) rfl (fs) ?_
    refine w_cmge (fun c2 => ?_) (fun c2 => ?_)
    · skip
      refine w_ic ?_
      exact w_iret (fun q => absurd q (by decide)) (h0 (by omega))
    · skip
      refine w_iln rfl ?_
      refine w_sp ?_
      refine w_cmge (fun c3 => ?_) (fun c3 => ?_)
      · skip
        refine w_ic ?_
        exact w_iret (fun q => absurd q (by decide)) (h0 (by omega))
      · skip
        refine w_aln rfl ?_
        refine w_gr ht rfl (by decide) rfl (f0) ?_
        refine w_iln rfl ?_
        refine w_bald hb rfl (by show (0 : Int) ≤ (p : Int); omega) (by show (p : Int) < ((940 : Nat) : Int); omega) (rfl) ?_
        refine w_sp ?_
        refine w_and ?_
        intro z4 hz4 ez4
        refine w_goto ?_
        have e9 : z4 = B p := ez4.trans (fb p)
        rw [e9]
        exact w_iret (fun q => absurd q (by decide)) (h1 (by omega))
theorem r_X12_peek {d : Nat} {m br n p : Nat} {B : Nat → Int} {G : mj_G} {M : mj_M} {Q : mj_P} (hm : G m = (1012, 0)) (hb : G br = (50101, 940)) (hn : n ≤ 940) (f1 : M.2.2 m 1 = some br) (fs : M.1 m 3 = (n : Int)) (fp : M.1 m 4 = (p : Int)) (fb : ∀ k, rv_u8 (M.1 br k) = B k) (h1 : p < n → Q (some (.inl (B p))) G M) (h0 : n ≤ p → Q (some (.inl (-1))) G M) : mj_R mj_tab (d + 1) 224 [.inr (.inr (some m))] G M Q := by
  refine ⟨Nat.le_of_ble_eq_true rfl, ?_⟩
  show wz d mt_X12_peek.2.2.2.2.1 Q mt_X12_peek.2.2.2.2.1 [some (.inr (.inr (some m)))] [] G M _ _
  refine w_aln rfl ?_
  refine w_gi hm rfl (by decide) rfl (fp) ?_
  refine w_aln rfl ?_
  refine w_gi hm rfl (by decide) rfl (fs) ?_
  refine w_cmge (fun c1 => ?_) (fun c1 => ?_)
  · skip
    refine w_ic ?_
    exact w_iret (fun q => absurd q (by decide)) (h0 (by omega))
  · skip
    refine w_aln rfl ?_
    refine w_gr hm rfl (by decide) rfl (f1) ?_
    refine w_aln rfl ?_
    refine w_gi hm rfl (by decide) rfl (fp) ?_
    refine w_bald hb rfl (by show (0 : Int) ≤ (p : Int); omega) (by show (p : Int) < ((940 : Nat) : Int); omega) (rfl) ?_
    refine w_sp ?_
    refine w_and ?_
    intro z2 hz2 ez2
    refine w_goto ?_
    have e9 : z2 = B p := ez2.trans (fb p)
    rw [e9]
    exact w_iret (fun q => absurd q (by decide)) (h1 (by omega))
/-- byte j of a number, the highest first -/
def rv_by (v : Int) (j : Nat) : Int := mj_nb ((((Int32.ofInt v).toUInt32 >>> ((Int32.ofInt (24 - 8 * j)).toUInt32 &&& Int32.toUInt32 31)).toInt32).toInt8.toInt32.toInt)
def rv_s7 (v s : Int) : Int := (((Int32.ofInt v).toUInt32 >>> ((Int32.ofInt s).toUInt32 &&& Int32.toUInt32 31)).toInt32).toInt
def rv_b7 (v : Int) (j : Nat) : Int := mj_nb ((Int32.ofInt (rv_s7 v (24 - 8 * (j : Int)))).toInt8.toInt32).toInt
theorem r_X7_put {d tp bc : Nat} {v n : Int} {G : mj_G} {M : mj_M} {Q : mj_P} (ho : G tp = (1008, 0)) (hb : G bc = (38101, 940)) (fa : M.2.2 tp 0 = some bc) (fn : M.1 tp 1 = n) (n0 : 0 ≤ n) (n9 : n + 4 ≤ 940) (hQ : ∀ M', M'.1 tp 1 = n + 4 → (∀ j, j < 4 → M'.1 bc (n.toNat + j) = rv_b7 v j) → (∀ a k, ¬ (a = tp ∧ k = 1) → ¬ (a = bc ∧ n.toNat ≤ k ∧ k < n.toNat + 4) → M'.1 a k = M.1 a k) → M'.2 = M.2 → Q none G M') : mj_R mj_tab (d + 1) 81 [.inr (.inr (some tp)), .inl v] G M Q := by
  have ne : tp ≠ bc := hn_ne ho hb (by decide)
  refine ⟨Nat.le_of_ble_eq_true rfl, ?_⟩
  show wz d mt_X7_put.2.2.2.2.1 Q mt_X7_put.2.2.2.2.1 [some (.inr (.inr (some tp))), some (.inl v), none] [] G M _ _
  refine w_bp ?_
  refine w_isn ?_
  refine w_iln rfl ?_
  refine w_iflt (fun c1 => ?_) (fun c1 => ?_)
  · exfalso; omega
  · skip
    refine w_aln rfl ?_
    refine w_gi ho rfl (by decide) rfl (fn) ?_
    refine w_sp ?_
    refine w_cmge (fun c2 => ?_) (fun c2 => ?_)
    · exfalso; omega
    · skip
      refine w_aln rfl ?_
      refine w_gr ho rfl (by decide) rfl (fa) ?_
      refine w_aln rfl ?_
      refine w_gi ho rfl (by decide) rfl (fn) ?_
      refine w_iln rfl ?_
      refine w_iln rfl ?_
      refine w_ushr ?_
      intro z3 hz3 ez3
      refine w_i2b ?_
      intro z4 hz4 ez4
      refine w_bast hb rfl (by decide) (by show (0 : Int) ≤ n; omega) (by show n < ((940 : Nat) : Int); omega) ?_
      refine w_aln rfl ?_
      refine w_dupr ?_
      refine w_gi ho rfl (by decide) rfl ((hn_n (Or.inl (hn_ne ho hb (by decide)))).trans (fn)) ?_
      refine w_ic ?_
      refine w_add ⟨by show (-2147483648 : Int) ≤ n + 1; omega, by show n + 1 < (2147483648 : Int); omega⟩ ?_
      refine w_pi ho rfl (by decide) rfl (fun q => by cases q) ?_
      refine w_ii rfl ⟨by show (-2147483648 : Int) ≤ 24 + (-8); omega, by show 24 + (-8) < (2147483648 : Int); omega⟩ ?_
      refine w_goto ?_
      refine w_iln rfl ?_
      refine w_iflt (fun c5 => ?_) (fun c5 => ?_)
      · exfalso; omega
      · skip
        refine w_aln rfl ?_
        refine w_gi ho rfl (by decide) rfl (hn_s) ?_
        refine w_sp ?_
        refine w_cmge (fun c6 => ?_) (fun c6 => ?_)
        · exfalso; omega
        · skip
          refine w_aln rfl ?_
          refine w_gr ho rfl (by decide) rfl (fa) ?_
          refine w_aln rfl ?_
          refine w_gi ho rfl (by decide) rfl (hn_s) ?_
          refine w_iln rfl ?_
          refine w_iln rfl ?_
          refine w_ushr ?_
          intro z7 hz7 ez7
          refine w_i2b ?_
          intro z8 hz8 ez8
          refine w_bast hb rfl (by decide) (by show (0 : Int) ≤ n + 1; omega) (by show n + 1 < ((940 : Nat) : Int); omega) ?_
          refine w_aln rfl ?_
          refine w_dupr ?_
          refine w_gi ho rfl (by decide) rfl ((hn_n (Or.inl (hn_ne ho hb (by decide)))).trans (hn_s)) ?_
          refine w_ic ?_
          refine w_add ⟨by show (-2147483648 : Int) ≤ (n + 1) + 1; omega, by show (n + 1) + 1 < (2147483648 : Int); omega⟩ ?_
          refine w_pi ho rfl (by decide) rfl (fun q => by cases q) ?_
          refine w_ii rfl ⟨by show (-2147483648 : Int) ≤ (24 + (-8)) + (-8); omega, by show (24 + (-8)) + (-8) < (2147483648 : Int); omega⟩ ?_
          refine w_goto ?_
          refine w_iln rfl ?_
          refine w_iflt (fun c9 => ?_) (fun c9 => ?_)
          · exfalso; omega
          · skip
            refine w_aln rfl ?_
            refine w_gi ho rfl (by decide) rfl (hn_s) ?_
            refine w_sp ?_
            refine w_cmge (fun c10 => ?_) (fun c10 => ?_)
            · exfalso; omega
            · skip
              refine w_aln rfl ?_
              refine w_gr ho rfl (by decide) rfl (fa) ?_
              refine w_aln rfl ?_
              refine w_gi ho rfl (by decide) rfl (hn_s) ?_
              refine w_iln rfl ?_
              refine w_iln rfl ?_
              refine w_ushr ?_
              intro z11 hz11 ez11
              refine w_i2b ?_
              intro z12 hz12 ez12
              refine w_bast hb rfl (by decide) (by show (0 : Int) ≤ (n + 1) + 1; omega) (by show (n + 1) + 1 < ((940 : Nat) : Int); omega) ?_
              refine w_aln rfl ?_
              refine w_dupr ?_
              refine w_gi ho rfl (by decide) rfl ((hn_n (Or.inl (hn_ne ho hb (by decide)))).trans (hn_s)) ?_
              refine w_ic ?_
              refine w_add ⟨by show (-2147483648 : Int) ≤ ((n + 1) + 1) + 1; omega, by show ((n + 1) + 1) + 1 < (2147483648 : Int); omega⟩ ?_
              refine w_pi ho rfl (by decide) rfl (fun q => by cases q) ?_
              refine w_ii rfl ⟨by show (-2147483648 : Int) ≤ ((24 + (-8)) + (-8)) + (-8); omega, by show ((24 + (-8)) + (-8)) + (-8) < (2147483648 : Int); omega⟩ ?_
              refine w_goto ?_
              refine w_iln rfl ?_
              refine w_iflt (fun c13 => ?_) (fun c13 => ?_)
              · exfalso; omega
              · skip
                refine w_aln rfl ?_
                refine w_gi ho rfl (by decide) rfl (hn_s) ?_
                refine w_sp ?_
                refine w_cmge (fun c14 => ?_) (fun c14 => ?_)
                · exfalso; omega
                · skip
                  refine w_aln rfl ?_
                  refine w_gr ho rfl (by decide) rfl (fa) ?_
                  refine w_aln rfl ?_
                  refine w_gi ho rfl (by decide) rfl (hn_s) ?_
                  refine w_iln rfl ?_
                  refine w_iln rfl ?_
                  refine w_ushr ?_
                  intro z15 hz15 ez15
                  refine w_i2b ?_
                  intro z16 hz16 ez16
                  refine w_bast hb rfl (by decide) (by show (0 : Int) ≤ ((n + 1) + 1) + 1; omega) (by show ((n + 1) + 1) + 1 < ((940 : Nat) : Int); omega) ?_
                  refine w_aln rfl ?_
                  refine w_dupr ?_
                  refine w_gi ho rfl (by decide) rfl ((hn_n (Or.inl (hn_ne ho hb (by decide)))).trans (hn_s)) ?_
                  refine w_ic ?_
                  refine w_add ⟨by show (-2147483648 : Int) ≤ (((n + 1) + 1) + 1) + 1; omega, by show (((n + 1) + 1) + 1) + 1 < (2147483648 : Int); omega⟩ ?_
                  refine w_pi ho rfl (by decide) rfl (fun q => by cases q) ?_
                  refine w_ii rfl ⟨by show (-2147483648 : Int) ≤ (((24 + (-8)) + (-8)) + (-8)) + (-8); omega, by show (((24 + (-8)) + (-8)) + (-8)) + (-8) < (2147483648 : Int); omega⟩ ?_
                  refine w_goto ?_
                  refine w_iln rfl ?_
                  refine w_iflt (fun c17 => ?_) (fun c17 => ?_)
                  · skip
                    refine w_ret (hQ _ ?_ ?_ ?_ rfl)
                    · exact hn_s.trans (by omega)
                    · intro j hj
                      have q : j = 0 ∨ j = 1 ∨ j = 2 ∨ j = 3 := by omega
                      have en := Ne.symm ne
                      rcases q with rfl | rfl | rfl | rfl
                      · have e0 : n.toNat + 0 = n.toNat := by omega
                        rw [e0]
                        refine (hn_n (Or.inl en)).trans <| (hn_n (Or.inr (by omega))).trans <| (hn_n (Or.inl en)).trans <| (hn_n (Or.inr (by omega))).trans <| (hn_n (Or.inl en)).trans <| (hn_n (Or.inr (by omega))).trans <| (hn_n (Or.inl en)).trans <| hn_s.trans ?_
                        rw [ez4, ez3]; rfl
                      · have e0 : n.toNat + 1 = (n + 1).toNat := by omega
                        rw [e0]
                        refine (hn_n (Or.inl en)).trans <| (hn_n (Or.inr (by omega))).trans <| (hn_n (Or.inl en)).trans <| (hn_n (Or.inr (by omega))).trans <| (hn_n (Or.inl en)).trans <| hn_s.trans ?_
                        rw [ez8, ez7]; rfl
                      · have e0 : n.toNat + 2 = (n + 1 + 1).toNat := by omega
                        rw [e0]
                        refine (hn_n (Or.inl en)).trans <| (hn_n (Or.inr (by omega))).trans <| (hn_n (Or.inl en)).trans <| hn_s.trans ?_
                        rw [ez12, ez11]; rfl
                      · have e0 : n.toNat + 3 = (n + 1 + 1 + 1).toNat := by omega
                        rw [e0]
                        refine (hn_n (Or.inl en)).trans <| hn_s.trans ?_
                        rw [ez16, ez15]; rfl
                    · intro a k h1 h2
                      have u1 : ∀ {M : mj_M} {z : Int}, (mj_p0 M tp 1 z).1 a k = M.1 a k := hn_n (Decidable.not_and_iff_or_not.mp h1)
                      have u2 : ∀ {M : mj_M} {q : Nat} {z : Int}, n.toNat ≤ q → q < n.toNat + 4 → (mj_p0 M bc q z).1 a k = M.1 a k := fun {M q z} g1 g2 => hn_n (Decidable.not_and_iff_or_not.mp (fun e => h2 ⟨e.1, by omega, by omega⟩))
                      exact u1.trans <| (u2 (by omega) (by omega)).trans <| u1.trans <| (u2 (by omega) (by omega)).trans <| u1.trans <| (u2 (by omega) (by omega)).trans <| u1.trans (u2 (by omega) (by omega))
                  · exfalso; omega
def rv_s12 (v s : Int) : Int := (Int32.ofInt v >>> (Int32.ofInt s &&& 31)).toInt
def rv_b12 (v : Int) (j : Nat) : Int := mj_nb ((Int32.ofInt (rv_s12 v (24 - 8 * (j : Int)))).toInt8.toInt32).toInt
theorem r_X12_four {d m br : Nat} {v n : Int} {G : mj_G} {M : mj_M} {Q : mj_P} (ho : G m = (1012, 0)) (hb : G br = (50101, 940)) (fa : M.2.2 m 1 = some br) (fn : M.1 m 2 = n) (n0 : 0 ≤ n) (n9 : n + 4 ≤ 940) (hQ : ∀ M', M'.1 m 2 = n + 4 → (∀ j, j < 4 → M'.1 br (n.toNat + j) = rv_b12 v j) → (∀ a k, ¬ (a = m ∧ k = 2) → ¬ (a = br ∧ n.toNat ≤ k ∧ k < n.toNat + 4) → M'.1 a k = M.1 a k) → M'.2 = M.2 → Q none G M') : mj_R mj_tab (d + 1) 190 [.inr (.inr (some m)), .inl v] G M Q := by
  have ne : m ≠ br := hn_ne ho hb (by decide)
  refine ⟨Nat.le_of_ble_eq_true rfl, ?_⟩
  show wz d mt_X12_four.2.2.2.2.1 Q mt_X12_four.2.2.2.2.1 [some (.inr (.inr (some m))), some (.inl v), none] [] G M _ _
  refine w_bp ?_
  refine w_isn ?_
  refine w_iln rfl ?_
  refine w_iflt (fun c1 => ?_) (fun c1 => ?_)
  · exfalso; omega
  · skip
    refine w_aln rfl ?_
    refine w_gr ho rfl (by decide) rfl (fa) ?_
    refine w_aln rfl ?_
    refine w_gi ho rfl (by decide) rfl (fn) ?_
    refine w_iln rfl ?_
    refine w_iln rfl ?_
    refine w_shr ?_
    intro z2 hz2 ez2
    refine w_i2b ?_
    intro z3 hz3 ez3
    refine w_bast hb rfl (by decide) (by show (0 : Int) ≤ n; omega) (by show n < ((940 : Nat) : Int); omega) ?_
    refine w_aln rfl ?_
    refine w_dupr ?_
    refine w_gi ho rfl (by decide) rfl ((hn_n (Or.inl (hn_ne ho hb (by decide)))).trans (fn)) ?_
    refine w_ic ?_
    refine w_add ⟨by show (-2147483648 : Int) ≤ n + 1; omega, by show n + 1 < (2147483648 : Int); omega⟩ ?_
    refine w_pi ho rfl (by decide) rfl (fun q => by cases q) ?_
    refine w_ii rfl ⟨by show (-2147483648 : Int) ≤ 24 + (-8); omega, by show 24 + (-8) < (2147483648 : Int); omega⟩ ?_
    refine w_goto ?_
    refine w_iln rfl ?_
    refine w_iflt (fun c4 => ?_) (fun c4 => ?_)
    · exfalso; omega
    · skip
      refine w_aln rfl ?_
      refine w_gr ho rfl (by decide) rfl (fa) ?_
      refine w_aln rfl ?_
      refine w_gi ho rfl (by decide) rfl (hn_s) ?_
      refine w_iln rfl ?_
      refine w_iln rfl ?_
      refine w_shr ?_
      intro z5 hz5 ez5
      refine w_i2b ?_
      intro z6 hz6 ez6
      refine w_bast hb rfl (by decide) (by show (0 : Int) ≤ n + 1; omega) (by show n + 1 < ((940 : Nat) : Int); omega) ?_
      refine w_aln rfl ?_
      refine w_dupr ?_
      refine w_gi ho rfl (by decide) rfl ((hn_n (Or.inl (hn_ne ho hb (by decide)))).trans (hn_s)) ?_
      refine w_ic ?_
      refine w_add ⟨by show (-2147483648 : Int) ≤ (n + 1) + 1; omega, by show (n + 1) + 1 < (2147483648 : Int); omega⟩ ?_
      refine w_pi ho rfl (by decide) rfl (fun q => by cases q) ?_
      refine w_ii rfl ⟨by show (-2147483648 : Int) ≤ (24 + (-8)) + (-8); omega, by show (24 + (-8)) + (-8) < (2147483648 : Int); omega⟩ ?_
      refine w_goto ?_
      refine w_iln rfl ?_
      refine w_iflt (fun c7 => ?_) (fun c7 => ?_)
      · exfalso; omega
      · skip
        refine w_aln rfl ?_
        refine w_gr ho rfl (by decide) rfl (fa) ?_
        refine w_aln rfl ?_
        refine w_gi ho rfl (by decide) rfl (hn_s) ?_
        refine w_iln rfl ?_
        refine w_iln rfl ?_
        refine w_shr ?_
        intro z8 hz8 ez8
        refine w_i2b ?_
        intro z9 hz9 ez9
        refine w_bast hb rfl (by decide) (by show (0 : Int) ≤ (n + 1) + 1; omega) (by show (n + 1) + 1 < ((940 : Nat) : Int); omega) ?_
        refine w_aln rfl ?_
        refine w_dupr ?_
        refine w_gi ho rfl (by decide) rfl ((hn_n (Or.inl (hn_ne ho hb (by decide)))).trans (hn_s)) ?_
        refine w_ic ?_
        refine w_add ⟨by show (-2147483648 : Int) ≤ ((n + 1) + 1) + 1; omega, by show ((n + 1) + 1) + 1 < (2147483648 : Int); omega⟩ ?_
        refine w_pi ho rfl (by decide) rfl (fun q => by cases q) ?_
        refine w_ii rfl ⟨by show (-2147483648 : Int) ≤ ((24 + (-8)) + (-8)) + (-8); omega, by show ((24 + (-8)) + (-8)) + (-8) < (2147483648 : Int); omega⟩ ?_
        refine w_goto ?_
        refine w_iln rfl ?_
        refine w_iflt (fun c10 => ?_) (fun c10 => ?_)
        · exfalso; omega
        · skip
          refine w_aln rfl ?_
          refine w_gr ho rfl (by decide) rfl (fa) ?_
          refine w_aln rfl ?_
          refine w_gi ho rfl (by decide) rfl (hn_s) ?_
          refine w_iln rfl ?_
          refine w_iln rfl ?_
          refine w_shr ?_
          intro z11 hz11 ez11
          refine w_i2b ?_
          intro z12 hz12 ez12
          refine w_bast hb rfl (by decide) (by show (0 : Int) ≤ ((n + 1) + 1) + 1; omega) (by show ((n + 1) + 1) + 1 < ((940 : Nat) : Int); omega) ?_
          refine w_aln rfl ?_
          refine w_dupr ?_
          refine w_gi ho rfl (by decide) rfl ((hn_n (Or.inl (hn_ne ho hb (by decide)))).trans (hn_s)) ?_
          refine w_ic ?_
          refine w_add ⟨by show (-2147483648 : Int) ≤ (((n + 1) + 1) + 1) + 1; omega, by show (((n + 1) + 1) + 1) + 1 < (2147483648 : Int); omega⟩ ?_
          refine w_pi ho rfl (by decide) rfl (fun q => by cases q) ?_
          refine w_ii rfl ⟨by show (-2147483648 : Int) ≤ (((24 + (-8)) + (-8)) + (-8)) + (-8); omega, by show (((24 + (-8)) + (-8)) + (-8)) + (-8) < (2147483648 : Int); omega⟩ ?_
          refine w_goto ?_
          refine w_iln rfl ?_
          refine w_iflt (fun c13 => ?_) (fun c13 => ?_)
          · skip
            refine w_ret (hQ _ ?_ ?_ ?_ rfl)
            · exact hn_s.trans (by omega)
            · intro j hj
              have q : j = 0 ∨ j = 1 ∨ j = 2 ∨ j = 3 := by omega
              have en := Ne.symm ne
              rcases q with rfl | rfl | rfl | rfl
              · have e0 : n.toNat + 0 = n.toNat := by omega
                rw [e0]
                refine (hn_n (Or.inl en)).trans <| (hn_n (Or.inr (by omega))).trans <| (hn_n (Or.inl en)).trans <| (hn_n (Or.inr (by omega))).trans <| (hn_n (Or.inl en)).trans <| (hn_n (Or.inr (by omega))).trans <| (hn_n (Or.inl en)).trans <| hn_s.trans ?_
                rw [ez3, ez2]; rfl
              · have e0 : n.toNat + 1 = (n + 1).toNat := by omega
                rw [e0]
                refine (hn_n (Or.inl en)).trans <| (hn_n (Or.inr (by omega))).trans <| (hn_n (Or.inl en)).trans <| (hn_n (Or.inr (by omega))).trans <| (hn_n (Or.inl en)).trans <| hn_s.trans ?_
                rw [ez6, ez5]; rfl
              · have e0 : n.toNat + 2 = (n + 1 + 1).toNat := by omega
                rw [e0]
                refine (hn_n (Or.inl en)).trans <| (hn_n (Or.inr (by omega))).trans <| (hn_n (Or.inl en)).trans <| hn_s.trans ?_
                rw [ez9, ez8]; rfl
              · have e0 : n.toNat + 3 = (n + 1 + 1 + 1).toNat := by omega
                rw [e0]
                refine (hn_n (Or.inl en)).trans <| hn_s.trans ?_
                rw [ez12, ez11]; rfl
            · intro a k h1 h2
              have u1 : ∀ {M : mj_M} {z : Int}, (mj_p0 M m 2 z).1 a k = M.1 a k := hn_n (Decidable.not_and_iff_or_not.mp h1)
              have u2 : ∀ {M : mj_M} {q : Nat} {z : Int}, n.toNat ≤ q → q < n.toNat + 4 → (mj_p0 M br q z).1 a k = M.1 a k := fun {M q z} g1 g2 => hn_n (Decidable.not_and_iff_or_not.mp (fun e => h2 ⟨e.1, by omega, by omega⟩))
              exact u1.trans <| (u2 (by omega) (by omega)).trans <| u1.trans <| (u2 (by omega) (by omega)).trans <| u1.trans <| (u2 (by omega) (by omega)).trans <| u1.trans (u2 (by omega) (by omega))
          · exfalso; omega
