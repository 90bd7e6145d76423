section
/-! ===== YEARS now and of the images: their cells; a YEAR copied (laid by a program) ===== -/
def yw_Y : List Nat := [61, 278, 323]
def lq_yi (k : Nat) : Nat := if k = 0 then 278 else 323
theorem lq_yi_in (k : Nat) : lq_yi k ∈ yw_Y ∧ lq_yi k ≠ 61 := by unfold lq_yi; split <;> exact ⟨by decide, by decide⟩
theorem yw_Y3 {Y : Nat} (h : Y ∈ yw_Y) : Y = 61 ∨ Y = 278 ∨ Y = 323 := by
  rcases List.mem_cons.mp h with h | h
  · exact Or.inl h
  · rcases List.mem_cons.mp h with h | h
    · exact Or.inr (Or.inl h)
    · rcases List.mem_cons.mp h with h | h
      · exact Or.inr (Or.inr h)
      · cases h
def lq_WA (G : mj_G) (w : Nat → Nat) : Prop := ∀ Y, Y ∈ yw_Y → G (w Y) = (1010, 0) ∧ G (w (Y + 1)) = (42100, 12) ∧ G (w (Y + 2)) = (43100, 12) ∧ G (w (Y + 3)) = (44100, 12) ∧ G (w (Y + 4)) = (45104, 8) ∧ ∀ t, t < 8 → G (w (Y + 5 + t)) = (46100, 11)
def lq_WB (M : mj_M) (w : Nat → Nat) : Prop := (∀ Y, Y ∈ yw_Y → M.2.2 (w Y) 3 = some (w (Y + 1)) ∧ M.2.2 (w Y) 4 = some (w (Y + 2)) ∧ M.2.2 (w Y) 5 = some (w (Y + 3)) ∧ M.2.2 (w Y) 6 = some (w (Y + 4)) ∧ ∀ t, t < 8 → M.2.2 (w (Y + 4)) t = some (w (Y + 5 + t))) ∧ M.2.2 (w 29) 3 = some (w 61) ∧ (∀ k, k < 2 → M.2.2 (w (lq_sk k)) 3 = some (w (lq_yi k)))
def ye_u1 : Nat → Nat := fun i => if i = 0 then 1010 else if i = 1 then 42100 else if i = 2 then 43100 else if i = 3 then 44100 else if i = 4 then 45104 else 46100
theorem ye_u1_U : ye_U ye_u1 := by
  refine ⟨by decide, rfl, rfl, rfl, rfl, rfl, rfl, ?_, by decide⟩
  have h : ∀ i, i < 6 → ∀ j, j < 6 → ye_u1 i = ye_u1 j → i = j := by decide
  exact fun i j hi hj => h i hi j hj
def ye_tg (t : Nat) : Prop := t = 1010 ∨ t = 42100 ∨ t = 43100 ∨ t = 44100 ∨ t = 45104 ∨ t = 46100 ∨ t = 48102
/-- the YEAR's cells at Y: 13 of them -/
abbrev yw_ne (w : Nat → Nat) (Y a : Nat) : Prop := ∀ v, v < 13 → a ≠ w (Y + v)
/-- the cells of the YEAR at Y hold F (ints), A, B, C, R -/
def yk_S (w : Nat → Nat) (Y : Nat) (M0 : mj_M) (F A B C : Nat → Int) (R : Nat → Nat → Int) (M : mj_M) : Prop := M.2 = M0.2 ∧ (∀ a, yw_ne w Y a → M.1 a = M0.1 a) ∧ (∀ f, f < 15 → M.1 (w Y) f = F f) ∧ (∀ j, j < 12 → M.1 (w (Y + 1)) j = A j) ∧ (∀ j, j < 12 → M.1 (w (Y + 2)) j = B j) ∧ (∀ j, j < 12 → M.1 (w (Y + 3)) j = C j) ∧ (∀ t u, t < 8 → u < 11 → M.1 (w (Y + 5 + t)) u = R t u)
section YK2
variable {G : mj_G} {M M0 : mj_M} {w : Nat → Nat} {Y X x : Nat} {F A B C A' : Nat → Int} {R : Nat → Nat → Int} {a b k t f j : Nat} {v : Int}
theorem yw_w (hA : lq_A G w) (hY : Y ∈ yw_Y) (hX : X ∈ yw_Y) {i j : Nat} (hi : i < 13) (hj : j < 13) (h : Y ≠ X ∨ i ≠ j) : w (Y + i) ≠ w (X + j) := fun e => by
  rcases yw_Y3 hY with rfl | rfl | rfl <;> rcases yw_Y3 hX with rfl | rfl | rfl <;> (have q := hA.1 _ _ (by omega) (by omega) e; omega)
theorem yk_S.rf (h : yk_S w Y M0 F A B C R M) (e : M0.2.2 a k = some b) : M.2.2 a k = some b := by rw [h.1]; exact e
theorem yk_S.o (h : yk_S w Y M0 F A B C R M) (hA : lq_A G w) (hY : Y ∈ yw_Y) (hX : X ∈ yw_Y) (n : X ≠ Y) {i : Nat} (hi : i < 13) : M.1 (w (X + i)) = M0.1 (w (X + i)) := h.2.1 _ (fun v hv => yw_w hA hX hY hi hv (Or.inl n))
theorem yk_S.pf (h : yk_S w Y M0 F A B C R M) (hA : lq_A G w) (hY : Y ∈ yw_Y) : yk_S w Y M0 (rv_up F f v) A B C R (mj_p0 M (w Y) f v) := by
  have n : ∀ i, 0 < i → i < 13 → w (Y + i) ≠ w Y := fun i h0 hi => yw_w (j := 0) hA hY hY hi (by decide) (Or.inr (by omega))
  exact ⟨h.1, fun a ha => (wz_c (ha 0 (by decide))).trans (h.2.1 a ha), cp_up h.2.2.1, fun j hj => (congrFun (wz_c (n 1 (by decide) (by decide))) j).trans (h.2.2.2.1 j hj), fun j hj => (congrFun (wz_c (n 2 (by decide) (by decide))) j).trans (h.2.2.2.2.1 j hj), fun j hj => (congrFun (wz_c (n 3 (by decide) (by decide))) j).trans (h.2.2.2.2.2.1 j hj), fun t u ht hu => (congrFun (wz_c (by rw [Nat.add_assoc]; exact n (5 + t) (by omega) (by omega))) u).trans (h.2.2.2.2.2.2 t u ht hu)⟩
theorem yk_S.cA (h : yk_S w Y M0 F A B C R M) (hA : lq_A G w) (hY : Y ∈ yw_Y) (hs : ∀ j, j < 12 → M.1 a j = A' j) : yk_S w Y M0 F A' B C R (mj_cp0 M a (w (Y + 1)) 0 0 12) := by
  have n : ∀ i, i ≠ 1 → i < 13 → w (Y + i) ≠ w (Y + 1) := fun i h0 hi => yw_w hA hY hY hi (by decide) (Or.inr h0)
  exact ⟨h.1, fun a ha => (cp0_o (ha 1 (by decide))).trans (h.2.1 a ha), fun f hf => (congrFun (cp0_o (n 0 (by decide) (by decide))) f).trans (h.2.2.1 f hf), fun j hj => (cp0_i hj).trans (hs j hj), fun j hj => (congrFun (cp0_o (n 2 (by decide) (by decide))) j).trans (h.2.2.2.2.1 j hj), fun j hj => (congrFun (cp0_o (n 3 (by decide) (by decide))) j).trans (h.2.2.2.2.2.1 j hj), fun t u ht hu => (congrFun (cp0_o (by rw [Nat.add_assoc]; exact n (5 + t) (by omega) (by omega))) u).trans (h.2.2.2.2.2.2 t u ht hu)⟩
theorem yk_S.cB (h : yk_S w Y M0 F A B C R M) (hA : lq_A G w) (hY : Y ∈ yw_Y) (hs : ∀ j, j < 12 → M.1 a j = A' j) : yk_S w Y M0 F A A' C R (mj_cp0 M a (w (Y + 2)) 0 0 12) := by
  have n : ∀ i, i ≠ 2 → i < 13 → w (Y + i) ≠ w (Y + 2) := fun i h0 hi => yw_w hA hY hY hi (by decide) (Or.inr h0)
  exact ⟨h.1, fun a ha => (cp0_o (ha 2 (by decide))).trans (h.2.1 a ha), fun f hf => (congrFun (cp0_o (n 0 (by decide) (by decide))) f).trans (h.2.2.1 f hf), fun j hj => (congrFun (cp0_o (n 1 (by decide) (by decide))) j).trans (h.2.2.2.1 j hj), fun j hj => (cp0_i hj).trans (hs j hj), fun j hj => (congrFun (cp0_o (n 3 (by decide) (by decide))) j).trans (h.2.2.2.2.2.1 j hj), fun t u ht hu => (congrFun (cp0_o (by rw [Nat.add_assoc]; exact n (5 + t) (by omega) (by omega))) u).trans (h.2.2.2.2.2.2 t u ht hu)⟩
theorem yk_S.cC (h : yk_S w Y M0 F A B C R M) (hA : lq_A G w) (hY : Y ∈ yw_Y) (hs : ∀ j, j < 12 → M.1 a j = A' j) : yk_S w Y M0 F A B A' R (mj_cp0 M a (w (Y + 3)) 0 0 12) := by
  have n : ∀ i, i ≠ 3 → i < 13 → w (Y + i) ≠ w (Y + 3) := fun i h0 hi => yw_w hA hY hY hi (by decide) (Or.inr h0)
  exact ⟨h.1, fun a ha => (cp0_o (ha 3 (by decide))).trans (h.2.1 a ha), fun f hf => (congrFun (cp0_o (n 0 (by decide) (by decide))) f).trans (h.2.2.1 f hf), fun j hj => (congrFun (cp0_o (n 1 (by decide) (by decide))) j).trans (h.2.2.2.1 j hj), fun j hj => (congrFun (cp0_o (n 2 (by decide) (by decide))) j).trans (h.2.2.2.2.1 j hj), fun j hj => (cp0_i hj).trans (hs j hj), fun t u ht hu => (congrFun (cp0_o (by rw [Nat.add_assoc]; exact n (5 + t) (by omega) (by omega))) u).trans (h.2.2.2.2.2.2 t u ht hu)⟩
theorem yk_S.cR (h : yk_S w Y M0 F A B C R M) (hA : lq_A G w) (hY : Y ∈ yw_Y) (ht : t < 8) {r : Nat → Int} (hs : ∀ j, j < 11 → M.1 a j = r j) : yk_S w Y M0 F A B C (ye_ru R t r) (mj_cp0 M a (w (Y + 5 + t)) 0 0 11) := by
  have n : ∀ i, i ≠ 5 + t → i < 13 → w (Y + i) ≠ w (Y + 5 + t) := fun i h0 hi => by rw [Nat.add_assoc]; exact yw_w hA hY hY hi (by omega) (Or.inr h0)
  refine ⟨h.1, fun a ha => (cp0_o (by rw [Nat.add_assoc]; exact ha (5 + t) (by omega))).trans (h.2.1 a ha), fun f hf => (congrFun (cp0_o (n 0 (by omega) (by decide))) f).trans (h.2.2.1 f hf), fun j hj => (congrFun (cp0_o (n 1 (by omega) (by decide))) j).trans (h.2.2.2.1 j hj), fun j hj => (congrFun (cp0_o (n 2 (by omega) (by decide))) j).trans (h.2.2.2.2.1 j hj), fun j hj => (congrFun (cp0_o (n 3 (by omega) (by decide))) j).trans (h.2.2.2.2.2.1 j hj), fun s u hs2 hu => ?_⟩
  by_cases c : s = t
  · subst c
    rw [ye_ru_s]; exact (cp0_i hu).trans (hs u hu)
  · rw [ye_ru_n c]
    exact (congrFun (cp0_o (by have q := n (5 + s) (by omega) (by omega); rw [← Nat.add_assoc] at q; exact q)) u).trans (h.2.2.2.2.2.2 s u hs2 hu)
theorem yk_S.re : yk_S w Y M (M.1 (w Y)) (M.1 (w (Y + 1))) (M.1 (w (Y + 2))) (M.1 (w (Y + 3))) (fun t => M.1 (w (Y + 5 + t))) M := ⟨rfl, fun _ _ => rfl, fun _ _ => rfl, fun _ _ => rfl, fun _ _ => rfl, fun _ _ => rfl, fun _ _ _ _ => rfl⟩
/-- the YEAR at Y is as that at X was -/
def yk_cp (w : Nat → Nat) (Y X : Nat) (M M' : mj_M) : Prop := M'.2 = M.2 ∧ (∀ a, yw_ne w Y a → M'.1 a = M.1 a) ∧ (∀ f, f < 15 → f < 3 ∨ 7 ≤ f → M'.1 (w Y) f = M.1 (w X) f) ∧ (∀ v, v < 3 → ∀ j, j < 12 → M'.1 (w (Y + (1 + v))) j = M.1 (w (X + (1 + v))) j) ∧ (∀ t u, t < 8 → u < 11 → M'.1 (w (Y + 5 + t)) u = M.1 (w (X + 5 + t)) u)
end YK2
theorem r_cpY {G : mj_G} {M : mj_M} {w : Nat → Nat} {Y X : Nat} {Q : mj_P} {d : Nat} (hA : lq_A G w) (gA : lq_WA G w) (rB : ∀ Z, Z ∈ yw_Y → M.2.2 (w Z) 3 = some (w (Z + 1)) ∧ M.2.2 (w Z) 4 = some (w (Z + 2)) ∧ M.2.2 (w Z) 5 = some (w (Z + 3)) ∧ M.2.2 (w Z) 6 = some (w (Z + 4)) ∧ ∀ t, t < 8 → M.2.2 (w (Z + 4)) t = some (w (Z + 5 + t))) (hY : Y ∈ yw_Y) (hX : X ∈ yw_Y) (nXY : X ≠ Y) {F A B C : Nat → Int} : ∀ (n : Nat) (i : Int) (R : Nat → Nat → Int) (M1 : mj_M) (cb sb : Nat), i + n = 8 → 0 ≤ i → yk_S w Y M F A B C R M1 → (∀ t : Nat, t < 8 → (t : Int) < i → R t = M.1 (w (X + 5 + t))) → (∀ R M1, yk_S w Y M F A B C R M1 → (∀ t, t < 8 → R t = M.1 (w (X + 5 + t))) → wz d mt_X10_copy.2.2.2.2.1 Q (mt_X10_copy.2.2.2.2.1.drop 55) [some (.inr (.inr (some (w Y)))), some (.inr (.inr (some (w X)))), some (.inl 8)] [] G M1 cb sb) → wz d mt_X10_copy.2.2.2.2.1 Q (mt_X10_copy.2.2.2.2.1.drop 38) [some (.inr (.inr (some (w Y)))), some (.inr (.inr (some (w X)))), some (.inl i)] [] G M1 cb sb := by
  intro n
  induction n with
  | zero =>
    intro i R M1 cb sb e i0 hC hz h
    obtain rfl : i = 8 := by omega
    refine w_iln rfl ?_
    refine w_bp ?_
    refine w_cmge (fun c1 => ?_) (fun c1 => ?_)
    · skip
      exact h _ _ hC (fun t ht => hz t ht (by omega))
    · exfalso; omega
  | succ n ih =>
    intro i R M1 cb sb e i0 hC hz h
    refine w_iln rfl ?_
    refine w_bp ?_
    refine w_cmge (fun c1 => ?_) (fun c1 => ?_)
    · exfalso; omega
    · skip
      refine w_aln rfl ?_
      refine w_gr ((gA X hX).1) rfl (by decide) rfl (hC.rf (rB X hX).2.2.2.1) ?_
      refine w_iln rfl ?_
      refine w_aald ((gA X hX).2.2.2.2.1) rfl (by show (0 : Int) ≤ i; omega) (by show i < ((8 : Nat) : Int); omega) (hC.rf ((rB X hX).2.2.2.2 _ (by show i.toNat < 8; omega))) ?_
      refine w_ic ?_
      refine w_aln rfl ?_
      refine w_gr ((gA Y hY).1) rfl (by decide) rfl (hC.rf (rB Y hY).2.2.2.1) ?_
      refine w_iln rfl ?_
      refine w_aald ((gA Y hY).2.2.2.2.1) rfl (by show (0 : Int) ≤ i; omega) (by show i < ((8 : Nat) : Int); omega) (hC.rf ((rB Y hY).2.2.2.2 _ (by show i.toNat < 8; omega))) ?_
      refine w_ic ?_
      refine w_bp ?_
      refine w_cp0 ((gA X hX).2.2.2.2.2 _ (by show i.toNat < 8; omega)) rfl ((gA Y hY).2.2.2.2.2 _ (by show i.toNat < 8; omega)) rfl (by decide) (by decide) (by decide) (by decide) (by decide) (by decide) (Nat.le_of_ble_eq_true rfl) ?_
      have hC2 := hC.cR (a := w (X + 5 + i.toNat)) (t := i.toNat) (r := M.1 (w (X + 5 + i.toNat))) hA hY (by omega) (fun j _ => congrFun (by rw [Nat.add_assoc]; exact hC.o (i := 5 + i.toNat) hA hY hX nXY (by omega)) j)
      refine w_ii rfl ⟨by show (-2147483648 : Int) ≤ i + 1; omega, by show i + 1 < (2147483648 : Int); omega⟩ ?_
      show wz _ _ _ _ [some (.inr (.inr (some (w Y)))), some (.inr (.inr (some (w X)))), some (.inl (i + 1))] _ _ _ _ _
      refine w_goto ?_
      refine ih (i + 1) _ _ _ _ (by omega) (by omega) hC2 (fun t ht hti => ?_) h
      by_cases c : t = i.toNat
      · rw [c, ye_ru_s]
      · rw [ye_ru_n c]; exact hz t ht (by omega)
theorem r_X10_copyC {G : mj_G} {M : mj_M} {w : Nat → Nat} {Y X : Nat} {Q : mj_P} {d : Nat} (hA : lq_A G w) (gA : lq_WA G w) (rB : ∀ Z, Z ∈ yw_Y → M.2.2 (w Z) 3 = some (w (Z + 1)) ∧ M.2.2 (w Z) 4 = some (w (Z + 2)) ∧ M.2.2 (w Z) 5 = some (w (Z + 3)) ∧ M.2.2 (w Z) 6 = some (w (Z + 4)) ∧ ∀ t, t < 8 → M.2.2 (w (Z + 4)) t = some (w (Z + 5 + t))) (hY : Y ∈ yw_Y) (hX : X ∈ yw_Y) (nXY : X ≠ Y) (hb : M.1 (w X) 0 = 0 ∨ M.1 (w X) 0 = 1) (h : ∀ M1, yk_cp w Y X M M1 → Q none G M1) : mj_R mj_tab (d + 1) 90 [.inr (.inr (some (w Y))), .inr (.inr (some (w X)))] G M Q := by
  refine ⟨Nat.le_of_ble_eq_true rfl, ?_⟩
  show wz d mt_X10_copy.2.2.2.2.1 _ mt_X10_copy.2.2.2.2.1 [some (.inr (.inr (some (w Y)))), some (.inr (.inr (some (w X)))), none] [] G M _ _
  have hC : yk_S w Y M (M.1 (w Y)) (M.1 (w (Y + 1))) (M.1 (w (Y + 2))) (M.1 (w (Y + 3))) (fun t => M.1 (w (Y + 5 + t))) M := yk_S.re
  refine w_aln rfl ?_
  refine w_aln rfl ?_
  refine w_gi ((gA X hX).1) rfl (by decide) rfl (congrFun (show _ = M.1 (w X) from hC.o (i := 0) hA hY hX nXY (by decide)) 0) ?_
  refine w_pi ((gA Y hY).1) rfl (by decide) rfl (fun _ => by omega) ?_
  have hC1 := hC.pf (f := 0) (v := (M.1 (w X) 0)) hA hY
  refine w_aln rfl ?_
  refine w_aln rfl ?_
  refine w_gi ((gA X hX).1) rfl (by decide) rfl (congrFun (show _ = M.1 (w X) from hC1.o (i := 0) hA hY hX nXY (by decide)) 1) ?_
  refine w_pi ((gA Y hY).1) rfl (by decide) rfl (fun q => by cases q) ?_
  have hC2 := hC1.pf (f := 1) (v := (M.1 (w X) 1)) hA hY
  refine w_aln rfl ?_
  refine w_aln rfl ?_
  refine w_gi ((gA X hX).1) rfl (by decide) rfl (congrFun (show _ = M.1 (w X) from hC2.o (i := 0) hA hY hX nXY (by decide)) 2) ?_
  refine w_pi ((gA Y hY).1) rfl (by decide) rfl (fun q => by cases q) ?_
  have hC3 := hC2.pf (f := 2) (v := (M.1 (w X) 2)) hA hY
  refine w_aln rfl ?_
  refine w_gr ((gA X hX).1) rfl (by decide) rfl (hC3.rf (rB X hX).1) ?_
  refine w_ic ?_
  refine w_aln rfl ?_
  refine w_gr ((gA Y hY).1) rfl (by decide) rfl (hC3.rf (rB Y hY).1) ?_
  refine w_ic ?_
  refine w_bp ?_
  refine w_cp0 ((gA X hX).2.1) rfl ((gA Y hY).2.1) rfl (by decide) (by decide) (by decide) (by decide) (by decide) (by decide) (Nat.le_of_ble_eq_true rfl) ?_
  have hC4 := hC3.cA (A' := M.1 (w (X + 1))) hA hY (fun j _ => congrFun (hC3.o (i := 1) hA hY hX nXY (by decide)) j)
  refine w_aln rfl ?_
  refine w_gr ((gA X hX).1) rfl (by decide) rfl (hC4.rf (rB X hX).2.1) ?_
  refine w_ic ?_
  refine w_aln rfl ?_
  refine w_gr ((gA Y hY).1) rfl (by decide) rfl (hC4.rf (rB Y hY).2.1) ?_
  refine w_ic ?_
  refine w_bp ?_
  refine w_cp0 ((gA X hX).2.2.1) rfl ((gA Y hY).2.2.1) rfl (by decide) (by decide) (by decide) (by decide) (by decide) (by decide) (Nat.le_of_ble_eq_true rfl) ?_
  have hC5 := hC4.cB (A' := M.1 (w (X + 2))) hA hY (fun j _ => congrFun (hC4.o (i := 2) hA hY hX nXY (by decide)) j)
  refine w_aln rfl ?_
  refine w_gr ((gA X hX).1) rfl (by decide) rfl (hC5.rf (rB X hX).2.2.1) ?_
  refine w_ic ?_
  refine w_aln rfl ?_
  refine w_gr ((gA Y hY).1) rfl (by decide) rfl (hC5.rf (rB Y hY).2.2.1) ?_
  refine w_ic ?_
  refine w_bp ?_
  refine w_cp0 ((gA X hX).2.2.2.1) rfl ((gA Y hY).2.2.2.1) rfl (by decide) (by decide) (by decide) (by decide) (by decide) (by decide) (Nat.le_of_ble_eq_true rfl) ?_
  have hC6 := hC5.cC (A' := M.1 (w (X + 3))) hA hY (fun j _ => congrFun (hC5.o (i := 3) hA hY hX nXY (by decide)) j)
  refine w_ic ?_
  refine w_isn ?_
  show wz _ _ _ _ [some (.inr (.inr (some (w Y)))), some (.inr (.inr (some (w X)))), some (.inl 0)] _ _ _ _ _
  refine r_cpY (d := d) hA gA rB hY hX nXY 8 0 _ _ _ _ (by decide) (by decide) hC6 (fun t _ q => by omega) (fun R9 M9 hC9 hz9 => ?_)
  refine w_aln rfl ?_
  refine w_aln rfl ?_
  refine w_gi ((gA X hX).1) rfl (by decide) rfl (congrFun (show _ = M.1 (w X) from hC9.o (i := 0) hA hY hX nXY (by decide)) 7) ?_
  refine w_pi ((gA Y hY).1) rfl (by decide) rfl (fun q => by cases q) ?_
  have hC7 := hC9.pf (f := 7) (v := (M.1 (w X) 7)) hA hY
  refine w_aln rfl ?_
  refine w_aln rfl ?_
  refine w_gi ((gA X hX).1) rfl (by decide) rfl (congrFun (show _ = M.1 (w X) from hC7.o (i := 0) hA hY hX nXY (by decide)) 8) ?_
  refine w_pi ((gA Y hY).1) rfl (by decide) rfl (fun q => by cases q) ?_
  have hC8 := hC7.pf (f := 8) (v := (M.1 (w X) 8)) hA hY
  refine w_aln rfl ?_
  refine w_aln rfl ?_
  refine w_gi ((gA X hX).1) rfl (by decide) rfl (congrFun (show _ = M.1 (w X) from hC8.o (i := 0) hA hY hX nXY (by decide)) 9) ?_
  refine w_pi ((gA Y hY).1) rfl (by decide) rfl (fun q => by cases q) ?_
  have hC9 := hC8.pf (f := 9) (v := (M.1 (w X) 9)) hA hY
  refine w_aln rfl ?_
  refine w_aln rfl ?_
  refine w_gi ((gA X hX).1) rfl (by decide) rfl (congrFun (show _ = M.1 (w X) from hC9.o (i := 0) hA hY hX nXY (by decide)) 10) ?_
  refine w_pi ((gA Y hY).1) rfl (by decide) rfl (fun q => by cases q) ?_
  have hC10 := hC9.pf (f := 10) (v := (M.1 (w X) 10)) hA hY
  refine w_aln rfl ?_
  refine w_aln rfl ?_
  refine w_gi ((gA X hX).1) rfl (by decide) rfl (congrFun (show _ = M.1 (w X) from hC10.o (i := 0) hA hY hX nXY (by decide)) 11) ?_
  refine w_pi ((gA Y hY).1) rfl (by decide) rfl (fun q => by cases q) ?_
  have hC11 := hC10.pf (f := 11) (v := (M.1 (w X) 11)) hA hY
  refine w_aln rfl ?_
  refine w_aln rfl ?_
  refine w_gi ((gA X hX).1) rfl (by decide) rfl (congrFun (show _ = M.1 (w X) from hC11.o (i := 0) hA hY hX nXY (by decide)) 12) ?_
  refine w_pi ((gA Y hY).1) rfl (by decide) rfl (fun q => by cases q) ?_
  have hC12 := hC11.pf (f := 12) (v := (M.1 (w X) 12)) hA hY
  refine w_aln rfl ?_
  refine w_aln rfl ?_
  refine w_gi ((gA X hX).1) rfl (by decide) rfl (congrFun (show _ = M.1 (w X) from hC12.o (i := 0) hA hY hX nXY (by decide)) 13) ?_
  refine w_pi ((gA Y hY).1) rfl (by decide) rfl (fun q => by cases q) ?_
  have hC13 := hC12.pf (f := 13) (v := (M.1 (w X) 13)) hA hY
  refine w_aln rfl ?_
  refine w_aln rfl ?_
  refine w_gi ((gA X hX).1) rfl (by decide) rfl (congrFun (show _ = M.1 (w X) from hC13.o (i := 0) hA hY hX nXY (by decide)) 14) ?_
  refine w_pi ((gA Y hY).1) rfl (by decide) rfl (fun q => by cases q) ?_
  have hC14 := hC13.pf (f := 14) (v := (M.1 (w X) 14)) hA hY
  refine w_ret (h _ ⟨hC14.1, hC14.2.1, fun f hf hf2 => (hC14.2.2.1 f hf).trans ?_, fun v hv j hj => ?_, fun t u ht hu => (hC14.2.2.2.2.2.2 t u ht hu).trans (congrFun (hz9 t ht) u)⟩)
  · rcases (by omega : f = 0 ∨ f = 1 ∨ f = 2 ∨ f = 7 ∨ f = 8 ∨ f = 9 ∨ f = 10 ∨ f = 11 ∨ f = 12 ∨ f = 13 ∨ f = 14) with e | e | e | e | e | e | e | e | e | e | e <;> subst e
    · exact (rv_up_n (by decide)).trans ((rv_up_n (by decide)).trans ((rv_up_n (by decide)).trans ((rv_up_n (by decide)).trans ((rv_up_n (by decide)).trans ((rv_up_n (by decide)).trans ((rv_up_n (by decide)).trans ((rv_up_n (by decide)).trans ((rv_up_n (by decide)).trans ((rv_up_n (by decide)).trans (rv_up_s))))))))))
    · exact (rv_up_n (by decide)).trans ((rv_up_n (by decide)).trans ((rv_up_n (by decide)).trans ((rv_up_n (by decide)).trans ((rv_up_n (by decide)).trans ((rv_up_n (by decide)).trans ((rv_up_n (by decide)).trans ((rv_up_n (by decide)).trans ((rv_up_n (by decide)).trans (rv_up_s)))))))))
    · exact (rv_up_n (by decide)).trans ((rv_up_n (by decide)).trans ((rv_up_n (by decide)).trans ((rv_up_n (by decide)).trans ((rv_up_n (by decide)).trans ((rv_up_n (by decide)).trans ((rv_up_n (by decide)).trans ((rv_up_n (by decide)).trans (rv_up_s))))))))
    · exact (rv_up_n (by decide)).trans ((rv_up_n (by decide)).trans ((rv_up_n (by decide)).trans ((rv_up_n (by decide)).trans ((rv_up_n (by decide)).trans ((rv_up_n (by decide)).trans ((rv_up_n (by decide)).trans (rv_up_s)))))))
    · exact (rv_up_n (by decide)).trans ((rv_up_n (by decide)).trans ((rv_up_n (by decide)).trans ((rv_up_n (by decide)).trans ((rv_up_n (by decide)).trans ((rv_up_n (by decide)).trans (rv_up_s))))))
    · exact (rv_up_n (by decide)).trans ((rv_up_n (by decide)).trans ((rv_up_n (by decide)).trans ((rv_up_n (by decide)).trans ((rv_up_n (by decide)).trans (rv_up_s)))))
    · exact (rv_up_n (by decide)).trans ((rv_up_n (by decide)).trans ((rv_up_n (by decide)).trans ((rv_up_n (by decide)).trans (rv_up_s))))
    · exact (rv_up_n (by decide)).trans ((rv_up_n (by decide)).trans ((rv_up_n (by decide)).trans (rv_up_s)))
    · exact (rv_up_n (by decide)).trans ((rv_up_n (by decide)).trans (rv_up_s))
    · exact (rv_up_n (by decide)).trans (rv_up_s)
    · exact rv_up_s
  · rcases (by omega : v = 0 ∨ v = 1 ∨ v = 2) with e | e | e <;> subst e
    · exact hC14.2.2.2.1 j hj
    · exact hC14.2.2.2.2.1 j hj
    · exact hC14.2.2.2.2.2.1 j hj
  
end
section
/-! ===== YEARS through image and restore, begin, on (laid by a program) ===== -/
theorem ye_fr1 {G : mj_G} {M M' : mj_M} {W : List (Nat × Nat × Nat)} (f : ab_frm W G M M') (key : ∀ q ∈ W, ¬ ye_tg q.1 ∧ q.1 ≠ 1007 ∧ q.1 ≠ 1011) (a k : Nat) (hn : ye_tg (G a).1 ∨ (G a).1 = 1007 ∨ (G a).1 = 1011) : M'.1 a k = M.1 a k ∧ M'.2.2 a k = M.2.2 a k := f a k (fun ⟨q, hq, g, _⟩ => by
  have hk := key q hq
  rw [g] at hk
  exact hn.elim hk.1 (fun e => e.elim hk.2.1 hk.2.2))
theorem ye_tgD {W : List (Nat × Nat × Nat)} (h : W.all (fun q => !(Nat.beq q.1 1010 || Nat.beq q.1 42100 || Nat.beq q.1 43100 || Nat.beq q.1 44100 || Nat.beq q.1 45104 || Nat.beq q.1 46100 || Nat.beq q.1 48102 || Nat.beq q.1 1007 || Nat.beq q.1 1011)) = true) : ∀ q ∈ W, ¬ ye_tg q.1 ∧ q.1 ≠ 1007 ∧ q.1 ≠ 1011 := fun q hq => by
  have h1 := List.all_eq_true.mp h q hq
  have h2 : (Nat.beq q.1 1010 || Nat.beq q.1 42100 || Nat.beq q.1 43100 || Nat.beq q.1 44100 || Nat.beq q.1 45104 || Nat.beq q.1 46100 || Nat.beq q.1 48102 || Nat.beq q.1 1007 || Nat.beq q.1 1011) = false := by
    cases e : (Nat.beq q.1 1010 || Nat.beq q.1 42100 || Nat.beq q.1 43100 || Nat.beq q.1 44100 || Nat.beq q.1 45104 || Nat.beq q.1 46100 || Nat.beq q.1 48102 || Nat.beq q.1 1007 || Nat.beq q.1 1011) with
    | false => rfl
    | true => rw [e] at h1; cases h1
  have nb : ∀ {n : Nat}, q.1 = n → Nat.beq q.1 n = true := fun e => by rw [e]; exact Nat.beq_refl _
  have no : ∀ {a b : Bool}, (a || b) = false → a = false ∧ b = false := fun {a b} e => by cases a <;> cases b <;> first | exact ⟨rfl, rfl⟩ | cases e
  obtain ⟨h2, c9⟩ := no h2
  obtain ⟨h2, c8⟩ := no h2
  obtain ⟨h2, c7⟩ := no h2
  obtain ⟨h2, c6⟩ := no h2
  obtain ⟨h2, c5⟩ := no h2
  obtain ⟨h2, c4⟩ := no h2
  obtain ⟨h2, c3⟩ := no h2
  obtain ⟨c1, c2⟩ := no h2
  refine ⟨?_, fun e => ?_, fun e => ?_⟩
  · rintro (e | e | e | e | e | e | e)
    · rw [nb e] at c1; cases c1
    · rw [nb e] at c2; cases c2
    · rw [nb e] at c3; cases c3
    · rw [nb e] at c4; cases c4
    · rw [nb e] at c5; cases c5
    · rw [nb e] at c6; cases c6
    · rw [nb e] at c7; cases c7
  · rw [nb e] at c8; cases c8
  · rw [nb e] at c9; cases c9
/-- between two memories YEARS' cells and STATES' references are alike -/
def ye_al (G : mj_G) (M M' : mj_M) : Prop := ∀ a, (ye_tg (G a).1 → M'.1 a = M.1 a) ∧ ((ye_tg (G a).1 ∨ (G a).1 = 1007 ∨ (G a).1 = 1011) → M'.2.2 a = M.2.2 a)
theorem ye_al.rf {G : mj_G} {M : mj_M} : ye_al G M M := fun _ => ⟨fun _ => rfl, fun _ => rfl⟩
theorem ye_al.tr {G : mj_G} {M M1 M2 : mj_M} (h : ye_al G M M1) (h2 : ye_al G M1 M2) : ye_al G M M2 := fun a => ⟨fun g => ((h2 a).1 g).trans ((h a).1 g), fun g => ((h2 a).2 g).trans ((h a).2 g)⟩
theorem ye_al.fr {G : mj_G} {M M' : mj_M} {W : List (Nat × Nat × Nat)} (f : ab_frm W G M M') (key : ∀ q ∈ W, ¬ ye_tg q.1 ∧ q.1 ≠ 1007 ∧ q.1 ≠ 1011) : ye_al G M M' := fun a => ⟨fun g => funext fun k => (ye_fr1 f key a k (Or.inl g)).1, fun g => funext fun k => (ye_fr1 f key a k g).2⟩
theorem ye_al.c0 {G : mj_G} {M : mj_M} {a b t n k : Nat} (g : G b = (t, n)) (h : ¬ ye_tg t) : ye_al G M (mj_cp0 M a b 0 0 k) := fun x => ⟨fun gx => cp0_o (fun e => h (by rw [e, g] at gx; exact gx)), fun _ => rfl⟩
theorem ye_al.p0 {G : mj_G} {M : mj_M} {b t n k : Nat} {v : Int} (g : G b = (t, n)) (h : ¬ ye_tg t) : ye_al G M (mj_p0 M b k v) := fun x => ⟨fun gx => wz_c (fun e => h (by rw [e, g] at gx; exact gx)), fun _ => rfl⟩
set_option maxRecDepth 100000 in
theorem r_X6_copyY {G : mj_G} {M : mj_M} {w : Nat → Nat} {st st' Y X : Nat} {Q : mj_P} (hI : ab_Inv G M) (gs : G st = (1007, 0)) (gs' : G st' = (1007, 0)) (hA : lq_A G w) (gA : lq_WA G w) (rB : ∀ Z, Z ∈ yw_Y → M.2.2 (w Z) 3 = some (w (Z + 1)) ∧ M.2.2 (w Z) 4 = some (w (Z + 2)) ∧ M.2.2 (w Z) 5 = some (w (Z + 3)) ∧ M.2.2 (w Z) 6 = some (w (Z + 4)) ∧ ∀ t, t < 8 → M.2.2 (w (Z + 4)) t = some (w (Z + 5 + t))) (hY : Y ∈ yw_Y) (hX : X ∈ yw_Y) (nXY : X ≠ Y) (y1 : M.2.2 st 3 = some (w X)) (y1' : M.2.2 st' 3 = some (w Y)) (hQ : ∀ M1 M2, ab_Inv G M1 → ye_al G M M1 → yk_cp w Y X M1 M2 → Q none G M2) : mj_R mj_tab 39 67 [.inr (.inr (some st')), .inr (.inr (some st))] G M Q := by
  obtain ⟨pl, s0, gpl⟩ := hn_rf (k := 0) (q := (1004, 0)) hI gs rfl (by decide) (by decide) (by decide) (fun e => absurd e (by decide))
  obtain ⟨pl', s0', gpl'⟩ := hn_rf (k := 0) (q := (1004, 0)) hI gs' rfl (by decide) (by decide) (by decide) (fun e => absurd e (by decide))
  obtain ⟨dl, d1, gdl⟩ := hn_rf (k := 1) (q := (1002, 0)) hI gs rfl (by decide) (by decide) (by decide) (fun e => absurd e (by decide))
  obtain ⟨dl', d1', gdl'⟩ := hn_rf (k := 1) (q := (1002, 0)) hI gs' rfl (by decide) (by decide) (by decide) (fun e => absurd e (by decide))
  obtain ⟨se, e1, gse⟩ := hn_rf (k := 2) (q := (1006, 0)) hI gs rfl (by decide) (by decide) (by decide) (fun e => absurd e (by decide))
  obtain ⟨se', e1', gse'⟩ := hn_rf (k := 2) (q := (1006, 0)) hI gs' rfl (by decide) (by decide) (by decide) (fun e => absurd e (by decide))
  refine ⟨Nat.le_of_ble_eq_true rfl, ?_⟩
  show wz 38 mt_X6_copy.2.2.2.2.1 Q mt_X6_copy.2.2.2.2.1 [some (.inr (.inr (some st'))), some (.inr (.inr (some st)))] [] G M _ _
  refine w_aln rfl ?_
  refine w_gr gs' rfl (by decide) rfl s0' ?_
  refine w_aln rfl ?_
  refine w_gr gs rfl (by decide) rfl s0 ?_
  refine w_cv (st := []) rfl gpl' rfl (Nat.le_of_ble_eq_true rfl) (fun kk h => h) (lw_cc (c := cd_30) (dd := 37) (ab_all_ok 223 (Nat.le_refl _) 33 (by decide)) rfl (by decide +kernel) gpl' gpl (by decide) (by decide) (by decide) (by decide) (by decide) (by decide) (by decide +kernel) hI (fun M1 I1 f1 => ?_))
  have a1 := ye_al.fr f1 (ye_tgD (by decide +kernel))
  have r7 : ∀ {a k b : Nat}, G a = (1007, 0) → M.2.2 a k = some b → M1.2.2 a k = some b := fun g e => (congrFun ((a1 _).2 (Or.inr (Or.inl (by rw [g])))) _).trans e
  obtain ⟨fa, f0, gfa⟩ := hn_rf (k := 0) (q := (16100, 12)) I1 gdl rfl (by decide) (by decide) (by decide) (fun e => absurd e (by decide))
  obtain ⟨sa, f1, gsa⟩ := hn_rf (k := 1) (q := (17100, 12)) I1 gdl rfl (by decide) (by decide) (by decide) (fun e => absurd e (by decide))
  obtain ⟨ca, f2, gca⟩ := hn_rf (k := 2) (q := (18100, 12)) I1 gdl rfl (by decide) (by decide) (by decide) (fun e => absurd e (by decide))
  obtain ⟨fa', f0', gfa'⟩ := hn_rf (k := 0) (q := (16100, 12)) I1 gdl' rfl (by decide) (by decide) (by decide) (fun e => absurd e (by decide))
  obtain ⟨sa', f1', gsa'⟩ := hn_rf (k := 1) (q := (17100, 12)) I1 gdl' rfl (by decide) (by decide) (by decide) (fun e => absurd e (by decide))
  obtain ⟨ca', f2', gca'⟩ := hn_rf (k := 2) (q := (18100, 12)) I1 gdl' rfl (by decide) (by decide) (by decide) (fun e => absurd e (by decide))
  refine w_aln rfl ?_
  refine w_gr gs' rfl (by decide) rfl (r7 gs' d1') ?_
  refine w_aln rfl ?_
  refine w_gr gs rfl (by decide) rfl (r7 gs d1) ?_
  refine w_cv (st := []) rfl gdl' rfl (Nat.le_of_ble_eq_true rfl) (fun kk h => h) ⟨Nat.le_of_ble_eq_true rfl, ?_⟩
  show wz 37 mt_X1_copy.2.2.2.2.1 _ mt_X1_copy.2.2.2.2.1 [some (.inr (.inr (some dl'))), some (.inr (.inr (some dl)))] [] _ _ _ _
  refine w_aln rfl ?_
  refine w_gr gdl rfl (by decide) rfl f0 ?_
  refine w_ic ?_
  refine w_aln rfl ?_
  refine w_gr gdl' rfl (by decide) rfl f0' ?_
  refine w_ic ?_
  refine w_bp ?_
  refine w_cp0 gfa rfl gfa' rfl (by decide) (by decide) (by decide) (by decide) (by decide) (by decide) (Nat.zero_le 8) ?_
  refine w_aln rfl ?_
  refine w_gr gdl rfl (by decide) rfl f1 ?_
  refine w_ic ?_
  refine w_aln rfl ?_
  refine w_gr gdl' rfl (by decide) rfl f1' ?_
  refine w_ic ?_
  refine w_bp ?_
  refine w_cp0 gsa rfl gsa' rfl (by decide) (by decide) (by decide) (by decide) (by decide) (by decide) (Nat.zero_le 8) ?_
  refine w_aln rfl ?_
  refine w_gr gdl rfl (by decide) rfl f2 ?_
  refine w_ic ?_
  refine w_aln rfl ?_
  refine w_gr gdl' rfl (by decide) rfl f2' ?_
  refine w_ic ?_
  refine w_bp ?_
  refine w_cp0 gca rfl gca' rfl (by decide) (by decide) (by decide) (by decide) (by decide) (by decide) (Nat.zero_le 8) ?_
  refine w_aln rfl ?_
  refine w_aln rfl ?_
  refine w_gi gdl rfl (by decide) rfl rfl ?_
  refine w_pi gdl' rfl (by decide) rfl (fun q => by cases q) ?_
  refine w_ret ?_
  have I2 : ab_Inv G (mj_cp0 (mj_cp0 (mj_cp0 M1 fa fa' 0 0 12) sa sa' 0 0 12) ca ca' 0 0 12) := hn_cp (hn_cp (hn_cp I1 gfa gfa') gsa gsa') gca gca'
  have I3 : ab_Inv G (mj_p0 (mj_cp0 (mj_cp0 (mj_cp0 M1 fa fa' 0 0 12) sa sa' 0 0 12) ca ca' 0 0 12) dl' 3 ((mj_cp0 (mj_cp0 (mj_cp0 M1 fa fa' 0 0 12) sa sa' 0 0 12) ca ca' 0 0 12).1 dl 3)) := I2.p0 (by
    have h3 := I2.1 dl 3
    rw [gdl] at h3
    rw [gdl']
    exact h3)
  have nt : ¬ ye_tg 16100 ∧ ¬ ye_tg 17100 ∧ ¬ ye_tg 18100 ∧ ¬ ye_tg 1002 := by unfold ye_tg; decide
  have a2 : ye_al G M1 (mj_p0 (mj_cp0 (mj_cp0 (mj_cp0 M1 fa fa' 0 0 12) sa sa' 0 0 12) ca ca' 0 0 12) dl' 3 ((mj_cp0 (mj_cp0 (mj_cp0 M1 fa fa' 0 0 12) sa sa' 0 0 12) ca ca' 0 0 12).1 dl 3)) := (((ye_al.c0 gfa' nt.1).tr (ye_al.c0 gsa' nt.2.1)).tr (ye_al.c0 gca' nt.2.2.1)).tr (ye_al.p0 gdl' nt.2.2.2)
  show wz 38 mt_X6_copy.2.2.2.2.1 Q (mt_X6_copy.2.2.2.2.1.drop 10) [some (.inr (.inr (some st'))), some (.inr (.inr (some st)))] [] G (mj_p0 (mj_cp0 (mj_cp0 (mj_cp0 M1 fa fa' 0 0 12) sa sa' 0 0 12) ca ca' 0 0 12) dl' 3 ((mj_cp0 (mj_cp0 (mj_cp0 M1 fa fa' 0 0 12) sa sa' 0 0 12) ca ca' 0 0 12).1 dl 3)) _ _
  revert I3 a2
  generalize mj_p0 (mj_cp0 (mj_cp0 (mj_cp0 M1 fa fa' 0 0 12) sa sa' 0 0 12) ca ca' 0 0 12) dl' 3 ((mj_cp0 (mj_cp0 (mj_cp0 M1 fa fa' 0 0 12) sa sa' 0 0 12) ca ca' 0 0 12).1 dl 3) = M2
  intro I3 a2
  have a3 := a1.tr a2
  have r8 : ∀ {a k b : Nat}, G a = (1007, 0) → M.2.2 a k = some b → M2.2.2 a k = some b := fun g e => (congrFun ((a3 _).2 (Or.inr (Or.inl (by rw [g])))) _).trans e
  refine w_aln rfl ?_
  refine w_gr gs' rfl (by decide) rfl (r8 gs' e1') ?_
  refine w_aln rfl ?_
  refine w_gr gs rfl (by decide) rfl (r8 gs e1) ?_
  refine w_cv (st := []) rfl gse' rfl (Nat.le_of_ble_eq_true rfl) (fun kk h => h) (lw_cc (c := cd_33) (dd := 37) (ab_all_ok 223 (Nat.le_refl _) 36 (by decide)) rfl (by decide +kernel) gse' gse (by decide) (by decide) (by decide) (by decide) (by decide) (by decide) (by decide +kernel) I3 (fun M3 I4 f4 => ?_))
  have a4 := a3.tr (ye_al.fr f4 (ye_tgD (by decide +kernel)))
  have r9 : ∀ {a k b : Nat}, (ye_tg (G a).1 ∨ (G a).1 = 1007 ∨ (G a).1 = 1011) → M.2.2 a k = some b → M3.2.2 a k = some b := fun g e => (congrFun ((a4 _).2 g) _).trans e
  refine w_aln rfl ?_
  refine w_gr gs' rfl (by decide) rfl (r9 (Or.inr (Or.inl (by rw [gs']))) y1') ?_
  refine w_aln rfl ?_
  refine w_gr gs rfl (by decide) rfl (r9 (Or.inr (Or.inl (by rw [gs]))) y1) ?_
  have t0 : ∀ Z, Z ∈ yw_Y → ye_tg (G (w Z)).1 ∧ ye_tg (G (w (Z + 4))).1 := fun Z hZ => by
    obtain ⟨g0, -, -, -, g4, -⟩ := gA Z hZ
    rw [g0, g4]; unfold ye_tg; decide
  refine w_cv (st := []) rfl (gA Y hY).1 rfl (Nat.le_of_ble_eq_true rfl) (fun kk h => h) (r_X10_copyC (d := 37) hA gA (fun Z hZ => ?_) hY hX nXY (by
    have q := I4.1 (w X) 0
    rw [(gA X hX).1] at q
    have q2 : (0 : Int) ≤ M3.1 (w X) 0 ∧ M3.1 (w X) 0 ≤ 1 := q
    omega) (fun M4 hc => ?_))
  · obtain ⟨b1, b2, b3, b4, b5⟩ := rB Z hZ
    exact ⟨r9 (Or.inl (t0 Z hZ).1) b1, r9 (Or.inl (t0 Z hZ).1) b2, r9 (Or.inl (t0 Z hZ).1) b3, r9 (Or.inl (t0 Z hZ).1) b4, fun t ht => r9 (Or.inl (t0 Z hZ).2) (b5 t ht)⟩
  · exact w_ret (hQ M3 M4 I4 a4 hc)
section YIM
variable {G : mj_G} {M : mj_M} {w : Nat → Nat} {x p q kc : Nat} {z1 : Int} {Q : mj_P}
theorem lq_imY (hA : lq_A G w) (hB : lq_B M w x) (wB : lq_WB M w) (k : Nat) (hk : k < 2) : ∃ st, M.2.2 (w 119) k = some st ∧ G st = (1007, 0) ∧ M.2.2 st 3 = some (w (lq_yi k)) := by
  have h3 := wB.2.2 k hk
  have : k = 0 ∨ k = 1 := by omega
  rcases this with rfl | rfl
  · exact ⟨w 246, hB.2.2.2.2.1, hA.2.2.2.2.1, h3⟩
  · exact ⟨w 291, hB.2.2.2.2.2.1, hA.2.2.2.2.2.1, h3⟩
/-- image, as far as YEARS go -/
theorem r_X11_imageY (hI : ab_Inv G M) (gx : G x = (1011, 0)) (hA : lq_A G w) (hB : lq_B M w x) (gA : lq_WA G w) (wB : lq_WB M w) (x4 : M.2.2 x 4 = some kc) (gkc : G kc = (48102, 2)) (h0 : ¬ (0 ≤ z1 ∧ z1 ≤ 1) → Q (some (.inl 0)) G M) (h1 : ∀ k : Nat, k < 2 → z1 = (k : Int) → ∀ M1 M2, ye_al G M M1 → yk_cp w (lq_yi k) 61 M1 M2 → Q (some (.inl 1)) G (mj_p0 M2 kc k 1)) : mj_R mj_tab 40 127 [.inr (.inr (some x)), .inl z1] G M Q := by
  have g119 := hA.2.2.2.2.2.2
  refine ⟨Nat.le_of_ble_eq_true rfl, ?_⟩
  show wz 39 mt_X11_image.2.2.2.2.1 Q mt_X11_image.2.2.2.2.1 [some (.inr (.inr (some x))), some (.inl z1)] [] G M _ _
  refine w_iln rfl ?_
  refine w_iflt (fun c => ?_) (fun c => ?_)
  · refine w_ic ?_
    exact w_iret (fun _ => Or.inl rfl) (h0 (by omega))
  · refine w_iln rfl ?_
    refine w_ic ?_
    refine w_cmlt (fun c2 => ?_) (fun c2 => ?_)
    · obtain ⟨k, hk, ek⟩ : ∃ k : Nat, k < 2 ∧ z1 = (k : Int) := ⟨z1.toNat, by omega, by omega⟩
      subst ek
      obtain ⟨st, s1, gst, s3⟩ := lq_imY hA hB wB k hk
      have tk : ((k : Int)).toNat = k := by omega
      refine w_aln rfl ?_
      refine w_gr gx rfl (by decide) rfl hB.2.2.2.1 ?_
      refine w_iln rfl ?_
      refine w_aald (b := st) g119 rfl (by omega) (by show (k : Int) < ((2 : Nat) : Int); omega) (by rw [tk]; exact s1) ?_
      refine w_aln rfl ?_
      refine w_gr gx rfl (by decide) rfl hB.2.1 ?_
      refine w_cv (st := []) rfl gst rfl (Nat.le_of_ble_eq_true rfl) (fun kk h => h) (r_X6_copyY hI hA.2.2.1 gst hA gA wB.1 (lq_yi_in k).1 (by decide) (fun e => (lq_yi_in k).2 e.symm) wB.2.1 s3 (fun M1 M2 I1 al hc => ?_))
      refine w_aln rfl ?_
      refine w_gr gx rfl (by decide) rfl (by rw [hc.1]; exact (congrFun ((al x).2 (Or.inr (Or.inr (by rw [gx])))) 4).trans x4) ?_
      refine w_iln rfl ?_
      refine w_ic ?_
      refine w_zast (Or.inr rfl) gkc rfl (by decide) (by omega) (by show (k : Int) < ((2 : Nat) : Int); omega) ?_
      refine w_ic ?_
      refine w_iret (fun _ => Or.inr rfl) ?_
      rw [tk]
      exact h1 k hk rfl M1 M2 al hc
    · refine w_ic ?_
      exact w_iret (fun _ => Or.inl rfl) (h0 (by omega))
/-- restore, as far as YEARS go -/
theorem r_X11_restoreY {ud : Nat} (hI : ab_Inv G M) (gx : G x = (1011, 0)) (hA : lq_A G w) (hB : lq_B M w x) (gA : lq_WA G w) (wB : lq_WB M w) (x4 : M.2.2 x 4 = some kc) (gkc : G kc = (48102, 2)) (x5 : M.2.2 x 5 = some ud) (gud : G ud = (1009, 0)) (h0 : (¬ (0 ≤ z1 ∧ z1 ≤ 1) ∨ ∃ k : Nat, k < 2 ∧ z1 = (k : Int) ∧ M.1 kc k = 0) → Q (some (.inl 0)) G M) (h1 : ∀ k : Nat, k < 2 → z1 = (k : Int) → M.1 kc k ≠ 0 → ∀ M1 M2, ye_al G M M1 → yk_cp w 61 (lq_yi k) M1 M2 → Q (some (.inl 1)) G (mj_p0 M2 ud 3 0)) : mj_R mj_tab 40 144 [.inr (.inr (some x)), .inl z1] G M Q := by
  have g119 := hA.2.2.2.2.2.2
  refine ⟨Nat.le_of_ble_eq_true rfl, ?_⟩
  show wz 39 mt_X11_restore.2.2.2.2.1 Q mt_X11_restore.2.2.2.2.1 [some (.inr (.inr (some x))), some (.inl z1)] [] G M _ _
  refine w_iln rfl ?_
  refine w_iflt (fun c => ?_) (fun c => ?_)
  · refine w_ic ?_
    exact w_iret (fun _ => Or.inl rfl) (h0 (Or.inl (by omega)))
  · refine w_iln rfl ?_
    refine w_ic ?_
    refine w_cmge (fun c2 => ?_) (fun c2 => ?_)
    · refine w_ic ?_
      exact w_iret (fun _ => Or.inl rfl) (h0 (Or.inl (by omega)))
    · obtain ⟨k, hk, ek⟩ : ∃ k : Nat, k < 2 ∧ z1 = (k : Int) := ⟨z1.toNat, by omega, by omega⟩
      subst ek
      obtain ⟨st, s1, gst, s3⟩ := lq_imY hA hB wB k hk
      have tk : ((k : Int)).toNat = k := by omega
      refine w_aln rfl ?_
      refine w_gr gx rfl (by decide) rfl x4 ?_
      refine w_iln rfl ?_
      refine w_zald (v := M.1 kc k) gkc rfl (by omega) (by show (k : Int) < ((2 : Nat) : Int); omega) (by rw [tk]) ?_
      refine w_ifne (fun c3 => ?_) (fun c3 => ?_)
      · refine w_aln rfl ?_
        refine w_gr gx rfl (by decide) rfl hB.2.1 ?_
        refine w_aln rfl ?_
        refine w_gr gx rfl (by decide) rfl hB.2.2.2.1 ?_
        refine w_iln rfl ?_
        refine w_aald (b := st) g119 rfl (by omega) (by show (k : Int) < ((2 : Nat) : Int); omega) (by rw [tk]; exact s1) ?_
        refine w_cv (st := []) rfl hA.2.2.1 rfl (Nat.le_of_ble_eq_true rfl) (fun kk h => h) (r_X6_copyY hI gst hA.2.2.1 hA gA wB.1 (by decide) (lq_yi_in k).1 (lq_yi_in k).2 s3 wB.2.1 (fun M1 M2 I1 al hc => ?_))
        refine w_aln rfl ?_
        refine w_gr gx rfl (by decide) rfl (by rw [hc.1]; exact (congrFun ((al x).2 (Or.inr (Or.inr (by rw [gx])))) 5).trans x5) ?_
        refine w_ic ?_
        refine w_pi gud rfl (by decide) rfl (fun q => by cases q) ?_
        refine w_ic ?_
        exact w_iret (fun _ => Or.inr rfl) (h1 k hk rfl c3 M1 M2 al hc)
      · refine w_ic ?_
        exact w_iret (fun _ => Or.inl rfl) (h0 (Or.inr ⟨k, hk, rfl, c3⟩))
end YIM
/-- the cells of the YEAR now, as a layout -/
theorem yw_L {G : mj_G} {M : mj_M} {x s p q dn ds : Nat} {w : Nat → Nat} (hA : lq_A G w) (hB : lq_B M w x) (hN : lq_N M w p q) (hG : rv_G6 (M.1 s) 0 w p M) (gA : lq_WA G w) (wB : lq_WB M w) (dA : lq_DA G w) (dB : lq_DB M w) (hDN : lq_DN M w dn ds) (hE : rd_E M (M.1 s) 0 w dn) : yc_L G M ye_u1 (w 61) (w (61 + 1)) (w (61 + 2)) (w (61 + 3)) (w (61 + 4)) (fun t => w (61 + 5 + t)) (w p) (w (p + 2)) (w (p + 11)) (w (p + 20)) (fun t => w (p + 3 + t)) (fun t => w (p + 12 + t)) (w dn) (w (dn + 1)) (w (dn + 2)) (w (dn + 3)) (M.1 s) := by
  obtain ⟨gpl, gna, gta, gba, gwa, gtr, gbr, itr, ibr, p0, p1, p2, p3, rt, rb⟩ := lq_K hA hB hN.pin.1
  obtain ⟨g0, g1, g2, g3, g4, g5⟩ := gA 61 (by decide)
  obtain ⟨y3, y4, y5, y6, yt⟩ := wB.1 61 (by decide)
  obtain ⟨d0, d1, d2, d3⟩ := dA dn hDN.nin.1
  obtain ⟨e0, e1, e2⟩ := dB.1 dn hDN.nin.1
  obtain ⟨⟨n4, n6, n7, n8, nt, nw⟩, nb, -⟩ := id hG
  obtain ⟨hE1, -⟩ := id hE
  refine ⟨ye_u1_U, g0, g1, g2, g3, g4, g5, fun t s ht hs e => ?_, gpl, gta, gba, gwa, gtr, gbr, d0, d1, d2, d3, y3, y4, y5, y6, yt, p1, p2, p3, rt, rb, e0, e1, e2, n4.symm, ?_, ?_, ?_, fun t v ht hv => ?_, fun v hv => ?_, fun t v ht hv => ?_, fun v hv => ?_, fun v hv => ?_, fun v hv => ?_⟩
  · have q := hA.1 _ _ (by omega) (by omega) e; omega
  · have q := n6.symm; rw [Nat.zero_add] at q; exact q
  · have q := n7.symm; rw [Nat.zero_add] at q; exact q
  · have q := n8.symm; rw [Nat.zero_add] at q; exact q
  · have q := (nt t v ht hv).symm; rw [Nat.zero_add] at q; exact q
  · have q := (nw v hv).symm; rw [Nat.zero_add] at q; exact q
  · have q := (nb t v ht hv).symm; rw [Nat.zero_add] at q; exact q
  · have q := (hE1 v hv).1; rw [Nat.zero_add] at q; exact q
  · have q := (hE1 v hv).2.1; rw [Nat.zero_add] at q; exact q
  · have q := (hE1 v hv).2.2; rw [Nat.zero_add] at q; exact q
/-- the YEAR now of the class holds T (run: whether one goes on) -/
def yw_C (M : mj_M) (w : Nat → Nat) (run : Int) (T : ye_T) : Prop := M.1 (w 61) 0 = run ∧ (∀ j, 222 ≤ j → j < 232 → M.1 (w 61) (ye_f j) = T.1 j) ∧ (∀ j : Nat, j < 12 → (j : Int) < T.1 222 → M.1 (w (61 + 1)) j = T.2.1 j ∧ M.1 (w (61 + 2)) j = T.2.2.1 j ∧ M.1 (w (61 + 3)) j = T.2.2.2.1 j) ∧ (∀ t u, t < 8 → u < 11 → M.1 (w (61 + 5 + t)) u = T.2.2.2.2 t u)
/-- all else of the class is as it was -/
def yw_o (w : Nat → Nat) (M M' : mj_M) : Prop := M'.2 = M.2 ∧ ∀ a, yw_ne w 61 a → M'.1 a = M.1 a
def ye_S (S : Nat → Int) (o : Nat) : ye_T := (fun j => S (o + j), fun j => S (o + (320 + 3 * j)), fun j => S (o + (321 + 3 * j)), fun j => S (o + (322 + 3 * j)), fun t u => S (o + (232 + 11 * t + u)))
theorem yw_oS {G : mj_G} {w : Nat → Nat} {M0 M M1 : mj_M} {g A B C : Nat → Int} {R : Nat → Nat → Int} (h : yc_S (w 61) (w (61 + 1)) (w (61 + 2)) (w (61 + 3)) (fun t => w (61 + 5 + t)) M0 g A B C R M1) (e2 : M0.2 = M.2) (e1 : ∀ a, a ≠ w 61 → M0.1 a = M.1 a) : yw_o w M M1 := ⟨h.1.trans e2, fun a ha => (h.2.1 a (ha 0 (by decide)) (ha 1 (by decide)) (ha 2 (by decide)) (ha 3 (by decide)) (fun t ht => by have q := ha (5 + t) (by omega); rw [← Nat.add_assoc] at q; exact q)).trans (e1 a (ha 0 (by decide)))⟩
def lr_on (H : Nat → Int) (n : Int) : Int := if H 221 = 1 ∧ 0 ≤ n ∧ n ≤ 12 then (if n < 12 - H 222 then n else 12 - H 222) else -1
theorem r_X11_beginY {G : mj_G} {M : mj_M} {x s p q dn ds : Nat} {w : Nat → Nat} {Q : mj_P} (gx : G x = (1011, 0)) (hA : lq_A G w) (hB : lq_B M w x) (hN : lq_N M w p q) (hG : rv_G6 (M.1 s) 0 w p M) (gA : lq_WA G w) (wB : lq_WB M w) (dA : lq_DA G w) (dB : lq_DB M w) (hDN : lq_DN M w dn ds) (hE : rd_E M (M.1 s) 0 w dn) (h0 : M.1 s 0 = 0 → Q (some (.inl 0)) G M) (h1 : M.1 s 0 ≠ 0 → ∀ M1, yw_o w M M1 → yw_C M1 w 1 (ye_fr (M.1 s)) → Q (some (.inl 1)) G M1) : mj_R mj_tab 40 110 [.inr (.inr (some x))] G M Q := by
  have hL := yw_L hA hB hN hG gA wB dA dB hDN hE
  have gnw := hA.2.2.1
  refine ⟨Nat.le_of_ble_eq_true rfl, ?_⟩
  show wz 39 mt_X11_begin.2.2.2.2.1 Q mt_X11_begin.2.2.2.2.1 [some (.inr (.inr (some x)))] [] G M _ _
  refine w_aln rfl ?_
  refine w_gr gx rfl (by decide) rfl hB.2.1 ?_
  refine w_gr gnw rfl (by decide) rfl hN.1 ?_
  refine w_gi hL.gpl rfl (by decide) rfl hL.n4 ?_
  refine w_ifne (fun c => ?_) (fun c => ?_)
  · refine w_aln rfl ?_
    refine w_gr gx rfl (by decide) rfl hB.2.1 ?_
    refine w_gr gnw rfl (by decide) rfl wB.2.1 ?_
    refine w_aln rfl ?_
    refine w_gr gx rfl (by decide) rfl hB.2.1 ?_
    refine w_gr gnw rfl (by decide) rfl hN.1 ?_
    refine w_cv (st := []) rfl hL.gy rfl (Nat.le_of_ble_eq_true rfl) (fun kk h => h) (r_X10_start (d := 38) hL (fun M1 hC => ?_))
    refine w_ic ?_
    refine w_iret (fun _ => Or.inr rfl) (h1 c M1 (yw_oS (G := G) hC rfl (fun a ha => wz_c ha)) ⟨hC.2.2.1.trans hn_s, fun j j1 j2 => hC.2.2.2.1 j j1 j2, fun j hj hjm => ?_, fun t u ht hu => hC.vR ht hu⟩)
    have e0 : (ye_fr (M.1 s)).1 222 = 0 := rfl
    rw [e0] at hjm; omega
  · refine w_ic ?_
    exact w_iret (fun _ => Or.inl rfl) (h0 (by omega))
theorem r_X11_onY {G : mj_G} {M : mj_M} {x s p q dn ds : Nat} {w : Nat → Nat} {Q : mj_P} (gx : G x = (1011, 0)) (hA : lq_A G w) (hB : lq_B M w x) (hN : lq_N M w p q) (hG : rv_G6 (M.1 s) 0 w p M) (gA : lq_WA G w) (wB : lq_WB M w) (dA : lq_DA G w) (dB : lq_DB M w) (hDN : lq_DN M w dn ds) (hE : rd_E M (M.1 s) 0 w dn) {n : Int} (hH : ye_H (M.1 s)) (h221 : M.1 (w 61) 0 = M.1 s 221) (hr : M.1 s 221 = 0 ∨ M.1 s 221 = 1) (hC : M.1 s 221 = 1 → yw_C M w 1 (ye_S (M.1 s) 0) ∧ ye_okT (M.1 s) (ye_S (M.1 s) 0)) (h0 : ¬ (M.1 s 221 = 1 ∧ 0 ≤ n ∧ n ≤ 12) → Q (some (.inl (-1))) G M) (h1 : M.1 s 221 = 1 ∧ 0 ≤ n ∧ n ≤ 12 → ∀ M1, yw_o w M M1 → yw_C M1 w 1 (ye_it (M.1 s) (fun _ => 0) (ye_S (M.1 s) 0) (lr_on (M.1 s) n).toNat) → Q (some (.inl (lr_on (M.1 s) n))) G M1) : mj_R mj_tab 40 137 [.inr (.inr (some x)), .inl n] G M Q := by
  have hL := yw_L hA hB hN hG gA wB dA dB hDN hE
  have gnw := hA.2.2.1
  have no : ∀ cb sb, ¬ (M.1 s 221 = 1 ∧ 0 ≤ n ∧ n ≤ 12) → wz 39 mt_X11_on.2.2.2.2.1 Q (mt_X11_on.2.2.2.2.1.drop 10) [some (.inr (.inr (some x))), some (.inl n), none] [] G M cb sb := fun _ _ c => by
    refine w_ic ?_
    exact w_iret (fun q => by cases q) (h0 c)
  refine ⟨Nat.le_of_ble_eq_true rfl, ?_⟩
  show wz 39 mt_X11_on.2.2.2.2.1 Q mt_X11_on.2.2.2.2.1 [some (.inr (.inr (some x))), some (.inl n), none] [] G M _ _
  refine w_iln rfl ?_
  refine w_iflt (fun c => no _ _ (by omega)) (fun c => ?_)
  refine w_iln rfl ?_
  refine w_bp ?_
  refine w_cmgt (fun c2 => no _ _ (by omega)) (fun c2 => ?_)
  refine w_aln rfl ?_
  refine w_gr gx rfl (by decide) rfl hB.2.1 ?_
  refine w_gr gnw rfl (by decide) rfl wB.2.1 ?_
  refine w_gi hL.gy rfl (by decide) rfl h221 ?_
  refine w_ifne (fun c3 => ?_) (fun c3 => no _ _ (by omega))
  have h1y : M.1 s 221 = 1 := by omega
  obtain ⟨⟨q0, q1, q2, q3⟩, hk⟩ := hC h1y
  have hT : yc_T (w 61) (w (61 + 1)) (w (61 + 2)) (w (61 + 3)) (fun t => w (61 + 5 + t)) M (ye_S (M.1 s) 0) M := ⟨M.1 (w (61 + 1)), M.1 (w (61 + 2)), M.1 (w (61 + 3)), ⟨rfl, fun _ _ _ _ _ _ => rfl, rfl, q1, fun _ _ => rfl, fun _ _ => rfl, fun _ _ => rfl, q3⟩, q2⟩
  have ed : lr_on (M.1 s) n = (if n < 12 - (ye_S (M.1 s) 0).1 222 then n else 12 - (ye_S (M.1 s) 0).1 222) := by
    unfold lr_on; rw [if_pos ⟨h1y, by omega, by omega⟩]
    show _ = (if n < 12 - M.1 s (0 + 222) then n else 12 - M.1 s (0 + 222))
    rw [Nat.zero_add]
  refine w_aln rfl ?_
  refine w_gr gx rfl (by decide) rfl hB.2.1 ?_
  refine w_gr gnw rfl (by decide) rfl wB.2.1 ?_
  refine w_gi hL.gy rfl (by decide) rfl hT.m ?_
  refine w_isn ?_
  refine w_aln rfl ?_
  refine w_gr gx rfl (by decide) rfl hB.2.1 ?_
  refine w_gr gnw rfl (by decide) rfl wB.2.1 ?_
  refine w_aln rfl ?_
  refine w_gr gx rfl (by decide) rfl hB.2.1 ?_
  refine w_gr gnw rfl (by decide) rfl hN.1 ?_
  refine w_aln rfl ?_
  refine w_gr gx rfl (by decide) rfl hB.2.1 ?_
  refine w_gr gnw rfl (by decide) rfl hDN.1 ?_
  refine w_iln rfl ?_
  refine w_cv (st := []) rfl hL.gy rfl (Nat.le_of_ble_eq_true rfl) (fun kk h => h) (r_X10_goOn (d := 35) hL hT hH hk ⟨by omega, by omega⟩ ed (fun M1 hT1 => ?_))
  have k0 := hk.1
  have hd2 : 0 ≤ lr_on (M.1 s) n ∧ lr_on (M.1 s) n ≤ 12 - (ye_S (M.1 s) 0).1 222 := by rw [ed]; split <;> omega
  have e22 := (ye_it_ok hH hk (xs := fun _ => 0) (fun _ => ⟨Int.le_refl 0, by decide⟩) (lr_on (M.1 s) n).toNat (by omega)).2
  obtain ⟨A1, B1, C1, hC1, hrl⟩ := hT1
  have r2 : M1.2 = M.2 := hC1.1
  refine w_aln rfl ?_
  refine w_gr gx rfl (by decide) rfl (by rw [r2]; exact hB.2.1) ?_
  refine w_gr gnw rfl (by decide) rfl (by rw [r2]; exact wB.2.1) ?_
  refine w_gi hL.gy rfl (by decide) rfl (hC1.f (j := 222) (by decide) (by decide) rfl) ?_
  refine w_iln rfl ?_
  refine w_sub ⟨by omega, by omega⟩ ?_
  refine w_iret (fun q => by cases q) ?_
  rw [show (ye_it (M.1 s) (fun _ => 0) (ye_S (M.1 s) 0) (lr_on (M.1 s) n).toNat).1 222 - (ye_S (M.1 s) 0).1 222 = lr_on (M.1 s) n by omega]
  exact h1 ⟨h1y, by omega, by omega⟩ M1 (yw_oS (G := G) hC1 rfl (fun _ _ => rfl)) ⟨hC1.2.2.1.trans q0, hC1.2.2.2.1, fun j hj hjm => by
    obtain ⟨a, b, c⟩ := hrl j hj hjm
    exact ⟨(hC1.vA hj).trans a, (hC1.vB hj).trans b, (hC1.vC hj).trans c⟩, fun t u ht hu => hC1.vR ht hu⟩
end
section
/-! ===== begin, on of the reference (laid by a program) ===== -/
section YM
variable {G : mj_G} {M M' : mj_M} {s m : Nat} {H : Nat → Int}
theorem yq_L.th (h : yq_L G M s m H) : yq_L G (mj_p0 M m 0 0) s m H := ⟨h.1, h.2.1, h.2.2.1, fun j hj => (congrFun (wz_c h.sm) j).trans (h.2.2.2.1 j hj), (hn_n (Or.inr (by decide))).trans h.2.2.2.2⟩
theorem yq_T.S0 (hL : yq_L G M s m H) : yq_T s m (mj_p0 M m 0 0) (ye_S (M.1 s) 0) (mj_p0 M m 0 0) := by
  have e : (mj_p0 M m 0 0).1 s = M.1 s := wz_c hL.sm
  refine ⟨_, _, _, rfl, fun _ _ _ => rfl, fun _ _ _ _ => rfl, ⟨rfl, rfl, rfl⟩, fun _ _ => rfl, fun j _ _ => ?_, fun j _ => ⟨?_, ?_, ?_⟩, fun t u _ _ => ?_⟩
  · rw [e]; show M.1 s j = M.1 s (0 + j); rw [Nat.zero_add]
  · rw [e]; show _ = M.1 s (0 + (320 + 3 * j)); rw [Nat.zero_add]
  · rw [e]; show _ = M.1 s (0 + (321 + 3 * j)); rw [Nat.zero_add]
  · rw [e]; show _ = M.1 s (0 + (322 + 3 * j)); rw [Nat.zero_add]
  · rw [e]; show _ = M.1 s (0 + (232 + 11 * t + u)); rw [Nat.zero_add]
/-- s holds the YEAR T, the PLAIN and CONTRACTS as they were -/
def yw_R (s m : Nat) (run : Int) (T : ye_T) (M M' : mj_M) : Prop := (∀ j, j < 221 ∨ (356 ≤ j ∧ j < 537) → M'.1 s j = M.1 s j) ∧ M'.1 s 221 = run ∧ (∀ j, 222 ≤ j → j < 232 → M'.1 s j = T.1 j) ∧ (∀ j, j < 12 → M'.1 s (320 + 3 * j) = T.2.1 j ∧ M'.1 s (321 + 3 * j) = T.2.2.1 j ∧ M'.1 s (322 + 3 * j) = T.2.2.2.1 j) ∧ (∀ t u, t < 8 → u < 11 → M'.1 s (232 + 11 * t + u) = T.2.2.2.2 t u) ∧ M'.1 m 32 = M.1 m 32
theorem yq_T.wR {T : ye_T} (hL : yq_L G M s m H) (h : yq_T s m (mj_p0 M m 0 0) T M') (run : Int) (hr : M.1 s 221 = run) : yw_R s m run T M M' := by
  obtain ⟨L, O, P, c1, c2, c3, -, c5, c6, c7, c8⟩ := h
  have e : (mj_p0 M m 0 0).1 s = M.1 s := wz_c hL.sm
  rw [e] at c5
  exact ⟨fun j hj => c5 j (by omega), (c5 221 (by decide)).trans hr, c6, c7, c8, (c3 32 (by decide) (by decide) (by decide)).trans (hn_n (Or.inr (by decide)))⟩
end YM
theorem r_onR {G : mj_G} {M0 : mj_M} {s m : Nat} {H : Nat → Int} {Q : mj_P} {d : Nat} (hL : yq_L G M0 s m H) (hH : ye_H H) {T : ye_T} (hk : ye_okT H T) {n dn : Int} (hd : 0 ≤ dn ∧ dn ≤ 12 - T.1 222) : ∀ (f : Nat) (i : Int) (M : mj_M) (cb sb : Nat), i + f = dn → 0 ≤ i → yq_T s m M0 (ye_it H (fun _ => 0) T i.toNat) M → (∀ M, yq_T s m M0 (ye_it H (fun _ => 0) T dn.toNat) M → Q (some (.inl dn)) G M) → wz (d + 4) mt_X12_on.2.2.2.2.1 Q (mt_X12_on.2.2.2.2.1.drop 34) [some (.inr (.inr (some m))), some (.inl n), some (.inl dn), some (.inl i)] [] G M cb sb := by
  have dn12 : dn ≤ 12 := by have := hk.1.1; omega
  intro f
  induction f with
  | zero =>
    intro i M cb sb e i0 hT h
    obtain rfl : i = dn := by omega
    refine w_iln rfl ?_
    refine w_iln rfl ?_
    refine w_cmge (fun c1 => ?_) (fun c1 => ?_)
    · skip
      refine w_iln rfl ?_
      exact w_iret (fun q => by cases q) (h _ hT)
    · exfalso; omega
  | succ f ih =>
    intro i M cb sb e i0 hT h
    have hok := ye_it_ok hH hk (xs := fun _ => 0) (fun _ => ⟨Int.le_refl 0, by decide⟩) i.toNat (by omega)
    have et : (i + 1).toNat = i.toNat + 1 := by omega
    refine w_iln rfl ?_
    refine w_iln rfl ?_
    refine w_cmge (fun c1 => ?_) (fun c1 => ?_)
    · exfalso; omega
    · skip
      refine w_aln rfl ?_
      refine w_ic ?_
      refine w_cv (st := []) rfl hL.gm rfl (Nat.le_of_ble_eq_true rfl) (fun kk h => h) (r_monthT (d := d) hL hT hH hok.1 (by rw [hok.2]; omega) ⟨Int.le_refl 0, by decide⟩ (fun M1 hT1 => ?_))
      refine w_ii rfl ⟨by show (-2147483648 : Int) ≤ i + 1; omega, by show i + 1 < (2147483648 : Int); omega⟩ ?_
      show wz _ _ _ _ [some (.inr (.inr (some m))), some (.inl n), some (.inl dn), some (.inl (i + 1))] _ _ _ _ _
      refine w_goto ?_
      exact ih (i + 1) _ _ _ (by omega) (by omega) (by rw [et]; exact hT1) h
theorem r_X12_onY {G : mj_G} {M : mj_M} {s m : Nat} {Q : mj_P} (hL : yq_L G M s m (M.1 s)) (hH : ye_H2 (M.1 s)) {n : Int} (hr : M.1 s 221 = 0 ∨ M.1 s 221 = 1) (hk : M.1 s 221 = 1 → ye_okT (M.1 s) (ye_S (M.1 s) 0)) (h0 : ¬ (M.1 s 221 = 1 ∧ 0 ≤ n ∧ n ≤ 12) → Q (some (.inl (-1))) G (mj_p0 M m 0 0)) (h1 : M.1 s 221 = 1 ∧ 0 ≤ n ∧ n ≤ 12 → ∀ M1, yw_R s m 1 (ye_it (M.1 s) (fun _ => 0) (ye_S (M.1 s) 0) (lr_on (M.1 s) n).toNat) M M1 → Q (some (.inl (lr_on (M.1 s) n))) G M1) : mj_R mj_tab (35 + 5) 221 [.inr (.inr (some m)), .inl n] G M Q := by
  have b222 : M.1 s 221 = 1 → 0 ≤ M.1 s 222 ∧ M.1 s 222 ≤ 12 := fun c => by
    have q := (hk c).1
    have e : (ye_S (M.1 s) 0).1 222 = M.1 s 222 := by show M.1 s (0 + 222) = _; rw [Nat.zero_add]
    rw [e] at q; exact q
  refine ⟨Nat.le_of_ble_eq_true rfl, ?_⟩
  show wz 39 mt_X12_on.2.2.2.2.1 _ mt_X12_on.2.2.2.2.1 [some (.inr (.inr (some m))), some (.inl n), none, none] [] G M _ _
  refine w_aln rfl ?_
  refine w_ic ?_
  refine w_pi hL.gm rfl (by decide) rfl (fun q => by cases q) ?_
  refine w_aln rfl ?_
  refine w_gr hL.gm rfl (by decide) rfl (hL.m6) ?_
  refine w_sp ?_
  refine w_iald (v := (M.1 s 221)) hL.gs rfl (by show (0 : Int) ≤ 221; omega) (by show 221 < ((537 : Nat) : Int); omega) ((congrFun (wz_c hL.sm) _).trans (congrArg (M.1 s) (show (221 : Int).toNat = 221 by omega))) ?_
  refine w_ifeq (fun c1 => ?_) (fun c1 => ?_)
  · skip
    refine w_ic ?_
    exact w_iret (fun q => by cases q) (h0 (by omega))
  · skip
    refine w_iln rfl ?_
    refine w_ic ?_
    refine w_bp ?_
    refine w_cs (st := []) rfl (Nat.le_of_ble_eq_true rfl) (fun kk h => h) ⟨Nat.le_of_ble_eq_true rfl, ?_⟩
    show wz (35 + 3) mt_X12_isIn.2.2.2.2.1 _ mt_X12_isIn.2.2.2.2.1 [some (.inl n), some (.inl 0), some (.inl 12)] [] _ _ _ _
    refine w_iln rfl ?_
    refine w_iln rfl ?_
    refine w_cmlt (fun c2 => ?_) (fun c2 => ?_)
    · skip
      refine w_ic ?_
      refine w_iret (fun _ => Or.inl rfl) ?_
      refine w_ifne (fun c3 => ?_) (fun c3 => ?_)
      · exfalso; omega
      · skip
        refine w_ic ?_
        exact w_iret (fun q => by cases q) (h0 (by omega))
    · skip
      refine w_iln rfl ?_
      refine w_iln rfl ?_
      refine w_cmgt (fun c4 => ?_) (fun c4 => ?_)
      · skip
        refine w_ic ?_
        refine w_iret (fun _ => Or.inl rfl) ?_
        refine w_ifne (fun c5 => ?_) (fun c5 => ?_)
        · exfalso; omega
        · skip
          refine w_ic ?_
          exact w_iret (fun q => by cases q) (h0 (by omega))
      · skip
        refine w_ic ?_
        refine w_goto ?_
        refine w_iret (fun _ => Or.inr rfl) ?_
        refine w_ifne (fun c6 => ?_) (fun c6 => ?_)
        · skip
          have hb := b222 (by omega)
          refine w_iln rfl ?_
          refine w_bp ?_
          refine w_aln rfl ?_
          refine w_gr hL.gm rfl (by decide) rfl (hL.m6) ?_
          refine w_sp ?_
          refine w_iald (v := (M.1 s 222)) hL.gs rfl (by show (0 : Int) ≤ 222; omega) (by show 222 < ((537 : Nat) : Int); omega) ((congrFun (wz_c hL.sm) _).trans (congrArg (M.1 s) (show (222 : Int).toNat = 222 by omega))) ?_
          refine w_sub ⟨by show (-2147483648 : Int) ≤ 12 - (M.1 s 222); omega, by show 12 - (M.1 s 222) < (2147483648 : Int); omega⟩ ?_
          refine w_cmge (fun c7 => ?_) (fun c7 => ?_)
          · skip
            refine w_bp ?_
            refine w_aln rfl ?_
            refine w_gr hL.gm rfl (by decide) rfl (hL.m6) ?_
            refine w_sp ?_
            refine w_iald (v := (M.1 s 222)) hL.gs rfl (by show (0 : Int) ≤ 222; omega) (by show 222 < ((537 : Nat) : Int); omega) ((congrFun (wz_c hL.sm) _).trans (congrArg (M.1 s) (show (222 : Int).toNat = 222 by omega))) ?_
            refine w_sub ⟨by show (-2147483648 : Int) ≤ 12 - (M.1 s 222); omega, by show 12 - (M.1 s 222) < (2147483648 : Int); omega⟩ ?_
            refine w_isn ?_
            show wz _ _ _ _ [some (.inr (.inr (some m))), some (.inl n), some (.inl (12 - (M.1 s 222))), none] _ _ _ _ _
            refine w_ic ?_
            refine w_isn ?_
            show wz _ _ _ _ [some (.inr (.inr (some m))), some (.inl n), some (.inl (12 - (M.1 s 222))), some (.inl 0)] _ _ _ _ _
            have h1y : M.1 s 221 = 1 := by omega
            have e22 : (ye_S (M.1 s) 0).1 222 = M.1 s 222 := by show M.1 s (0 + 222) = _; rw [Nat.zero_add]
            have hb := b222 h1y
            have ed : lr_on (M.1 s) n = 12 - (M.1 s 222) := by unfold lr_on; rw [if_pos ⟨h1y, by omega, by omega⟩]; split <;> omega
            rw [← ed]
            refine r_onR (d := 35) hL.th hH.1 (hk h1y) (by rw [e22]; omega) (lr_on (M.1 s) n).toNat 0 _ _ _ (by omega) (by decide) (yq_T.S0 hL) (fun M1 hT1 => h1 ⟨h1y, by omega, by omega⟩ M1 (hT1.wR hL 1 h1y))
          · skip
            refine w_iln rfl ?_
            refine w_goto ?_
            refine w_isn ?_
            show wz _ _ _ _ [some (.inr (.inr (some m))), some (.inl n), some (.inl n), none] _ _ _ _ _
            refine w_ic ?_
            refine w_isn ?_
            show wz _ _ _ _ [some (.inr (.inr (some m))), some (.inl n), some (.inl n), some (.inl 0)] _ _ _ _ _
            have h1y : M.1 s 221 = 1 := by omega
            have e22 : (ye_S (M.1 s) 0).1 222 = M.1 s 222 := by show M.1 s (0 + 222) = _; rw [Nat.zero_add]
            have hb := b222 h1y
            have ed : lr_on (M.1 s) n = n := by unfold lr_on; rw [if_pos ⟨h1y, by omega, by omega⟩]; split <;> omega
            rw [← ed]
            refine r_onR (d := 35) hL.th hH.1 (hk h1y) (by rw [e22]; omega) (lr_on (M.1 s) n).toNat 0 _ _ _ (by omega) (by decide) (yq_T.S0 hL) (fun M1 hT1 => h1 ⟨h1y, by omega, by omega⟩ M1 (hT1.wR hL 1 h1y))
        · exfalso; omega
theorem r_X12_beginY {G : mj_G} {M : mj_M} {s m : Nat} {Q : mj_P} (hL : yq_L G M s m (M.1 s)) (hH : ye_H2 (M.1 s)) (h0 : M.1 s 0 = 0 → Q (some (.inl 0)) G (mj_p0 M m 0 0)) (h1 : M.1 s 0 ≠ 0 → ∀ M1, yw_R s m 1 (ye_fr (M.1 s)) M M1 → Q (some (.inl 1)) G M1) : mj_R mj_tab (37 + 3) 162 [.inr (.inr (some m))] G M Q := by
  refine ⟨Nat.le_of_ble_eq_true rfl, ?_⟩
  show wz 39 mt_X12_begin.2.2.2.2.1 _ mt_X12_begin.2.2.2.2.1 [some (.inr (.inr (some m)))] [] G M _ _
  refine w_aln rfl ?_
  refine w_ic ?_
  refine w_pi hL.gm rfl (by decide) rfl (fun q => by cases q) ?_
  refine w_aln rfl ?_
  refine w_gr hL.gm rfl (by decide) rfl (hL.m6) ?_
  refine w_ic ?_
  refine w_iald (v := (M.1 s 0)) hL.gs rfl (by show (0 : Int) ≤ 0; omega) (by show 0 < ((537 : Nat) : Int); omega) ((congrFun (wz_c hL.sm) _).trans (congrArg (M.1 s) (show (0 : Int).toNat = 0 by omega))) ?_
  refine w_ifne (fun c1 => ?_) (fun c1 => ?_)
  · skip
    refine w_aln rfl ?_
    refine w_cv (st := []) rfl hL.gm rfl (Nat.le_of_ble_eq_true rfl) (fun kk h => h) (r_X12_beginsC (d := 37) hL.gm hL.gs hL.m6 (fun j hj => hL.th.vn hj) hH.1.1 hH.2 (fun M1 hZ => ?_))
    refine w_ic ?_
    obtain ⟨z1, z2, z3, z4, z5, z6, z7⟩ := hZ
    have e : (mj_p0 M m 0 0).1 s = M.1 s := wz_c hL.sm
    rw [e] at z3
    exact w_iret (fun _ => Or.inr rfl) (h1 (by omega) _ ⟨z3, z4, z5, z6, z7, (congrFun (z2 m hL.sm.symm) 32).trans (hn_n (Or.inr (by decide)))⟩)
  · skip
    refine w_ic ?_
    exact w_iret (fun _ => Or.inl rfl) (h0 (by omega))
end
section
/-! ===== YEARS now and of the images, alike on both sides ===== -/
/-- the cells of the YEAR at Y tell T -/
def yw_V (M : mj_M) (w : Nat → Nat) (Y : Nat) (T : ye_T) : Prop := (∀ j, 222 ≤ j → j < 232 → M.1 (w Y) (ye_f j) = T.1 j) ∧ (∀ j : Nat, j < 12 → (j : Int) < T.1 222 → M.1 (w (Y + 1)) j = T.2.1 j ∧ M.1 (w (Y + 2)) j = T.2.2.1 j ∧ M.1 (w (Y + 3)) j = T.2.2.2.1 j) ∧ (∀ t u, t < 8 → u < 11 → M.1 (w (Y + 5 + t)) u = T.2.2.2.2 t u)
def yw_E (M : mj_M) (H : Nat → Int) (o : Nat) (w : Nat → Nat) (Y : Nat) : Prop := M.1 (w Y) 0 = H (o + 221) ∧ (H (o + 221) = 0 ∨ H (o + 221) = 1) ∧ (H (o + 221) = 1 → yw_V M w Y (ye_S H o) ∧ ye_okT (fun j => H (o + j)) (ye_S H o))
/-- the YEAR at Y is the one that H tells from o on; the CONTRACTS there are in order -/
def yw_F (M : mj_M) (H : Nat → Int) (o : Nat) (w : Nat → Nat) (Y : Nat) : Prop := yw_E M H o w Y ∧ yd_ok (fun j => H (o + j))
def ye_eq (T T' : ye_T) : Prop := (∀ j, 222 ≤ j → j < 232 → T'.1 j = T.1 j) ∧ (∀ j, j < 12 → T'.2.1 j = T.2.1 j ∧ T'.2.2.1 j = T.2.2.1 j ∧ T'.2.2.2.1 j = T.2.2.2.1 j) ∧ (∀ t u, t < 8 → u < 11 → T'.2.2.2.2 t u = T.2.2.2.2 t u)
def yw_q (M M' : mj_M) (w : Nat → Nat) (Y Y' : Nat) : Prop := (∀ f, f < 15 → f < 3 ∨ 7 ≤ f → M'.1 (w Y') f = M.1 (w Y) f) ∧ (∀ v, v < 3 → ∀ j, j < 12 → M'.1 (w (Y' + (1 + v))) j = M.1 (w (Y + (1 + v))) j) ∧ (∀ t u, t < 8 → u < 11 → M'.1 (w (Y' + 5 + t)) u = M.1 (w (Y + 5 + t)) u)
def lq_W (G : mj_G) (M : mj_M) (m s kp kc : Nat) (w : Nat → Nat) : Prop := lq_WA G w ∧ lq_WB M w ∧ M.1 m 32 = -1 ∧ yw_F M (M.1 s) 0 w 61 ∧ ∀ k, k < 2 → M.1 kc k ≠ 0 → yw_F M (M.1 kp) (538 * k) w (lq_yi k)
/-- frames that leave YEARS of the class -/
abbrev lq_Wu (W : List (Nat × Nat × Nat)) : Prop := ∀ q ∈ W, q.1 ≠ 1010 ∧ q.1 ≠ 42100 ∧ q.1 ≠ 43100 ∧ q.1 ≠ 44100 ∧ q.1 ≠ 45104 ∧ q.1 ≠ 46100 ∧ (q.1 ≠ 1007 ∨ q.2.2 < 3 ∨ 3 < q.2.1)
abbrev lq_Ww (W : List (Nat × Nat × Nat)) : Prop := ∀ q ∈ W, (q.1 ≠ 1010 ∧ q.1 ≠ 42100 ∧ q.1 ≠ 43100 ∧ q.1 ≠ 44100 ∧ q.1 ≠ 45104 ∧ q.1 ≠ 46100 ∧ (q.1 ≠ 1007 ∨ q.2.2 < 3 ∨ 3 < q.2.1)) ∧ (q.1 ≠ 51100 ∨ (88 ≤ q.2.1 ∧ q.2.2 < 184) ∨ 356 ≤ q.2.1) ∧ q.1 ≠ 70100 ∧ q.1 ≠ 48102 ∧ (q.1 ≠ 1012 ∨ q.2.2 < 32 ∨ 32 < q.2.1)
section YN
variable {G : mj_G} {M M' M1 M2 : mj_M} {x s m kp kc tp ud dn : Nat} {w : Nat → Nat} {z1 z : Int} {H H' : Nat → Int} {o o' Y Y' : Nat} {T T' : ye_T}
theorem ye_okT.cg (h : ye_okT H T) (e0 : H' 0 = H 0) (e5 : ∀ t, t < 8 → H' (5 + 9 * t) = H (5 + 9 * t)) (e : ye_eq T T') : ye_okT H' T' := by
  obtain ⟨eg, ea, er⟩ := e
  obtain ⟨a1, a2, a3, a4, a5, a6, a7, a8, a9, a10, a11, a12, a13⟩ := h
  have g2 := eg 222 (by decide) (by decide)
  have g3 := eg 223 (by decide) (by decide)
  have g4 := eg 224 (by decide) (by decide)
  have g5 := eg 225 (by decide) (by decide)
  have g6 := eg 226 (by decide) (by decide)
  have g7 := eg 227 (by decide) (by decide)
  have g8 := eg 228 (by decide) (by decide)
  have g9 := eg 229 (by decide) (by decide)
  have ga := eg 230 (by decide) (by decide)
  have gb := eg 231 (by decide) (by decide)
  refine ⟨by rw [g2]; exact a1, by rw [g3, e0]; exact a2, by rw [g4, g2]; exact a3, by rw [g5]; exact a4, by rw [g6, g2]; exact a5, by rw [g7, g2]; exact a6, by rw [g8, g2]; exact a7, by rw [g9, g2]; exact a8, by rw [ga, g2]; exact a9, by rw [gb, g2]; exact a10, fun t ht => ?_, fun t ht hn u hu => ?_, fun j hj => ?_⟩
  · have q := a11 t ht
    unfold ye_rk at q ⊢
    rw [e5 t ht, g2, er t 0 ht (by decide), er t 1 ht (by decide), er t 2 ht (by decide), er t 3 ht (by decide), er t 4 ht (by decide), er t 5 ht (by decide), er t 6 ht (by decide), er t 7 ht (by decide), er t 8 ht (by decide), er t 9 ht (by decide), er t 10 ht (by decide)]
    exact q
  · rw [er t u ht hu]; exact a12 t ht (by rw [e0] at hn; exact hn) u hu
  · rw [g2] at hj
    have q := a13 j hj
    obtain ⟨b1, b2, b3⟩ := ea j (by omega)
    rw [b1, b2, b3, e0]; exact q
theorem ye_f_b {j : Nat} (h1 : 222 ≤ j) (h2 : j < 232) : ye_f j < 15 ∧ (ye_f j < 3 ∨ 7 ≤ ye_f j) := by
  obtain ⟨k, rfl⟩ : ∃ k, j = 222 + k := ⟨j - 222, by omega⟩
  exact (by decide : ∀ k, k < 10 → ye_f (222 + k) < 15 ∧ (ye_f (222 + k) < 3 ∨ 7 ≤ ye_f (222 + k))) k (by omega)
theorem yw_V.cg (h : yw_V M w Y T) (q : yw_q M M' w Y Y') (e : ye_eq T T') : yw_V M' w Y' T' := by
  obtain ⟨h1, h2, h3⟩ := h
  obtain ⟨q1, q2, q3⟩ := q
  obtain ⟨eg, ea, er⟩ := e
  refine ⟨fun j j1 j2 => ?_, fun j hj hjm => ?_, fun t u ht hu => ?_⟩
  · have hf := ye_f_b j1 j2
    rw [q1 _ hf.1 hf.2, eg j j1 j2]; exact h1 j j1 j2
  · rw [eg 222 (by decide) (by decide)] at hjm
    obtain ⟨c1, c2, c3⟩ := h2 j hj hjm
    obtain ⟨b1, b2, b3⟩ := ea j hj
    exact ⟨(q2 0 (by decide) j hj).trans (c1.trans b1.symm), (q2 1 (by decide) j hj).trans (c2.trans b2.symm), (q2 2 (by decide) j hj).trans (c3.trans b3.symm)⟩
  · exact (q3 t u ht hu).trans ((h3 t u ht hu).trans (er t u ht hu).symm)
theorem ye_S.eq (eH : ∀ j, j < 88 ∨ (184 ≤ j ∧ j < 356) → H' (o' + j) = H (o + j)) : ye_eq (ye_S H o) (ye_S H' o') := ⟨fun j j1 j2 => eH j (by omega), fun j hj => ⟨eH (320 + 3 * j) (by omega), eH (321 + 3 * j) (by omega), eH (322 + 3 * j) (by omega)⟩, fun t u ht hu => eH (232 + 11 * t + u) (by omega)⟩
theorem yd_ok.cg (h : yd_ok H) (e0 : H' 0 = H 0) (e : ∀ j, j < 36 → H' (184 + j) = H (184 + j)) : yd_ok H' := fun j hj => by
  have k := h j hj
  have e1 := e (3 * j) (by omega)
  have e2 := e (1 + 3 * j) (by omega)
  have e3 := e (2 + 3 * j) (by omega)
  rw [show 184 + (1 + 3 * j) = 185 + 3 * j by omega] at e2
  rw [show 184 + (2 + 3 * j) = 186 + 3 * j by omega] at e3
  rw [e0, e1, e2, e3]; exact k
theorem yw_E.cg (h : yw_E M H o w Y) (q : yw_q M M' w Y Y') (eH : ∀ j, j < 88 ∨ (184 ≤ j ∧ j < 356) → H' (o' + j) = H (o + j)) : yw_E M' H' o' w Y' := by
  obtain ⟨h1, h2, h3⟩ := h
  have e221 := eH 221 (by omega)
  refine ⟨((q.1 0 (by decide) (by decide)).trans h1).trans e221.symm, by rw [e221]; exact h2, fun c => ?_⟩
  rw [e221] at c
  obtain ⟨a, b⟩ := h3 c
  exact ⟨a.cg q (ye_S.eq eH), b.cg (eH 0 (by omega)) (fun t ht => eH (5 + 9 * t) (by omega)) (ye_S.eq eH)⟩
theorem yw_F.cg (h : yw_F M H o w Y) (q : yw_q M M' w Y Y') (eH : ∀ j, j < 88 ∨ (184 ≤ j ∧ j < 356) → H' (o' + j) = H (o + j)) : yw_F M' H' o' w Y' := ⟨h.1.cg q eH, h.2.cg (eH 0 (by omega)) (fun j hj => eH (184 + j) (by omega))⟩
theorem yw_q.of (e : ∀ v, v < 13 → M'.1 (w (Y + v)) = M.1 (w (Y + v))) : yw_q M M' w Y Y := ⟨fun f _ _ => congrFun (e 0 (by decide)) f, fun v hv j _ => congrFun (e (1 + v) (by omega)) j, fun t u ht _ => by rw [Nat.add_assoc]; exact congrFun (e (5 + t) (by omega)) u⟩
theorem yw_gv (gA : lq_WA G w) (hY : Y ∈ yw_Y) {v : Nat} (hv : v < 13) : ∃ t n, G (w (Y + v)) = (t, n) ∧ (t = 1010 ∨ t = 42100 ∨ t = 43100 ∨ t = 44100 ∨ t = 45104 ∨ t = 46100) := by
  obtain ⟨g0, g1, g2, g3, g4, g5⟩ := gA Y hY
  by_cases c : v < 5
  · rcases (by omega : v = 0 ∨ v = 1 ∨ v = 2 ∨ v = 3 ∨ v = 4) with e | e | e | e | e <;> subst e
    · exact ⟨_, _, g0, Or.inl rfl⟩
    · exact ⟨_, _, g1, Or.inr (Or.inl rfl)⟩
    · exact ⟨_, _, g2, Or.inr (Or.inr (Or.inl rfl))⟩
    · exact ⟨_, _, g3, Or.inr (Or.inr (Or.inr (Or.inl rfl)))⟩
    · exact ⟨_, _, g4, Or.inr (Or.inr (Or.inr (Or.inr (Or.inl rfl))))⟩
  · have q := g5 (v - 5) (by omega)
    rw [show Y + 5 + (v - 5) = Y + v by omega] at q
    exact ⟨_, _, q, Or.inr (Or.inr (Or.inr (Or.inr (Or.inr rfl))))⟩
theorem lq_WB.cg (h : lq_WB M w) (r : ∀ Y, Y ∈ yw_Y → ∀ k, 3 ≤ k → k < 7 → M'.2.2 (w Y) k = M.2.2 (w Y) k) (r4 : ∀ Y, Y ∈ yw_Y → ∀ t, t < 8 → M'.2.2 (w (Y + 4)) t = M.2.2 (w (Y + 4)) t) (r7 : ∀ i, i = 29 ∨ i = 246 ∨ i = 291 → M'.2.2 (w i) 3 = M.2.2 (w i) 3) : lq_WB M' w := ⟨fun Y hY => by
  obtain ⟨b1, b2, b3, b4, b5⟩ := h.1 Y hY
  exact ⟨(r Y hY 3 (by decide) (by decide)).trans b1, (r Y hY 4 (by decide) (by decide)).trans b2, (r Y hY 5 (by decide) (by decide)).trans b3, (r Y hY 6 (by decide) (by decide)).trans b4, fun t ht => (r4 Y hY t ht).trans (b5 t ht)⟩, (r7 29 (by omega)).trans h.2.1, fun k hk => (r7 _ (by unfold lq_sk; split <;> omega)).trans (h.2.2 k hk)⟩
theorem lq_W.cg (h : lq_W G M m s kp kc w) (b : lq_WB M' w) (e32 : M'.1 m 32 = M.1 m 32) (e : ∀ Y, Y ∈ yw_Y → ∀ v, v < 13 → M'.1 (w (Y + v)) = M.1 (w (Y + v))) (es : ∀ j, j < 88 ∨ (184 ≤ j ∧ j < 356) → M'.1 s j = M.1 s j) (ek : M'.1 kp = M.1 kp) (ec : M'.1 kc = M.1 kc) : lq_W G M' m s kp kc w := ⟨h.1, b, e32.trans h.2.2.1, h.2.2.2.1.cg (yw_q.of (e 61 (by decide))) (fun j hj => by rw [Nat.zero_add]; exact es j hj), fun k hk h0 => by
  rw [ec] at h0; rw [ek]
  exact (h.2.2.2.2 k hk h0).cg (yw_q.of (e _ (lq_yi_in k).1)) (fun _ _ => rfl)⟩
/-- cells and references of YEARS by a frame that leaves them -/
theorem lq_WB.fr {W : List (Nat × Nat × Nat)} (hB : lq_WB M w) (gA : lq_WA G w) (hA : lq_A G w) (f : ab_frm W G M M') (cW : lq_Wu W) : lq_WB M' w ∧ ∀ Y, Y ∈ yw_Y → ∀ v, v < 13 → M'.1 (w (Y + v)) = M.1 (w (Y + v)) := by
  have fr : ∀ {a t n : Nat} (k : Nat), G a = (t, n) → (∀ q ∈ W, q.1 ≠ t) → M'.1 a k = M.1 a k ∧ M'.2.2 a k = M.2.2 a k := fun k g hh => f _ k (by rw [g]; rintro ⟨r, hr, e1, e2, e3⟩; exact hh r hr e1)
  have f7 : ∀ i, G (w i) = (1007, 0) → M'.2.2 (w i) 3 = M.2.2 (w i) 3 := fun i g => (f _ 3 (by rw [g]; rintro ⟨r, hr, e1, e2, e3⟩; have := (cW r hr).2.2.2.2.2.2; omega)).2
  refine ⟨hB.cg (fun Y hY k _ _ => (fr k (gA Y hY).1 (fun q hq => (cW q hq).1)).2) (fun Y hY t _ => (fr t (gA Y hY).2.2.2.2.1 (fun q hq => (cW q hq).2.2.2.2.1)).2) (fun i hi => f7 i (by rcases hi with z | z | z <;> subst z <;> first | exact hA.2.2.1 | exact hA.2.2.2.2.1 | exact hA.2.2.2.2.2.1)), fun Y hY v hv => funext fun k => ?_⟩
  obtain ⟨t, n, g, ht⟩ := yw_gv gA hY hv
  refine (fr k g (fun q hq => ?_)).1
  have c := cW q hq
  omega
theorem lq_W.go {W : List (Nat × Nat × Nat)} (h : lq_W G M m s kp kc w) (hA : lq_A G w) (gm : G m = (1012, 0)) (gs : G s = (51100, 537)) (gk : G kp = (70100, 1076)) (gc : G kc = (48102, 2)) (f : ab_frm W G M M') (cW : lq_Ww W) : lq_W G M' m s kp kc w := by
  obtain ⟨hB, hv⟩ := h.2.1.fr h.1 hA f (fun q hq => (cW q hq).1)
  have fr : ∀ {a t n : Nat} (k : Nat), G a = (t, n) → (∀ q ∈ W, q.1 ≠ t) → M'.1 a k = M.1 a k ∧ M'.2.2 a k = M.2.2 a k := fun k g hh => f _ k (by rw [g]; rintro ⟨r, hr, e1, e2, e3⟩; exact hh r hr e1)
  exact h.cg hB (f m 32 (by rw [gm]; rintro ⟨r, hr, e1, e2, e3⟩; have := (cW r hr).2.2.2.2; omega)).1 hv (fun j hj => (f s j (by rw [gs]; rintro ⟨r, hr, e1, e2, e3⟩; have := (cW r hr).2.1; omega)).1) (funext fun k => (fr k gk (fun q hq => (cW q hq).2.2.1)).1) (funext fun k => (fr k gc (fun q hq => (cW q hq).2.2.2.1)).1)
/-- a call of the reference that tells s back -/
theorem lq_W.tr {W : List (Nat × Nat × Nat)} (h : lq_W G M m s kp kc w) (hA : lq_A G w) (f : ab_frm W G M M') (cW : lq_Wu W) (e32 : M'.1 m 32 = M.1 m 32) (es : ∀ j, j < 537 → M'.1 s j = M.1 s j) (ek : M'.1 kp = M.1 kp) (ec : M'.1 kc = M.1 kc) : lq_W G M' m s kp kc w := by
  obtain ⟨hB, hv⟩ := h.2.1.fr h.1 hA f cW
  exact h.cg hB e32 hv (fun j hj => es j (by omega)) ek ec
theorem yd_ok.zz (h : yd_ok H) : yd_ok (fun j => H (0 + j)) := by
  have e : (fun j => H (0 + j)) = H := funext fun j => by rw [Nat.zero_add]
  rw [e]; exact h
theorem yd_ok.zy (h : yd_ok (fun j => H (0 + j))) : yd_ok H := by
  have e : (fun j => H (0 + j)) = H := funext fun j => by rw [Nat.zero_add]
  rw [e] at h; exact h
/-- a call of the reference that tells CONTRACTS anew -/
theorem lq_W.dl {W : List (Nat × Nat × Nat)} (h : lq_W G M m s kp kc w) (hA : lq_A G w) (f : ab_frm W G M M') (cW : lq_Wu W) (e32 : M'.1 m 32 = M.1 m 32) (es : ∀ j, j < 88 ∨ (221 ≤ j ∧ j < 356) → M'.1 s j = M.1 s j) (ek : M'.1 kp = M.1 kp) (ec : M'.1 kc = M.1 kc) (hd : yd_ok (M'.1 s)) : lq_W G M' m s kp kc w := by
  obtain ⟨gA, gB, m32, ⟨⟨h1, h2, h3⟩, -⟩, hk⟩ := h
  obtain ⟨hB, hv⟩ := gB.fr gA hA f cW
  have e221 : M'.1 s (0 + 221) = M.1 s (0 + 221) := es 221 (by omega)
  have he : ye_eq (ye_S (M.1 s) 0) (ye_S (M'.1 s) 0) := ⟨fun j j1 j2 => es _ (by omega), fun j hj => ⟨es _ (by omega), es _ (by omega), es _ (by omega)⟩, fun t u ht hu => es _ (by omega)⟩
  refine ⟨gA, hB, e32.trans m32, ⟨⟨((congrFun (hv 61 (by decide) 0 (by decide)) 0).trans h1).trans e221.symm, by rw [e221]; exact h2, fun c => ?_⟩, hd.zz⟩, fun k hk2 h0 => ?_⟩
  · rw [e221] at c
    obtain ⟨a, b⟩ := h3 c
    exact ⟨a.cg (yw_q.of (hv 61 (by decide))) he, b.cg (es _ (by omega)) (fun t ht => es _ (by omega)) he⟩
  · rw [ec] at h0; rw [ek]
    exact (hk k hk2 h0).cg (yw_q.of (hv _ (lq_yi_in k).1)) (fun _ _ => rfl)
theorem lq_W.mv (h : lq_W G M m s kp kc w) (e1 : M'.1 = M.1) (e2 : M'.2.2 = M.2.2) : lq_W G M' m s kp kc w := h.cg (h.2.1.cg (fun _ _ _ _ _ => by rw [e2]) (fun _ _ _ _ => by rw [e2]) (fun _ _ => by rw [e2])) (by rw [e1]) (fun _ _ _ _ => by rw [e1]) (fun _ _ => by rw [e1]) (by rw [e1]) (by rw [e1])
/-- all that a MONTH asks of s -/
theorem ye_H.ofs (h : rv_r6 (M.1 s) 0) (hd : yd_ok (M.1 s)) : ye_H2 (M.1 s) := by
  obtain ⟨⟨h0, h1, h2, h3, hT, hw⟩, hB, -⟩ := h
  have tv : ∀ j, 4 ≤ j → j < 76 → 0 ≤ M.1 s j ∧ M.1 s j ≤ 999 ∧ (((j - 4) / 9 : Nat) < M.1 s 0 ∨ M.1 s j = 0) := fun j j1 j2 => by
    have q := hT ((j - 4) / 9) ((j - 4) % 9) (by omega) (by omega)
    rw [Nat.zero_add, show 4 + 9 * ((j - 4) / 9) + (j - 4) % 9 = j by omega] at q
    exact q
  refine ⟨⟨h0, by rw [Nat.zero_add] at h1; exact h1, by rw [Nat.zero_add] at h2; exact h2, by rw [Nat.zero_add] at h3; exact h3, fun j j1 j2 => ⟨(tv j j1 j2).1, (tv j j1 j2).2.1⟩, fun j hj => by have q := hw j hj; rw [Nat.zero_add] at q; exact q, fun t j ht hj => by have q := hB t j ht hj; rw [Nat.zero_add] at q; exact ⟨q.1, q.2.1⟩, hd⟩, fun t ht hn => ?_⟩
  have q := hT t 3 ht (by decide)
  rw [Nat.zero_add, show 4 + 9 * t + 3 = 7 + 9 * t by omega] at q
  omega
end YN
end
