/-! ===== YEARS now and of the images: their cells; a YEAR copied (laid by a program) ===== -/
def yw_Y : List Nat := [61, 278, 323]
def lq_yi (k : Nat) : Nat := if k = 0 then 278 else 323
theorem lq_yi_in (k : Nat) : lq_yi k ∈ yw_Y ∧ lq_yi k ≠ 61 := by unfold lq_yi; split <;> exact ⟨by decide, by decide⟩
theorem yw_Y3 {Y : Nat} (h : Y ∈ yw_Y) : Y = 61 ∨ Y = 278 ∨ Y = 323 := by
  rcases List.mem_cons.mp h with h | h
  · exact Or.inl h
  · rcases List.mem_cons.mp h with h | h
    · exact Or.inr (Or.inl h)
    · rcases List.mem_cons.mp h with h | h
      · exact Or.inr (Or.inr h)
      · cases h
def lq_WA (G : mj_G) (w : Nat → Nat) : Prop := ∀ Y, Y ∈ yw_Y → G (w Y) = (1010, 0) ∧ G (w (Y + 1)) = (42100, 12) ∧ G (w (Y + 2)) = (43100, 12) ∧ G (w (Y + 3)) = (44100, 12) ∧ G (w (Y + 4)) = (45104, 8) ∧ ∀ t, t < 8 → G (w (Y + 5 + t)) = (46100, 11)
def lq_WB (M : mj_M) (w : Nat → Nat) : Prop := (∀ Y, Y ∈ yw_Y → M.2.2 (w Y) 3 = some (w (Y + 1)) ∧ M.2.2 (w Y) 4 = some (w (Y + 2)) ∧ M.2.2 (w Y) 5 = some (w (Y + 3)) ∧ M.2.2 (w Y) 6 = some (w (Y + 4)) ∧ ∀ t, t < 8 → M.2.2 (w (Y + 4)) t = some (w (Y + 5 + t))) ∧ M.2.2 (w 29) 3 = some (w 61) ∧ (∀ k, k < 2 → M.2.2 (w (lq_sk k)) 3 = some (w (lq_yi k)))
def ye_u1 : Nat → Nat := fun i => if i = 0 then 1010 else if i = 1 then 42100 else if i = 2 then 43100 else if i = 3 then 44100 else if i = 4 then 45104 else 46100
theorem ye_u1_U : ye_U ye_u1 := by
  refine ⟨by decide, rfl, rfl, rfl, rfl, rfl, rfl, ?_, by decide⟩
  have h : ∀ i, i < 6 → ∀ j, j < 6 → ye_u1 i = ye_u1 j → i = j := by decide
  exact fun i j hi hj => h i hi j hj
def ye_tg (t : Nat) : Prop := t = 1010 ∨ t = 42100 ∨ t = 43100 ∨ t = 44100 ∨ t = 45104 ∨ t = 46100 ∨ t = 48102
/-- the YEAR's cells at Y: 13 of them -/
abbrev yw_ne (w : Nat → Nat) (Y a : Nat) : Prop := ∀ v, v < 13 → a ≠ w (Y + v)
/-- the cells of the YEAR at Y hold F (ints), A, B, C, R -/
def yk_S (w : Nat → Nat) (Y : Nat) (M0 : mj_M) (F A B C : Nat → Int) (R : Nat → Nat → Int) (M : mj_M) : Prop := M.2 = M0.2 ∧ (∀ a, yw_ne w Y a → M.1 a = M0.1 a) ∧ (∀ f, f < 15 → M.1 (w Y) f = F f) ∧ (∀ j, j < 12 → M.1 (w (Y + 1)) j = A j) ∧ (∀ j, j < 12 → M.1 (w (Y + 2)) j = B j) ∧ (∀ j, j < 12 → M.1 (w (Y + 3)) j = C j) ∧ (∀ t u, t < 8 → u < 11 → M.1 (w (Y + 5 + t)) u = R t u)
section YK2
variable {G : mj_G} {M M0 : mj_M} {w : Nat → Nat} {Y X x : Nat} {F A B C A' : Nat → Int} {R : Nat → Nat → Int} {a b k t f j : Nat} {v : Int}
theorem yw_w (hA : lq_A G w) (hY : Y ∈ yw_Y) (hX : X ∈ yw_Y) {i j : Nat} (hi : i < 13) (hj : j < 13) (h : Y ≠ X ∨ i ≠ j) : w (Y + i) ≠ w (X + j) := fun e => by
  rcases yw_Y3 hY with rfl | rfl | rfl <;> rcases yw_Y3 hX with rfl | rfl | rfl <;> (have q := hA.1 _ _ (by omega) (by omega) e; omega)
theorem yk_S.rf (h : yk_S w Y M0 F A B C R M) (e : M0.2.2 a k = some b) : M.2.2 a k = some b := by rw [h.1]; exact e
theorem yk_S.o (h : yk_S w Y M0 F A B C R M) (hA : lq_A G w) (hY : Y ∈ yw_Y) (hX : X ∈ yw_Y) (n : X ≠ Y) {i : Nat} (hi : i < 13) : M.1 (w (X + i)) = M0.1 (w (X + i)) := h.2.1 _ (fun v hv => yw_w hA hX hY hi hv (Or.inl n))
theorem yk_S.pf (h : yk_S w Y M0 F A B C R M) (hA : lq_A G w) (hY : Y ∈ yw_Y) : yk_S w Y M0 (rv_up F f v) A B C R (mj_p0 M (w Y) f v) := by
  have n : ∀ i, 0 < i → i < 13 → w (Y + i) ≠ w Y := fun i h0 hi => yw_w (j := 0) hA hY hY hi (by decide) (Or.inr (by omega))
  exact ⟨h.1, fun a ha => (wz_c (ha 0 (by decide))).trans (h.2.1 a ha), cp_up h.2.2.1, fun j hj => (congrFun (wz_c (n 1 (by decide) (by decide))) j).trans (h.2.2.2.1 j hj), fun j hj => (congrFun (wz_c (n 2 (by decide) (by decide))) j).trans (h.2.2.2.2.1 j hj), fun j hj => (congrFun (wz_c (n 3 (by decide) (by decide))) j).trans (h.2.2.2.2.2.1 j hj), fun t u ht hu => (congrFun (wz_c (by rw [Nat.add_assoc]; exact n (5 + t) (by omega) (by omega))) u).trans (h.2.2.2.2.2.2 t u ht hu)⟩
theorem yk_S.cA (h : yk_S w Y M0 F A B C R M) (hA : lq_A G w) (hY : Y ∈ yw_Y) (hs : ∀ j, j < 12 → M.1 a j = A' j) : yk_S w Y M0 F A' B C R (mj_cp0 M a (w (Y + 1)) 0 0 12) := by
  have n : ∀ i, i ≠ 1 → i < 13 → w (Y + i) ≠ w (Y + 1) := fun i h0 hi => yw_w hA hY hY hi (by decide) (Or.inr h0)
  exact ⟨h.1, fun a ha => (cp0_o (ha 1 (by decide))).trans (h.2.1 a ha), fun f hf => (congrFun (cp0_o (n 0 (by decide) (by decide))) f).trans (h.2.2.1 f hf), fun j hj => (cp0_i hj).trans (hs j hj), fun j hj => (congrFun (cp0_o (n 2 (by decide) (by decide))) j).trans (h.2.2.2.2.1 j hj), fun j hj => (congrFun (cp0_o (n 3 (by decide) (by decide))) j).trans (h.2.2.2.2.2.1 j hj), fun t u ht hu => (congrFun (cp0_o (by rw [Nat.add_assoc]; exact n (5 + t) (by omega) (by omega))) u).trans (h.2.2.2.2.2.2 t u ht hu)⟩
theorem yk_S.cB (h : yk_S w Y M0 F A B C R M) (hA : lq_A G w) (hY : Y ∈ yw_Y) (hs : ∀ j, j < 12 → M.1 a j = A' j) : yk_S w Y M0 F A A' C R (mj_cp0 M a (w (Y + 2)) 0 0 12) := by
  have n : ∀ i, i ≠ 2 → i < 13 → w (Y + i) ≠ w (Y + 2) := fun i h0 hi => yw_w hA hY hY hi (by decide) (Or.inr h0)
  exact ⟨h.1, fun a ha => (cp0_o (ha 2 (by decide))).trans (h.2.1 a ha), fun f hf => (congrFun (cp0_o (n 0 (by decide) (by decide))) f).trans (h.2.2.1 f hf), fun j hj => (congrFun (cp0_o (n 1 (by decide) (by decide))) j).trans (h.2.2.2.1 j hj), fun j hj => (cp0_i hj).trans (hs j hj), fun j hj => (congrFun (cp0_o (n 3 (by decide) (by decide))) j).trans (h.2.2.2.2.2.1 j hj), fun t u ht hu => (congrFun (cp0_o (by rw [Nat.add_assoc]; exact n (5 + t) (by omega) (by omega))) u).trans (h.2.2.2.2.2.2 t u ht hu)⟩
theorem yk_S.cC (h : yk_S w Y M0 F A B C R M) (hA : lq_A G w) (hY : Y ∈ yw_Y) (hs : ∀ j, j < 12 → M.1 a j = A' j) : yk_S w Y M0 F A B A' R (mj_cp0 M a (w (Y + 3)) 0 0 12) := by
  have n : ∀ i, i ≠ 3 → i < 13 → w (Y + i) ≠ w (Y + 3) := fun i h0 hi => yw_w hA hY hY hi (by decide) (Or.inr h0)
  exact ⟨h.1, fun a ha => (cp0_o (ha 3 (by decide))).trans (h.2.1 a ha), fun f hf => (congrFun (cp0_o (n 0 (by decide) (by decide))) f).trans (h.2.2.1 f hf), fun j hj => (congrFun (cp0_o (n 1 (by decide) (by decide))) j).trans (h.2.2.2.1 j hj), fun j hj => (congrFun (cp0_o (n 2 (by decide) (by decide))) j).trans (h.2.2.2.2.1 j hj), fun j hj => (cp0_i hj).trans (hs j hj), fun t u ht hu => (congrFun (cp0_o (by rw [Nat.add_assoc]; exact n (5 + t) (by omega) (by omega))) u).trans (h.2.2.2.2.2.2 t u ht hu)⟩
theorem yk_S.cR (h : yk_S w Y M0 F A B C R M) (hA : lq_A G w) (hY : Y ∈ yw_Y) (ht : t < 8) {r : Nat → Int} (hs : ∀ j, j < 11 → M.1 a j = r j) : yk_S w Y M0 F A B C (ye_ru R t r) (mj_cp0 M a (w (Y + 5 + t)) 0 0 11) := by
  have n : ∀ i, i ≠ 5 + t → i < 13 → w (Y + i) ≠ w (Y + 5 + t) := fun i h0 hi => by rw [Nat.add_assoc]; exact yw_w hA hY hY hi (by omega) (Or.inr h0)
  refine ⟨h.1, fun a ha => (cp0_o (by rw [Nat.add_assoc]; exact ha (5 + t) (by omega))).trans (h.2.1 a ha), fun f hf => (congrFun (cp0_o (n 0 (by omega) (by decide))) f).trans (h.2.2.1 f hf), fun j hj => (congrFun (cp0_o (n 1 (by omega) (by decide))) j).trans (h.2.2.2.1 j hj), fun j hj => (congrFun (cp0_o (n 2 (by omega) (by decide))) j).trans (h.2.2.2.2.1 j hj), fun j hj => (congrFun (cp0_o (n 3 (by omega) (by decide))) j).trans (h.2.2.2.2.2.1 j hj), fun s u hs2 hu => ?_⟩
  by_cases c : s = t
  · subst c
    rw [ye_ru_s]; exact (cp0_i hu).trans (hs u hu)
  · rw [ye_ru_n c]
    exact (congrFun (cp0_o (by have q := n (5 + s) (by omega) (by omega); rw [← Nat.add_assoc] at q; exact q)) u).trans (h.2.2.2.2.2.2 s u hs2 hu)
theorem yk_S.re : yk_S w Y M (M.1 (w Y)) (M.1 (w (Y + 1))) (M.1 (w (Y + 2))) (M.1 (w (Y + 3))) (fun t => M.1 (w (Y + 5 + t))) M := ⟨rfl, fun _ _ => rfl, fun _ _ => rfl, fun _ _ => rfl, fun _ _ => rfl, fun _ _ => rfl, fun _ _ _ _ => rfl⟩
/-- the YEAR at Y is as that at X was -/
def yk_cp (w : Nat → Nat) (Y X : Nat) (M M' : mj_M) : Prop := M'.2 = M.2 ∧ (∀ a, yw_ne w Y a → M'.1 a = M.1 a) ∧ (∀ f, f < 15 → f < 3 ∨ 7 ≤ f → M'.1 (w Y) f = M.1 (w X) f) ∧ (∀ v, v < 3 → ∀ j, j < 12 → M'.1 (w (Y + (1 + v))) j = M.1 (w (X + (1 + v))) j) ∧ (∀ t u, t < 8 → u < 11 → M'.1 (w (Y + 5 + t)) u = M.1 (w (X + 5 + t)) u)
end YK2
theorem r_cpY {G : mj_G} {M : mj_M} {w : Nat → Nat} {Y X : Nat} {Q : mj_P} {d : Nat} (hA : lq_A G w) (gA : lq_WA G w) (rB : ∀ Z, Z ∈ yw_Y → M.2.2 (w Z) 3 = some (w (Z + 1)) ∧ M.2.2 (w Z) 4 = some (w (Z + 2)) ∧ M.2.2 (w Z) 5 = some (w (Z + 3)) ∧ M.2.2 (w Z) 6 = some (w (Z + 4)) ∧ ∀ t, t < 8 → M.2.2 (w (Z + 4)) t = some (w (Z + 5 + t))) (hY : Y ∈ yw_Y) (hX : X ∈ yw_Y) (nXY : X ≠ Y) {F A B C : Nat → Int} : ∀ (n : Nat) (i : Int) (R : Nat → Nat → Int) (M1 : mj_M) (cb sb : Nat), i + n = 8 → 0 ≤ i → yk_S w Y M F A B C R M1 → (∀ t : Nat, t < 8 → (t : Int) < i → R t = M.1 (w (X + 5 + t))) → (∀ R M1, yk_S w Y M F A B C R M1 → (∀ t, t < 8 → R t = M.1 (w (X + 5 + t))) → wz d mt_X10_copy.2.2.2.2.1 Q (mt_X10_copy.2.2.2.2.1.drop 55) [some (.inr (.inr (some (w Y)))), some (.inr (.inr (some (w X)))), some (.inl 8)] [] G M1 cb sb) → wz d mt_X10_copy.2.2.2.2.1 Q (mt_X10_copy.2.2.2.2.1.drop 38) [some (.inr (.inr (some (w Y)))), some (.inr (.inr (some (w X)))), some (.inl i)] [] G M1 cb sb := by
  intro n
  induction n with
  | zero =>
    intro i R M1 cb sb e i0 hC hz h
    obtain rfl : i = 8 := by omega
    refine w_iln rfl ?_
    refine w_bp ?_
    refine w_cmge (fun c1 => ?_) (fun c1 => ?_)
    · skip
      exact h _ _ hC (fun t ht => hz t ht (by omega))
    · exfalso; omega
  | succ n ih =>
    intro i R M1 cb sb e i0 hC hz h
    refine w_iln rfl ?_
    refine w_bp ?_
    refine w_cmge (fun c1 => ?_) (fun c1 => ?_)
    · exfalso; omega
    · skip
      refine w_aln rfl ?_
      refine w_gr ((gA X hX).1) rfl (by decide) rfl (hC.rf (rB X hX).2.2.2.1) ?_
      refine w_iln rfl ?_
      refine w_aald ((gA X hX).2.2.2.2.1) rfl (by show (0 : Int) ≤ i; omega) (by show i < ((8 : Nat) : Int); omega) (hC.rf ((rB X hX).2.2.2.2 _ (by show i.toNat < 8; omega))) ?_
      refine w_ic ?_
      refine w_aln rfl ?_
      refine w_gr ((gA Y hY).1) rfl (by decide) rfl (hC.rf (rB Y hY).2.2.2.1) ?_
      refine w_iln rfl ?_
      refine w_aald ((gA Y hY).2.2.2.2.1) rfl (by show (0 : Int) ≤ i; omega) (by show i < ((8 : Nat) : Int); omega) (hC.rf ((rB Y hY).2.2.2.2 _ (by show i.toNat < 8; omega))) ?_
      refine w_ic ?_
      refine w_bp ?_
      refine w_cp0 ((gA X hX).2.2.2.2.2 _ (by show i.toNat < 8; omega)) rfl ((gA Y hY).2.2.2.2.2 _ (by show i.toNat < 8; omega)) rfl (by decide) (by decide) (by decide) (by decide) (by decide) (by decide) (Nat.le_of_ble_eq_true rfl) ?_
      have hC2 := hC.cR (a := w (X + 5 + i.toNat)) (t := i.toNat) (r := M.1 (w (X + 5 + i.toNat))) hA hY (by omega) (fun j _ => congrFun (by rw [Nat.add_assoc]; exact hC.o (i := 5 + i.toNat) hA hY hX nXY (by omega)) j)
      refine w_ii rfl ⟨by show (-2147483648 : Int) ≤ i + 1; omega, by show i + 1 < (2147483648 : Int); omega⟩ ?_
      show wz _ _ _ _ [some (.inr (.inr (some (w Y)))), some (.inr (.inr (some (w X)))), some (.inl (i + 1))] _ _ _ _ _
      refine w_goto ?_
      refine ih (i + 1) _ _ _ _ (by omega) (by omega) hC2 (fun t ht hti => ?_) h
      by_cases c : t = i.toNat
      · rw [c, ye_ru_s]
      · rw [ye_ru_n c]; exact hz t ht (by omega)
theorem r_X10_copyC {G : mj_G} {M : mj_M} {w : Nat → Nat} {Y X : Nat} {Q : mj_P} {d : Nat} (hA : lq_A G w) (gA : lq_WA G w) (rB : ∀ Z, Z ∈ yw_Y → M.2.2 (w Z) 3 = some (w (Z + 1)) ∧ M.2.2 (w Z) 4 = some (w (Z + 2)) ∧ M.2.2 (w Z) 5 = some (w (Z + 3)) ∧ M.2.2 (w Z) 6 = some (w (Z + 4)) ∧ ∀ t, t < 8 → M.2.2 (w (Z + 4)) t = some (w (Z + 5 + t))) (hY : Y ∈ yw_Y) (hX : X ∈ yw_Y) (nXY : X ≠ Y) (hb : M.1 (w X) 0 = 0 ∨ M.1 (w X) 0 = 1) (h : ∀ M1, yk_cp w Y X M M1 → Q none G M1) : mj_R mj_tab (d + 1) 90 [.inr (.inr (some (w Y))), .inr (.inr (some (w X)))] G M Q := by
  refine ⟨Nat.le_of_ble_eq_true rfl, ?_⟩
  show wz d mt_X10_copy.2.2.2.2.1 _ mt_X10_copy.2.2.2.2.1 [some (.inr (.inr (some (w Y)))), some (.inr (.inr (some (w X)))), none] [] G M _ _
  have hC : yk_S w Y M (M.1 (w Y)) (M.1 (w (Y + 1))) (M.1 (w (Y + 2))) (M.1 (w (Y + 3))) (fun t => M.1 (w (Y + 5 + t))) M := yk_S.re
  refine w_aln rfl ?_
  refine w_aln rfl ?_
  refine w_gi ((gA X hX).1) rfl (by decide) rfl (congrFun (show _ = M.1 (w X) from hC.o (i := 0) hA hY hX nXY (by decide)) 0) ?_
  refine w_pi ((gA Y hY).1) rfl (by decide) rfl (fun _ => by omega) ?_
  have hC1 := hC.pf (f := 0) (v := (M.1 (w X) 0)) hA hY
  refine w_aln rfl ?_
  refine w_aln rfl ?_
  refine w_gi ((gA X hX).1) rfl (by decide) rfl (congrFun (show _ = M.1 (w X) from hC1.o (i := 0) hA hY hX nXY (by decide)) 1) ?_
  refine w_pi ((gA Y hY).1) rfl (by decide) rfl (fun q => by cases q) ?_
  have hC2 := hC1.pf (f := 1) (v := (M.1 (w X) 1)) hA hY
  refine w_aln rfl ?_
  refine w_aln rfl ?_
  refine w_gi ((gA X hX).1) rfl (by decide) rfl (congrFun (show _ = M.1 (w X) from hC2.o (i := 0) hA hY hX nXY (by decide)) 2) ?_
  refine w_pi ((gA Y hY).1) rfl (by decide) rfl (fun q => by cases q) ?_
  have hC3 := hC2.pf (f := 2) (v := (M.1 (w X) 2)) hA hY
  refine w_aln rfl ?_
  refine w_gr ((gA X hX).1) rfl (by decide) rfl (hC3.rf (rB X hX).1) ?_
  refine w_ic ?_
  refine w_aln rfl ?_
  refine w_gr ((gA Y hY).1) rfl (by decide) rfl (hC3.rf (rB Y hY).1) ?_
  refine w_ic ?_
  refine w_bp ?_
  refine w_cp0 ((gA X hX).2.1) rfl ((gA Y hY).2.1) rfl (by decide) (by decide) (by decide) (by decide) (by decide) (by decide) (Nat.le_of_ble_eq_true rfl) ?_
  have hC4 := hC3.cA (A' := M.1 (w (X + 1))) hA hY (fun j _ => congrFun (hC3.o (i := 1) hA hY hX nXY (by decide)) j)
  refine w_aln rfl ?_
  refine w_gr ((gA X hX).1) rfl (by decide) rfl (hC4.rf (rB X hX).2.1) ?_
  refine w_ic ?_
  refine w_aln rfl ?_
  refine w_gr ((gA Y hY).1) rfl (by decide) rfl (hC4.rf (rB Y hY).2.1) ?_
  refine w_ic ?_
  refine w_bp ?_
  refine w_cp0 ((gA X hX).2.2.1) rfl ((gA Y hY).2.2.1) rfl (by decide) (by decide) (by decide) (by decide) (by decide) (by decide) (Nat.le_of_ble_eq_true rfl) ?_
  have hC5 := hC4.cB (A' := M.1 (w (X + 2))) hA hY (fun j _ => congrFun (hC4.o (i := 2) hA hY hX nXY (by decide)) j)
  refine w_aln rfl ?_
  refine w_gr ((gA X hX).1) rfl (by decide) rfl (hC5.rf (rB X hX).2.2.1) ?_
  refine w_ic ?_
  refine w_aln rfl ?_
  refine w_gr ((gA Y hY).1) rfl (by decide) rfl (hC5.rf (rB Y hY).2.2.1) ?_
  refine w_ic ?_
  refine w_bp ?_
  refine w_cp0 ((gA X hX).2.2.2.1) rfl ((gA Y hY).2.2.2.1) rfl (by decide) (by decide) (by decide) (by decide) (by decide) (by decide) (Nat.le_of_ble_eq_true rfl) ?_
  have hC6 := hC5.cC (A' := M.1 (w (X + 3))) hA hY (fun j _ => congrFun (hC5.o (i := 3) hA hY hX nXY (by decide)) j)
  refine w_ic ?_
  refine w_isn ?_
  show wz _ _ _ _ [some (.inr (.inr (some (w Y)))), some (.inr (.inr (some (w X)))), some (.inl 0)] _ _ _ _ _
  refine r_cpY (d := d) hA gA rB hY hX nXY 8 0 _ _ _ _ (by decide) (by decide) hC6 (fun t _ q => by omega) (fun R9 M9 hC9 hz9 => ?_)
  refine w_aln rfl ?_
  refine w_aln rfl ?_
  refine w_gi ((gA X hX).1) rfl (by decide) rfl (congrFun (show _ = M.1 (w X) from hC9.o (i := 0) hA hY hX nXY (by decide)) 7) ?_
  refine w_pi ((gA Y hY).1) rfl (by decide) rfl (fun q => by cases q) ?_
  have hC7 := hC9.pf (f := 7) (v := (M.1 (w X) 7)) hA hY
  refine w_aln rfl ?_
  refine w_aln rfl ?_
  refine w_gi ((gA X hX).1) rfl (by decide) rfl (congrFun (show _ = M.1 (w X) from hC7.o (i := 0) hA hY hX nXY (by decide)) 8) ?_
  refine w_pi ((gA Y hY).1) rfl (by decide) rfl (fun q => by cases q) ?_
  have hC8 := hC7.pf (f := 8) (v := (M.1 (w X) 8)) hA hY
  refine w_aln rfl ?_
  refine w_aln rfl ?_
  refine w_gi ((gA X hX).1) rfl (by decide) rfl (congrFun (show _ = M.1 (w X) from hC8.o (i := 0) hA hY hX nXY (by decide)) 9) ?_
  refine w_pi ((gA Y hY).1) rfl (by decide) rfl (fun q => by cases q) ?_
  have hC9 := hC8.pf (f := 9) (v := (M.1 (w X) 9)) hA hY
  refine w_aln rfl ?_
  refine w_aln rfl ?_
  refine w_gi ((gA X hX).1) rfl (by decide) rfl (congrFun (show _ = M.1 (w X) from hC9.o (i := 0) hA hY hX nXY (by decide)) 10) ?_
  refine w_pi ((gA Y hY).1) rfl (by decide) rfl (fun q => by cases q) ?_
  have hC10 := hC9.pf (f := 10) (v := (M.1 (w X) 10)) hA hY
  refine w_aln rfl ?_
  refine w_aln rfl ?_
  refine w_gi ((gA X hX).1) rfl (by decide) rfl (congrFun (show _ = M.1 (w X) from hC10.o (i := 0) hA hY hX nXY (by decide)) 11) ?_
  refine w_pi ((gA Y hY).1) rfl (by decide) rfl (fun q => by cases q) ?_
  have hC11 := hC10.pf (f := 11) (v := (M.1 (w X) 11)) hA hY
  refine w_aln rfl ?_
  refine w_aln rfl ?_
  refine w_gi ((gA X hX).1) rfl (by decide) rfl (congrFun (show _ = M.1 (w X) from hC11.o (i := 0) hA hY hX nXY (by decide)) 12) ?_
  refine w_pi ((gA Y hY).1) rfl (by decide) rfl (fun q => by cases q) ?_
  have hC12 := hC11.pf (f := 12) (v := (M.1 (w X) 12)) hA hY
  refine w_aln rfl ?_
  refine w_aln rfl ?_
  refine w_gi ((gA X hX).1) rfl (by decide) rfl (congrFun (show _ = M.1 (w X) from hC12.o (i := 0) hA hY hX nXY (by decide)) 13) ?_
  refine w_pi ((gA Y hY).1) rfl (by decide) rfl (fun q => by cases q) ?_
  have hC13 := hC12.pf (f := 13) (v := (M.1 (w X) 13)) hA hY
  refine w_aln rfl ?_
  refine w_aln rfl ?_
  refine w_gi ((gA X hX).1) rfl (by decide) rfl (congrFun (show _ = M.1 (w X) from hC13.o (i := 0) hA hY hX nXY (by decide)) 14) ?_
  refine w_pi ((gA Y hY).1) rfl (by decide) rfl (fun q => by cases q) ?_
  have hC14 := hC13.pf (f := 14) (v := (M.1 (w X) 14)) hA hY
  refine w_ret (h _ ⟨hC14.1, hC14.2.1, fun f hf hf2 => (hC14.2.2.1 f hf).trans ?_, fun v hv j hj => ?_, fun t u ht hu => (hC14.2.2.2.2.2.2 t u ht hu).trans (congrFun (hz9 t ht) u)⟩)
  · rcases (by omega : f = 0 ∨ f = 1 ∨ f = 2 ∨ f = 7 ∨ f = 8 ∨ f = 9 ∨ f = 10 ∨ f = 11 ∨ f = 12 ∨ f = 13 ∨ f = 14) with e | e | e | e | e | e | e | e | e | e | e <;> subst e
    · exact (rv_up_n (by decide)).trans ((rv_up_n (by decide)).trans ((rv_up_n (by decide)).trans ((rv_up_n (by decide)).trans ((rv_up_n (by decide)).trans ((rv_up_n (by decide)).trans ((rv_up_n (by decide)).trans ((rv_up_n (by decide)).trans ((rv_up_n (by decide)).trans ((rv_up_n (by decide)).trans (rv_up_s))))))))))
    · exact (rv_up_n (by decide)).trans ((rv_up_n (by decide)).trans ((rv_up_n (by decide)).trans ((rv_up_n (by decide)).trans ((rv_up_n (by decide)).trans ((rv_up_n (by decide)).trans ((rv_up_n (by decide)).trans ((rv_up_n (by decide)).trans ((rv_up_n (by decide)).trans (rv_up_s)))))))))
    · exact (rv_up_n (by decide)).trans ((rv_up_n (by decide)).trans ((rv_up_n (by decide)).trans ((rv_up_n (by decide)).trans ((rv_up_n (by decide)).trans ((rv_up_n (by decide)).trans ((rv_up_n (by decide)).trans ((rv_up_n (by decide)).trans (rv_up_s))))))))
    · exact (rv_up_n (by decide)).trans ((rv_up_n (by decide)).trans ((rv_up_n (by decide)).trans ((rv_up_n (by decide)).trans ((rv_up_n (by decide)).trans ((rv_up_n (by decide)).trans ((rv_up_n (by decide)).trans (rv_up_s)))))))
    · exact (rv_up_n (by decide)).trans ((rv_up_n (by decide)).trans ((rv_up_n (by decide)).trans ((rv_up_n (by decide)).trans ((rv_up_n (by decide)).trans ((rv_up_n (by decide)).trans (rv_up_s))))))
    · exact (rv_up_n (by decide)).trans ((rv_up_n (by decide)).trans ((rv_up_n (by decide)).trans ((rv_up_n (by decide)).trans ((rv_up_n (by decide)).trans (rv_up_s)))))
    · exact (rv_up_n (by decide)).trans ((rv_up_n (by decide)).trans ((rv_up_n (by decide)).trans ((rv_up_n (by decide)).trans (rv_up_s))))
    · exact (rv_up_n (by decide)).trans ((rv_up_n (by decide)).trans ((rv_up_n (by decide)).trans (rv_up_s)))
    · exact (rv_up_n (by decide)).trans ((rv_up_n (by decide)).trans (rv_up_s))
    · exact (rv_up_n (by decide)).trans (rv_up_s)
    · exact rv_up_s
  · rcases (by omega : v = 0 ∨ v = 1 ∨ v = 2) with e | e | e <;> subst e
    · exact hC14.2.2.2.1 j hj
    · exact hC14.2.2.2.2.1 j hj
    · exact hC14.2.2.2.2.2.1 j hj
  
