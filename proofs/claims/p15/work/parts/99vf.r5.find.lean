/-! ===== Word.find by hand ===== -/
theorem rv_cmp {x y : Int64} {z : Int} (h : z = (lg_cmp x y).toInt) : (z = 0 → x = y) ∧ (z ≠ 0 → x ≠ y) := by
  by_cases q : x = y
  · subst q
    have e : lg_cmp x x = 0 := by
      unfold lg_cmp
      rw [if_neg (fun g => by rw [gt_iff_lt, Int64.lt_iff_toInt_lt] at g; omega), if_pos rfl]
    rw [e] at h
    exact ⟨fun _ => rfl, fun g => absurd h g⟩
  · have e : lg_cmp x y = 1 ∨ lg_cmp x y = -1 := by
      unfold lg_cmp
      by_cases g : x > y
      · exact Or.inl (if_pos g)
      · exact Or.inr ((if_neg g).trans (if_neg q))
    refine ⟨fun g => ?_, fun _ => q⟩
    rcases e with e | e
    · rw [e, g] at h; exact absurd h (by decide)
    · rw [e, g] at h; exact absurd h (by decide)
/-- the list of all words, as it is read -/
def rv_wl (G : mj_G) (M : mj_M) : Prop := ∀ a, G a = (900105, 24) → ∀ k, k < 24 → ∃ w, M.2.2 a k = some w ∧ G w = (900050 + 1000 * k, 0)
theorem r_find1 {d : Nat} {c : Int64} {G : mj_G} {M : mj_M} {Q : mj_P} (hw : rv_wl G M) (h1 : ∀ k w, k < 24 → mj_wc.getD k 0 = c → G w = (900050 + 1000 * k, 0) → Q (some (.inr (.inr (some w)))) G M) (h0 : (∀ j, j < 24 → mj_wc.getD j 0 ≠ c) → Q (some (.inr (.inr none))) G M) :
    ∀ (f i cb sb : Nat), i + f = 24 → (∀ j, j < i → mj_wc.getD j 0 ≠ c) → wz d mt_X9_find.2.2.2.2.1 Q (mt_X9_find.2.2.2.2.1.drop 2) [some (.inr (.inl c)), none, some (.inl (i : Int))] [] G M cb sb := by
  intro f
  induction f with
  | zero =>
    intro i cb sb hi hj
    refine w_iln rfl ?_
    refine w_gs (fun a ha => ?_)
    have ha : G a = (900105, 24) := ha
    refine w_len (j := 5) ha rfl (by decide) ⟨by decide, by decide⟩ ?_
    refine w_cmge (fun c1 => ?_) (fun c1 => ?_)
    · refine w_nu ?_
      exact w_aret (h0 (fun j q => hj j (by omega)))
    · exfalso; omega
  | succ f ih =>
    intro i cb sb hi hj
    refine w_iln rfl ?_
    refine w_gs (fun a ha => ?_)
    have ha : G a = (900105, 24) := ha
    refine w_len (j := 5) ha rfl (by decide) ⟨by decide, by decide⟩ ?_
    refine w_cmge (fun c1 => ?_) (fun c1 => ?_)
    · exfalso; omega
    · refine w_gs (fun a2 ha2 => ?_)
      have ha2 : G a2 = (900105, 24) := ha2
      obtain ⟨w, w1, w2⟩ := hw a2 ha2 i (by omega)
      refine w_iln rfl ?_
      refine w_aald ha2 rfl (by omega) (by show (i : Int) < ((24 : Nat) : Int); omega) w1 ?_
      refine w_gwc w2 ?_
      refine w_lln rfl ?_
      refine w_lcmp ?_
      intro z hz ez
      obtain ⟨q0, q1⟩ := rv_cmp ez
      refine w_ifne (fun c2 => ?_) (fun c2 => ?_)
      · refine w_ii rfl ⟨by show (-2147483648 : Int) ≤ (i : Int) + 1; omega, by show (i : Int) + 1 < (2147483648 : Int); omega⟩ ?_
        refine w_goto ?_
        exact ih (i + 1) cb sb (by omega) (fun j q => by
          rcases Nat.lt_or_ge j i with g | g
          · exact hj j g
          · rw [show j = i by omega]; exact q1 c2)
      · refine w_gs (fun a3 ha3 => ?_)
        have ha3 : G a3 = (900105, 24) := ha3
        obtain ⟨w', w1', w2'⟩ := hw a3 ha3 i (by omega)
        refine w_iln rfl ?_
        refine w_aald ha3 rfl (by omega) (by show (i : Int) < ((24 : Nat) : Int); omega) w1' ?_
        exact w_aret (h1 i w' (by omega) (q0 c2) w2')
theorem r_X9_find {d : Nat} {c : Int64} {G : mj_G} {M : mj_M} {Q : mj_P} (hw : rv_wl G M) (h1 : ∀ k w, k < 24 → mj_wc.getD k 0 = c → G w = (900050 + 1000 * k, 0) → Q (some (.inr (.inr (some w)))) G M) (h0 : (∀ j, j < 24 → mj_wc.getD j 0 ≠ c) → Q (some (.inr (.inr none))) G M) : mj_R mj_tab (d + 1) 262 [.inr (.inl c)] G M Q := by
  refine ⟨Nat.le_of_ble_eq_true rfl, ?_⟩
  show wz d mt_X9_find.2.2.2.2.1 Q mt_X9_find.2.2.2.2.1 [some (.inr (.inl c)), none, none] [] G M _ _
  refine w_ic ?_
  refine w_isn ?_
  exact r_find1 hw h1 h0 24 0 _ _ rfl (fun j q => absurd q (Nat.not_lt_zero j))
