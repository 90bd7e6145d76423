/-! ===== at the loop's head: the memory that counts, and that it keeps its roles ===== -/
theorem sz_is_s {t : Nat} {a : Lean.RArray sx_I} : ∀ n, sz_is t a n = true → ∀ k, k < n → sz_i1 (ab_rg t k) (sx_g a k) = true
  | 0, _, k, hk => absurd hk (Nat.not_lt_zero k)
  | n + 1, h, k, hk => by
    have h : (sz_i1 (ab_rg t n) (sx_g a n) && sz_is t a n) = true := h
    obtain ⟨h1, h2⟩ := sx_nd h
    rcases Nat.lt_or_ge k n with q | q
    · exact sz_is_s n h2 k q
    · rw [show k = n by omega]; exact h1
theorem sz_rs_s {h : sx_H} {t : Nat} {c : Lean.RArray (Option Nat)} : ∀ n, sz_rs h t c n = true → ∀ k, k < n → sz_r1 h (ab_rf t k) (sx_g c k) = true
  | 0, _, k, hk => absurd hk (Nat.not_lt_zero k)
  | n + 1, hh, k, hk => by
    have hh : (sz_r1 h (ab_rf t n) (sx_g c n) && sz_rs h t c n) = true := hh
    obtain ⟨h1, h2⟩ := sx_nd hh
    rcases Nat.lt_or_ge k n with q | q
    · exact sz_rs_s n h2 k q
    · rw [show k = n by omega]; exact h1
theorem sz_cs_s {h : sx_H} : ∀ n, sz_cs h n = true → ∀ i, i < n → sz_c1 h i = true
  | 0, _, k, hk => absurd hk (Nat.not_lt_zero k)
  | n + 1, hh, k, hk => by
    have hh : (sz_c1 h n && sz_cs h n) = true := hh
    obtain ⟨h1, h2⟩ := sx_nd hh
    rcases Nat.lt_or_ge k n with q | q
    · exact sz_cs_s n h2 k q
    · rw [show k = n by omega]; exact h1
theorem sz_zs_s {a : Lean.RArray sx_I} : ∀ n, sz_zs a n = true → ∀ k, k < n → sx_g a k = .inl 0
  | 0, _, k, hk => absurd hk (Nat.not_lt_zero k)
  | n + 1, h, k, hk => by
    have h : (sz_z1 (sx_g a n) && sz_zs a n) = true := h
    obtain ⟨h1, h2⟩ := sx_nd h
    rcases Nat.lt_or_ge k n with q | q
    · exact sz_zs_s n h2 k q
    · rw [show k = n by omega]
      cases e : sx_g a n with
      | inl z =>
        rw [e] at h1
        have h1 : z = 0 := sx_eq_iff.mp h1
        rw [h1]
      | inr z => rw [e] at h1; cases h1
theorem sz_arr {c : ClassId} {N : Nat} {f g : Nat → Value} (h : ∀ k, k < N → f k = g k) : arrV c N f = arrV c N g := by
  have e : (fun j : Fin N => f j.val) = fun j : Fin N => g j.val := funext fun j => h j.val j.isLt
  show ({ cls := c, slots := Array.ofFn (n := N) fun j => f j.val, vm := .none } : Cell) = { cls := c, slots := Array.ofFn (n := N) fun j => g j.val, vm := .none }
  rw [e]
noncomputable def sz_G (w : sx_w) (h : sx_H) (G : mj_G) : mj_G := fun a => @ite _ (∃ i, i < h.1 ∧ w.2.2.2 i = a) (Classical.propDecidable _) (G a) (0, 0)
noncomputable def sz_M (w : sx_w) (h : sx_H) (G : mj_G) (M : mj_M) : mj_M := (fun a k => @ite _ ((∃ i, i < h.1 ∧ w.2.2.2 i = a) ∧ k < sz_bd (G a).1 (G a).2) (Classical.propDecidable _) (M.1 a k) 0, M.2.1, M.2.2)
theorem sz_G_in {w : sx_w} {h : sx_H} {G : mj_G} {i : Nat} (hi : i < h.1) : sz_G w h G (w.2.2.2 i) = G (w.2.2.2 i) := if_pos ⟨i, hi, rfl⟩
theorem sz_G_no {w : sx_w} {h : sx_H} {G : mj_G} {a : Nat} (hi : ¬ ∃ i, i < h.1 ∧ w.2.2.2 i = a) : sz_G w h G a = (0, 0) := if_neg hi
theorem sz_M_in {w : sx_w} {h : sx_H} {G : mj_G} {M : mj_M} {i k : Nat} (hi : i < h.1) (hk : k < sz_bd (G (w.2.2.2 i)).1 (G (w.2.2.2 i)).2) : (sz_M w h G M).1 (w.2.2.2 i) k = M.1 (w.2.2.2 i) k := if_pos ⟨⟨i, hi, rfl⟩, hk⟩
theorem sz_M_no {w : sx_w} {h : sx_H} {G : mj_G} {M : mj_M} {a k : Nat} (hi : ¬ ((∃ i, i < h.1 ∧ w.2.2.2 i = a) ∧ k < sz_bd (G a).1 (G a).2)) : (sz_M w h G M).1 a k = 0 := if_neg hi
theorem sz_z0 (t k : Nat) : hn_z0 (ab_rg t k) := by
  unfold ab_rg
  refine hn_z0c ?_ (hn_z0c ?_ ?_)
  · unfold ab_rgp
    repeat' first | exact hn_s0 _ | exact ⟨by decide, by decide⟩ | apply hn_z0c
  · unfold ab_rga
    repeat' first | exact ⟨by decide, by decide⟩ | apply hn_z0c
  · unfold ab_rgo
    repeat' first | exact ⟨by decide, by decide⟩ | apply hn_z0c
theorem sz_cn {b : Bool} {x y : Option (Nat × Nat)} (h1 : x = none) (h2 : y = none) : cond b x y = none := by cases b <;> assumption
theorem sz_ck {j c : Nat} {x y : Option (Nat × Nat)} (h1 : Nat.blt c 70 = true) (h2 : y = none) : cond (Nat.beq (j + 70) c) x y = none := by
  have h1 := sx_blt h1
  have e : Nat.beq (j + 70) c = false := by
    cases e : Nat.beq (j + 70) c with
    | false => rfl
    | true => have := sx_beq e; omega
  rw [e]; exact h2
theorem sz_rfo (t j : Nat) : ab_rfo t (j + 70) = none := by
  unfold ab_rfo
  repeat' first | rfl | refine sz_ck rfl ?_ | refine sz_cn ?_ ?_
theorem sz_vw {ci : Nat} {r : vw_C} (h : vwCl[ci]? = some r) : ci < 12 ∧ r.2.2 ≤ 62 := by
  match ci, h with
  | 0, h => cases h; exact ⟨by decide, by decide⟩
  | 1, h => cases h; exact ⟨by decide, by decide⟩
  | 2, h => cases h; exact ⟨by decide, by decide⟩
  | 3, h => cases h; exact ⟨by decide, by decide⟩
  | 4, h => cases h; exact ⟨by decide, by decide⟩
  | 5, h => cases h; exact ⟨by decide, by decide⟩
  | 6, h => cases h; exact ⟨by decide, by decide⟩
  | 7, h => cases h; exact ⟨by decide, by decide⟩
  | 8, h => cases h; exact ⟨by decide, by decide⟩
  | 9, h => cases h; exact ⟨by decide, by decide⟩
  | 10, h => cases h; exact ⟨by decide, by decide⟩
  | 11, h => cases h; exact ⟨by decide, by decide⟩
  | n + 12, h => cases h
theorem sz_bd_a {t n : Nat} (h : 100 ≤ t % 1000) : sz_bd t n = n := by
  unfold sz_bd
  rw [show Nat.ble 100 (Nat.mod t 1000) = true from Nat.ble_eq_true_of_le h]; rfl
theorem sz_bd_o {t n : Nat} (h : t % 1000 < 100) : sz_bd t n = 70 := by
  unfold sz_bd
  cases e : Nat.ble 100 (Nat.mod t 1000) with
  | false => rfl
  | true => exact absurd (sx_ble e) (by show ¬ 100 ≤ t % 1000; omega)
/-- the addresses of the first cells -/
def sz_e (b : Nat) (dA : Nat → ClassId) (i : Nat) : Nat := if i = 0 then b else if i < 25 then dA (99 + i) else dA 99
theorem sz_HW {w : sx_w} {h : sx_H} {G : mj_G} {dA : Nat → ClassId} {b : Nat} (h0 : sz_i0 (sz_e b dA) w) (hn : 26 ≤ h.1) (hW : mj_HW dA G) : mj_HW dA (sz_G w h G) := by
  have at1 : ∀ k, k < 24 → w.2.2.2 (k + 1) = dA (100 + k) := fun k hk => by
    rw [h0.2 (k + 1) (by omega)]
    show (if k + 1 = 0 then b else if k + 1 < 25 then dA (99 + (k + 1)) else dA 99) = _
    rw [if_neg (by omega), if_pos (by omega), show 99 + (k + 1) = 100 + k by omega]
  have at2 : w.2.2.2 25 = dA 99 := h0.2 25 (by decide)
  refine ⟨fun k hk => ?_, fun a t n hG ht => ?_, ?_⟩
  · rw [← at1 k hk, sz_G_in (by omega), at1 k hk]; exact hW.1 k hk
  · by_cases c : ∃ i, i < h.1 ∧ w.2.2.2 i = a
    · obtain ⟨i, hi, rfl⟩ := c
      rw [sz_G_in hi] at hG
      exact hW.2.1 _ t n hG ht
    · rw [sz_G_no c] at hG
      have := (Prod.mk.inj hG).1
      omega
  · rw [← at2, sz_G_in (by omega), at2]; exact hW.2.2
theorem sz_mjH {D : va_G} {dA : Nat → ClassId} {B : Nat} {w : sx_w} {h : sx_H} {G : mj_G} {M : mj_M} {H : Heap} {b : Nat} (hH : mj_H D dA B G M H) (h0 : sz_i0 (sz_e b dA) w) (hn : 26 ≤ h.1) : mj_H D dA B (sz_G w h G) (sz_M w h G M) H := by
  refine ⟨fun a k => ?_, ⟨fun x hx => ?_, sz_HW h0 hn hH.2.1.2⟩, fun a t n hG ht => ?_⟩
  · by_cases c : (∃ i, i < h.1 ∧ w.2.2.2 i = a) ∧ k < sz_bd (G a).1 (G a).2
    · obtain ⟨⟨i, hi, rfl⟩, hk⟩ := c
      rw [sz_M_in hi hk]; exact hH.1 _ k
    · rw [sz_M_no c]; exact ⟨by decide, by decide⟩
  · by_cases c : ∃ i, i < h.1 ∧ w.2.2.2 i = x
    · obtain ⟨i, hi, rfl⟩ := c
      rw [sz_G_in hi]; exact hH.2.1.1 _ hx
    · exact sz_G_no c
  · by_cases c : ∃ i, i < h.1 ∧ w.2.2.2 i = a
    · obtain ⟨i, hi, rfl⟩ := c
      rw [sz_G_in hi] at hG
      obtain ⟨g0, g1, g2⟩ := hH.2.2 _ t n hG ht
      have sv : ∀ so k, k < sz_bd t n → mj_sv so M (w.2.2.2 i) k = mj_sv so (sz_M w h G M) (w.2.2.2 i) k := fun so k hk => by
        match so with
        | 0 =>
          show Value.int (Int32.ofInt (M.1 (w.2.2.2 i) k)) = .int (Int32.ofInt ((sz_M w h G M).1 (w.2.2.2 i) k))
          rw [sz_M_in hi (by rw [hG]; exact hk)]
        | 1 => rfl
        | n + 2 => rfl
      refine ⟨g0, fun ci r e1 e2 => (g1 ci r e1 e2).to (fun k hk => sv _ k ?_), fun j e => ?_⟩
      · have hv := sz_vw e2
        rw [sz_bd_o (by omega)]; omega
      · exact (g2 j e).cg rfl (fun k hk => sv (mj_as j) k (by rw [sz_bd_a (by omega)]; exact hk))
    · rw [sz_G_no c] at hG
      exact absurd (Prod.mk.inj hG).1.symm ht
theorem sz_hk_s {h : sx_H} (hk : sz_hk h = true) : h.1 = 361 ∧ (∀ i, i < 361 → sz_c1 h i = true) ∧ (sz_tg h 26 1011 0 = true ∧ sz_tg h 336 1012 0 = true ∧ sz_tg h 27 1008 0 = true ∧ sz_tg h 338 51100 537 = true ∧ sz_tg h 357 70100 1076 = true ∧ sz_tg h 360 90103 1 = true) ∧ (sz_rq h 26 0 27 = true ∧ sz_rq h 336 6 338 = true ∧ sz_rq h 336 59 357 = true) ∧ sz_iz h 27 2 = true ∧ sz_iz h 336 3 = true ∧ sz_ik h 338 356 = true ∧ sz_iz h 357 1076 = true ∧ (sz_tg h 120 48102 2 = true ∧ sz_tg h 359 72102 2 = true ∧ sz_rq h 26 4 120 = true ∧ sz_rq h 336 61 359 = true ∧ sz_iz h 120 2 = true ∧ sz_iz h 359 2 = true) := by
  have hk := (sx_nd (show (sz_hk0 h && (sz_hx h && sz_hy h)) = true from hk)).1
  unfold sz_hk0 at hk
  obtain ⟨k1, hk⟩ := sx_nd hk
  obtain ⟨k2, hk⟩ := sx_nd hk
  obtain ⟨k3, hk⟩ := sx_nd hk
  obtain ⟨k4, hk⟩ := sx_nd hk
  obtain ⟨z1, hk⟩ := sx_nd hk
  obtain ⟨z2, hk⟩ := sx_nd hk
  obtain ⟨z3, hk⟩ := sx_nd hk
  obtain ⟨z4, hk⟩ := sx_nd hk
  obtain ⟨y1, hk⟩ := sx_nd hk
  obtain ⟨y2, hk⟩ := sx_nd hk
  obtain ⟨y3, hk⟩ := sx_nd hk
  obtain ⟨y4, hk⟩ := sx_nd hk
  obtain ⟨y5, y6⟩ := sx_nd hk
  obtain ⟨t1, k3⟩ := sx_nd k3
  obtain ⟨t2, k3⟩ := sx_nd k3
  obtain ⟨t3, k3⟩ := sx_nd k3
  obtain ⟨t4, k3⟩ := sx_nd k3
  obtain ⟨t5, t6⟩ := sx_nd k3
  obtain ⟨r1, k4⟩ := sx_nd k4
  obtain ⟨r2, r3⟩ := sx_nd k4
  exact ⟨sx_beq k1, sz_cs_s _ k2, ⟨t1, t2, t3, t4, t5, t6⟩, ⟨r1, r2, r3⟩, z1, z2, z3, z4, y1, y2, y3, y4, y5, y6⟩
theorem sz_tg_s {w : sx_w} {h : sx_H} {G : mj_G} {M : mj_M} {i t n : Nat} (hk : sz_tg h i t n = true) (hR : sx_RH w h G M) (hi : i < h.1) : sz_G w h G (w.2.2.2 i) = (t, n) := by
  unfold sz_tg at hk
  rw [sx_cl_eq] at hk
  obtain ⟨h1, h2⟩ := sx_nd hk
  rw [sz_G_in hi, (hR.2.2.1 i hi).1, ← sx_beq h1, ← sx_beq h2]
theorem sz_rq_s {w : sx_w} {h : sx_H} {G : mj_G} {M : mj_M} {i k j : Nat} (hk : sz_rq h i k j = true) (hR : sx_RH w h G M) (hi : i < h.1) (h4 : k < 4096) : (sz_M w h G M).2.2 (w.2.2.2 i) k = some (w.2.2.2 j) := by
  unfold sz_rq at hk
  rw [sx_cl_eq] at hk
  have c := ((hR.2.2.1 i hi).2.2 k h4).2.2
  cases e : sx_g (sx_g h.2 i).2.2.2.2 k with
  | none => rw [e] at hk; cases hk
  | some j' =>
    rw [e] at hk c
    rw [sx_beq hk]
    exact c.2
theorem sz_iz_s {w : sx_w} {h : sx_H} {G : mj_G} {M : mj_M} {i n k : Nat} (hk : sz_iz h i n = true) (hR : sx_RH w h G M) (hi : i < h.1) (hn : k < n) (h4 : k < 4096) : (sz_M w h G M).1 (w.2.2.2 i) k = 0 := by
  unfold sz_iz at hk
  rw [sx_cl_eq] at hk
  have c := ((hR.2.2.1 i hi).2.2 k h4).1
  rw [sz_zs_s n hk k hn] at c
  by_cases q : (∃ j, j < h.1 ∧ w.2.2.2 j = w.2.2.2 i) ∧ k < sz_bd (G (w.2.2.2 i)).1 (G (w.2.2.2 i)).2
  · rw [sz_M_in hi q.2]; exact (show (0 : Int) = _ from c).symm
  · exact sz_M_no q
theorem sz_ik_s {w : sx_w} {h : sx_H} {G : mj_G} {M : mj_M} {i k : Nat} (hk : sz_ik h i k = true) (hR : sx_RH w h G M) (hi : i < h.1) (h4 : k < 4096) : (sz_M w h G M).1 (w.2.2.2 i) k = 0 := by
  unfold sz_ik at hk
  rw [sx_cl_eq] at hk
  have c := ((hR.2.2.1 i hi).2.2 k h4).1
  have e : sx_g (sx_g h.2 i).2.2.1 k = .inl 0 := by
    cases e : sx_g (sx_g h.2 i).2.2.1 k with
    | inl z =>
      rw [e] at hk
      have hk : z = 0 := sx_eq_iff.mp hk
      rw [hk]
    | inr z => rw [e] at hk; cases hk
  rw [e] at c
  by_cases q : (∃ j, j < h.1 ∧ w.2.2.2 j = w.2.2.2 i) ∧ k < sz_bd (G (w.2.2.2 i)).1 (G (w.2.2.2 i)).2
  · rw [sz_M_in hi q.2]; exact (show (0 : Int) = _ from c).symm
  · exact sz_M_no q
theorem sz_ll_s {b : Lean.RArray Int64} : ∀ n, sz_ll b n = true → ∀ k, k < n → sx_g b k = ab_rsv k
  | 0, _, k, hk => absurd hk (Nat.not_lt_zero k)
  | n + 1, h, k, hk => by
    have h : (sx_eq (sx_g b n).toInt (ab_rsv n).toInt && sz_ll b n) = true := h
    obtain ⟨h1, h2⟩ := sx_nd h
    rcases Nat.lt_or_ge k n with q | q
    · exact sz_ll_s n h2 k q
    · rw [show k = n by omega]; exact Int64.toInt_inj.mp (sx_eq_iff.mp h1)
theorem sz_pn_s {c : Lean.RArray (Option Nat)} {o : Nat} : ∀ n, sz_pn c o n = true → ∀ k, k < n → sx_g c k = some (o + k)
  | 0, _, k, hk => absurd hk (Nat.not_lt_zero k)
  | n + 1, h, k, hk => by
    have h : ((match sx_g c n with
      | some j => Nat.beq j (o + n)
      | none => false) && sz_pn c o n) = true := h
    obtain ⟨h1, h2⟩ := sx_nd h
    rcases Nat.lt_or_ge k n with q | q
    · exact sz_pn_s n h2 k q
    · rw [show k = n by omega]
      cases e : sx_g c n with
      | none => rw [e] at h1; cases h1
      | some j => rw [e] at h1; rw [sx_beq h1]
theorem sz_ds_s {h : sx_H} : ∀ n, sz_ds h n = true → ∀ i, i < n → sz_d1 h i = true
  | 0, _, k, hk => absurd hk (Nat.not_lt_zero k)
  | n + 1, hh, k, hk => by
    have hh : (sz_d1 h n && sz_ds h n) = true := hh
    obtain ⟨h1, h2⟩ := sx_nd hh
    rcases Nat.lt_or_ge k n with q | q
    · exact sz_ds_s n h2 k q
    · rw [show k = n by omega]; exact h1
theorem sz_wt_s {h : sx_H} : ∀ n, sz_wt h n = true → ∀ k, k < n → sz_tg h (k + 1) (900050 + 1000 * k) 0 = true
  | 0, _, k, hk => absurd hk (Nat.not_lt_zero k)
  | n + 1, hh, k, hk => by
    have hh : (sz_tg h (n + 1) (900050 + 1000 * n) 0 && sz_wt h n) = true := hh
    obtain ⟨h1, h2⟩ := sx_nd hh
    rcases Nat.lt_or_ge k n with q | q
    · exact sz_wt_s n h2 k q
    · rw [show k = n by omega]; exact h1
theorem sz_hx_s {h : sx_H} (hk : sz_hk h = true) : (∀ i, i < 361 → sz_d1 h i = true) ∧ (∀ k, k < 24 → sz_tg h (k + 1) (900050 + 1000 * k) 0 = true) ∧ sz_tg h 28 38101 940 = true ∧ sz_tg h 337 50101 940 = true ∧ sz_rq h 27 0 28 = true ∧ sz_rq h 336 1 337 = true ∧ sz_iz h 28 940 = true ∧ sz_iz h 337 940 = true := by
  have hk := (sx_nd (sx_nd (show (sz_hk0 h && (sz_hx h && sz_hy h)) = true from hk)).2).1
  unfold sz_hx at hk
  obtain ⟨k1, hk⟩ := sx_nd hk
  obtain ⟨k2, hk⟩ := sx_nd hk
  obtain ⟨k3, hk⟩ := sx_nd hk
  obtain ⟨k4, hk⟩ := sx_nd hk
  obtain ⟨k5, hk⟩ := sx_nd hk
  obtain ⟨k6, hk⟩ := sx_nd hk
  obtain ⟨k7, k8⟩ := sx_nd hk
  exact ⟨sz_ds_s _ k1, sz_wt_s _ k2, k3, k4, k5, k6, k7, k8⟩
theorem sz_la_s {h : sx_H} : ∀ l, sz_la h l = true → ∀ e ∈ l, sz_rq h e.1 e.2.1 e.2.2 = true
  | [], _, e, he => by cases he
  | x :: t, hh, e, he => by
    have hh : (sz_rq h x.1 x.2.1 x.2.2 && sz_la h t) = true := hh
    obtain ⟨h1, h2⟩ := sx_nd hh
    rcases List.mem_cons.mp he with q | q
    · rw [q]; exact h1
    · exact sz_la_s t h2 e q
theorem sz_lb_s {h : sx_H} : ∀ l, sz_lb h l = true → ∀ e ∈ l, sz_tg h e.1 e.2.1 e.2.2 = true
  | [], _, e, he => by cases he
  | x :: t, hh, e, he => by
    have hh : (sz_tg h x.1 x.2.1 x.2.2 && sz_lb h t) = true := hh
    obtain ⟨h1, h2⟩ := sx_nd hh
    rcases List.mem_cons.mp he with q | q
    · rw [q]; exact h1
    · exact sz_lb_s t h2 e q
theorem sz_lc_s {h : sx_H} : ∀ l, sz_lc h l = true → ∀ e ∈ l, sz_ik h e.1 e.2 = true
  | [], _, e, he => by cases he
  | x :: t, hh, e, he => by
    have hh : (sz_ik h x.1 x.2 && sz_lc h t) = true := hh
    obtain ⟨h1, h2⟩ := sx_nd hh
    rcases List.mem_cons.mp he with q | q
    · rw [q]; exact h1
    · exact sz_lc_s t h2 e q
theorem sz_hy_s {h : sx_H} (hk : sz_hk h = true) : (∀ e ∈ sz_lr, sz_rq h e.1 e.2.1 e.2.2 = true) ∧ (∀ e ∈ sz_lt, sz_tg h e.1 e.2.1 e.2.2 = true) ∧ (∀ e ∈ sz_lz, sz_ik h e.1 e.2 = true) ∧ sz_i3 h 30 8 = true ∧ sz_i3 h 338 3 = true := by
  have hk := (sx_nd (sx_nd (show (sz_hk0 h && (sz_hx h && sz_hy h)) = true from hk)).2).2
  have hk := (sx_nd (show (sz_hyo h && sz_hz h) = true from hk)).1
  obtain ⟨hk, k3⟩ := sx_nd (show ((sz_la h sz_lr && sz_lb h sz_lt) && (sz_lc h sz_lz && (sz_i3 h 30 8 && sz_i3 h 338 3))) = true from hk)
  obtain ⟨k1, k2⟩ := sx_nd hk
  obtain ⟨k3, k4⟩ := sx_nd k3
  obtain ⟨k4, k5⟩ := sx_nd k4
  exact ⟨sz_la_s _ k1, sz_lb_s _ k2, sz_lc_s _ k3, k4, k5⟩
/-- what sz_d1 tells of a cell -/
theorem sz_d1_s {h : sx_H} {i : Nat} (hd : sz_d1 h i = true) : ((sx_g h.2 i).1 = 55103 → ∀ k, k < 24 → sx_g (sx_g h.2 i).2.2.2.1 k = ab_rsv k) ∧ ((sx_g h.2 i).1 = 25104 ∨ (sx_g h.2 i).1 = 27104 → ∀ k, k < 8 → sx_g (sx_g h.2 i).2.2.2.2 k = some (i + 1 + k)) ∧ ((sx_g h.2 i).1 = 900105 → i = 25 ∧ ∀ k, k < 24 → sx_g (sx_g h.2 i).2.2.2.2 k = some (1 + k)) := by
  unfold sz_d1 at hd
  rw [sx_cl_eq] at hd
  obtain ⟨h1, hd⟩ := sx_nd hd
  obtain ⟨h2, h3⟩ := sx_nd hd
  refine ⟨fun e => ?_, fun e => ?_, fun e => ?_⟩
  · rw [e] at h1; exact sz_ll_s 24 h1
  · rcases e with e | e <;> rw [e] at h2 <;> exact sz_pn_s 8 h2
  · rw [e] at h3
    obtain ⟨g1, g2⟩ := sx_nd (show (Nat.beq i 25 && sz_pn (sx_g h.2 i).2.2.2.2 1 24) = true from h3)
    exact ⟨sx_beq g1, sz_pn_s 24 g2⟩
theorem sz_ld_s {h : sx_H} : ∀ l, sz_ld h l = true → ∀ e ∈ l, sz_izr h e.1 e.2.1 e.2.2 = true
  | [], _, e, he => by cases he
  | x :: t, hh, e, he => by
    have hh : (sz_izr h x.1 x.2.1 x.2.2 && sz_ld h t) = true := hh
    obtain ⟨h1, h2⟩ := sx_nd hh
    rcases List.mem_cons.mp he with q | q
    · rw [q]; exact h1
    · exact sz_ld_s t h2 e q
theorem sz_le_s {h : sx_H} : ∀ l, sz_le h l = true → ∀ e ∈ l, sz_iv h e.1 e.2.1 e.2.2 = true
  | [], _, e, he => by cases he
  | x :: t, hh, e, he => by
    have hh : (sz_iv h x.1 x.2.1 x.2.2 && sz_le h t) = true := hh
    obtain ⟨h1, h2⟩ := sx_nd hh
    rcases List.mem_cons.mp he with q | q
    · rw [q]; exact h1
    · exact sz_le_s t h2 e q
theorem sz_hz_s {h : sx_H} (hk : sz_hk h = true) : (∀ e ∈ sz_lq, sz_izr h e.1 e.2.1 e.2.2 = true) ∧ (∀ e ∈ sz_lv, sz_iv h e.1 e.2.1 e.2.2 = true) := by
  have hk := (sx_nd (sx_nd (show (sz_hk0 h && (sz_hx h && sz_hy h)) = true from hk)).2).2
  have hk := (sx_nd (show (sz_hyo h && sz_hz h) = true from hk)).2
  obtain ⟨k1, k2⟩ := sx_nd (show (sz_ld h sz_lq && sz_le h sz_lv) = true from hk)
  exact ⟨sz_ld_s _ k1, sz_le_s _ k2⟩
theorem sz_zr_s {arr : Lean.RArray sx_I} {a : Nat} : ∀ n, sz_zr arr a n = true → ∀ k, a ≤ k → k < n → sx_g arr k = .inl 0
  | 0, _, k, _, hk => absurd hk (Nat.not_lt_zero k)
  | n + 1, hh, k, ha, hk => by
    have hh : (cond (Nat.ble a n) (sz_z1 (sx_g arr n)) true && sz_zr arr a n) = true := hh
    obtain ⟨h1, h2⟩ := sx_nd hh
    by_cases q : k = n
    · subst q
      rw [show Nat.ble a k = true from Nat.ble_eq_true_of_le ha] at h1
      have h1 : sz_z1 (sx_g arr k) = true := h1
      cases e : sx_g arr k with
      | inl z =>
        rw [e] at h1
        have h1 : z = 0 := sx_eq_iff.mp h1
        rw [h1]
      | inr z => rw [e] at h1; cases h1
    · exact sz_zr_s n h2 k ha (by omega)
theorem sz_izr_s {w : sx_w} {h : sx_H} {G : mj_G} {M : mj_M} {i a b k : Nat} (hk : sz_izr h i a b = true) (hR : sx_RH w h G M) (hi : i < h.1) (h1 : a ≤ k) (h2 : k < b) (h4 : k < 4096) : (sz_M w h G M).1 (w.2.2.2 i) k = 0 := by
  unfold sz_izr at hk
  rw [sx_cl_eq] at hk
  have c := ((hR.2.2.1 i hi).2.2 k h4).1
  rw [sz_zr_s b hk k h1 h2] at c
  by_cases q : (∃ j, j < h.1 ∧ w.2.2.2 j = w.2.2.2 i) ∧ k < sz_bd (G (w.2.2.2 i)).1 (G (w.2.2.2 i)).2
  · rw [sz_M_in hi q.2]; exact (show (0 : Int) = _ from c).symm
  · exact sz_M_no q
theorem sz_iv_s {w : sx_w} {h : sx_H} {G : mj_G} {M : mj_M} {i k : Nat} {z : Int} (hk : sz_iv h i k z = true) (hR : sx_RH w h G M) (hi : i < h.1) (h4 : k < 4096) (hb : k < sz_bd (G (w.2.2.2 i)).1 (G (w.2.2.2 i)).2) : (sz_M w h G M).1 (w.2.2.2 i) k = z := by
  unfold sz_iv at hk
  rw [sx_cl_eq] at hk
  have c := ((hR.2.2.1 i hi).2.2 k h4).1
  have e : sx_g (sx_g h.2 i).2.2.1 k = .inl z := by
    cases e : sx_g (sx_g h.2 i).2.2.1 k with
    | inl y =>
      rw [e] at hk
      have hk : y = z := sx_eq_iff.mp hk
      rw [hk]
    | inr y => rw [e] at hk; cases hk
  rw [e] at c
  rw [sz_M_in hi hb]; exact (show z = _ from c).symm
theorem sz_Inv {w : sx_w} {h : sx_H} {G : mj_G} {M : mj_M} {dA : Nat → ClassId} (hR : sx_RH w h G M) (hk : sz_hk h = true) (hW : mj_HW dA (sz_G w h G)) : ab_Inv (sz_G w h G) (sz_M w h G M) := by
  obtain ⟨k1, k2, -⟩ := sz_hk_s hk
  have cell : ∀ i, i < h.1 → sz_bd (sx_g h.2 i).1 (sx_g h.2 i).2.1 ≤ 4096 ∧ (∀ k, k < sz_bd (sx_g h.2 i).1 (sx_g h.2 i).2.1 → sz_i1 (ab_rg (sx_g h.2 i).1 k) (sx_g (sx_g h.2 i).2.2.1 k) = true ∧ sz_r1 h (ab_rf (sx_g h.2 i).1 k) (sx_g (sx_g h.2 i).2.2.2.2 k) = true) := fun i hi => by
    have c := k2 i (by omega)
    unfold sz_c1 at c
    rw [sx_cl_eq] at c
    obtain ⟨c1, c2⟩ := sx_cd c
    obtain ⟨c3, c4⟩ := sx_nd c2
    exact ⟨sx_ble c1, fun k hk => ⟨sz_is_s _ c3 k hk, sz_rs_s _ c4 k hk⟩⟩
  refine ⟨fun a k => ?_, fun a k q hq hl => ?_, fun a ha => ?_, fun a b ha hb => ?_, fun a k ha hk2 => ?_⟩
  · by_cases c : (∃ i, i < h.1 ∧ w.2.2.2 i = a) ∧ k < sz_bd (G a).1 (G a).2
    · obtain ⟨⟨i, hi, rfl⟩, hk⟩ := c
      obtain ⟨r1, r2, r3⟩ := hR.2.2.1 i hi
      obtain ⟨d1, d2⟩ := cell i hi
      rw [r1] at hk
      have hkk := (d2 k hk).1
      have r4 := (r3 k (Nat.lt_of_lt_of_le hk d1)).1
      rw [sz_M_in hi (by rw [r1]; exact hk), sz_G_in hi, r1]
      cases e : sx_g (sx_g h.2 i).2.2.1 k with
      | inl z =>
        rw [e] at hkk r4
        obtain ⟨e1, e2⟩ := sx_nd hkk
        have r4 : z = _ := r4
        rw [← r4]
        exact ⟨sx_le_iff.mp e1, sx_le_iff.mp e2⟩
      | inr z => rw [e] at hkk; cases hkk
    · rw [sz_M_no c]; exact sz_z0 _ k
  · by_cases c : ∃ i, i < h.1 ∧ w.2.2.2 i = a
    · obtain ⟨i, hi, rfl⟩ := c
      obtain ⟨r1, r2, r3⟩ := hR.2.2.1 i hi
      obtain ⟨d1, d2⟩ := cell i hi
      rw [sz_G_in hi, r1] at hq hl
      have hkb : k < sz_bd (sx_g h.2 i).1 (sx_g h.2 i).2.1 := by
        rcases Nat.lt_or_ge ((sx_g h.2 i).1 % 1000) 100 with g | g
        · rw [sz_bd_o g]
          rcases Nat.lt_or_ge k 70 with g2 | g2
          · exact g2
          · exfalso
            have e : ab_rf (sx_g h.2 i).1 k = ab_rfo (sx_g h.2 i).1 k := by
              unfold ab_rf
              cases e : Nat.ble 100 (Nat.mod (sx_g h.2 i).1 1000) with
              | false => rfl
              | true => exact absurd (sx_ble e) (by show ¬ 100 ≤ (sx_g h.2 i).1 % 1000; omega)
            rw [e, show k = (k - 70) + 70 by omega, sz_rfo] at hq
            cases hq
        · rw [sz_bd_a g]; exact hl g
      have hkk := (d2 k hkb).2
      have r4 := (r3 k (Nat.lt_of_lt_of_le hkb d1)).2.2
      have hq : ab_rf (sx_g h.2 i).1 k = some q := hq
      rw [hq] at hkk
      show ab_rt (sz_G w h G) q (M.2.2 (w.2.2.2 i) k)
      obtain ⟨t, n⟩ := q
      cases e : sx_g (sx_g h.2 i).2.2.2.2 k with
      | none =>
        rw [e] at hkk r4
        have r4 : M.2.2 (w.2.2.2 i) k = none := r4
        rw [r4]
        have hkk : (Nat.beq t 0 || Nat.beq t 1) = true := hkk
        rw [Bool.or_eq_true] at hkk
        rcases hkk with g | g
        · exact Or.inl ⟨sx_beq g, Or.inl rfl⟩
        · exact Or.inr (Or.inl ⟨sx_beq g, rfl⟩)
      | some j =>
        rw [e] at hkk r4
        have r5 : M.2.2 (w.2.2.2 i) k = some (w.2.2.2 j) := r4.2
        have hkk : (Nat.blt j h.1 && sx_cl h j fun t' n' _ _ _ => (Nat.beq t 50 && Nat.beq (Nat.mod t' 1000) 50) || (!(Nat.beq t 0) && (!(Nat.beq t 1) && (!(Nat.beq t 50) && (Nat.beq t t' && Nat.beq n n'))))) = true := hkk
        obtain ⟨hj, hkk⟩ := sx_nd hkk
        have hj := sx_blt hj
        rw [sx_cl_eq, Bool.or_eq_true] at hkk
        rw [r5]
        have gj : sz_G w h G (w.2.2.2 j) = ((sx_g h.2 j).1, (sx_g h.2 j).2.1) := by rw [sz_G_in hj, (hR.2.2.1 j hj).1]
        rcases hkk with g | g
        · obtain ⟨g1, g2⟩ := sx_nd g
          exact Or.inr (Or.inr (Or.inl ⟨sx_beq g1, _, rfl, by rw [gj]; exact sx_beq g2⟩))
        · obtain ⟨g1, g⟩ := sx_nd g
          obtain ⟨g2, g⟩ := sx_nd g
          obtain ⟨g3, g⟩ := sx_nd g
          obtain ⟨g4, g5⟩ := sx_nd g
          refine Or.inr (Or.inr (Or.inr ⟨fun e => lw_not g1 (by rw [show t = 0 from e]; rfl), fun e => lw_not g2 (by rw [show t = 1 from e]; rfl), fun e => lw_not g3 (by rw [show t = 50 from e]; rfl), _, rfl, ?_⟩))
          rw [gj, ← sx_beq g4, ← sx_beq g5]
    · rw [sz_G_no c] at hq
      cases hq
  · obtain ⟨k, g1, g2, g3⟩ := hW.2.1 a _ _ rfl ha
    exact ⟨k, g1, by rw [g3]; exact hW.1 k g1⟩
  · obtain ⟨k, g1, g2, g3⟩ := hW.2.1 a (sz_G w h G a).1 (sz_G w h G a).2 rfl ha
    rw [hb] at ha g2
    obtain ⟨k', g1', g2', g3'⟩ := hW.2.1 b (sz_G w h G b).1 (sz_G w h G b).2 rfl ha
    have e : k = k' := by omega
    rw [g3, g3', e]
  · by_cases c : ∃ i, i < h.1 ∧ w.2.2.2 i = a
    · obtain ⟨i, hi, rfl⟩ := c
      obtain ⟨r1, r2, r3⟩ := hR.2.2.1 i hi
      rw [sz_G_in hi, r1] at ha
      show M.2.1 (w.2.2.2 i) k = _
      rw [(r3 k (by omega)).2.1]
      exact (sz_d1_s ((sz_hx_s hk).1 i (by omega))).1 ha k hk2
    · rw [sz_G_no c] at ha; cases ha
/-- what stands at the loop's head -/
theorem sz_head {w : sx_w} {h : sx_H} {L : sx_L} {L' : mj_L} {G : mj_G} {M : mj_M} {dA : Nat → ClassId} {b : Nat} (hR : sx_RH w h G M) (h0 : sz_i0 (sz_e b dA) w) (hL : sx_RL w L L') (k1 : sz_Lk L = true) (k2 : sz_hk h = true) (hW : mj_HW dA G) :
    (∃ v5 v6, L' = [some (.inr (.inr (some b))), some (.inr (.inr (some (w.2.2.2 26)))), some (.inr (.inr (some (w.2.2.2 336)))), some (.inr (.inr (some (w.2.2.2 360)))), some (.inl 0), v5, v6]) ∧ 26 ≤ h.1 ∧ lw_V (sz_G w h G) (sz_M w h G M) (w.2.2.2 26) (w.2.2.2 336) (w.2.2.2 27) (w.2.2.2 338) (w.2.2.2 357) ∧ ((sz_M w h G M).1 (w.2.2.2 27) 1 = 0 ∧ (sz_M w h G M).1 (w.2.2.2 336) 2 = 0) ∧ sz_G w h G (w.2.2.2 360) = (90103, 1) ∧ lw_K (sz_G w h G) (sz_M w h G M) (w.2.2.2 26) (w.2.2.2 336) (w.2.2.2 120) (w.2.2.2 359) ∧ (∀ j, j < 2 → (sz_M w h G M).1 (w.2.2.2 120) j = 0 ∧ (sz_M w h G M).1 (w.2.2.2 359) j = 0) := by
  obtain ⟨n1, -, ⟨t1, t2, t3, t4, t5, t6⟩, ⟨r1, r2, r3⟩, z1, z2, z3, z4, y1, y2, y3, y4, y5, y6⟩ := sz_hk_s k2
  have hn : 26 ≤ h.1 := by omega
  have hW2 : mj_HW dA (sz_G w h G) := sz_HW h0 hn hW
  refine ⟨?_, hn, ⟨sz_Inv hR k2 hW2, ⟨sz_tg_s t1 hR (by omega), sz_tg_s t2 hR (by omega), sz_tg_s t3 hR (by omega), sz_tg_s t4 hR (by omega), sz_tg_s t5 hR (by omega)⟩, ⟨sz_rq_s r1 hR (by omega) (by decide), sz_rq_s r2 hR (by omega) (by decide), sz_rq_s r3 hR (by omega) (by decide)⟩, ⟨0, 0, sz_ik_s z3 hR (by omega) (by decide), rfl⟩, ⟨0, 0, sz_iz_s z4 hR (by omega) (by decide) (by decide), rfl⟩, ⟨0, 0, sz_iz_s z4 hR (by omega) (by decide) (by decide), rfl⟩⟩, ⟨sz_iz_s z1 hR (by omega) (by decide) (by decide), sz_iz_s z2 hR (by omega) (by decide) (by decide)⟩, sz_tg_s t6 hR (by omega), ⟨sz_tg_s y1 hR (by omega), sz_tg_s y2 hR (by omega), sz_rq_s y3 hR (by omega) (by decide), sz_rq_s y4 hR (by omega) (by decide)⟩, fun j hj => ⟨sz_iz_s y5 hR (by omega) hj (by omega), sz_iz_s y6 hR (by omega) hj (by omega)⟩⟩
  unfold sz_Lk at k1
  split at k1
  · obtain ⟨a1, k1⟩ := sx_nd k1
    obtain ⟨a2, k1⟩ := sx_nd k1
    obtain ⟨a3, k1⟩ := sx_nd k1
    obtain ⟨a4, a5⟩ := sx_nd k1
    obtain ⟨v0, l0, e0, ⟨o0, f0, g0⟩, hL⟩ := hL
    obtain ⟨v1, l1, e1, ⟨o1, f1, g1⟩, hL⟩ := hL
    obtain ⟨v2, l2, e2, ⟨o2, f2, g2⟩, hL⟩ := hL
    obtain ⟨v3, l3, e3, ⟨o3, f3, g3⟩, hL⟩ := hL
    obtain ⟨v4, l4, e4, ⟨o4, f4, g4⟩, hL⟩ := hL
    obtain ⟨v5, l5, e5, hL⟩ := hL
    obtain ⟨v6, l6, e6, hL⟩ := hL
    have hL : l6 = [] := hL
    have g4 : _ = o4 := g4
    have b0 : w.2.2.2 0 = b := h0.2 0 (by decide)
    refine ⟨v5, v6, ?_⟩
    rw [e0, e1, e2, e3, e4, e5, e6, hL, f0, f1, f2, f3, f4, g0.2, g1.2, g2.2, g3.2, ← g4, sx_beq a1, sx_beq a2, sx_beq a3, sx_beq a4, sx_eq_iff.mp a5, b0]
    rfl
  · cases k1
