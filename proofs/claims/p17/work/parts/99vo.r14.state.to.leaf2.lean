section
/-! ===== the class while it reads a PLAIN (laid by a program) ===== -/
def rv_up (f : Nat → Int) (j : Nat) (v : Int) : Nat → Int := fun k => if k = j then v else f k
def rv_up2 (f : Nat → Nat → Int) (t j : Nat) (v : Int) : Nat → Nat → Int := fun s => if s = t then rv_up (f s) j v else f s
def rv_upn (f : Nat → List Int) (t : Nat) (w : List Int) : Nat → List Int := fun s => if s = t then w else f s
theorem rv_up_s {f : Nat → Int} {j : Nat} {v : Int} : rv_up f j v j = v := if_pos rfl
theorem rv_up_n {f : Nat → Int} {j k : Nat} {v : Int} (h : k ≠ j) : rv_up f j v k = f k := if_neg h
/-- a bit of an int, and an int with a bit set -/
def rv_bt (z k : Int) : Int := (Int32.ofInt (Int32.ofInt z >>> (Int32.ofInt k &&& 31)).toInt &&& Int32.ofInt 1).toInt
def rv_bs (z k : Int) : Int := (Int32.ofInt z ||| Int32.ofInt (Int32.ofInt 1 <<< (Int32.ofInt k &&& 31)).toInt).toInt
theorem rv_bt_01 (z k : Int) : 0 ≤ rv_bt z k ∧ rv_bt z k ≤ 1 := sx_and_in _ 1 (by decide) (by decide)
theorem wz_c {M : mj_M} {a b j : Nat} {v : Int} (h : b ≠ a) : (mj_p0 M a j v).1 b = M.1 b := funext fun _ => hn_n (Or.inl h)
theorem wz_u {M : mj_M} {a j : Nat} {v : Int} : (mj_p0 M a j v).1 a = rv_up (M.1 a) j v := funext fun k => by
  show (if a = a ∧ k = j then v else M.1 a k) = if k = j then v else M.1 a k
  by_cases c : k = j
  · rw [if_pos ⟨rfl, c⟩, if_pos c]
  · rw [if_neg (fun q => c q.2), if_neg c]
theorem rv_tc.cg {G : mj_G} {t : Nat × Nat × Int × List Int × Nat} {tp : Nat} {M M' : mj_M} (h : rv_tc G t tp M) (e1 : M'.1 tp = M.1 tp) (e2 : M'.2.1 tp = M.2.1 tp) (e3 : M'.2.2 tp = M.2.2 tp) : rv_tc G t tp M' := by
  unfold rv_tc at *
  rw [e1, e2, e3]; exact h
/-- where things lie -/
def rv_A (G : mj_G) (M0 : mj_M) (B : Nat → Int) (n lim tp bc pl na ta ba wa oa : Nat) (tr br : Nat → Nat) : Prop :=
  G tp = (1008, 0) ∧ G bc = (38101, 940) ∧ G pl = (1004, 0) ∧ G na = (24103, 8) ∧ G ta = (25104, 8) ∧ G ba = (27104, 8) ∧ G wa = (29100, 12) ∧ G oa = (30100, 8) ∧ (∀ t, t < 8 → G (tr t) = (26100, 9)) ∧ (∀ t, t < 8 → G (br t) = (28100, 12)) ∧ (∀ t s, t < 8 → s < 8 → tr t = tr s → t = s) ∧ (∀ t s, t < 8 → s < 8 → br t = br s → t = s) ∧ M0.2.2 tp 0 = some bc ∧ M0.2.2 pl 0 = some na ∧ M0.2.2 pl 1 = some ta ∧ M0.2.2 pl 2 = some ba ∧ M0.2.2 pl 3 = some wa ∧ M0.2.2 pl 10 = some oa ∧ (∀ t, t < 8 → M0.2.2 ta t = some (tr t)) ∧ (∀ t, t < 8 → M0.2.2 ba t = some (br t)) ∧ (∀ k, rv_u8 (M0.1 bc k) = B k) ∧ rv_wl G M0 ∧ n ≤ 940 ∧ lim ≤ 940 ∧ (∀ a b, (G a).1 % 1000 = 50 → G a = G b → a = b)
/-- what else there is stays -/
def rv_fr (tp pl na wa oa : Nat) (tr br : Nat → Nat) (M0 M : mj_M) : Prop := (∀ a, a ≠ tp → a ≠ pl → a ≠ wa → a ≠ oa → (∀ t, t < 8 → a ≠ tr t) → (∀ t, t < 8 → a ≠ br t) → M.1 a = M0.1 a) ∧ (∀ a, a ≠ na → a ≠ tp → M.2.1 a = M0.2.1 a) ∧ (∀ a j, ¬ (a = tp ∧ j = 9) → M.2.2 a j = M0.2.2 a j)
def rv_S (G : mj_G) (M0 : mj_M) (n lim tp pl na wa oa : Nat) (tr br : Nat → Nat) (t : Nat × Nat × Int × List Int × Nat) (PL WA OA : Nat → Int) (TO BI : Nat → Nat → Int) (nm : Nat → List Int) (M : mj_M) : Prop :=
  (M.1 tp 1 = (n : Int) ∧ M.1 tp 10 = (lim : Int) ∧ M.1 tp 2 = 0) ∧ rv_tc G t tp M ∧ M.1 pl = PL ∧ M.1 wa = WA ∧ M.1 oa = OA ∧ (∀ s, s < 8 → M.1 (tr s) = TO s) ∧ (∀ s, s < 8 → M.1 (br s) = BI s) ∧ (∀ s, s < 8 → M.2.1 na s = rv_5 (nm s) ∧ rv_wo (nm s)) ∧ rv_fr tp pl na wa oa tr br M0 M
/-- a fault has been told -/
def rv_F (tp pl na wa oa : Nat) (tr br : Nat → Nat) (M0 : mj_M) (f : Int) (a : Nat) (M : mj_M) : Prop := M.1 tp 2 = f ∧ M.1 tp 3 = (a : Int) ∧ rv_fr tp pl na wa oa tr br M0 M ∧ f ≠ 0
section CS
variable {G : mj_G} {M0 M : mj_M} {B : Nat → Int} {n lim tp bc pl na ta ba wa oa : Nat} {tr br : Nat → Nat} {t : Nat × Nat × Int × List Int × Nat} {PL WA OA : Nat → Int} {TO BI : Nat → Nat → Int} {nm : Nat → List Int}
theorem rv_S.ppl {j : Nat} {v : Int} (hA : rv_A G M0 B n lim tp bc pl na ta ba wa oa tr br) (h : rv_S G M0 n lim tp pl na wa oa tr br t PL WA OA TO BI nm M) : rv_S G M0 n lim tp pl na wa oa tr br t (rv_up PL j v) WA OA TO BI nm (mj_p0 M pl j v) := by
  obtain ⟨gtp, gbc, gpl, gna, gta, gba, gwa, goa, gtr, gbr, itr, ibr, -⟩ := hA
  obtain ⟨⟨h1, h2, h3⟩, h4, h5, h6, h7, h8, h9, h10, f1, f2, f3⟩ := h
  exact ⟨⟨by rw [wz_c (hn_ne gtp gpl (by decide))]; exact h1, by rw [wz_c (hn_ne gtp gpl (by decide))]; exact h2, by rw [wz_c (hn_ne gtp gpl (by decide))]; exact h3⟩, h4.cg (wz_c (hn_ne gtp gpl (by decide))) rfl rfl, wz_u.trans (by rw [h5]), (wz_c (hn_ne gwa gpl (by decide))).trans h6, (wz_c (hn_ne goa gpl (by decide))).trans h7, fun s hs => (wz_c (hn_ne (gtr s hs) gpl (by decide))).trans (h8 s hs), fun s hs => (wz_c (hn_ne (gbr s hs) gpl (by decide))).trans (h9 s hs), h10, fun a a1 a2 a3 a4 a5 a6 => (wz_c a2).trans (f1 a a1 a2 a3 a4 a5 a6), f2, f3⟩
theorem rv_S.pwa {j : Nat} {v : Int} (hA : rv_A G M0 B n lim tp bc pl na ta ba wa oa tr br) (h : rv_S G M0 n lim tp pl na wa oa tr br t PL WA OA TO BI nm M) : rv_S G M0 n lim tp pl na wa oa tr br t PL (rv_up WA j v) OA TO BI nm (mj_p0 M wa j v) := by
  obtain ⟨gtp, gbc, gpl, gna, gta, gba, gwa, goa, gtr, gbr, itr, ibr, -⟩ := hA
  obtain ⟨⟨h1, h2, h3⟩, h4, h5, h6, h7, h8, h9, h10, f1, f2, f3⟩ := h
  exact ⟨⟨by rw [wz_c (hn_ne gtp gwa (by decide))]; exact h1, by rw [wz_c (hn_ne gtp gwa (by decide))]; exact h2, by rw [wz_c (hn_ne gtp gwa (by decide))]; exact h3⟩, h4.cg (wz_c (hn_ne gtp gwa (by decide))) rfl rfl, (wz_c (hn_ne gpl gwa (by decide))).trans h5, wz_u.trans (by rw [h6]), (wz_c (hn_ne goa gwa (by decide))).trans h7, fun s hs => (wz_c (hn_ne (gtr s hs) gwa (by decide))).trans (h8 s hs), fun s hs => (wz_c (hn_ne (gbr s hs) gwa (by decide))).trans (h9 s hs), h10, fun a a1 a2 a3 a4 a5 a6 => (wz_c a3).trans (f1 a a1 a2 a3 a4 a5 a6), f2, f3⟩
theorem rv_S.poa {j : Nat} {v : Int} (hA : rv_A G M0 B n lim tp bc pl na ta ba wa oa tr br) (h : rv_S G M0 n lim tp pl na wa oa tr br t PL WA OA TO BI nm M) : rv_S G M0 n lim tp pl na wa oa tr br t PL WA (rv_up OA j v) TO BI nm (mj_p0 M oa j v) := by
  obtain ⟨gtp, gbc, gpl, gna, gta, gba, gwa, goa, gtr, gbr, itr, ibr, -⟩ := hA
  obtain ⟨⟨h1, h2, h3⟩, h4, h5, h6, h7, h8, h9, h10, f1, f2, f3⟩ := h
  exact ⟨⟨by rw [wz_c (hn_ne gtp goa (by decide))]; exact h1, by rw [wz_c (hn_ne gtp goa (by decide))]; exact h2, by rw [wz_c (hn_ne gtp goa (by decide))]; exact h3⟩, h4.cg (wz_c (hn_ne gtp goa (by decide))) rfl rfl, (wz_c (hn_ne gpl goa (by decide))).trans h5, (wz_c (hn_ne gwa goa (by decide))).trans h6, wz_u.trans (by rw [h7]), fun s hs => (wz_c (hn_ne (gtr s hs) goa (by decide))).trans (h8 s hs), fun s hs => (wz_c (hn_ne (gbr s hs) goa (by decide))).trans (h9 s hs), h10, fun a a1 a2 a3 a4 a5 a6 => (wz_c a4).trans (f1 a a1 a2 a3 a4 a5 a6), f2, f3⟩
theorem rv_S.ptr {j q : Nat} {v : Int} (hA : rv_A G M0 B n lim tp bc pl na ta ba wa oa tr br) (h : rv_S G M0 n lim tp pl na wa oa tr br t PL WA OA TO BI nm M) (hq : q < 8) : rv_S G M0 n lim tp pl na wa oa tr br t PL WA OA (rv_up2 TO q j v) BI nm (mj_p0 M (tr q) j v) := by
  obtain ⟨gtp, gbc, gpl, gna, gta, gba, gwa, goa, gtr, gbr, itr, ibr, -⟩ := hA
  obtain ⟨⟨h1, h2, h3⟩, h4, h5, h6, h7, h8, h9, h10, f1, f2, f3⟩ := h
  exact ⟨⟨by rw [wz_c (hn_ne gtp (gtr q hq) (by decide))]; exact h1, by rw [wz_c (hn_ne gtp (gtr q hq) (by decide))]; exact h2, by rw [wz_c (hn_ne gtp (gtr q hq) (by decide))]; exact h3⟩, h4.cg (wz_c (hn_ne gtp (gtr q hq) (by decide))) rfl rfl, (wz_c (hn_ne gpl (gtr q hq) (by decide))).trans h5, (wz_c (hn_ne gwa (gtr q hq) (by decide))).trans h6, (wz_c (hn_ne goa (gtr q hq) (by decide))).trans h7, fun s hs => by
    by_cases c : s = q
    · rw [c, wz_u, h8 q hq]; exact (if_pos rfl).symm
    · rw [wz_c (fun e => c (itr s q hs hq e)), h8 s hs]; exact (if_neg c).symm, fun s hs => (wz_c (hn_ne (gbr s hs) (gtr q hq) (by decide))).trans (h9 s hs), h10, fun a a1 a2 a3 a4 a5 a6 => (wz_c (a5 q hq)).trans (f1 a a1 a2 a3 a4 a5 a6), f2, f3⟩
theorem rv_S.pbr {j q : Nat} {v : Int} (hA : rv_A G M0 B n lim tp bc pl na ta ba wa oa tr br) (h : rv_S G M0 n lim tp pl na wa oa tr br t PL WA OA TO BI nm M) (hq : q < 8) : rv_S G M0 n lim tp pl na wa oa tr br t PL WA OA TO (rv_up2 BI q j v) nm (mj_p0 M (br q) j v) := by
  obtain ⟨gtp, gbc, gpl, gna, gta, gba, gwa, goa, gtr, gbr, itr, ibr, -⟩ := hA
  obtain ⟨⟨h1, h2, h3⟩, h4, h5, h6, h7, h8, h9, h10, f1, f2, f3⟩ := h
  exact ⟨⟨by rw [wz_c (hn_ne gtp (gbr q hq) (by decide))]; exact h1, by rw [wz_c (hn_ne gtp (gbr q hq) (by decide))]; exact h2, by rw [wz_c (hn_ne gtp (gbr q hq) (by decide))]; exact h3⟩, h4.cg (wz_c (hn_ne gtp (gbr q hq) (by decide))) rfl rfl, (wz_c (hn_ne gpl (gbr q hq) (by decide))).trans h5, (wz_c (hn_ne gwa (gbr q hq) (by decide))).trans h6, (wz_c (hn_ne goa (gbr q hq) (by decide))).trans h7, fun s hs => (wz_c (hn_ne (gtr s hs) (gbr q hq) (by decide))).trans (h8 s hs), fun s hs => by
    by_cases c : s = q
    · rw [c, wz_u, h9 q hq]; exact (if_pos rfl).symm
    · rw [wz_c (fun e => c (ibr s q hs hq e)), h9 s hs]; exact (if_neg c).symm, h10, fun a a1 a2 a3 a4 a5 a6 => (wz_c (a6 q hq)).trans (f1 a a1 a2 a3 a4 a5 a6), f2, f3⟩
theorem rv_S.pna {q : Nat} {w : List Int} (hA : rv_A G M0 B n lim tp bc pl na ta ba wa oa tr br) (h : rv_S G M0 n lim tp pl na wa oa tr br t PL WA OA TO BI nm M) (hw : rv_wo w) : rv_S G M0 n lim tp pl na wa oa tr br t PL WA OA TO BI (rv_upn nm q w) (mj_p1 M na q (rv_5 w)) := by
  obtain ⟨gtp, gbc, gpl, gna, gta, gba, gwa, goa, gtr, gbr, itr, ibr, -⟩ := hA
  obtain ⟨h1, h4, h5, h6, h7, h8, h9, h10, f1, f2, f3⟩ := h
  refine ⟨h1, h4.cg rfl (funext fun k => wz_nl (Or.inl (hn_ne gtp gna (by decide)))) rfl, h5, h6, h7, h8, h9, fun s hs => ?_, f1, fun a a1 a2 => (funext fun k => wz_nl (Or.inl a1)).trans (f2 a a1 a2), f3⟩
  unfold rv_upn
  by_cases c : s = q
  · rw [if_pos c, c]; exact ⟨wz_sl, hw⟩
  · rw [if_neg c]; exact ⟨(wz_nl (Or.inr c)).trans (h10 s hs).1, (h10 s hs).2⟩
theorem rv_S.rr {a j b : Nat} (h : rv_S G M0 n lim tp pl na wa oa tr br t PL WA OA TO BI nm M) (e : M0.2.2 a j = some b) (hj : j ≠ 9) : M.2.2 a j = some b := (h.2.2.2.2.2.2.2.2.2.2 a j (fun q => hj q.2)).trans e
theorem rv_S.rq {a j b : Nat} {x y : Nat} {z : Nat} (h : rv_S G M0 n lim tp pl na wa oa tr br t PL WA OA TO BI nm M) (g1 : G a = (x, y)) (g2 : G tp = (z, 0)) (hx : x ≠ z) (e : M0.2.2 a j = some b) : M.2.2 a j = some b := (h.2.2.2.2.2.2.2.2.2.2 a j (fun q => hx (by rw [q.1, g2] at g1; exact (congrArg Prod.fst g1).symm))).trans e
theorem rv_S.ref {f z : Int} {a : Nat} (hA : rv_A G M0 B n lim tp bc pl na ta ba wa oa tr br) (h : rv_S G M0 n lim tp pl na wa oa tr br t PL WA OA TO BI nm M) (hz : z = (a : Int)) (hf : f ≠ 0) : rv_F tp pl na wa oa tr br M0 f a (mj_p0 (mj_p0 M tp 2 f) tp 3 z) := by
  obtain ⟨h1, h4, h5, h6, h7, h8, h9, h10, f1, f2, f3⟩ := h
  exact ⟨(hn_n (Or.inr (by decide))).trans hn_s, hn_s.trans hz, ⟨fun a a1 a2 a3 a4 a5 a6 => (wz_c a1).trans ((wz_c a1).trans (f1 a a1 a2 a3 a4 a5 a6)), f2, f3⟩, hf⟩
theorem r_adv {d q : Nat} {Q : mj_P} (hA : rv_A G M0 B n lim tp bc pl na ta ba wa oa tr br) (h : rv_S G M0 n lim tp pl na wa oa tr br t PL WA OA TO BI nm M) (hp : t.2.2.2.2 = q) (hq : q ≤ n) (hQ : ∀ M', rv_S G M0 n lim tp pl na wa oa tr br (rv_T B n lim q) PL WA OA TO BI nm M' → Q none G M') : mj_R mj_tab (d + 3) 69 [.inr (.inr (some tp))] G M Q := by
  have hA' := hA
  obtain ⟨gtp, gbc, gpl, gna, gta, gba, gwa, goa, gtr, gbr, itr, ibr, r1, r2, r3, r4, r5, r6, r7, r8, rb, rw, n1, n2, -⟩ := hA
  obtain ⟨⟨h1, h2, h3⟩, h4, h5, h6, h7, h8, h9, h10, f1, f2, f3⟩ := h
  have eb : M.1 bc = M0.1 bc := f1 bc (hn_ne gbc gtp (by decide)) (hn_ne gbc gpl (by decide)) (hn_ne gbc gwa (by decide)) (hn_ne gbc goa (by decide)) (fun t ht => hn_ne gbc (gtr t ht) (by decide)) (fun t ht => hn_ne gbc (gbr t ht) (by decide))
  have hw : rv_wl G M := fun a ha k hk => by
    obtain ⟨w, w1, w2⟩ := rw a ha k hk
    exact ⟨w, (f3 a k (fun e => by rw [e.1, gtp] at ha; cases ha)).trans w1, w2⟩
  refine r_X7_advance (d := d) (B := B) (n := n) (lim := lim) (p := q) gtp gbc n1 n2 hw hq ((f3 tp 0 (by rintro ⟨-, h⟩; revert h; decide)).trans r1) h1 h2 (by rw [← hp]; exact h4.2.2.1) (fun k => by rw [eb]; exact rb k) (fun M' hM => hQ M' ?_)
  have ho := hM.1
  have hl := hM.2.1
  have hr := hM.2.2.1
  have oc : ∀ a, a ≠ tp → M'.1 a = M.1 a := fun a ha => funext fun k => ho a k (fun e => ha e.1)
  refine ⟨⟨(ho tp 1 (by rintro ⟨-, h⟩; revert h; decide)).trans h1, (ho tp 10 (by rintro ⟨-, h⟩; revert h; decide)).trans h2, (ho tp 2 (by rintro ⟨-, h⟩; revert h; decide)).trans h3⟩, rv_adv_T hM, (oc pl (hn_ne gpl gtp (by decide))).trans h5, (oc wa (hn_ne gwa gtp (by decide))).trans h6, (oc oa (hn_ne goa gtp (by decide))).trans h7, fun s hs => (oc _ (hn_ne (gtr s hs) gtp (by decide))).trans (h8 s hs), fun s hs => (oc _ (hn_ne (gbr s hs) gtp (by decide))).trans (h9 s hs), fun s hs => ⟨(hl na s (fun e => hn_ne gna gtp (by decide) e.1)).trans (h10 s hs).1, (h10 s hs).2⟩, fun a a1 a2 a3 a4 a5 a6 => (oc a a1).trans (f1 a a1 a2 a3 a4 a5 a6), fun a a1 a2 => (funext fun k => hl a k (fun e => a2 e.1)).trans (f2 a a1 a2), fun a j g => (hr a j g).trans (f3 a j g)⟩
def rv_S0 (G : mj_G) (M0 : mj_M) (n lim tp pl na wa oa : Nat) (tr br : Nat → Nat) (q : Nat) (PL WA OA : Nat → Int) (TO BI : Nat → Nat → Int) (nm : Nat → List Int) (M : mj_M) : Prop :=
  (M.1 tp 1 = (n : Int) ∧ M.1 tp 10 = (lim : Int) ∧ M.1 tp 2 = 0) ∧ M.1 tp 11 = (q : Int) ∧ M.1 pl = PL ∧ M.1 wa = WA ∧ M.1 oa = OA ∧ (∀ s, s < 8 → M.1 (tr s) = TO s) ∧ (∀ s, s < 8 → M.1 (br s) = BI s) ∧ (∀ s, s < 8 → M.2.1 na s = rv_5 (nm s) ∧ rv_wo (nm s)) ∧ rv_fr tp pl na wa oa tr br M0 M
theorem r_adv0 {d q : Nat} {Q : mj_P} (hA : rv_A G M0 B n lim tp bc pl na ta ba wa oa tr br) (h : rv_S0 G M0 n lim tp pl na wa oa tr br q PL WA OA TO BI nm M) (hq : q ≤ n) (hQ : ∀ M', rv_S G M0 n lim tp pl na wa oa tr br (rv_T B n lim q) PL WA OA TO BI nm M' → Q none G M') : mj_R mj_tab (d + 3) 69 [.inr (.inr (some tp))] G M Q := by
  have hA' := hA
  obtain ⟨gtp, gbc, gpl, gna, gta, gba, gwa, goa, gtr, gbr, itr, ibr, r1, r2, r3, r4, r5, r6, r7, r8, rb, rw, n1, n2, -⟩ := hA
  obtain ⟨⟨h1, h2, h3⟩, h4, h5, h6, h7, h8, h9, h10, f1, f2, f3⟩ := h
  have eb : M.1 bc = M0.1 bc := f1 bc (hn_ne gbc gtp (by decide)) (hn_ne gbc gpl (by decide)) (hn_ne gbc gwa (by decide)) (hn_ne gbc goa (by decide)) (fun t ht => hn_ne gbc (gtr t ht) (by decide)) (fun t ht => hn_ne gbc (gbr t ht) (by decide))
  have hw : rv_wl G M := fun a ha k hk => by
    obtain ⟨w, w1, w2⟩ := rw a ha k hk
    exact ⟨w, (f3 a k (fun e => by rw [e.1, gtp] at ha; cases ha)).trans w1, w2⟩
  refine r_X7_advance (d := d) (B := B) (n := n) (lim := lim) (p := q) gtp gbc n1 n2 hw hq ((f3 tp 0 (by rintro ⟨-, h⟩; revert h; decide)).trans r1) h1 h2 h4 (fun k => by rw [eb]; exact rb k) (fun M' hM => hQ M' ?_)
  have ho := hM.1
  have hl := hM.2.1
  have hr := hM.2.2.1
  have oc : ∀ a, a ≠ tp → M'.1 a = M.1 a := fun a ha => funext fun k => ho a k (fun e => ha e.1)
  refine ⟨⟨(ho tp 1 (by rintro ⟨-, h⟩; revert h; decide)).trans h1, (ho tp 10 (by rintro ⟨-, h⟩; revert h; decide)).trans h2, (ho tp 2 (by rintro ⟨-, h⟩; revert h; decide)).trans h3⟩, rv_adv_T hM, (oc pl (hn_ne gpl gtp (by decide))).trans h5, (oc wa (hn_ne gwa gtp (by decide))).trans h6, (oc oa (hn_ne goa gtp (by decide))).trans h7, fun s hs => (oc _ (hn_ne (gtr s hs) gtp (by decide))).trans (h8 s hs), fun s hs => (oc _ (hn_ne (gbr s hs) gtp (by decide))).trans (h9 s hs), fun s hs => ⟨(hl na s (fun e => hn_ne gna gtp (by decide) e.1)).trans (h10 s hs).1, (h10 s hs).2⟩, fun a a1 a2 a3 a4 a5 a6 => (oc a a1).trans (f1 a a1 a2 a3 a4 a5 a6), fun a a1 a2 => (funext fun k => hl a k (fun e => a2 e.1)).trans (f2 a a1 a2), fun a j g => (hr a j g).trans (f3 a j g)⟩
end CS
end
section
/-! ===== what is read, as specs; leaf methods of the class (laid by a program) ===== -/
def rv_x (T : Nat → Nat × Nat × Int × List Int × Nat) (q : Nat) : Nat := (T q).2.2.2.2
def rv_pb (PL : Nat → Int) : Prop := 0 ≤ PL 4 ∧ PL 4 ≤ 8 ∧ 0 ≤ PL 5 ∧ PL 5 ≤ 40
def rv_AT (G : mj_G) (M0 : mj_M) (B : Nat → Int) (n lim tp bc pl na ta ba wa oa : Nat) (tr br : Nat → Nat) (T : Nat → Nat × Nat × Int × List Int × Nat) : Prop := rv_A G M0 B n lim tp bc pl na ta ba wa oa tr br ∧ T = rv_T B n lim
section SP
variable {T : Nat → Nat × Nat × Int × List Int × Nat} {lo hi : Int} {p : Nat} {Kf Kf' : Int → Nat → Prop}
/-- a number from lo to hi is read -/
def sp_num (T : Nat → Nat × Nat × Int × List Int × Nat) (lo hi : Int) (p : Nat) (Kf : Int → Nat → Prop) (Ko : Prop) : Prop := ((T p).1 = 2 → (lo ≤ (T p).2.2.1 → ((T p).2.2.1 ≤ hi → Ko) ∧ (¬ (T p).2.2.1 ≤ hi → Kf 2 (T p).2.1)) ∧ (¬ lo ≤ (T p).2.2.1 → Kf 2 (T p).2.1)) ∧ (¬ (T p).1 = 2 → Kf 1 (T p).2.1)
def sp_sgn (T : Nat → Nat × Nat × Int × List Int × Nat) (c : Int) (p : Nat) (Kf : Int → Nat → Prop) (Ko : Prop) : Prop := ((T p).1 = 3 → ((T p).2.2.1 = c → Ko) ∧ (¬ (T p).2.2.1 = c → Kf 1 (T p).2.1)) ∧ (¬ (T p).1 = 3 → Kf 1 (T p).2.1)
def sp_nam (T : Nat → Nat × Nat × Int × List Int × Nat) (p : Nat) (Kf : Int → Nat → Prop) (Ko : Prop) : Prop := ((T p).1 = 1 → (rv_nam (T p).2.2.2.1 → Ko) ∧ (¬ rv_nam (T p).2.2.2.1 → Kf 1 (T p).2.1)) ∧ (¬ (T p).1 = 1 → Kf 1 (T p).2.1)
def sp_find (nm : Nat → List Int) (k : Int) (w : List Int) (Ko : Int → Prop) : Prop := (∀ r : Nat, (r : Int) < k → nm r = w → (∀ j, j < r → nm j ≠ w) → Ko (r : Int)) ∧ ((∀ j : Nat, (j : Int) < k → nm j ≠ w) → Ko (-1))
theorem sp_num.mono {Ko Ko' : Prop} (h : sp_num T lo hi p Kf Ko) (hf : ∀ f a, Kf f a → Kf' f a) (ho : lo ≤ (T p).2.2.1 → (T p).2.2.1 ≤ hi → (T p).1 = 2 → Ko → Ko') : sp_num T lo hi p Kf' Ko' := ⟨fun a => ⟨fun b => ⟨fun c => ho b c a (((h.1 a).1 b).1 c), fun c => hf _ _ (((h.1 a).1 b).2 c)⟩, fun b => hf _ _ ((h.1 a).2 b)⟩, fun a => hf _ _ (h.2 a)⟩
theorem sp_sgn.mono {c : Int} {Ko Ko' : Prop} (h : sp_sgn T c p Kf Ko) (hf : ∀ f a, Kf f a → Kf' f a) (ho : (T p).1 = 3 → Ko → Ko') : sp_sgn T c p Kf' Ko' := ⟨fun a => ⟨fun b => ho a ((h.1 a).1 b), fun b => hf _ _ ((h.1 a).2 b)⟩, fun a => hf _ _ (h.2 a)⟩
theorem sp_nam.mono {Ko Ko' : Prop} (h : sp_nam T p Kf Ko) (hf : ∀ f a, Kf f a → Kf' f a) (ho : (T p).1 = 1 → rv_nam (T p).2.2.2.1 → Ko → Ko') : sp_nam T p Kf' Ko' := ⟨fun a => ⟨fun b => ho a b ((h.1 a).1 b), fun b => hf _ _ ((h.1 a).2 b)⟩, fun a => hf _ _ (h.2 a)⟩
theorem sp_find.mono {nm : Nat → List Int} {k : Int} {w : List Int} {Ko Ko' : Int → Prop} (h : sp_find nm k w Ko) (h1 : ∀ r : Nat, (r : Int) < k → nm r = w → (∀ j, j < r → nm j ≠ w) → Ko (r : Int) → Ko' (r : Int)) (h0 : (∀ j : Nat, (j : Int) < k → nm j ≠ w) → Ko (-1) → Ko' (-1)) : sp_find nm k w Ko' := ⟨fun r a b c => h1 r a b c (h.1 r a b c), fun a => h0 a (h.2 a)⟩
end SP
theorem rv_x_w {G : mj_G} {M0 : mj_M} {B : Nat → Int} {n lim tp bc pl na ta ba wa oa : Nat} {tr br : Nat → Nat} {T : Nat → Nat × Nat × Int × List Int × Nat} {q : Nat} (hA : rv_AT G M0 B n lim tp bc pl na ta ba wa oa tr br T) (h : q ≤ n) : rv_tw n q (T q) := by rw [hA.2]; exact rv_T_w h
theorem rv_x_le {G : mj_G} {M0 : mj_M} {B : Nat → Int} {n lim tp bc pl na ta ba wa oa : Nat} {tr br : Nat → Nat} {T : Nat → Nat × Nat × Int × List Int × Nat} {q : Nat} (hA : rv_AT G M0 B n lim tp bc pl na ta ba wa oa tr br T) (h : q ≤ n) : rv_x T q ≤ n := (rv_x_w hA h).2.2.2.2.2
theorem rv_x_ge {G : mj_G} {M0 : mj_M} {B : Nat → Int} {n lim tp bc pl na ta ba wa oa : Nat} {tr br : Nat → Nat} {T : Nat → Nat × Nat × Int × List Int × Nat} {q : Nat} (hA : rv_AT G M0 B n lim tp bc pl na ta ba wa oa tr br T) (h : q ≤ n) : q ≤ rv_x T q := (rv_x_w hA h).2.1
theorem rv_x_wo {G : mj_G} {M0 : mj_M} {B : Nat → Int} {n lim tp bc pl na ta ba wa oa : Nat} {tr br : Nat → Nat} {T : Nat → Nat × Nat × Int × List Int × Nat} {q : Nat} (hA : rv_AT G M0 B n lim tp bc pl na ta ba wa oa tr br T) (h : q ≤ n) (h1 : (T q).1 = 1) : rv_wo (T q).2.2.2.1 := (rv_x_w hA h).2.2.2.2.1 h1
theorem r_adv2 {G : mj_G} {M0 M : mj_M} {B : Nat → Int} {n lim tp bc pl na ta ba wa oa : Nat} {tr br : Nat → Nat} {T : Nat → Nat × Nat × Int × List Int × Nat} {PL WA OA : Nat → Int} {TO BI : Nat → Nat → Int} {nm : Nat → List Int} {Q : mj_P} {d q : Nat} (hA : rv_AT G M0 B n lim tp bc pl na ta ba wa oa tr br T) (h : rv_S G M0 n lim tp pl na wa oa tr br (T q) PL WA OA TO BI nm M) (hq : q ≤ n) (hQ : ∀ M', rv_S G M0 n lim tp pl na wa oa tr br (T (rv_x T q)) PL WA OA TO BI nm M' → Q none G M') : mj_R mj_tab (d + 3) 69 [.inr (.inr (some tp))] G M Q := r_adv hA.1 h rfl (rv_x_le hA hq) (fun M' h' => hQ M' (by rw [hA.2]; rw [hA.2] at h'; exact h'))
theorem r_X7_refuse {G : mj_G} {M0 M : mj_M} {B : Nat → Int} {n lim tp bc pl na ta ba wa oa : Nat} {tr br : Nat → Nat} {T : Nat → Nat × Nat × Int × List Int × Nat} {PL WA OA : Nat → Int} {TO BI : Nat → Nat → Int} {nm : Nat → List Int} {Q : mj_P} {d : Nat} {f : Int} {t : Nat × Nat × Int × List Int × Nat} (hA : rv_AT G M0 B n lim tp bc pl na ta ba wa oa tr br T) (hS : rv_S G M0 n lim tp pl na wa oa tr br t PL WA OA TO BI nm M) (hf0 : f ≠ 0) (hQ : ∀ M', rv_F tp pl na wa oa tr br M0 f t.2.1 M' → Q (some (.inl 0)) G M') : mj_R mj_tab (d + 1) 83 [.inr (.inr (some tp)), .inl f] G M Q := by
  have gtp := hA.1.1
  refine ⟨Nat.le_of_ble_eq_true rfl, ?_⟩
  show wz d mt_X7_refuse.2.2.2.2.1 Q mt_X7_refuse.2.2.2.2.1 [some (.inr (.inr (some tp))), some (.inl f)] [] G M _ _
  refine w_aln rfl ?_
  refine w_iln rfl ?_
  refine w_pi gtp rfl (by decide) rfl (fun q => by cases q) ?_
  refine w_aln rfl ?_
  refine w_aln rfl ?_
  refine w_gi gtp rfl (by decide) rfl rfl ?_
  refine w_pi gtp rfl (by decide) rfl (fun q => by cases q) ?_
  refine w_ic ?_
  exact w_iret (fun _ => Or.inl rfl) (hQ _ (hS.ref hA.1 ((hn_n (Or.inr (by decide))).trans hS.2.1.2.1) hf0))
theorem r_X7_numberHere {G : mj_G} {M0 M : mj_M} {B : Nat → Int} {n lim tp bc pl na ta ba wa oa : Nat} {tr br : Nat → Nat} {T : Nat → Nat × Nat × Int × List Int × Nat} {PL WA OA : Nat → Int} {TO BI : Nat → Nat → Int} {nm : Nat → List Int} {Q : mj_P} {d q : Nat} {lo hi : Int} (hA : rv_AT G M0 B n lim tp bc pl na ta ba wa oa tr br T) (hS : rv_S G M0 n lim tp pl na wa oa tr br (T q) PL WA OA TO BI nm M) (h : sp_num T lo hi q (fun f a => ∀ M', rv_F tp pl na wa oa tr br M0 f a M' → Q (some (.inl (-1))) G M') (∀ M', rv_S G M0 n lim tp pl na wa oa tr br (T q) PL WA OA TO BI nm M' → Q (some (.inl (T q).2.2.1)) G M')) : mj_R mj_tab (d + 2) 79 [.inr (.inr (some tp)), .inl lo, .inl hi] G M Q := by
  obtain ⟨⟨gtp, gbc, gpl, gna, gta, gba, gwa, goa, gtr, gbr, itr, ibr, r1, r2, r3, r4, r5, r6, r7, r8, rb, rw0, n1, n2, hIw⟩, hT⟩ := id hA
  obtain ⟨k4, k5, k11, k6, k7, k8, k9⟩ := id hS.2.1
  refine ⟨Nat.le_of_ble_eq_true rfl, ?_⟩
  show wz (d + 1) mt_X7_numberHere.2.2.2.2.1 Q mt_X7_numberHere.2.2.2.2.1 [some (.inr (.inr (some tp))), some (.inl lo), some (.inl hi)] [] G M _ _
  refine w_aln rfl ?_
  refine w_gi gtp rfl (by decide) rfl (rfl) ?_
  refine w_ic ?_
  refine w_cmeq (fun c1 => ?_) (fun c1 => ?_)
  · skip
    refine w_aln rfl ?_
    refine w_gi gtp rfl (by decide) rfl (rfl) ?_
    refine w_iln rfl ?_
    refine w_cmlt (fun c2 => ?_) (fun c2 => ?_)
    · skip
      refine w_aln rfl ?_
      refine w_ic ?_
      have h4 := h.1 (by omega)
      clear h
      have h5 := h4.2 (by omega)
      clear h4
      refine w_cv (st := []) rfl gtp rfl (Nat.le_of_ble_eq_true rfl) (fun kk h => h) (r_X7_refuse (d := d) hA hS (by decide) (fun MF3 F3 => ?_))
      refine w_pop ?_
      refine w_ic ?_
      exact w_iret (fun q => by cases q) (h5 _ F3)
    · skip
      refine w_aln rfl ?_
      refine w_gi gtp rfl (by decide) rfl (rfl) ?_
      refine w_iln rfl ?_
      refine w_cmle (fun c6 => ?_) (fun c6 => ?_)
      · skip
        refine w_aln rfl ?_
        refine w_gi gtp rfl (by decide) rfl (rfl) ?_
        have h7 := h.1 (by omega)
        clear h
        have h8 := h7.1 (by omega)
        clear h7
        have h9 := h8.1 (by omega)
        clear h8
        rw [(k6 (by omega)).1]; exact w_iret (fun q => by cases q) (h9 _ hS)
      · skip
        refine w_aln rfl ?_
        refine w_ic ?_
        have h11 := h.1 (by omega)
        clear h
        have h12 := h11.1 (by omega)
        clear h11
        have h13 := h12.2 (by omega)
        clear h12
        refine w_cv (st := []) rfl gtp rfl (Nat.le_of_ble_eq_true rfl) (fun kk h => h) (r_X7_refuse (d := d) hA hS (by decide) (fun MF10 F10 => ?_))
        refine w_pop ?_
        refine w_ic ?_
        exact w_iret (fun q => by cases q) (h13 _ F10)
  · skip
    refine w_aln rfl ?_
    refine w_ic ?_
    have h15 := h.2 (by omega)
    clear h
    refine w_cv (st := []) rfl gtp rfl (Nat.le_of_ble_eq_true rfl) (fun kk h => h) (r_X7_refuse (d := d) hA hS (by decide) (fun MF14 F14 => ?_))
    refine w_pop ?_
    refine w_ic ?_
    exact w_iret (fun q => by cases q) (h15 _ F14)
theorem r_X7_nextNumber {G : mj_G} {M0 M : mj_M} {B : Nat → Int} {n lim tp bc pl na ta ba wa oa : Nat} {tr br : Nat → Nat} {T : Nat → Nat × Nat × Int × List Int × Nat} {PL WA OA : Nat → Int} {TO BI : Nat → Nat → Int} {nm : Nat → List Int} {Q : mj_P} {d q : Nat} {lo hi : Int} (hA : rv_AT G M0 B n lim tp bc pl na ta ba wa oa tr br T) (hS : rv_S G M0 n lim tp pl na wa oa tr br (T q) PL WA OA TO BI nm M) (hqn : q ≤ n) (h : sp_num T lo hi (rv_x T q) (fun f a => ∀ M', rv_F tp pl na wa oa tr br M0 f a M' → Q (some (.inl (-1))) G M') (∀ M', rv_S G M0 n lim tp pl na wa oa tr br (T (rv_x T q)) PL WA OA TO BI nm M' → Q (some (.inl (T (rv_x T q)).2.2.1)) G M')) : mj_R mj_tab (d + 4) 77 [.inr (.inr (some tp)), .inl lo, .inl hi] G M Q := by
  have gtp := hA.1.1
  refine ⟨Nat.le_of_ble_eq_true rfl, ?_⟩
  show wz (d + 3) mt_X7_nextNumber.2.2.2.2.1 Q mt_X7_nextNumber.2.2.2.2.1 [some (.inr (.inr (some tp))), some (.inl lo), some (.inl hi)] [] G M _ _
  refine w_aln rfl ?_
  refine w_cv (st := []) rfl gtp rfl (Nat.le_of_ble_eq_true rfl) (fun kk h => h) (r_adv2 (d := d) hA hS hqn (fun M1 s1 => ?_))
  refine w_aln rfl ?_
  refine w_iln rfl ?_
  refine w_iln rfl ?_
  refine w_cv (st := []) rfl gtp rfl (Nat.le_of_ble_eq_true rfl) (fun kk h => h) (r_X7_numberHere (d := d + 1) hA s1 (h.mono (fun f a hf M' F => w_iret (fun q => by cases q) (hf M' F)) (fun _ _ _ hv M' s => w_iret (fun q => by cases q) (hv M' s))))
theorem r_X7_nextSign {G : mj_G} {M0 M : mj_M} {B : Nat → Int} {n lim tp bc pl na ta ba wa oa : Nat} {tr br : Nat → Nat} {T : Nat → Nat × Nat × Int × List Int × Nat} {PL WA OA : Nat → Int} {TO BI : Nat → Nat → Int} {nm : Nat → List Int} {Q : mj_P} {d q : Nat} {c : Int} (hA : rv_AT G M0 B n lim tp bc pl na ta ba wa oa tr br T) (hS : rv_S G M0 n lim tp pl na wa oa tr br (T q) PL WA OA TO BI nm M) (hqn : q ≤ n) (h : sp_sgn T c (rv_x T q) (fun f a => ∀ M', rv_F tp pl na wa oa tr br M0 f a M' → Q (some (.inl 0)) G M') (∀ M', rv_S G M0 n lim tp pl na wa oa tr br (T (rv_x T q)) PL WA OA TO BI nm M' → Q (some (.inl 1)) G M')) : mj_R mj_tab (d + 4) 78 [.inr (.inr (some tp)), .inl c] G M Q := by
  have gtp := hA.1.1
  refine ⟨Nat.le_of_ble_eq_true rfl, ?_⟩
  show wz (d + 3) mt_X7_nextSign.2.2.2.2.1 Q mt_X7_nextSign.2.2.2.2.1 [some (.inr (.inr (some tp))), some (.inl c)] [] G M _ _
  refine w_aln rfl ?_
  refine w_cv (st := []) rfl gtp rfl (Nat.le_of_ble_eq_true rfl) (fun kk h => h) (r_adv2 (d := d) hA hS hqn (fun M1 s1 => ?_))
  obtain ⟨k4, k5, k11, k6, k7, k8, k9⟩ := id s1.2.1
  refine w_aln rfl ?_
  refine w_iln rfl ?_
  refine w_cv (st := []) rfl gtp rfl (Nat.le_of_ble_eq_true rfl) (fun kk h => h) ⟨Nat.le_of_ble_eq_true rfl, ?_⟩
  show wz (d + 2) mt_X7_isSign.2.2.2.2.1 _ mt_X7_isSign.2.2.2.2.1 [some (.inr (.inr (some tp))), some (.inl c)] [] _ _ _ _
  refine w_aln rfl ?_
  refine w_gi gtp rfl (by decide) rfl (rfl) ?_
  refine w_ic ?_
  refine w_cmne (fun c1 => ?_) (fun c1 => ?_)
  · skip
    refine w_ic ?_
    refine w_iret (fun _ => Or.inl rfl) ?_
    refine w_ifne (fun c2 => ?_) (fun c2 => ?_)
    · exfalso; omega
    · skip
      refine w_aln rfl ?_
      refine w_ic ?_
      have h4 := h.2 (by omega)
      clear h
      refine w_cv (st := []) rfl gtp rfl (Nat.le_of_ble_eq_true rfl) (fun kk h => h) (r_X7_refuse (d := d + 2) hA s1 (by decide) (fun MF3 F3 => ?_))
      refine w_ifeq (fun c5 => ?_) (fun c5 => ?_)
      · skip
        refine w_ic ?_
        exact w_iret (fun _ => Or.inl rfl) (h4 _ F3)
      · exfalso; omega
  · skip
    refine w_aln rfl ?_
    refine w_gi gtp rfl (by decide) rfl (rfl) ?_
    refine w_iln rfl ?_
    refine w_cmne (fun c6 => ?_) (fun c6 => ?_)
    · skip
      refine w_ic ?_
      refine w_iret (fun _ => Or.inl rfl) ?_
      refine w_ifne (fun c7 => ?_) (fun c7 => ?_)
      · exfalso; omega
      · skip
        refine w_aln rfl ?_
        refine w_ic ?_
        have h9 := h.1 (by omega)
        clear h
        have h10 := h9.2 (by omega)
        clear h9
        refine w_cv (st := []) rfl gtp rfl (Nat.le_of_ble_eq_true rfl) (fun kk h => h) (r_X7_refuse (d := d + 2) hA s1 (by decide) (fun MF8 F8 => ?_))
        refine w_ifeq (fun c11 => ?_) (fun c11 => ?_)
        · skip
          refine w_ic ?_
          exact w_iret (fun _ => Or.inl rfl) (h10 _ F8)
        · exfalso; omega
    · skip
      refine w_ic ?_
      refine w_goto ?_
      refine w_iret (fun _ => Or.inr rfl) ?_
      refine w_ifne (fun c12 => ?_) (fun c12 => ?_)
      · skip
        refine w_ic ?_
        refine w_goto ?_
        have h13 := h.1 (by omega)
        clear h
        have h14 := h13.1 (by omega)
        clear h13
        exact w_iret (fun _ => Or.inr rfl) (h14 _ s1)
      · exfalso; omega
theorem r_X7_nameHere {G : mj_G} {M0 M : mj_M} {B : Nat → Int} {n lim tp bc pl na ta ba wa oa : Nat} {tr br : Nat → Nat} {T : Nat → Nat × Nat × Int × List Int × Nat} {PL WA OA : Nat → Int} {TO BI : Nat → Nat → Int} {nm : Nat → List Int} {Q : mj_P} {d q : Nat} (hA : rv_AT G M0 B n lim tp bc pl na ta ba wa oa tr br T) (hS : rv_S G M0 n lim tp pl na wa oa tr br (T q) PL WA OA TO BI nm M) (hqn : q ≤ n) (h : sp_nam T q (fun f a => ∀ M', rv_F tp pl na wa oa tr br M0 f a M' → Q (some (.inl 0)) G M') (Q (some (.inl 1)) G M)) : mj_R mj_tab (d + 2) 76 [.inr (.inr (some tp))] G M Q := by
  obtain ⟨⟨gtp, gbc, gpl, gna, gta, gba, gwa, goa, gtr, gbr, itr, ibr, r1, r2, r3, r4, r5, r6, r7, r8, rb, rw0, n1, n2, hIw⟩, hT⟩ := id hA
  obtain ⟨k4, k5, k11, k6, k7, k8, k9⟩ := id hS.2.1
  have hk : ((T q).1 = 1 ∧ rv_nam (T q).2.2.2.1 ∧ M.2.2 tp 9 = none) ∨ ((T q).1 = 1 ∧ ¬ rv_nam (T q).2.2.2.1 ∧ M.2.2 tp 9 ≠ none) ∨ (T q).1 ≠ 1 := by
    by_cases c : (T q).1 = 1
    · have hw := rv_nam5 (rv_x_wo hA hqn c)
      rcases (k8 c).2 with ⟨j, w, j1, j2, j3, j4⟩ | ⟨j1, j2⟩
      · exact Or.inr (Or.inl ⟨c, fun g => hw.mp g j j1 j2, by rw [j4]; exact fun e => by cases e⟩)
      · exact Or.inl ⟨c, hw.mpr j1, j2⟩
    · exact Or.inr (Or.inr c)
  refine ⟨Nat.le_of_ble_eq_true rfl, ?_⟩
  show wz (d + 1) mt_X7_nameHere.2.2.2.2.1 Q mt_X7_nameHere.2.2.2.2.1 [some (.inr (.inr (some tp)))] [] G M _ _
  have bad : ∀ cb sb, ¬ ((T q).1 = 1 ∧ rv_nam (T q).2.2.2.1) → wz (d + 1) mt_X7_nameHere.2.2.2.2.1 Q (mt_X7_nameHere.2.2.2.2.1.drop 7) [some (.inr (.inr (some tp)))] [] G M cb sb := by
    intro cb sb hc
    refine w_aln rfl ?_
    refine w_ic ?_
    refine w_cv (st := []) rfl gtp rfl (Nat.le_of_ble_eq_true rfl) (fun kk h => h) (r_X7_refuse (d := d) hA hS (by decide) (fun M' F => ?_))
    refine w_ifeq (fun c => ?_) (fun c => absurd rfl c)
    refine w_ic ?_
    refine w_iret (fun _ => Or.inl rfl) ?_
    by_cases c1 : (T q).1 = 1
    · exact (h.1 c1).2 (fun g => hc ⟨c1, g⟩) M' F
    · exact h.2 c1 M' F
  refine w_aln rfl ?_
  refine w_gi gtp rfl (by decide) rfl rfl ?_
  refine w_ic ?_
  refine w_cmne (fun c => bad _ _ (by rintro ⟨e, -⟩; omega)) (fun c => ?_)
  refine w_aln rfl ?_
  refine w_gro gtp rfl (by decide) rfl rfl ?_
  refine w_ifnull (fun c2 => ?_) (fun c2 => bad _ _ ?_)
  · refine w_ic ?_
    refine w_goto ?_
    refine w_iret (fun _ => Or.inr rfl) ?_
    rcases hk with ⟨a, b, -⟩ | ⟨a, b, e⟩ | a
    · exact (h.1 a).1 b
    · exact absurd c2 e
    · exfalso; omega
  · rintro ⟨a1, a2⟩
    rcases hk with ⟨a, b, e⟩ | ⟨a, b, e⟩ | a
    · exact c2 e
    · exact b a2
    · exact a a1
theorem r_find3 {G : mj_G} {M0 M : mj_M} {B : Nat → Int} {n lim tp bc pl na ta ba wa oa : Nat} {tr br : Nat → Nat} {T : Nat → Nat × Nat × Int × List Int × Nat} {PL WA OA : Nat → Int} {TO BI : Nat → Nat → Int} {nm : Nat → List Int} {Q : mj_P} {d q : Nat} {w : List Int} (hA : rv_AT G M0 B n lim tp bc pl na ta ba wa oa tr br T) (hS : rv_S G M0 n lim tp pl na wa oa tr br (T q) PL WA OA TO BI nm M) (hb : rv_pb PL) (hw : rv_wo w) (h : sp_find nm (PL 4) w (fun r => Q (some (.inl r)) G M)) : ∀ f i : Nat, PL 4 ≤ ((i + f : Nat) : Int) → (i : Int) ≤ PL 4 → (∀ j, j < i → nm j ≠ w) → ∀ cb sb, wz d mt_X3_find.2.2.2.2.1 Q (mt_X3_find.2.2.2.2.1.drop 2) [some (.inr (.inr (some pl))), some (.inr (.inl (rv_5 w))), none, some (.inl (i : Int))] [] G M cb sb := by
  obtain ⟨⟨gtp, gbc, gpl, gna, gta, gba, gwa, goa, gtr, gbr, itr, ibr, r1, r2, r3, r4, r5, r6, r7, r8, rb, rw0, n1, n2, hIw⟩, hT⟩ := id hA
  obtain ⟨b1, b2, b3, b4⟩ := hb
  have sh : ∀ (f i : Nat), PL 4 ≤ ((i + f : Nat) : Int) → (i : Int) ≤ PL 4 → (∀ j, j < i → nm j ≠ w) → (∀ cb sb, (i : Int) < PL 4 → nm i ≠ w → wz d mt_X3_find.2.2.2.2.1 Q (mt_X3_find.2.2.2.2.1.drop 2) [some (.inr (.inr (some pl))), some (.inr (.inl (rv_5 w))), none, some (.inl ((i : Int) + 1))] [] G M cb sb) → ∀ cb sb, wz d mt_X3_find.2.2.2.2.1 Q (mt_X3_find.2.2.2.2.1.drop 2) [some (.inr (.inr (some pl))), some (.inr (.inl (rv_5 w))), none, some (.inl (i : Int))] [] G M cb sb := by
    intro f i g1 g2 g3 go cb sb
    refine w_iln rfl ?_
    refine w_aln rfl ?_
    refine w_gi gpl rfl (by decide) rfl (congrFun hS.2.2.1 4) ?_
    refine w_cmge (fun c => ?_) (fun c => ?_)
    · refine w_ic ?_
      exact w_iret (fun q => by cases q) (h.2 (fun j hj => g3 j (by omega)))
    · refine w_aln rfl ?_
      refine w_gr gpl rfl (by decide) rfl (hS.rr r2 (by decide)) ?_
      refine w_iln rfl ?_
      refine w_lald gna rfl (by omega) (by show (i : Int) < ((8 : Nat) : Int); omega) (hS.2.2.2.2.2.2.2.1 i (by omega)).1 ?_
      refine w_lln rfl ?_
      refine w_lcmp ?_
      intro z hz ez
      have qz := rv_cmp ez
      refine w_ifne (fun c2 => ?_) (fun c2 => ?_)
      · refine w_ii rfl ⟨by omega, by omega⟩ ?_
        refine w_goto ?_
        exact go _ _ c (fun e => qz.2 c2 (by rw [e]))
      · refine w_iln rfl ?_
        exact w_iret (fun q => by cases q) (h.1 i c (rv_5i (hS.2.2.2.2.2.2.2.1 i (by omega)).2 hw (qz.1 c2)) g3)
  intro f
  induction f with
  | zero => intro i g1 g2 g3 cb sb; exact sh 0 i g1 g2 g3 (fun cb sb c _ => by exfalso; omega) cb sb
  | succ f ih =>
    intro i g1 g2 g3 cb sb
    exact sh (f + 1) i g1 g2 g3 (fun cb sb c c2 => ih (i + 1) (by omega) (by omega) (fun j hj => by
      rcases Nat.lt_or_ge j i with q | q
      · exact g3 j q
      · rw [show j = i by omega]; exact c2) cb sb) cb sb
theorem r_X3_find {G : mj_G} {M0 M : mj_M} {B : Nat → Int} {n lim tp bc pl na ta ba wa oa : Nat} {tr br : Nat → Nat} {T : Nat → Nat × Nat × Int × List Int × Nat} {PL WA OA : Nat → Int} {TO BI : Nat → Nat → Int} {nm : Nat → List Int} {Q : mj_P} {d q : Nat} {w : List Int} (hA : rv_AT G M0 B n lim tp bc pl na ta ba wa oa tr br T) (hS : rv_S G M0 n lim tp pl na wa oa tr br (T q) PL WA OA TO BI nm M) (hb : rv_pb PL) (hw : rv_wo w) (h : sp_find nm (PL 4) w (fun r => Q (some (.inl r)) G M)) : mj_R mj_tab (d + 1) 33 [.inr (.inr (some pl)), .inr (.inl (rv_5 w))] G M Q := by
  refine ⟨Nat.le_of_ble_eq_true rfl, ?_⟩
  show wz d mt_X3_find.2.2.2.2.1 Q mt_X3_find.2.2.2.2.1 [some (.inr (.inr (some pl))), some (.inr (.inl (rv_5 w))), none, none] [] G M _ _
  refine w_ic ?_
  refine w_isn ?_
  exact r_find3 hA hS hb hw h 8 0 (by have := hb.2.1; omega) hb.1 (fun j hj => absurd hj (Nat.not_lt_zero j)) _ _
end
