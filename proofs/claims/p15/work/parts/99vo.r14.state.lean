/-! ===== the class while it reads a PLAIN (laid by a program) ===== -/
def rv_up (f : Nat → Int) (j : Nat) (v : Int) : Nat → Int := fun k => if k = j then v else f k
def rv_up2 (f : Nat → Nat → Int) (t j : Nat) (v : Int) : Nat → Nat → Int := fun s => if s = t then rv_up (f s) j v else f s
def rv_upn (f : Nat → List Int) (t : Nat) (w : List Int) : Nat → List Int := fun s => if s = t then w else f s
theorem rv_up_s {f : Nat → Int} {j : Nat} {v : Int} : rv_up f j v j = v := if_pos rfl
theorem rv_up_n {f : Nat → Int} {j k : Nat} {v : Int} (h : k ≠ j) : rv_up f j v k = f k := if_neg h
/-- a bit of an int, and an int with a bit set -/
def rv_bt (z k : Int) : Int := (Int32.ofInt (Int32.ofInt z >>> (Int32.ofInt k &&& 31)).toInt &&& Int32.ofInt 1).toInt
def rv_bs (z k : Int) : Int := (Int32.ofInt z ||| Int32.ofInt (Int32.ofInt 1 <<< (Int32.ofInt k &&& 31)).toInt).toInt
theorem rv_bt_01 (z k : Int) : 0 ≤ rv_bt z k ∧ rv_bt z k ≤ 1 := sx_and_in _ 1 (by decide) (by decide)
theorem wz_c {M : mj_M} {a b j : Nat} {v : Int} (h : b ≠ a) : (mj_p0 M a j v).1 b = M.1 b := funext fun _ => hn_n (Or.inl h)
theorem wz_u {M : mj_M} {a j : Nat} {v : Int} : (mj_p0 M a j v).1 a = rv_up (M.1 a) j v := funext fun k => by
  show (if a = a ∧ k = j then v else M.1 a k) = if k = j then v else M.1 a k
  by_cases c : k = j
  · rw [if_pos ⟨rfl, c⟩, if_pos c]
  · rw [if_neg (fun q => c q.2), if_neg c]
theorem rv_tc.cg {G : mj_G} {t : Nat × Nat × Int × List Int × Nat} {tp : Nat} {M M' : mj_M} (h : rv_tc G t tp M) (e1 : M'.1 tp = M.1 tp) (e2 : M'.2.1 tp = M.2.1 tp) (e3 : M'.2.2 tp = M.2.2 tp) : rv_tc G t tp M' := by
  unfold rv_tc at *
  rw [e1, e2, e3]; exact h
/-- where things lie -/
def rv_A (G : mj_G) (M0 : mj_M) (B : Nat → Int) (n lim tp bc pl na ta ba wa oa : Nat) (tr br : Nat → Nat) : Prop :=
  G tp = (1008, 0) ∧ G bc = (38101, 940) ∧ G pl = (1004, 0) ∧ G na = (24103, 8) ∧ G ta = (25104, 8) ∧ G ba = (27104, 8) ∧ G wa = (29100, 12) ∧ G oa = (30100, 8) ∧ (∀ t, t < 8 → G (tr t) = (26100, 9)) ∧ (∀ t, t < 8 → G (br t) = (28100, 12)) ∧ (∀ t s, t < 8 → s < 8 → tr t = tr s → t = s) ∧ (∀ t s, t < 8 → s < 8 → br t = br s → t = s) ∧ M0.2.2 tp 0 = some bc ∧ M0.2.2 pl 0 = some na ∧ M0.2.2 pl 1 = some ta ∧ M0.2.2 pl 2 = some ba ∧ M0.2.2 pl 3 = some wa ∧ M0.2.2 pl 10 = some oa ∧ (∀ t, t < 8 → M0.2.2 ta t = some (tr t)) ∧ (∀ t, t < 8 → M0.2.2 ba t = some (br t)) ∧ (∀ k, rv_u8 (M0.1 bc k) = B k) ∧ rv_wl G M0 ∧ n ≤ 940 ∧ lim ≤ 940 ∧ (∀ a b, (G a).1 % 1000 = 50 → G a = G b → a = b)
/-- what else there is stays -/
def rv_fr (tp pl na wa oa : Nat) (tr br : Nat → Nat) (M0 M : mj_M) : Prop := (∀ a, a ≠ tp → a ≠ pl → a ≠ wa → a ≠ oa → (∀ t, t < 8 → a ≠ tr t) → (∀ t, t < 8 → a ≠ br t) → M.1 a = M0.1 a) ∧ (∀ a, a ≠ na → a ≠ tp → M.2.1 a = M0.2.1 a) ∧ (∀ a j, ¬ (a = tp ∧ j = 9) → M.2.2 a j = M0.2.2 a j)
def rv_S (G : mj_G) (M0 : mj_M) (n lim tp pl na wa oa : Nat) (tr br : Nat → Nat) (t : Nat × Nat × Int × List Int × Nat) (PL WA OA : Nat → Int) (TO BI : Nat → Nat → Int) (nm : Nat → List Int) (M : mj_M) : Prop :=
  (M.1 tp 1 = (n : Int) ∧ M.1 tp 10 = (lim : Int) ∧ M.1 tp 2 = 0) ∧ rv_tc G t tp M ∧ M.1 pl = PL ∧ M.1 wa = WA ∧ M.1 oa = OA ∧ (∀ s, s < 8 → M.1 (tr s) = TO s) ∧ (∀ s, s < 8 → M.1 (br s) = BI s) ∧ (∀ s, s < 8 → M.2.1 na s = rv_5 (nm s) ∧ rv_wo (nm s)) ∧ rv_fr tp pl na wa oa tr br M0 M
/-- a fault has been told -/
def rv_F (tp pl na wa oa : Nat) (tr br : Nat → Nat) (M0 : mj_M) (f : Int) (a : Nat) (M : mj_M) : Prop := M.1 tp 2 = f ∧ M.1 tp 3 = (a : Int) ∧ rv_fr tp pl na wa oa tr br M0 M ∧ f ≠ 0
section CS
variable {G : mj_G} {M0 M : mj_M} {B : Nat → Int} {n lim tp bc pl na ta ba wa oa : Nat} {tr br : Nat → Nat} {t : Nat × Nat × Int × List Int × Nat} {PL WA OA : Nat → Int} {TO BI : Nat → Nat → Int} {nm : Nat → List Int}
theorem rv_S.ppl {j : Nat} {v : Int} (hA : rv_A G M0 B n lim tp bc pl na ta ba wa oa tr br) (h : rv_S G M0 n lim tp pl na wa oa tr br t PL WA OA TO BI nm M) : rv_S G M0 n lim tp pl na wa oa tr br t (rv_up PL j v) WA OA TO BI nm (mj_p0 M pl j v) := by
  obtain ⟨gtp, gbc, gpl, gna, gta, gba, gwa, goa, gtr, gbr, itr, ibr, -⟩ := hA
  obtain ⟨⟨h1, h2, h3⟩, h4, h5, h6, h7, h8, h9, h10, f1, f2, f3⟩ := h
  exact ⟨⟨by rw [wz_c (hn_ne gtp gpl (by decide))]; exact h1, by rw [wz_c (hn_ne gtp gpl (by decide))]; exact h2, by rw [wz_c (hn_ne gtp gpl (by decide))]; exact h3⟩, h4.cg (wz_c (hn_ne gtp gpl (by decide))) rfl rfl, wz_u.trans (by rw [h5]), (wz_c (hn_ne gwa gpl (by decide))).trans h6, (wz_c (hn_ne goa gpl (by decide))).trans h7, fun s hs => (wz_c (hn_ne (gtr s hs) gpl (by decide))).trans (h8 s hs), fun s hs => (wz_c (hn_ne (gbr s hs) gpl (by decide))).trans (h9 s hs), h10, fun a a1 a2 a3 a4 a5 a6 => (wz_c a2).trans (f1 a a1 a2 a3 a4 a5 a6), f2, f3⟩
theorem rv_S.pwa {j : Nat} {v : Int} (hA : rv_A G M0 B n lim tp bc pl na ta ba wa oa tr br) (h : rv_S G M0 n lim tp pl na wa oa tr br t PL WA OA TO BI nm M) : rv_S G M0 n lim tp pl na wa oa tr br t PL (rv_up WA j v) OA TO BI nm (mj_p0 M wa j v) := by
  obtain ⟨gtp, gbc, gpl, gna, gta, gba, gwa, goa, gtr, gbr, itr, ibr, -⟩ := hA
  obtain ⟨⟨h1, h2, h3⟩, h4, h5, h6, h7, h8, h9, h10, f1, f2, f3⟩ := h
  exact ⟨⟨by rw [wz_c (hn_ne gtp gwa (by decide))]; exact h1, by rw [wz_c (hn_ne gtp gwa (by decide))]; exact h2, by rw [wz_c (hn_ne gtp gwa (by decide))]; exact h3⟩, h4.cg (wz_c (hn_ne gtp gwa (by decide))) rfl rfl, (wz_c (hn_ne gpl gwa (by decide))).trans h5, wz_u.trans (by rw [h6]), (wz_c (hn_ne goa gwa (by decide))).trans h7, fun s hs => (wz_c (hn_ne (gtr s hs) gwa (by decide))).trans (h8 s hs), fun s hs => (wz_c (hn_ne (gbr s hs) gwa (by decide))).trans (h9 s hs), h10, fun a a1 a2 a3 a4 a5 a6 => (wz_c a3).trans (f1 a a1 a2 a3 a4 a5 a6), f2, f3⟩
theorem rv_S.poa {j : Nat} {v : Int} (hA : rv_A G M0 B n lim tp bc pl na ta ba wa oa tr br) (h : rv_S G M0 n lim tp pl na wa oa tr br t PL WA OA TO BI nm M) : rv_S G M0 n lim tp pl na wa oa tr br t PL WA (rv_up OA j v) TO BI nm (mj_p0 M oa j v) := by
  obtain ⟨gtp, gbc, gpl, gna, gta, gba, gwa, goa, gtr, gbr, itr, ibr, -⟩ := hA
  obtain ⟨⟨h1, h2, h3⟩, h4, h5, h6, h7, h8, h9, h10, f1, f2, f3⟩ := h
  exact ⟨⟨by rw [wz_c (hn_ne gtp goa (by decide))]; exact h1, by rw [wz_c (hn_ne gtp goa (by decide))]; exact h2, by rw [wz_c (hn_ne gtp goa (by decide))]; exact h3⟩, h4.cg (wz_c (hn_ne gtp goa (by decide))) rfl rfl, (wz_c (hn_ne gpl goa (by decide))).trans h5, (wz_c (hn_ne gwa goa (by decide))).trans h6, wz_u.trans (by rw [h7]), fun s hs => (wz_c (hn_ne (gtr s hs) goa (by decide))).trans (h8 s hs), fun s hs => (wz_c (hn_ne (gbr s hs) goa (by decide))).trans (h9 s hs), h10, fun a a1 a2 a3 a4 a5 a6 => (wz_c a4).trans (f1 a a1 a2 a3 a4 a5 a6), f2, f3⟩
theorem rv_S.ptr {j q : Nat} {v : Int} (hA : rv_A G M0 B n lim tp bc pl na ta ba wa oa tr br) (h : rv_S G M0 n lim tp pl na wa oa tr br t PL WA OA TO BI nm M) (hq : q < 8) : rv_S G M0 n lim tp pl na wa oa tr br t PL WA OA (rv_up2 TO q j v) BI nm (mj_p0 M (tr q) j v) := by
  obtain ⟨gtp, gbc, gpl, gna, gta, gba, gwa, goa, gtr, gbr, itr, ibr, -⟩ := hA
  obtain ⟨⟨h1, h2, h3⟩, h4, h5, h6, h7, h8, h9, h10, f1, f2, f3⟩ := h
  exact ⟨⟨by rw [wz_c (hn_ne gtp (gtr q hq) (by decide))]; exact h1, by rw [wz_c (hn_ne gtp (gtr q hq) (by decide))]; exact h2, by rw [wz_c (hn_ne gtp (gtr q hq) (by decide))]; exact h3⟩, h4.cg (wz_c (hn_ne gtp (gtr q hq) (by decide))) rfl rfl, (wz_c (hn_ne gpl (gtr q hq) (by decide))).trans h5, (wz_c (hn_ne gwa (gtr q hq) (by decide))).trans h6, (wz_c (hn_ne goa (gtr q hq) (by decide))).trans h7, fun s hs => by
    by_cases c : s = q
    · rw [c, wz_u, h8 q hq]; exact (if_pos rfl).symm
    · rw [wz_c (fun e => c (itr s q hs hq e)), h8 s hs]; exact (if_neg c).symm, fun s hs => (wz_c (hn_ne (gbr s hs) (gtr q hq) (by decide))).trans (h9 s hs), h10, fun a a1 a2 a3 a4 a5 a6 => (wz_c (a5 q hq)).trans (f1 a a1 a2 a3 a4 a5 a6), f2, f3⟩
theorem rv_S.pbr {j q : Nat} {v : Int} (hA : rv_A G M0 B n lim tp bc pl na ta ba wa oa tr br) (h : rv_S G M0 n lim tp pl na wa oa tr br t PL WA OA TO BI nm M) (hq : q < 8) : rv_S G M0 n lim tp pl na wa oa tr br t PL WA OA TO (rv_up2 BI q j v) nm (mj_p0 M (br q) j v) := by
  obtain ⟨gtp, gbc, gpl, gna, gta, gba, gwa, goa, gtr, gbr, itr, ibr, -⟩ := hA
  obtain ⟨⟨h1, h2, h3⟩, h4, h5, h6, h7, h8, h9, h10, f1, f2, f3⟩ := h
  exact ⟨⟨by rw [wz_c (hn_ne gtp (gbr q hq) (by decide))]; exact h1, by rw [wz_c (hn_ne gtp (gbr q hq) (by decide))]; exact h2, by rw [wz_c (hn_ne gtp (gbr q hq) (by decide))]; exact h3⟩, h4.cg (wz_c (hn_ne gtp (gbr q hq) (by decide))) rfl rfl, (wz_c (hn_ne gpl (gbr q hq) (by decide))).trans h5, (wz_c (hn_ne gwa (gbr q hq) (by decide))).trans h6, (wz_c (hn_ne goa (gbr q hq) (by decide))).trans h7, fun s hs => (wz_c (hn_ne (gtr s hs) (gbr q hq) (by decide))).trans (h8 s hs), fun s hs => by
    by_cases c : s = q
    · rw [c, wz_u, h9 q hq]; exact (if_pos rfl).symm
    · rw [wz_c (fun e => c (ibr s q hs hq e)), h9 s hs]; exact (if_neg c).symm, h10, fun a a1 a2 a3 a4 a5 a6 => (wz_c (a6 q hq)).trans (f1 a a1 a2 a3 a4 a5 a6), f2, f3⟩
theorem rv_S.pna {q : Nat} {w : List Int} (hA : rv_A G M0 B n lim tp bc pl na ta ba wa oa tr br) (h : rv_S G M0 n lim tp pl na wa oa tr br t PL WA OA TO BI nm M) (hw : rv_wo w) : rv_S G M0 n lim tp pl na wa oa tr br t PL WA OA TO BI (rv_upn nm q w) (mj_p1 M na q (rv_5 w)) := by
  obtain ⟨gtp, gbc, gpl, gna, gta, gba, gwa, goa, gtr, gbr, itr, ibr, -⟩ := hA
  obtain ⟨h1, h4, h5, h6, h7, h8, h9, h10, f1, f2, f3⟩ := h
  refine ⟨h1, h4.cg rfl (funext fun k => wz_nl (Or.inl (hn_ne gtp gna (by decide)))) rfl, h5, h6, h7, h8, h9, fun s hs => ?_, f1, fun a a1 a2 => (funext fun k => wz_nl (Or.inl a1)).trans (f2 a a1 a2), f3⟩
  unfold rv_upn
  by_cases c : s = q
  · rw [if_pos c, c]; exact ⟨wz_sl, hw⟩
  · rw [if_neg c]; exact ⟨(wz_nl (Or.inr c)).trans (h10 s hs).1, (h10 s hs).2⟩
theorem rv_S.rr {a j b : Nat} (h : rv_S G M0 n lim tp pl na wa oa tr br t PL WA OA TO BI nm M) (e : M0.2.2 a j = some b) (hj : j ≠ 9) : M.2.2 a j = some b := (h.2.2.2.2.2.2.2.2.2.2 a j (fun q => hj q.2)).trans e
theorem rv_S.rq {a j b : Nat} {x y : Nat} {z : Nat} (h : rv_S G M0 n lim tp pl na wa oa tr br t PL WA OA TO BI nm M) (g1 : G a = (x, y)) (g2 : G tp = (z, 0)) (hx : x ≠ z) (e : M0.2.2 a j = some b) : M.2.2 a j = some b := (h.2.2.2.2.2.2.2.2.2.2 a j (fun q => hx (by rw [q.1, g2] at g1; exact (congrArg Prod.fst g1).symm))).trans e
theorem rv_S.ref {f z : Int} {a : Nat} (hA : rv_A G M0 B n lim tp bc pl na ta ba wa oa tr br) (h : rv_S G M0 n lim tp pl na wa oa tr br t PL WA OA TO BI nm M) (hz : z = (a : Int)) (hf : f ≠ 0) : rv_F tp pl na wa oa tr br M0 f a (mj_p0 (mj_p0 M tp 2 f) tp 3 z) := by
  obtain ⟨h1, h4, h5, h6, h7, h8, h9, h10, f1, f2, f3⟩ := h
  exact ⟨(hn_n (Or.inr (by decide))).trans hn_s, hn_s.trans hz, ⟨fun a a1 a2 a3 a4 a5 a6 => (wz_c a1).trans ((wz_c a1).trans (f1 a a1 a2 a3 a4 a5 a6)), f2, f3⟩, hf⟩
theorem r_adv {d q : Nat} {Q : mj_P} (hA : rv_A G M0 B n lim tp bc pl na ta ba wa oa tr br) (h : rv_S G M0 n lim tp pl na wa oa tr br t PL WA OA TO BI nm M) (hp : t.2.2.2.2 = q) (hq : q ≤ n) (hQ : ∀ M', rv_S G M0 n lim tp pl na wa oa tr br (rv_T B n lim q) PL WA OA TO BI nm M' → Q none G M') : mj_R mj_tab (d + 3) 69 [.inr (.inr (some tp))] G M Q := by
  have hA' := hA
  obtain ⟨gtp, gbc, gpl, gna, gta, gba, gwa, goa, gtr, gbr, itr, ibr, r1, r2, r3, r4, r5, r6, r7, r8, rb, rw, n1, n2, -⟩ := hA
  obtain ⟨⟨h1, h2, h3⟩, h4, h5, h6, h7, h8, h9, h10, f1, f2, f3⟩ := h
  have eb : M.1 bc = M0.1 bc := f1 bc (hn_ne gbc gtp (by decide)) (hn_ne gbc gpl (by decide)) (hn_ne gbc gwa (by decide)) (hn_ne gbc goa (by decide)) (fun t ht => hn_ne gbc (gtr t ht) (by decide)) (fun t ht => hn_ne gbc (gbr t ht) (by decide))
  have hw : rv_wl G M := fun a ha k hk => by
    obtain ⟨w, w1, w2⟩ := rw a ha k hk
    exact ⟨w, (f3 a k (fun e => by rw [e.1, gtp] at ha; cases ha)).trans w1, w2⟩
  refine r_X7_advance (d := d) (B := B) (n := n) (lim := lim) (p := q) gtp gbc n1 n2 hw hq ((f3 tp 0 (by rintro ⟨-, h⟩; revert h; decide)).trans r1) h1 h2 (by rw [← hp]; exact h4.2.2.1) (fun k => by rw [eb]; exact rb k) (fun M' hM => hQ M' ?_)
  have ho := hM.1
  have hl := hM.2.1
  have hr := hM.2.2.1
  have oc : ∀ a, a ≠ tp → M'.1 a = M.1 a := fun a ha => funext fun k => ho a k (fun e => ha e.1)
  refine ⟨⟨(ho tp 1 (by rintro ⟨-, h⟩; revert h; decide)).trans h1, (ho tp 10 (by rintro ⟨-, h⟩; revert h; decide)).trans h2, (ho tp 2 (by rintro ⟨-, h⟩; revert h; decide)).trans h3⟩, rv_adv_T hM, (oc pl (hn_ne gpl gtp (by decide))).trans h5, (oc wa (hn_ne gwa gtp (by decide))).trans h6, (oc oa (hn_ne goa gtp (by decide))).trans h7, fun s hs => (oc _ (hn_ne (gtr s hs) gtp (by decide))).trans (h8 s hs), fun s hs => (oc _ (hn_ne (gbr s hs) gtp (by decide))).trans (h9 s hs), fun s hs => ⟨(hl na s (fun e => hn_ne gna gtp (by decide) e.1)).trans (h10 s hs).1, (h10 s hs).2⟩, fun a a1 a2 a3 a4 a5 a6 => (oc a a1).trans (f1 a a1 a2 a3 a4 a5 a6), fun a a1 a2 => (funext fun k => hl a k (fun e => a2 e.1)).trans (f2 a a1 a2), fun a j g => (hr a j g).trans (f3 a j g)⟩
def rv_S0 (G : mj_G) (M0 : mj_M) (n lim tp pl na wa oa : Nat) (tr br : Nat → Nat) (q : Nat) (PL WA OA : Nat → Int) (TO BI : Nat → Nat → Int) (nm : Nat → List Int) (M : mj_M) : Prop :=
  (M.1 tp 1 = (n : Int) ∧ M.1 tp 10 = (lim : Int) ∧ M.1 tp 2 = 0) ∧ M.1 tp 11 = (q : Int) ∧ M.1 pl = PL ∧ M.1 wa = WA ∧ M.1 oa = OA ∧ (∀ s, s < 8 → M.1 (tr s) = TO s) ∧ (∀ s, s < 8 → M.1 (br s) = BI s) ∧ (∀ s, s < 8 → M.2.1 na s = rv_5 (nm s) ∧ rv_wo (nm s)) ∧ rv_fr tp pl na wa oa tr br M0 M
theorem r_adv0 {d q : Nat} {Q : mj_P} (hA : rv_A G M0 B n lim tp bc pl na ta ba wa oa tr br) (h : rv_S0 G M0 n lim tp pl na wa oa tr br q PL WA OA TO BI nm M) (hq : q ≤ n) (hQ : ∀ M', rv_S G M0 n lim tp pl na wa oa tr br (rv_T B n lim q) PL WA OA TO BI nm M' → Q none G M') : mj_R mj_tab (d + 3) 69 [.inr (.inr (some tp))] G M Q := by
  have hA' := hA
  obtain ⟨gtp, gbc, gpl, gna, gta, gba, gwa, goa, gtr, gbr, itr, ibr, r1, r2, r3, r4, r5, r6, r7, r8, rb, rw, n1, n2, -⟩ := hA
  obtain ⟨⟨h1, h2, h3⟩, h4, h5, h6, h7, h8, h9, h10, f1, f2, f3⟩ := h
  have eb : M.1 bc = M0.1 bc := f1 bc (hn_ne gbc gtp (by decide)) (hn_ne gbc gpl (by decide)) (hn_ne gbc gwa (by decide)) (hn_ne gbc goa (by decide)) (fun t ht => hn_ne gbc (gtr t ht) (by decide)) (fun t ht => hn_ne gbc (gbr t ht) (by decide))
  have hw : rv_wl G M := fun a ha k hk => by
    obtain ⟨w, w1, w2⟩ := rw a ha k hk
    exact ⟨w, (f3 a k (fun e => by rw [e.1, gtp] at ha; cases ha)).trans w1, w2⟩
  refine r_X7_advance (d := d) (B := B) (n := n) (lim := lim) (p := q) gtp gbc n1 n2 hw hq ((f3 tp 0 (by rintro ⟨-, h⟩; revert h; decide)).trans r1) h1 h2 h4 (fun k => by rw [eb]; exact rb k) (fun M' hM => hQ M' ?_)
  have ho := hM.1
  have hl := hM.2.1
  have hr := hM.2.2.1
  have oc : ∀ a, a ≠ tp → M'.1 a = M.1 a := fun a ha => funext fun k => ho a k (fun e => ha e.1)
  refine ⟨⟨(ho tp 1 (by rintro ⟨-, h⟩; revert h; decide)).trans h1, (ho tp 10 (by rintro ⟨-, h⟩; revert h; decide)).trans h2, (ho tp 2 (by rintro ⟨-, h⟩; revert h; decide)).trans h3⟩, rv_adv_T hM, (oc pl (hn_ne gpl gtp (by decide))).trans h5, (oc wa (hn_ne gwa gtp (by decide))).trans h6, (oc oa (hn_ne goa gtp (by decide))).trans h7, fun s hs => (oc _ (hn_ne (gtr s hs) gtp (by decide))).trans (h8 s hs), fun s hs => (oc _ (hn_ne (gbr s hs) gtp (by decide))).trans (h9 s hs), fun s hs => ⟨(hl na s (fun e => hn_ne gna gtp (by decide) e.1)).trans (h10 s hs).1, (h10 s hs).2⟩, fun a a1 a2 a3 a4 a5 a6 => (oc a a1).trans (f1 a a1 a2 a3 a4 a5 a6), fun a a1 a2 => (funext fun k => hl a k (fun e => a2 e.1)).trans (f2 a a1 a2), fun a j g => (hr a j g).trans (f3 a j g)⟩
end CS
