section
/-! ===== rows of a PLAIN: specs, the class's readers (laid by a program) ===== -/
def sp_town (T : Nat → Nat × Nat × Int × List Int × Nat) (PL WA OA : Nat → Int) (TO BI : Nat → Nat → Int) (nm : Nat → List Int) (q : Nat) (Kf : Int → Nat → Prop) (Ko : (Nat → Int) → (Nat → Int) → (Nat → Int) → (Nat → Nat → Int) → (Nat → Nat → Int) → (Nat → List Int) → Nat → Prop) : Prop := ((8 ≤ PL 4 → Kf 4 (T q).2.1) ∧ (¬ (8 ≤ PL 4) → sp_nam T (rv_x T q) Kf (sp_find nm (PL 4) (T (rv_x T q)).2.2.2.1 (fun r => ((r = -1 → sp_num T 0 99 (rv_x T (rv_x T q)) Kf (sp_num T 0 999 (rv_x T (rv_x T (rv_x T q))) Kf (sp_num T 0 99 (rv_x T (rv_x T (rv_x T (rv_x T q)))) Kf (sp_num T 0 999 (rv_x T (rv_x T (rv_x T (rv_x T (rv_x T q))))) Kf (Ko (rv_up PL 4 (PL 4 + 1)) WA OA (rv_up2 (rv_up2 (rv_up2 (rv_up2 TO (PL 4).toNat 0 (T (rv_x T (rv_x T q))).2.2.1) (PL 4).toNat 1 (T (rv_x T (rv_x T (rv_x T q)))).2.2.1) (PL 4).toNat 2 (T (rv_x T (rv_x T (rv_x T (rv_x T q))))).2.2.1) (PL 4).toNat 3 (T (rv_x T (rv_x T (rv_x T (rv_x T (rv_x T q)))))).2.2.1) BI (rv_upn nm (PL 4).toNat (T (rv_x T q)).2.2.2.1) (rv_x T (rv_x T (rv_x T (rv_x T (rv_x T q)))))))))) ∧ (¬ (r = -1) → Kf 3 (T (rv_x T q)).2.1))))))
def sp_water (T : Nat → Nat × Nat × Int × List Int × Nat) (PL WA OA : Nat → Int) (TO BI : Nat → Nat → Int) (nm : Nat → List Int) (q : Nat) (Kf : Int → Nat → Prop) (Ko : (Nat → Int) → (Nat → Int) → (Nat → Int) → (Nat → Nat → Int) → (Nat → Nat → Int) → (Nat → List Int) → Nat → Prop) : Prop := sp_num T 0 11 (rv_x T q) Kf ((((rv_bt (PL 11) ((T (rv_x T q)).2.2.1)) = 0 → sp_num T 0 999 (rv_x T (rv_x T q)) Kf (Ko (rv_up PL 11 (rv_bs (PL 11) (T (rv_x T q)).2.2.1)) (rv_up WA ((T (rv_x T q)).2.2.1).toNat (T (rv_x T (rv_x T q))).2.2.1) OA TO BI nm (rv_x T (rv_x T q)))) ∧ (¬ ((rv_bt (PL 11) ((T (rv_x T q)).2.2.1)) = 0) → Kf 3 (T (rv_x T q)).2.1)))
def sp_bid (T : Nat → Nat × Nat × Int × List Int × Nat) (PL WA OA : Nat → Int) (TO BI : Nat → Nat → Int) (nm : Nat → List Int) (q : Nat) (Kf : Int → Nat → Prop) (Ko : (Nat → Int) → (Nat → Int) → (Nat → Int) → (Nat → Nat → Int) → (Nat → Nat → Int) → (Nat → List Int) → Nat → Prop) : Prop := ((40 ≤ PL 5 → Kf 4 (T q).2.1) ∧ (¬ (40 ≤ PL 5) → sp_nam T (rv_x T q) Kf (sp_find nm (PL 4) (T (rv_x T q)).2.2.2.1 (fun r => ((r = -1 → Kf 3 (T (rv_x T q)).2.1) ∧ (¬ (r = -1) → sp_num T 0 11 (rv_x T (rv_x T q)) Kf ((((BI r.toNat ((T (rv_x T (rv_x T q))).2.2.1).toNat) = 0 → sp_num T 1 999 (rv_x T (rv_x T (rv_x T q))) Kf (Ko (rv_up PL 5 (PL 5 + 1)) WA OA TO (rv_up2 BI r.toNat ((T (rv_x T (rv_x T q))).2.2.1).toNat (T (rv_x T (rv_x T (rv_x T q)))).2.2.1) nm (rv_x T (rv_x T (rv_x T q))))) ∧ (¬ ((BI r.toNat ((T (rv_x T (rv_x T q))).2.2.1).toNat) = 0) → Kf 3 (T (rv_x T (rv_x T q))).2.1)))))))))
def sp_need (T : Nat → Nat × Nat × Int × List Int × Nat) (PL WA OA : Nat → Int) (TO BI : Nat → Nat → Int) (nm : Nat → List Int) (q : Nat) (Kf : Int → Nat → Prop) (Ko : (Nat → Int) → (Nat → Int) → (Nat → Int) → (Nat → Nat → Int) → (Nat → Nat → Int) → (Nat → List Int) → Nat → Prop) : Prop := sp_nam T (rv_x T q) Kf (sp_find nm (PL 4) (T (rv_x T q)).2.2.2.1 (fun r => ((r = -1 → Kf 3 (T (rv_x T q)).2.1) ∧ (¬ (r = -1) → (((rv_bt (OA r.toNat) 4) = 0 → sp_num T 0 999 (rv_x T (rv_x T q)) Kf (Ko PL WA (rv_up OA r.toNat (rv_bs (OA r.toNat) 4)) (rv_up2 TO r.toNat 4 (T (rv_x T (rv_x T q))).2.2.1) BI nm (rv_x T (rv_x T q)))) ∧ (¬ ((rv_bt (OA r.toNat) 4) = 0) → Kf 3 (T (rv_x T q)).2.1))))))
def sp_mill (T : Nat → Nat × Nat × Int × List Int × Nat) (PL WA OA : Nat → Int) (TO BI : Nat → Nat → Int) (nm : Nat → List Int) (q : Nat) (Kf : Int → Nat → Prop) (Ko : (Nat → Int) → (Nat → Int) → (Nat → Int) → (Nat → Nat → Int) → (Nat → Nat → Int) → (Nat → List Int) → Nat → Prop) : Prop := sp_nam T (rv_x T q) Kf (sp_find nm (PL 4) (T (rv_x T q)).2.2.2.1 (fun r => ((r = -1 → Kf 3 (T (rv_x T q)).2.1) ∧ (¬ (r = -1) → (((rv_bt (OA r.toNat) 5) = 0 → sp_num T 0 99 (rv_x T (rv_x T q)) Kf (Ko PL WA (rv_up OA r.toNat (rv_bs (OA r.toNat) 5)) (rv_up2 TO r.toNat 5 (T (rv_x T (rv_x T q))).2.2.1) BI nm (rv_x T (rv_x T q)))) ∧ (¬ ((rv_bt (OA r.toNat) 5) = 0) → Kf 3 (T (rv_x T q)).2.1))))))
def sp_bridge (T : Nat → Nat × Nat × Int × List Int × Nat) (PL WA OA : Nat → Int) (TO BI : Nat → Nat → Int) (nm : Nat → List Int) (q : Nat) (Kf : Int → Nat → Prop) (Ko : (Nat → Int) → (Nat → Int) → (Nat → Int) → (Nat → Nat → Int) → (Nat → Nat → Int) → (Nat → List Int) → Nat → Prop) : Prop := sp_nam T (rv_x T q) Kf (sp_find nm (PL 4) (T (rv_x T q)).2.2.2.1 (fun r => ((r = -1 → Kf 3 (T (rv_x T q)).2.1) ∧ (¬ (r = -1) → (((rv_bt (OA r.toNat) 6) = 0 → sp_num T 0 99 (rv_x T (rv_x T q)) Kf (Ko PL WA (rv_up OA r.toNat (rv_bs (OA r.toNat) 6)) (rv_up2 TO r.toNat 6 (T (rv_x T (rv_x T q))).2.2.1) BI nm (rv_x T (rv_x T q)))) ∧ (¬ ((rv_bt (OA r.toNat) 6) = 0) → Kf 3 (T (rv_x T q)).2.1))))))
def sp_field (T : Nat → Nat × Nat × Int × List Int × Nat) (PL WA OA : Nat → Int) (TO BI : Nat → Nat → Int) (nm : Nat → List Int) (q : Nat) (Kf : Int → Nat → Prop) (Ko : (Nat → Int) → (Nat → Int) → (Nat → Int) → (Nat → Nat → Int) → (Nat → Nat → Int) → (Nat → List Int) → Nat → Prop) : Prop := sp_nam T (rv_x T q) Kf (sp_find nm (PL 4) (T (rv_x T q)).2.2.2.1 (fun r => ((r = -1 → Kf 3 (T (rv_x T q)).2.1) ∧ (¬ (r = -1) → (((rv_bt (OA r.toNat) 7) = 0 → sp_num T 0 99 (rv_x T (rv_x T q)) Kf (sp_num T 0 99 (rv_x T (rv_x T (rv_x T q))) Kf (Ko PL WA (rv_up OA r.toNat (rv_bs (OA r.toNat) 7)) (rv_up2 (rv_up2 TO r.toNat 8 (T (rv_x T (rv_x T (rv_x T q)))).2.2.1) r.toNat 7 (T (rv_x T (rv_x T q))).2.2.1) BI nm (rv_x T (rv_x T (rv_x T q)))))) ∧ (¬ ((rv_bt (OA r.toNat) 7) = 0) → Kf 3 (T (rv_x T q)).2.1))))))
def sp_move (T : Nat → Nat × Nat × Int × List Int × Nat) (PL WA OA : Nat → Int) (TO BI : Nat → Nat → Int) (nm : Nat → List Int) (q : Nat) (Kf : Int → Nat → Prop) (Ko : (Nat → Int) → (Nat → Int) → (Nat → Int) → (Nat → Nat → Int) → (Nat → Nat → Int) → (Nat → List Int) → Nat → Prop) : Prop := ((PL 12 = 0 → sp_num T 0 99 (rv_x T q) Kf (Ko (rv_up (rv_up PL 12 1) 6 (T (rv_x T q)).2.2.1) WA OA TO BI nm (rv_x T q))) ∧ (¬ (PL 12 = 0) → Kf 3 (T q).2.1))
def sp_fish (T : Nat → Nat × Nat × Int × List Int × Nat) (PL WA OA : Nat → Int) (TO BI : Nat → Nat → Int) (nm : Nat → List Int) (q : Nat) (Kf : Int → Nat → Prop) (Ko : (Nat → Int) → (Nat → Int) → (Nat → Int) → (Nat → Nat → Int) → (Nat → Nat → Int) → (Nat → List Int) → Nat → Prop) : Prop := ((PL 13 = 0 → sp_num T 0 999 (rv_x T q) Kf (Ko (rv_up (rv_up PL 13 1) 7 (T (rv_x T q)).2.2.1) WA OA TO BI nm (rv_x T q))) ∧ (¬ (PL 13 = 0) → Kf 3 (T q).2.1))
def sp_patience (T : Nat → Nat × Nat × Int × List Int × Nat) (PL WA OA : Nat → Int) (TO BI : Nat → Nat → Int) (nm : Nat → List Int) (q : Nat) (Kf : Int → Nat → Prop) (Ko : (Nat → Int) → (Nat → Int) → (Nat → Int) → (Nat → Nat → Int) → (Nat → Nat → Int) → (Nat → List Int) → Nat → Prop) : Prop := ((PL 14 = 0 → sp_num T 1 12 (rv_x T q) Kf (Ko (rv_up (rv_up PL 14 1) 8 (T (rv_x T q)).2.2.1) WA OA TO BI nm (rv_x T q))) ∧ (¬ (PL 14 = 0) → Kf 3 (T q).2.1))
/-- a row, of which the first token is read -/
def sp_row (T : Nat → Nat × Nat × Int × List Int × Nat) (PL WA OA : Nat → Int) (TO BI : Nat → Nat → Int) (nm : Nat → List Int) (q : Nat) (Kf : Int → Nat → Prop) (Ko : (Nat → Int) → (Nat → Int) → (Nat → Int) → (Nat → Nat → Int) → (Nat → Nat → Int) → (Nat → List Int) → Nat → Prop) : Prop := (∀ j, j < 24 → (T q).1 = 1 → rv_rs.getD j [] = (T q).2.2.2.1 → ((j = 0 → sp_town T PL WA OA TO BI nm q Kf Ko) ∧ (j = 1 → sp_water T PL WA OA TO BI nm q Kf Ko) ∧ (j = 2 → sp_bid T PL WA OA TO BI nm q Kf Ko) ∧ (j = 3 → sp_need T PL WA OA TO BI nm q Kf Ko) ∧ (j = 4 → sp_mill T PL WA OA TO BI nm q Kf Ko) ∧ (j = 5 → sp_bridge T PL WA OA TO BI nm q Kf Ko) ∧ (j = 6 → sp_field T PL WA OA TO BI nm q Kf Ko) ∧ (j = 7 → sp_move T PL WA OA TO BI nm q Kf Ko) ∧ (j = 8 → sp_fish T PL WA OA TO BI nm q Kf Ko) ∧ (j = 9 → sp_patience T PL WA OA TO BI nm q Kf Ko) ∧ (10 ≤ j → Kf 1 (T q).2.1))) ∧ (¬ ((T q).1 = 1 ∧ ¬ rv_nam (T q).2.2.2.1) → Kf 1 (T q).2.1)
theorem rv_F.ppl {tp pl na wa oa : Nat} {tr br : Nat → Nat} {M0 M : mj_M} {f : Int} {a j : Nat} {v : Int} (hne : tp ≠ pl) (h : rv_F tp pl na wa oa tr br M0 f a M) : rv_F tp pl na wa oa tr br M0 f a (mj_p0 M pl j v) := ⟨(hn_n (Or.inl hne)).trans h.1, (hn_n (Or.inl hne)).trans h.2.1, ⟨fun a a1 a2 a3 a4 a5 a6 => (wz_c a2).trans (h.2.2.1.1 a a1 a2 a3 a4 a5 a6), h.2.2.1.2⟩, h.2.2.2⟩
theorem sp_town.mono {T : Nat → Nat × Nat × Int × List Int × Nat} {PL WA OA : Nat → Int} {TO BI : Nat → Nat → Int} {nm : Nat → List Int} {q : Nat} {Kf Kf' : Int → Nat → Prop} {Ko Ko' : (Nat → Int) → (Nat → Int) → (Nat → Int) → (Nat → Nat → Int) → (Nat → Nat → Int) → (Nat → List Int) → Nat → Prop} (h : sp_town T PL WA OA TO BI nm q Kf Ko) (hf : ∀ f a, Kf f a → Kf' f a) (ho : ∀ PL WA OA TO BI nm q', Ko PL WA OA TO BI nm q' → Ko' PL WA OA TO BI nm q') : sp_town T PL WA OA TO BI nm q Kf' Ko' := by
  unfold sp_town at *
  exact ⟨fun u1 => hf _ _ (h.1 u1), fun u1 => ((h.2 u1)).mono hf (fun _ _ u3 => (u3).mono (fun ru4 _ _ _ u4 => ⟨fun u5 => ((u4.1 u5)).mono hf (fun _ _ _ u6 => (u6).mono hf (fun _ _ _ u7 => (u7).mono hf (fun _ _ _ u8 => (u8).mono hf (fun _ _ _ u9 => ho _ _ _ _ _ _ _ u9)))), fun u5 => hf _ _ (u4.2 u5)⟩) (fun _ u4 => ⟨fun u12 => ((u4.1 u12)).mono hf (fun _ _ _ u13 => (u13).mono hf (fun _ _ _ u14 => (u14).mono hf (fun _ _ _ u15 => (u15).mono hf (fun _ _ _ u16 => ho _ _ _ _ _ _ _ u16)))), fun u12 => hf _ _ (u4.2 u12)⟩))⟩
theorem sp_water.mono {T : Nat → Nat × Nat × Int × List Int × Nat} {PL WA OA : Nat → Int} {TO BI : Nat → Nat → Int} {nm : Nat → List Int} {q : Nat} {Kf Kf' : Int → Nat → Prop} {Ko Ko' : (Nat → Int) → (Nat → Int) → (Nat → Int) → (Nat → Nat → Int) → (Nat → Nat → Int) → (Nat → List Int) → Nat → Prop} (h : sp_water T PL WA OA TO BI nm q Kf Ko) (hf : ∀ f a, Kf f a → Kf' f a) (ho : ∀ PL WA OA TO BI nm q', Ko PL WA OA TO BI nm q' → Ko' PL WA OA TO BI nm q') : sp_water T PL WA OA TO BI nm q Kf' Ko' := by
  unfold sp_water at *
  exact (h).mono hf (fun _ _ _ u19 => ⟨fun u20 => ((u19.1 u20)).mono hf (fun _ _ _ u21 => ho _ _ _ _ _ _ _ u21), fun u20 => hf _ _ (u19.2 u20)⟩)
theorem sp_bid.mono {T : Nat → Nat × Nat × Int × List Int × Nat} {PL WA OA : Nat → Int} {TO BI : Nat → Nat → Int} {nm : Nat → List Int} {q : Nat} {Kf Kf' : Int → Nat → Prop} {Ko Ko' : (Nat → Int) → (Nat → Int) → (Nat → Int) → (Nat → Nat → Int) → (Nat → Nat → Int) → (Nat → List Int) → Nat → Prop} (h : sp_bid T PL WA OA TO BI nm q Kf Ko) (hf : ∀ f a, Kf f a → Kf' f a) (ho : ∀ PL WA OA TO BI nm q', Ko PL WA OA TO BI nm q' → Ko' PL WA OA TO BI nm q') : sp_bid T PL WA OA TO BI nm q Kf' Ko' := by
  unfold sp_bid at *
  exact ⟨fun u24 => hf _ _ (h.1 u24), fun u24 => ((h.2 u24)).mono hf (fun _ _ u26 => (u26).mono (fun ru27 _ _ _ u27 => ⟨fun u28 => hf _ _ (u27.1 u28), fun u28 => ((u27.2 u28)).mono hf (fun _ _ _ u30 => ⟨fun u31 => ((u30.1 u31)).mono hf (fun _ _ _ u32 => ho _ _ _ _ _ _ _ u32), fun u31 => hf _ _ (u30.2 u31)⟩)⟩) (fun _ u27 => ⟨fun u35 => hf _ _ (u27.1 u35), fun u35 => ((u27.2 u35)).mono hf (fun _ _ _ u37 => ⟨fun u38 => ((u37.1 u38)).mono hf (fun _ _ _ u39 => ho _ _ _ _ _ _ _ u39), fun u38 => hf _ _ (u37.2 u38)⟩)⟩))⟩
theorem sp_need.mono {T : Nat → Nat × Nat × Int × List Int × Nat} {PL WA OA : Nat → Int} {TO BI : Nat → Nat → Int} {nm : Nat → List Int} {q : Nat} {Kf Kf' : Int → Nat → Prop} {Ko Ko' : (Nat → Int) → (Nat → Int) → (Nat → Int) → (Nat → Nat → Int) → (Nat → Nat → Int) → (Nat → List Int) → Nat → Prop} (h : sp_need T PL WA OA TO BI nm q Kf Ko) (hf : ∀ f a, Kf f a → Kf' f a) (ho : ∀ PL WA OA TO BI nm q', Ko PL WA OA TO BI nm q' → Ko' PL WA OA TO BI nm q') : sp_need T PL WA OA TO BI nm q Kf' Ko' := by
  unfold sp_need at *
  exact (h).mono hf (fun _ _ u42 => (u42).mono (fun ru43 _ _ _ u43 => ⟨fun u44 => hf _ _ (u43.1 u44), fun u44 => ⟨fun u46 => (((u43.2 u44).1 u46)).mono hf (fun _ _ _ u47 => ho _ _ _ _ _ _ _ u47), fun u46 => hf _ _ ((u43.2 u44).2 u46)⟩⟩) (fun _ u43 => ⟨fun u50 => hf _ _ (u43.1 u50), fun u50 => ⟨fun u52 => (((u43.2 u50).1 u52)).mono hf (fun _ _ _ u53 => ho _ _ _ _ _ _ _ u53), fun u52 => hf _ _ ((u43.2 u50).2 u52)⟩⟩))
theorem sp_mill.mono {T : Nat → Nat × Nat × Int × List Int × Nat} {PL WA OA : Nat → Int} {TO BI : Nat → Nat → Int} {nm : Nat → List Int} {q : Nat} {Kf Kf' : Int → Nat → Prop} {Ko Ko' : (Nat → Int) → (Nat → Int) → (Nat → Int) → (Nat → Nat → Int) → (Nat → Nat → Int) → (Nat → List Int) → Nat → Prop} (h : sp_mill T PL WA OA TO BI nm q Kf Ko) (hf : ∀ f a, Kf f a → Kf' f a) (ho : ∀ PL WA OA TO BI nm q', Ko PL WA OA TO BI nm q' → Ko' PL WA OA TO BI nm q') : sp_mill T PL WA OA TO BI nm q Kf' Ko' := by
  unfold sp_mill at *
  exact (h).mono hf (fun _ _ u56 => (u56).mono (fun ru57 _ _ _ u57 => ⟨fun u58 => hf _ _ (u57.1 u58), fun u58 => ⟨fun u60 => (((u57.2 u58).1 u60)).mono hf (fun _ _ _ u61 => ho _ _ _ _ _ _ _ u61), fun u60 => hf _ _ ((u57.2 u58).2 u60)⟩⟩) (fun _ u57 => ⟨fun u64 => hf _ _ (u57.1 u64), fun u64 => ⟨fun u66 => (((u57.2 u64).1 u66)).mono hf (fun _ _ _ u67 => ho _ _ _ _ _ _ _ u67), fun u66 => hf _ _ ((u57.2 u64).2 u66)⟩⟩))
theorem sp_bridge.mono {T : Nat → Nat × Nat × Int × List Int × Nat} {PL WA OA : Nat → Int} {TO BI : Nat → Nat → Int} {nm : Nat → List Int} {q : Nat} {Kf Kf' : Int → Nat → Prop} {Ko Ko' : (Nat → Int) → (Nat → Int) → (Nat → Int) → (Nat → Nat → Int) → (Nat → Nat → Int) → (Nat → List Int) → Nat → Prop} (h : sp_bridge T PL WA OA TO BI nm q Kf Ko) (hf : ∀ f a, Kf f a → Kf' f a) (ho : ∀ PL WA OA TO BI nm q', Ko PL WA OA TO BI nm q' → Ko' PL WA OA TO BI nm q') : sp_bridge T PL WA OA TO BI nm q Kf' Ko' := by
  unfold sp_bridge at *
  exact (h).mono hf (fun _ _ u70 => (u70).mono (fun ru71 _ _ _ u71 => ⟨fun u72 => hf _ _ (u71.1 u72), fun u72 => ⟨fun u74 => (((u71.2 u72).1 u74)).mono hf (fun _ _ _ u75 => ho _ _ _ _ _ _ _ u75), fun u74 => hf _ _ ((u71.2 u72).2 u74)⟩⟩) (fun _ u71 => ⟨fun u78 => hf _ _ (u71.1 u78), fun u78 => ⟨fun u80 => (((u71.2 u78).1 u80)).mono hf (fun _ _ _ u81 => ho _ _ _ _ _ _ _ u81), fun u80 => hf _ _ ((u71.2 u78).2 u80)⟩⟩))
theorem sp_field.mono {T : Nat → Nat × Nat × Int × List Int × Nat} {PL WA OA : Nat → Int} {TO BI : Nat → Nat → Int} {nm : Nat → List Int} {q : Nat} {Kf Kf' : Int → Nat → Prop} {Ko Ko' : (Nat → Int) → (Nat → Int) → (Nat → Int) → (Nat → Nat → Int) → (Nat → Nat → Int) → (Nat → List Int) → Nat → Prop} (h : sp_field T PL WA OA TO BI nm q Kf Ko) (hf : ∀ f a, Kf f a → Kf' f a) (ho : ∀ PL WA OA TO BI nm q', Ko PL WA OA TO BI nm q' → Ko' PL WA OA TO BI nm q') : sp_field T PL WA OA TO BI nm q Kf' Ko' := by
  unfold sp_field at *
  exact (h).mono hf (fun _ _ u84 => (u84).mono (fun ru85 _ _ _ u85 => ⟨fun u86 => hf _ _ (u85.1 u86), fun u86 => ⟨fun u88 => (((u85.2 u86).1 u88)).mono hf (fun _ _ _ u89 => (u89).mono hf (fun _ _ _ u90 => ho _ _ _ _ _ _ _ u90)), fun u88 => hf _ _ ((u85.2 u86).2 u88)⟩⟩) (fun _ u85 => ⟨fun u93 => hf _ _ (u85.1 u93), fun u93 => ⟨fun u95 => (((u85.2 u93).1 u95)).mono hf (fun _ _ _ u96 => (u96).mono hf (fun _ _ _ u97 => ho _ _ _ _ _ _ _ u97)), fun u95 => hf _ _ ((u85.2 u93).2 u95)⟩⟩))
theorem sp_move.mono {T : Nat → Nat × Nat × Int × List Int × Nat} {PL WA OA : Nat → Int} {TO BI : Nat → Nat → Int} {nm : Nat → List Int} {q : Nat} {Kf Kf' : Int → Nat → Prop} {Ko Ko' : (Nat → Int) → (Nat → Int) → (Nat → Int) → (Nat → Nat → Int) → (Nat → Nat → Int) → (Nat → List Int) → Nat → Prop} (h : sp_move T PL WA OA TO BI nm q Kf Ko) (hf : ∀ f a, Kf f a → Kf' f a) (ho : ∀ PL WA OA TO BI nm q', Ko PL WA OA TO BI nm q' → Ko' PL WA OA TO BI nm q') : sp_move T PL WA OA TO BI nm q Kf' Ko' := by
  unfold sp_move at *
  exact ⟨fun u100 => ((h.1 u100)).mono hf (fun _ _ _ u101 => ho _ _ _ _ _ _ _ u101), fun u100 => hf _ _ (h.2 u100)⟩
theorem sp_fish.mono {T : Nat → Nat × Nat × Int × List Int × Nat} {PL WA OA : Nat → Int} {TO BI : Nat → Nat → Int} {nm : Nat → List Int} {q : Nat} {Kf Kf' : Int → Nat → Prop} {Ko Ko' : (Nat → Int) → (Nat → Int) → (Nat → Int) → (Nat → Nat → Int) → (Nat → Nat → Int) → (Nat → List Int) → Nat → Prop} (h : sp_fish T PL WA OA TO BI nm q Kf Ko) (hf : ∀ f a, Kf f a → Kf' f a) (ho : ∀ PL WA OA TO BI nm q', Ko PL WA OA TO BI nm q' → Ko' PL WA OA TO BI nm q') : sp_fish T PL WA OA TO BI nm q Kf' Ko' := by
  unfold sp_fish at *
  exact ⟨fun u104 => ((h.1 u104)).mono hf (fun _ _ _ u105 => ho _ _ _ _ _ _ _ u105), fun u104 => hf _ _ (h.2 u104)⟩
theorem sp_patience.mono {T : Nat → Nat × Nat × Int × List Int × Nat} {PL WA OA : Nat → Int} {TO BI : Nat → Nat → Int} {nm : Nat → List Int} {q : Nat} {Kf Kf' : Int → Nat → Prop} {Ko Ko' : (Nat → Int) → (Nat → Int) → (Nat → Int) → (Nat → Nat → Int) → (Nat → Nat → Int) → (Nat → List Int) → Nat → Prop} (h : sp_patience T PL WA OA TO BI nm q Kf Ko) (hf : ∀ f a, Kf f a → Kf' f a) (ho : ∀ PL WA OA TO BI nm q', Ko PL WA OA TO BI nm q' → Ko' PL WA OA TO BI nm q') : sp_patience T PL WA OA TO BI nm q Kf' Ko' := by
  unfold sp_patience at *
  exact ⟨fun u108 => ((h.1 u108)).mono hf (fun _ _ _ u109 => ho _ _ _ _ _ _ _ u109), fun u108 => hf _ _ (h.2 u108)⟩
theorem sp_row.mono {T : Nat → Nat × Nat × Int × List Int × Nat} {PL WA OA : Nat → Int} {TO BI : Nat → Nat → Int} {nm : Nat → List Int} {q : Nat} {Kf Kf' : Int → Nat → Prop} {Ko Ko' : (Nat → Int) → (Nat → Int) → (Nat → Int) → (Nat → Nat → Int) → (Nat → Nat → Int) → (Nat → List Int) → Nat → Prop} (h : sp_row T PL WA OA TO BI nm q Kf Ko) (hf : ∀ f a, Kf f a → Kf' f a) (ho : ∀ PL WA OA TO BI nm q', Ko PL WA OA TO BI nm q' → Ko' PL WA OA TO BI nm q') : sp_row T PL WA OA TO BI nm q Kf' Ko' := by
  refine ⟨fun j a b c => ?_, fun a => hf _ _ (h.2 a)⟩
  obtain ⟨h0, h1, h2, h3, h4, h5, h6, h7, h8, h9, h10⟩ := h.1 j a b c
  exact ⟨fun e => (h0 e).mono hf ho, fun e => (h1 e).mono hf ho, fun e => (h2 e).mono hf ho, fun e => (h3 e).mono hf ho, fun e => (h4 e).mono hf ho, fun e => (h5 e).mono hf ho, fun e => (h6 e).mono hf ho, fun e => (h7 e).mono hf ho, fun e => (h8 e).mono hf ho, fun e => (h9 e).mono hf ho, fun e => hf _ _ (h10 e)⟩
set_option maxHeartbeats 8000000 in
theorem r_X3_readWater {G : mj_G} {M0 M : mj_M} {B : Nat → Int} {n lim tp bc pl na ta ba wa oa : Nat} {tr br : Nat → Nat} {T : Nat → Nat × Nat × Int × List Int × Nat} {PL WA OA : Nat → Int} {TO BI : Nat → Nat → Int} {nm : Nat → List Int} {Q : mj_P} {d q : Nat} (hA : rv_AT G M0 B n lim tp bc pl na ta ba wa oa tr br T) (hS : rv_S G M0 n lim tp pl na wa oa tr br (T q) PL WA OA TO BI nm M) (hqn : q ≤ n) (hb : rv_pb PL) (h : sp_water T PL WA OA TO BI nm q (fun f a => ∀ M', rv_F tp pl na wa oa tr br M0 f a M' → Q (some (.inl 0)) G M') (fun PL WA OA TO BI nm q' => q ≤ q' → q' ≤ n → rv_pb PL → ∀ M', rv_S G M0 n lim tp pl na wa oa tr br (T q') PL WA OA TO BI nm M' → Q (some (.inl 1)) G M')) : mj_R mj_tab (d + 5) 46 [.inr (.inr (some pl)), .inr (.inr (some tp))] G M Q := by
  obtain ⟨⟨gtp, gbc, gpl, gna, gta, gba, gwa, goa, gtr, gbr, itr, ibr, r1, r2, r3, r4, r5, r6, r7, r8, rb, rw0, n1, n2, hIw⟩, hT⟩ := id hA
  obtain ⟨b1, b2, b3, b4⟩ := id hb
  unfold sp_water at h
  refine ⟨Nat.le_of_ble_eq_true rfl, ?_⟩
  show wz (d + 4) mt_X3_readWater.2.2.2.2.1 Q mt_X3_readWater.2.2.2.2.1 [some (.inr (.inr (some pl))), some (.inr (.inr (some tp))), none, none] [] G M _ _
  refine w_aln rfl ?_
  refine w_ic ?_
  refine w_bp ?_
  refine w_cv (st := []) rfl gtp rfl (Nat.le_of_ble_eq_true rfl) (fun kk h => h) (r_X7_nextNumber (d := d) hA hS hqn (sp_num.mono h (fun fk1 ak1 hfk1 Mk1 Fk1 => ?_) (fun bk1 ck1 ek1 hvk1 Mk1 sk1 => ?_)))
  · skip
    refine w_isn ?_
    show wz _ _ _ _ [some (.inr (.inr (some pl))), some (.inr (.inr (some tp))), some (.inl (-1)), none] _ _ _ _ _
    refine w_iln rfl ?_
    refine w_ic ?_
    refine w_cmne (fun c2 => ?_) (fun c2 => ?_)
    · exfalso; omega
    · skip
      refine w_ic ?_
      exact w_iret (fun _ => Or.inl rfl) (hfk1 _ Fk1)
  · skip
    refine w_isn ?_
    show wz _ _ _ _ [some (.inr (.inr (some pl))), some (.inr (.inr (some tp))), some (.inl ((T (rv_x T q)).2.2.1)), none] _ _ _ _ _
    refine w_iln rfl ?_
    refine w_ic ?_
    refine w_cmne (fun c3 => ?_) (fun c3 => ?_)
    · skip
      refine w_aln rfl ?_
      refine w_gi gpl rfl (by decide) rfl ((congrFun sk1.2.2.1 11).trans (rfl)) ?_
      refine w_iln rfl ?_
      refine w_shr ?_
      intro z4 hz4 ez4
      refine w_ic ?_
      refine w_and ?_
      intro z5 hz5 ez5
      obtain rfl : z5 = rv_bt (PL 11) ((T (rv_x T q)).2.2.1) := by rw [ez5, ez4]; rfl
      have hz5 := rv_bt_01 (PL 11) ((T (rv_x T q)).2.2.1)
      refine w_ifeq (fun c6 => ?_) (fun c6 => ?_)
      · skip
        refine w_aln rfl ?_
        refine w_ic ?_
        refine w_sp ?_
        have h7 := hvk1.1 (by omega)
        clear hvk1
        refine w_cv (st := []) rfl gtp rfl (Nat.le_of_ble_eq_true rfl) (fun kk h => h) (r_X7_nextNumber (d := d) hA sk1 (rv_x_le hA hqn) (sp_num.mono h7 (fun fk8 ak8 hfk8 Mk8 Fk8 => ?_) (fun bk8 ck8 ek8 hvk8 Mk8 sk8 => ?_)))
        · skip
          refine w_isn ?_
          show wz _ _ _ _ [some (.inr (.inr (some pl))), some (.inr (.inr (some tp))), some (.inl ((T (rv_x T q)).2.2.1)), some (.inl (-1))] _ _ _ _ _
          refine w_iln rfl ?_
          refine w_ic ?_
          refine w_cmne (fun c9 => ?_) (fun c9 => ?_)
          · exfalso; omega
          · skip
            refine w_ic ?_
            exact w_iret (fun _ => Or.inl rfl) (hfk8 _ Fk8)
        · skip
          refine w_isn ?_
          show wz _ _ _ _ [some (.inr (.inr (some pl))), some (.inr (.inr (some tp))), some (.inl ((T (rv_x T q)).2.2.1)), some (.inl ((T (rv_x T (rv_x T q))).2.2.1))] _ _ _ _ _
          refine w_iln rfl ?_
          refine w_ic ?_
          refine w_cmne (fun c10 => ?_) (fun c10 => ?_)
          · skip
            refine w_aln rfl ?_
            refine w_dupr ?_
            refine w_gi gpl rfl (by decide) rfl ((congrFun sk8.2.2.1 11).trans (rfl)) ?_
            refine w_ic ?_
            refine w_iln rfl ?_
            refine w_shl ?_
            intro z11 hz11 ez11
            refine w_or ?_
            intro z12 hz12 ez12
            obtain rfl : z12 = rv_bs (PL 11) ((T (rv_x T q)).2.2.1) := by rw [ez12, ez11]; rfl
            refine w_pi gpl rfl (by decide) rfl (fun q => by cases q) ?_
            have s13 := sk8.ppl (j := 11) (v := (rv_bs (PL 11) ((T (rv_x T q)).2.2.1))) hA.1
            refine w_aln rfl ?_
            refine w_gr gpl rfl (by decide) rfl (s13.rr r5 (by decide)) ?_
            refine w_iln rfl ?_
            refine w_iln rfl ?_
            refine w_iast gwa rfl (by decide) (by show (0 : Int) ≤ (T (rv_x T q)).2.2.1; omega) (by show (T (rv_x T q)).2.2.1 < ((12 : Nat) : Int); omega) ?_
            have s14 := s13.pwa (j := ((T (rv_x T q)).2.2.1).toNat) (v := (T (rv_x T (rv_x T q))).2.2.1) hA.1
            refine w_ic ?_
            exact w_iret (fun _ => Or.inr rfl) (hvk8 (Nat.le_trans (Nat.le_trans (Nat.le_refl q) (rv_x_ge hA hqn)) (rv_x_ge hA (rv_x_le hA hqn))) (rv_x_le hA (rv_x_le hA hqn)) ⟨by rw [show (rv_up PL 11 (rv_bs (PL 11) ((T (rv_x T q)).2.2.1))) 4 = PL 4 from (rv_up_n (by decide))]; exact hb.1, by rw [show (rv_up PL 11 (rv_bs (PL 11) ((T (rv_x T q)).2.2.1))) 4 = PL 4 from (rv_up_n (by decide))]; exact hb.2.1, by rw [show (rv_up PL 11 (rv_bs (PL 11) ((T (rv_x T q)).2.2.1))) 5 = PL 5 from (rv_up_n (by decide))]; exact hb.2.2.1, by rw [show (rv_up PL 11 (rv_bs (PL 11) ((T (rv_x T q)).2.2.1))) 5 = PL 5 from (rv_up_n (by decide))]; exact hb.2.2.2⟩ _ s14)
          · exfalso; omega
      · skip
        refine w_aln rfl ?_
        refine w_ic ?_
        have h16 := hvk1.2 (by omega)
        clear hvk1
        refine w_cv (st := []) rfl gtp rfl (Nat.le_of_ble_eq_true rfl) (fun kk h => h) (r_X7_refuse (d := d + 3) hA sk1 (by decide) (fun MF15 F15 => ?_))
        exact w_iret (fun _ => Or.inl rfl) (h16 _ F15)
    · exfalso; omega
set_option maxHeartbeats 8000000 in
theorem r_X3_readBid {G : mj_G} {M0 M : mj_M} {B : Nat → Int} {n lim tp bc pl na ta ba wa oa : Nat} {tr br : Nat → Nat} {T : Nat → Nat × Nat × Int × List Int × Nat} {PL WA OA : Nat → Int} {TO BI : Nat → Nat → Int} {nm : Nat → List Int} {Q : mj_P} {d q : Nat} (hA : rv_AT G M0 B n lim tp bc pl na ta ba wa oa tr br T) (hS : rv_S G M0 n lim tp pl na wa oa tr br (T q) PL WA OA TO BI nm M) (hqn : q ≤ n) (hb : rv_pb PL) (h : sp_bid T PL WA OA TO BI nm q (fun f a => ∀ M', rv_F tp pl na wa oa tr br M0 f a M' → Q (some (.inl 0)) G M') (fun PL WA OA TO BI nm q' => q ≤ q' → q' ≤ n → rv_pb PL → ∀ M', rv_S G M0 n lim tp pl na wa oa tr br (T q') PL WA OA TO BI nm M' → Q (some (.inl 1)) G M')) : mj_R mj_tab (d + 5) 39 [.inr (.inr (some pl)), .inr (.inr (some tp))] G M Q := by
  obtain ⟨⟨gtp, gbc, gpl, gna, gta, gba, gwa, goa, gtr, gbr, itr, ibr, r1, r2, r3, r4, r5, r6, r7, r8, rb, rw0, n1, n2, hIw⟩, hT⟩ := id hA
  obtain ⟨b1, b2, b3, b4⟩ := id hb
  unfold sp_bid at h
  refine ⟨Nat.le_of_ble_eq_true rfl, ?_⟩
  show wz (d + 4) mt_X3_readBid.2.2.2.2.1 Q mt_X3_readBid.2.2.2.2.1 [some (.inr (.inr (some pl))), some (.inr (.inr (some tp))), none, none, none] [] G M _ _
  refine w_aln rfl ?_
  refine w_gi gpl rfl (by decide) rfl ((congrFun hS.2.2.1 5).trans (rfl)) ?_
  refine w_bp ?_
  refine w_cmlt (fun c1 => ?_) (fun c1 => ?_)
  · skip
    refine w_aln rfl ?_
    refine w_aln rfl ?_
    refine w_cv (st := []) rfl gpl rfl (Nat.le_of_ble_eq_true rfl) (fun kk h => h) ⟨Nat.le_of_ble_eq_true rfl, ?_⟩
    show wz (d + 3) mt_X3_nextTown.2.2.2.2.1 _ mt_X3_nextTown.2.2.2.2.1 [some (.inr (.inr (some pl))), some (.inr (.inr (some tp)))] [] _ _ _ _
    refine w_aln rfl ?_
    refine w_cv (st := []) rfl gtp rfl (Nat.le_of_ble_eq_true rfl) (fun kk h => h) (r_adv2 (d := d) hA hS hqn (fun Ms2 s2 => ?_))
    refine w_aln rfl ?_
    refine w_aln rfl ?_
    refine w_cv (st := []) rfl gpl rfl (Nat.le_of_ble_eq_true rfl) (fun kk h => h) ⟨Nat.le_of_ble_eq_true rfl, ?_⟩
    show wz (d + 2) mt_X3_townHere.2.2.2.2.1 _ mt_X3_townHere.2.2.2.2.1 [some (.inr (.inr (some pl))), some (.inr (.inr (some tp))), none] [] _ _ _ _
    refine w_aln rfl ?_
    have h3 := h.2 (by omega)
    clear h
    refine w_cv (st := []) rfl gtp rfl (Nat.le_of_ble_eq_true rfl) (fun kk h => h) (r_X7_nameHere (d := d) hA s2 (rv_x_le hA hqn) (sp_nam.mono h3 (fun fk4 ak4 hfk4 Mk4 Fk4 => ?_) (fun bk4 ck4 hvk4 => ?_)))
    · skip
      refine w_ifne (fun c5 => ?_) (fun c5 => ?_)
      · exfalso; omega
      · skip
        refine w_ic ?_
        refine w_iret (fun q => by cases q) ?_
        refine w_iret (fun q => by cases q) ?_
        refine w_isn ?_
        show wz _ _ _ _ [some (.inr (.inr (some pl))), some (.inr (.inr (some tp))), some (.inl (-1)), none, none] _ _ _ _ _
        refine w_iln rfl ?_
        refine w_ic ?_
        refine w_cmne (fun c6 => ?_) (fun c6 => ?_)
        · exfalso; omega
        · skip
          refine w_ic ?_
          exact w_iret (fun _ => Or.inl rfl) (hfk4 _ Fk4)
    · skip
      refine w_ifne (fun c7 => ?_) (fun c7 => ?_)
      · skip
        refine w_aln rfl ?_
        refine w_aln rfl ?_
        refine w_gl gtp rfl (by decide) rfl ((s2.2.1.2.2.2.2.2.1 (by omega)).1) ?_
        refine w_cv (st := []) rfl gpl rfl (Nat.le_of_ble_eq_true rfl) (fun kk h => h) (r_X3_find (d := d + 1) hA s2 hb (rv_x_wo hA (rv_x_le hA hqn) (by omega)) (sp_find.mono hvk4 (fun rk8 lk8 ck8 mk8 hvk8 => ?_) (fun mk8 hvk8 => ?_)))
        · skip
          refine w_isn ?_
          show wz _ _ _ _ [some (.inr (.inr (some pl))), some (.inr (.inr (some tp))), some (.inl ((rk8 : Nat) : Int))] _ _ _ _ _
          refine w_iln rfl ?_
          refine w_ic ?_
          refine w_cmne (fun c9 => ?_) (fun c9 => ?_)
          · skip
            refine w_iln rfl ?_
            refine w_iret (fun q => by cases q) ?_
            refine w_iret (fun q => by cases q) ?_
            refine w_isn ?_
            show wz _ _ _ _ [some (.inr (.inr (some pl))), some (.inr (.inr (some tp))), some (.inl ((rk8 : Nat) : Int)), none, none] _ _ _ _ _
            refine w_iln rfl ?_
            refine w_ic ?_
            refine w_cmne (fun c10 => ?_) (fun c10 => ?_)
            · skip
              refine w_aln rfl ?_
              refine w_ic ?_
              refine w_bp ?_
              have h11 := hvk8.2 (by omega)
              clear hvk8
              refine w_cv (st := []) rfl gtp rfl (Nat.le_of_ble_eq_true rfl) (fun kk h => h) (r_X7_nextNumber (d := d) hA s2 (rv_x_le hA hqn) (sp_num.mono h11 (fun fk12 ak12 hfk12 Mk12 Fk12 => ?_) (fun bk12 ck12 ek12 hvk12 Mk12 sk12 => ?_)))
              · skip
                refine w_isn ?_
                show wz _ _ _ _ [some (.inr (.inr (some pl))), some (.inr (.inr (some tp))), some (.inl ((rk8 : Nat) : Int)), some (.inl (-1)), none] _ _ _ _ _
                refine w_iln rfl ?_
                refine w_ic ?_
                refine w_cmne (fun c13 => ?_) (fun c13 => ?_)
                · exfalso; omega
                · skip
                  refine w_ic ?_
                  exact w_iret (fun _ => Or.inl rfl) (hfk12 _ Fk12)
              · skip
                refine w_isn ?_
                show wz _ _ _ _ [some (.inr (.inr (some pl))), some (.inr (.inr (some tp))), some (.inl ((rk8 : Nat) : Int)), some (.inl ((T (rv_x T (rv_x T q))).2.2.1)), none] _ _ _ _ _
                refine w_iln rfl ?_
                refine w_ic ?_
                refine w_cmne (fun c14 => ?_) (fun c14 => ?_)
                · skip
                  refine w_aln rfl ?_
                  refine w_gr gpl rfl (by decide) rfl (sk12.rr r4 (by decide)) ?_
                  refine w_iln rfl ?_
                  refine w_aald gba rfl (by show (0 : Int) ≤ ((rk8 : Nat) : Int); omega) (by show ((rk8 : Nat) : Int) < ((8 : Nat) : Int); omega) (sk12.rq gba gtp (by decide) (r8 _ (by omega))) ?_
                  refine w_iln rfl ?_
                  refine w_iald (gbr (((rk8 : Nat) : Int).toNat) (by omega)) rfl (by show (0 : Int) ≤ (T (rv_x T (rv_x T q))).2.2.1; omega) (by show (T (rv_x T (rv_x T q))).2.2.1 < ((12 : Nat) : Int); omega) (congrFun (sk12.2.2.2.2.2.2.1 _ (by omega)) _) ?_
                  refine w_ifeq (fun c15 => ?_) (fun c15 => ?_)
                  · skip
                    refine w_aln rfl ?_
                    refine w_ic ?_
                    refine w_sp ?_
                    have h16 := hvk12.1 (by omega)
                    clear hvk12
                    refine w_cv (st := []) rfl gtp rfl (Nat.le_of_ble_eq_true rfl) (fun kk h => h) (r_X7_nextNumber (d := d) hA sk12 (rv_x_le hA (rv_x_le hA hqn)) (sp_num.mono h16 (fun fk17 ak17 hfk17 Mk17 Fk17 => ?_) (fun bk17 ck17 ek17 hvk17 Mk17 sk17 => ?_)))
                    · skip
                      refine w_is ?_
                      show wz _ _ _ _ [some (.inr (.inr (some pl))), some (.inr (.inr (some tp))), some (.inl ((rk8 : Nat) : Int)), some (.inl ((T (rv_x T (rv_x T q))).2.2.1)), some (.inl (-1))] _ _ _ _ _
                      refine w_il rfl ?_
                      refine w_ic ?_
                      refine w_cmne (fun c18 => ?_) (fun c18 => ?_)
                      · exfalso; omega
                      · skip
                        refine w_ic ?_
                        exact w_iret (fun _ => Or.inl rfl) (hfk17 _ Fk17)
                    · skip
                      refine w_is ?_
                      show wz _ _ _ _ [some (.inr (.inr (some pl))), some (.inr (.inr (some tp))), some (.inl ((rk8 : Nat) : Int)), some (.inl ((T (rv_x T (rv_x T q))).2.2.1)), some (.inl ((T (rv_x T (rv_x T (rv_x T q)))).2.2.1))] _ _ _ _ _
                      refine w_il rfl ?_
                      refine w_ic ?_
                      refine w_cmne (fun c19 => ?_) (fun c19 => ?_)
                      · skip
                        refine w_aln rfl ?_
                        refine w_iln rfl ?_
                        refine w_iln rfl ?_
                        refine w_il rfl ?_
                        refine w_cv (st := []) rfl gpl rfl (Nat.le_of_ble_eq_true rfl) (fun kk h => h) ⟨Nat.le_of_ble_eq_true rfl, ?_⟩
                        show wz (d + 3) mt_X3_setBid.2.2.2.2.1 _ mt_X3_setBid.2.2.2.2.1 [some (.inr (.inr (some pl))), some (.inl ((rk8 : Nat) : Int)), some (.inl ((T (rv_x T (rv_x T q))).2.2.1)), some (.inl ((T (rv_x T (rv_x T (rv_x T q)))).2.2.1))] [] _ _ _ _
                        refine w_aln rfl ?_
                        refine w_gr gpl rfl (by decide) rfl (sk17.rr r4 (by decide)) ?_
                        refine w_iln rfl ?_
                        refine w_aald gba rfl (by show (0 : Int) ≤ ((rk8 : Nat) : Int); omega) (by show ((rk8 : Nat) : Int) < ((8 : Nat) : Int); omega) (sk17.rq gba gtp (by decide) (r8 _ (by omega))) ?_
                        refine w_iln rfl ?_
                        refine w_iald (gbr (((rk8 : Nat) : Int).toNat) (by omega)) rfl (by show (0 : Int) ≤ (T (rv_x T (rv_x T q))).2.2.1; omega) (by show (T (rv_x T (rv_x T q))).2.2.1 < ((12 : Nat) : Int); omega) (congrFun (sk17.2.2.2.2.2.2.1 _ (by omega)) _) ?_
                        refine w_ifle (fun c20 => ?_) (fun c20 => ?_)
                        · skip
                          refine w_iln rfl ?_
                          refine w_ifle (fun c21 => ?_) (fun c21 => ?_)
                          · exfalso; omega
                          · skip
                            refine w_aln rfl ?_
                            refine w_dupr ?_
                            refine w_gi gpl rfl (by decide) rfl ((congrFun sk17.2.2.1 5).trans (rfl)) ?_
                            refine w_ic ?_
                            refine w_add ⟨by show (-2147483648 : Int) ≤ (PL 5) + 1; omega, by show (PL 5) + 1 < (2147483648 : Int); omega⟩ ?_
                            refine w_pi gpl rfl (by decide) rfl (fun q => by cases q) ?_
                            have s22 := sk17.ppl (j := 5) (v := (PL 5) + 1) hA.1
                            refine w_aln rfl ?_
                            refine w_gr gpl rfl (by decide) rfl (s22.rr r4 (by decide)) ?_
                            refine w_iln rfl ?_
                            refine w_aald gba rfl (by show (0 : Int) ≤ ((rk8 : Nat) : Int); omega) (by show ((rk8 : Nat) : Int) < ((8 : Nat) : Int); omega) (s22.rq gba gtp (by decide) (r8 _ (by omega))) ?_
                            refine w_iln rfl ?_
                            refine w_iln rfl ?_
                            refine w_iast (gbr (((rk8 : Nat) : Int).toNat) (by omega)) rfl (by decide) (by show (0 : Int) ≤ (T (rv_x T (rv_x T q))).2.2.1; omega) (by show (T (rv_x T (rv_x T q))).2.2.1 < ((12 : Nat) : Int); omega) ?_
                            have s23 := s22.pbr (j := ((T (rv_x T (rv_x T q))).2.2.1).toNat) (q := (((rk8 : Nat) : Int).toNat)) (v := (T (rv_x T (rv_x T (rv_x T q)))).2.2.1) hA.1 (by omega)
                            refine w_ret ?_
                            refine w_ic ?_
                            exact w_iret (fun _ => Or.inr rfl) (hvk17 (Nat.le_trans (Nat.le_trans (Nat.le_trans (Nat.le_refl q) (rv_x_ge hA hqn)) (rv_x_ge hA (rv_x_le hA hqn))) (rv_x_ge hA (rv_x_le hA (rv_x_le hA hqn)))) (rv_x_le hA (rv_x_le hA (rv_x_le hA hqn))) ⟨by rw [show (rv_up PL 5 ((PL 5) + 1)) 4 = PL 4 from (rv_up_n (by decide))]; omega, by rw [show (rv_up PL 5 ((PL 5) + 1)) 4 = PL 4 from (rv_up_n (by decide))]; omega, by rw [show (rv_up PL 5 ((PL 5) + 1)) 5 = (PL 5) + 1 from rv_up_s]; omega, by rw [show (rv_up PL 5 ((PL 5) + 1)) 5 = (PL 5) + 1 from rv_up_s]; omega⟩ _ s23)
                        · exfalso; omega
                      · exfalso; omega
                  · skip
                    refine w_aln rfl ?_
                    refine w_ic ?_
                    have h25 := hvk12.2 (by omega)
                    clear hvk12
                    refine w_cv (st := []) rfl gtp rfl (Nat.le_of_ble_eq_true rfl) (fun kk h => h) (r_X7_refuse (d := d + 3) hA sk12 (by decide) (fun MF24 F24 => ?_))
                    exact w_iret (fun _ => Or.inl rfl) (h25 _ F24)
                · exfalso; omega
            · exfalso; omega
          · exfalso; omega
        · skip
          refine w_isn ?_
          show wz _ _ _ _ [some (.inr (.inr (some pl))), some (.inr (.inr (some tp))), some (.inl (-1))] _ _ _ _ _
          refine w_iln rfl ?_
          refine w_ic ?_
          refine w_cmne (fun c26 => ?_) (fun c26 => ?_)
          · exfalso; omega
          · skip
            refine w_aln rfl ?_
            refine w_ic ?_
            have h28 := hvk8.1 (by omega)
            clear hvk8
            refine w_cv (st := []) rfl gtp rfl (Nat.le_of_ble_eq_true rfl) (fun kk h => h) (r_X7_refuse (d := d + 1) hA s2 (by decide) (fun MF27 F27 => ?_))
            refine w_pop ?_
            refine w_iln rfl ?_
            refine w_iret (fun q => by cases q) ?_
            refine w_iret (fun q => by cases q) ?_
            refine w_isn ?_
            show wz _ _ _ _ [some (.inr (.inr (some pl))), some (.inr (.inr (some tp))), some (.inl (-1)), none, none] _ _ _ _ _
            refine w_iln rfl ?_
            refine w_ic ?_
            refine w_cmne (fun c29 => ?_) (fun c29 => ?_)
            · exfalso; omega
            · skip
              refine w_ic ?_
              exact w_iret (fun _ => Or.inl rfl) (h28 _ F27)
      · exfalso; omega
  · skip
    refine w_aln rfl ?_
    refine w_ic ?_
    have h31 := h.1 (by omega)
    clear h
    refine w_cv (st := []) rfl gtp rfl (Nat.le_of_ble_eq_true rfl) (fun kk h => h) (r_X7_refuse (d := d + 3) hA hS (by decide) (fun MF30 F30 => ?_))
    exact w_iret (fun _ => Or.inl rfl) (h31 _ F30)
set_option maxHeartbeats 8000000 in
theorem r_X3_readAboutTown_need {G : mj_G} {M0 M : mj_M} {B : Nat → Int} {n lim tp bc pl na ta ba wa oa : Nat} {tr br : Nat → Nat} {T : Nat → Nat × Nat × Int × List Int × Nat} {PL WA OA : Nat → Int} {TO BI : Nat → Nat → Int} {nm : Nat → List Int} {Q : mj_P} {d q : Nat} {w : Nat} (gw : G w = (903050, 0)) (hA : rv_AT G M0 B n lim tp bc pl na ta ba wa oa tr br T) (hS : rv_S G M0 n lim tp pl na wa oa tr br (T q) PL WA OA TO BI nm M) (hqn : q ≤ n) (hb : rv_pb PL) (h : sp_need T PL WA OA TO BI nm q (fun f a => ∀ M', rv_F tp pl na wa oa tr br M0 f a M' → Q (some (.inl 0)) G M') (fun PL WA OA TO BI nm q' => q ≤ q' → q' ≤ n → rv_pb PL → ∀ M', rv_S G M0 n lim tp pl na wa oa tr br (T q') PL WA OA TO BI nm M' → Q (some (.inl 1)) G M')) : mj_R mj_tab (d + 5) 38 [.inr (.inr (some pl)), .inr (.inr (some tp)), .inr (.inr (some w))] G M Q := by
  obtain ⟨⟨gtp, gbc, gpl, gna, gta, gba, gwa, goa, gtr, gbr, itr, ibr, r1, r2, r3, r4, r5, r6, r7, r8, rb, rw0, n1, n2, hIw⟩, hT⟩ := id hA
  obtain ⟨b1, b2, b3, b4⟩ := id hb
  unfold sp_need at h
  refine ⟨Nat.le_of_ble_eq_true rfl, ?_⟩
  show wz (d + 4) mt_X3_readAboutTown.2.2.2.2.1 Q mt_X3_readAboutTown.2.2.2.2.1 [some (.inr (.inr (some pl))), some (.inr (.inr (some tp))), some (.inr (.inr (some w))), none, none, none] [] G M _ _
  refine w_aln rfl ?_
  refine w_aln rfl ?_
  refine w_cv (st := []) rfl gpl rfl (Nat.le_of_ble_eq_true rfl) (fun kk h => h) ⟨Nat.le_of_ble_eq_true rfl, ?_⟩
  show wz (d + 3) mt_X3_nextTown.2.2.2.2.1 _ mt_X3_nextTown.2.2.2.2.1 [some (.inr (.inr (some pl))), some (.inr (.inr (some tp)))] [] _ _ _ _
  refine w_aln rfl ?_
  refine w_cv (st := []) rfl gtp rfl (Nat.le_of_ble_eq_true rfl) (fun kk h => h) (r_adv2 (d := d) hA hS hqn (fun Ms1 s1 => ?_))
  refine w_aln rfl ?_
  refine w_aln rfl ?_
  refine w_cv (st := []) rfl gpl rfl (Nat.le_of_ble_eq_true rfl) (fun kk h => h) ⟨Nat.le_of_ble_eq_true rfl, ?_⟩
  show wz (d + 2) mt_X3_townHere.2.2.2.2.1 _ mt_X3_townHere.2.2.2.2.1 [some (.inr (.inr (some pl))), some (.inr (.inr (some tp))), none] [] _ _ _ _
  refine w_aln rfl ?_
  refine w_cv (st := []) rfl gtp rfl (Nat.le_of_ble_eq_true rfl) (fun kk h => h) (r_X7_nameHere (d := d) hA s1 (rv_x_le hA hqn) (sp_nam.mono h (fun fk2 ak2 hfk2 Mk2 Fk2 => ?_) (fun bk2 ck2 hvk2 => ?_)))
  · skip
    refine w_ifne (fun c3 => ?_) (fun c3 => ?_)
    · exfalso; omega
    · skip
      refine w_ic ?_
      refine w_iret (fun q => by cases q) ?_
      refine w_iret (fun q => by cases q) ?_
      refine w_isn ?_
      show wz _ _ _ _ [some (.inr (.inr (some pl))), some (.inr (.inr (some tp))), some (.inr (.inr (some w))), some (.inl (-1)), none, none] _ _ _ _ _
      refine w_iln rfl ?_
      refine w_ic ?_
      refine w_cmne (fun c4 => ?_) (fun c4 => ?_)
      · exfalso; omega
      · skip
        refine w_ic ?_
        exact w_iret (fun _ => Or.inl rfl) (hfk2 _ Fk2)
  · skip
    refine w_ifne (fun c5 => ?_) (fun c5 => ?_)
    · skip
      refine w_aln rfl ?_
      refine w_aln rfl ?_
      refine w_gl gtp rfl (by decide) rfl ((s1.2.1.2.2.2.2.2.1 (by omega)).1) ?_
      refine w_cv (st := []) rfl gpl rfl (Nat.le_of_ble_eq_true rfl) (fun kk h => h) (r_X3_find (d := d + 1) hA s1 hb (rv_x_wo hA (rv_x_le hA hqn) (by omega)) (sp_find.mono hvk2 (fun rk6 lk6 ck6 mk6 hvk6 => ?_) (fun mk6 hvk6 => ?_)))
      · skip
        refine w_isn ?_
        show wz _ _ _ _ [some (.inr (.inr (some pl))), some (.inr (.inr (some tp))), some (.inl ((rk6 : Nat) : Int))] _ _ _ _ _
        refine w_iln rfl ?_
        refine w_ic ?_
        refine w_cmne (fun c7 => ?_) (fun c7 => ?_)
        · skip
          refine w_iln rfl ?_
          refine w_iret (fun q => by cases q) ?_
          refine w_iret (fun q => by cases q) ?_
          refine w_isn ?_
          show wz _ _ _ _ [some (.inr (.inr (some pl))), some (.inr (.inr (some tp))), some (.inr (.inr (some w))), some (.inl ((rk6 : Nat) : Int)), none, none] _ _ _ _ _
          refine w_iln rfl ?_
          refine w_ic ?_
          refine w_cmne (fun c8 => ?_) (fun c8 => ?_)
          · skip
            refine w_aln rfl ?_
            refine w_gr gpl rfl (by decide) rfl (s1.rr r6 (by decide)) ?_
            refine w_iln rfl ?_
            refine w_iald goa rfl (by show (0 : Int) ≤ ((rk6 : Nat) : Int); omega) (by show ((rk6 : Nat) : Int) < ((8 : Nat) : Int); omega) (congrFun s1.2.2.2.2.1 _) ?_
            refine w_aln rfl ?_
            refine w_gww (k := 3) gw ?_
            show wz _ _ _ _ _ (.inl 4 :: _) _ _ _ _
            refine w_shr ?_
            intro z9 hz9 ez9
            refine w_ic ?_
            refine w_and ?_
            intro z10 hz10 ez10
            obtain rfl : z10 = rv_bt (OA (((rk6 : Nat) : Int).toNat)) 4 := by rw [ez10, ez9]; rfl
            have hz10 := rv_bt_01 (OA (((rk6 : Nat) : Int).toNat)) 4
            refine w_ifeq (fun c11 => ?_) (fun c11 => ?_)
            · skip
              refine w_aln rfl ?_
              refine w_ic ?_
              refine w_aln rfl ?_
              refine w_gs ?_
              intro a12 ga12
              have ga12 : G a12 = (903050, 0) := ga12
              refine w_acne (fun c13 => ?_) (fun c13 => ?_)
              · exact absurd (congrArg some (hIw _ _ ((congrArg (fun x => x.1 % 1000) gw).trans rfl) (gw.trans ga12.symm))) c13
              · skip
                refine w_sp ?_
                refine w_goto ?_
                have h14 := hvk6.2 (by omega)
                clear hvk6
                have h15 := h14.1 (by omega)
                clear h14
                refine w_cv (st := []) rfl gtp rfl (Nat.le_of_ble_eq_true rfl) (fun kk h => h) (r_X7_nextNumber (d := d) hA s1 (rv_x_le hA hqn) (sp_num.mono h15 (fun fk16 ak16 hfk16 Mk16 Fk16 => ?_) (fun bk16 ck16 ek16 hvk16 Mk16 sk16 => ?_)))
                · skip
                  refine w_is ?_
                  show wz _ _ _ _ [some (.inr (.inr (some pl))), some (.inr (.inr (some tp))), some (.inr (.inr (some w))), some (.inl ((rk6 : Nat) : Int)), some (.inl (-1)), none] _ _ _ _ _
                  refine w_il rfl ?_
                  refine w_ic ?_
                  refine w_cmne (fun c17 => ?_) (fun c17 => ?_)
                  · exfalso; omega
                  · skip
                    refine w_ic ?_
                    exact w_iret (fun _ => Or.inl rfl) (hfk16 _ Fk16)
                · skip
                  refine w_is ?_
                  show wz _ _ _ _ [some (.inr (.inr (some pl))), some (.inr (.inr (some tp))), some (.inr (.inr (some w))), some (.inl ((rk6 : Nat) : Int)), some (.inl ((T (rv_x T (rv_x T q))).2.2.1)), none] _ _ _ _ _
                  refine w_il rfl ?_
                  refine w_ic ?_
                  refine w_cmne (fun c18 => ?_) (fun c18 => ?_)
                  · skip
                    refine w_aln rfl ?_
                    refine w_gs ?_
                    intro a19 ga19
                    have ga19 : G a19 = (906050, 0) := ga19
                    refine w_acne (fun c20 => ?_) (fun c20 => ?_)
                    · skip
                      refine w_aln rfl ?_
                      refine w_gr gpl rfl (by decide) rfl (sk16.rr r6 (by decide)) ?_
                      refine w_iln rfl ?_
                      refine w_dup2 ?_
                      refine w_iald goa rfl (by show (0 : Int) ≤ ((rk6 : Nat) : Int); omega) (by show ((rk6 : Nat) : Int) < ((8 : Nat) : Int); omega) (congrFun sk16.2.2.2.2.1 _) ?_
                      refine w_ic ?_
                      refine w_aln rfl ?_
                      refine w_gww (k := 3) gw ?_
                      show wz _ _ _ _ _ (.inl 4 :: _) _ _ _ _
                      refine w_shl ?_
                      intro z21 hz21 ez21
                      refine w_or ?_
                      intro z22 hz22 ez22
                      obtain rfl : z22 = rv_bs (OA (((rk6 : Nat) : Int).toNat)) 4 := by rw [ez22, ez21]; rfl
                      refine w_iast goa rfl (by decide) (by show (0 : Int) ≤ ((rk6 : Nat) : Int); omega) (by show ((rk6 : Nat) : Int) < ((8 : Nat) : Int); omega) ?_
                      have s23 := sk16.poa (j := ((rk6 : Nat) : Int).toNat) (v := (rv_bs (OA (((rk6 : Nat) : Int).toNat)) 4)) hA.1
                      refine w_aln rfl ?_
                      refine w_gr gpl rfl (by decide) rfl (s23.rr r3 (by decide)) ?_
                      refine w_iln rfl ?_
                      refine w_aald gta rfl (by show (0 : Int) ≤ ((rk6 : Nat) : Int); omega) (by show ((rk6 : Nat) : Int) < ((8 : Nat) : Int); omega) (s23.rq gta gtp (by decide) (r7 _ (by omega))) ?_
                      refine w_aln rfl ?_
                      refine w_gww (k := 3) gw ?_
                      show wz _ _ _ _ _ (.inl 4 :: _) _ _ _ _
                      refine w_il rfl ?_
                      refine w_iast (gtr (((rk6 : Nat) : Int).toNat) (by omega)) rfl (by decide) (by show (0 : Int) ≤ 4; omega) (by show 4 < ((9 : Nat) : Int); omega) ?_
                      have s24 := s23.ptr (j := (4 : Int).toNat) (q := (((rk6 : Nat) : Int).toNat)) (v := (T (rv_x T (rv_x T q))).2.2.1) hA.1 (by omega)
                      refine w_ic ?_
                      exact w_iret (fun _ => Or.inr rfl) (hvk16 (Nat.le_trans (Nat.le_trans (Nat.le_refl q) (rv_x_ge hA hqn)) (rv_x_ge hA (rv_x_le hA hqn))) (rv_x_le hA (rv_x_le hA hqn)) hb _ s24)
                    · exact absurd (Option.some.inj c20) (hn_ne gw ga19 (by decide))
                  · exfalso; omega
            · skip
              refine w_aln rfl ?_
              refine w_ic ?_
              have h26 := hvk6.2 (by omega)
              clear hvk6
              have h27 := h26.2 (by omega)
              clear h26
              refine w_cv (st := []) rfl gtp rfl (Nat.le_of_ble_eq_true rfl) (fun kk h => h) (r_X7_refuse (d := d + 3) hA s1 (by decide) (fun MF25 F25 => ?_))
              exact w_iret (fun _ => Or.inl rfl) (h27 _ F25)
          · exfalso; omega
        · exfalso; omega
      · skip
        refine w_isn ?_
        show wz _ _ _ _ [some (.inr (.inr (some pl))), some (.inr (.inr (some tp))), some (.inl (-1))] _ _ _ _ _
        refine w_iln rfl ?_
        refine w_ic ?_
        refine w_cmne (fun c28 => ?_) (fun c28 => ?_)
        · exfalso; omega
        · skip
          refine w_aln rfl ?_
          refine w_ic ?_
          have h30 := hvk6.1 (by omega)
          clear hvk6
          refine w_cv (st := []) rfl gtp rfl (Nat.le_of_ble_eq_true rfl) (fun kk h => h) (r_X7_refuse (d := d + 1) hA s1 (by decide) (fun MF29 F29 => ?_))
          refine w_pop ?_
          refine w_iln rfl ?_
          refine w_iret (fun q => by cases q) ?_
          refine w_iret (fun q => by cases q) ?_
          refine w_isn ?_
          show wz _ _ _ _ [some (.inr (.inr (some pl))), some (.inr (.inr (some tp))), some (.inr (.inr (some w))), some (.inl (-1)), none, none] _ _ _ _ _
          refine w_iln rfl ?_
          refine w_ic ?_
          refine w_cmne (fun c31 => ?_) (fun c31 => ?_)
          · exfalso; omega
          · skip
            refine w_ic ?_
            exact w_iret (fun _ => Or.inl rfl) (h30 _ F29)
    · exfalso; omega
set_option maxHeartbeats 8000000 in
theorem r_X3_readAboutTown_mill {G : mj_G} {M0 M : mj_M} {B : Nat → Int} {n lim tp bc pl na ta ba wa oa : Nat} {tr br : Nat → Nat} {T : Nat → Nat × Nat × Int × List Int × Nat} {PL WA OA : Nat → Int} {TO BI : Nat → Nat → Int} {nm : Nat → List Int} {Q : mj_P} {d q : Nat} {w : Nat} (gw : G w = (904050, 0)) (hA : rv_AT G M0 B n lim tp bc pl na ta ba wa oa tr br T) (hS : rv_S G M0 n lim tp pl na wa oa tr br (T q) PL WA OA TO BI nm M) (hqn : q ≤ n) (hb : rv_pb PL) (h : sp_mill T PL WA OA TO BI nm q (fun f a => ∀ M', rv_F tp pl na wa oa tr br M0 f a M' → Q (some (.inl 0)) G M') (fun PL WA OA TO BI nm q' => q ≤ q' → q' ≤ n → rv_pb PL → ∀ M', rv_S G M0 n lim tp pl na wa oa tr br (T q') PL WA OA TO BI nm M' → Q (some (.inl 1)) G M')) : mj_R mj_tab (d + 5) 38 [.inr (.inr (some pl)), .inr (.inr (some tp)), .inr (.inr (some w))] G M Q := by
  obtain ⟨⟨gtp, gbc, gpl, gna, gta, gba, gwa, goa, gtr, gbr, itr, ibr, r1, r2, r3, r4, r5, r6, r7, r8, rb, rw0, n1, n2, hIw⟩, hT⟩ := id hA
  obtain ⟨b1, b2, b3, b4⟩ := id hb
  unfold sp_mill at h
  refine ⟨Nat.le_of_ble_eq_true rfl, ?_⟩
  show wz (d + 4) mt_X3_readAboutTown.2.2.2.2.1 Q mt_X3_readAboutTown.2.2.2.2.1 [some (.inr (.inr (some pl))), some (.inr (.inr (some tp))), some (.inr (.inr (some w))), none, none, none] [] G M _ _
  refine w_aln rfl ?_
  refine w_aln rfl ?_
  refine w_cv (st := []) rfl gpl rfl (Nat.le_of_ble_eq_true rfl) (fun kk h => h) ⟨Nat.le_of_ble_eq_true rfl, ?_⟩
  show wz (d + 3) mt_X3_nextTown.2.2.2.2.1 _ mt_X3_nextTown.2.2.2.2.1 [some (.inr (.inr (some pl))), some (.inr (.inr (some tp)))] [] _ _ _ _
  refine w_aln rfl ?_
  refine w_cv (st := []) rfl gtp rfl (Nat.le_of_ble_eq_true rfl) (fun kk h => h) (r_adv2 (d := d) hA hS hqn (fun Ms1 s1 => ?_))
  refine w_aln rfl ?_
  refine w_aln rfl ?_
  refine w_cv (st := []) rfl gpl rfl (Nat.le_of_ble_eq_true rfl) (fun kk h => h) ⟨Nat.le_of_ble_eq_true rfl, ?_⟩
  show wz (d + 2) mt_X3_townHere.2.2.2.2.1 _ mt_X3_townHere.2.2.2.2.1 [some (.inr (.inr (some pl))), some (.inr (.inr (some tp))), none] [] _ _ _ _
  refine w_aln rfl ?_
  refine w_cv (st := []) rfl gtp rfl (Nat.le_of_ble_eq_true rfl) (fun kk h => h) (r_X7_nameHere (d := d) hA s1 (rv_x_le hA hqn) (sp_nam.mono h (fun fk2 ak2 hfk2 Mk2 Fk2 => ?_) (fun bk2 ck2 hvk2 => ?_)))
  · skip
    refine w_ifne (fun c3 => ?_) (fun c3 => ?_)
    · exfalso; omega
    · skip
      refine w_ic ?_
      refine w_iret (fun q => by cases q) ?_
      refine w_iret (fun q => by cases q) ?_
      refine w_isn ?_
      show wz _ _ _ _ [some (.inr (.inr (some pl))), some (.inr (.inr (some tp))), some (.inr (.inr (some w))), some (.inl (-1)), none, none] _ _ _ _ _
      refine w_iln rfl ?_
      refine w_ic ?_
      refine w_cmne (fun c4 => ?_) (fun c4 => ?_)
      · exfalso; omega
      · skip
        refine w_ic ?_
        exact w_iret (fun _ => Or.inl rfl) (hfk2 _ Fk2)
  · skip
    refine w_ifne (fun c5 => ?_) (fun c5 => ?_)
    · skip
      refine w_aln rfl ?_
      refine w_aln rfl ?_
      refine w_gl gtp rfl (by decide) rfl ((s1.2.1.2.2.2.2.2.1 (by omega)).1) ?_
      refine w_cv (st := []) rfl gpl rfl (Nat.le_of_ble_eq_true rfl) (fun kk h => h) (r_X3_find (d := d + 1) hA s1 hb (rv_x_wo hA (rv_x_le hA hqn) (by omega)) (sp_find.mono hvk2 (fun rk6 lk6 ck6 mk6 hvk6 => ?_) (fun mk6 hvk6 => ?_)))
      · skip
        refine w_isn ?_
        show wz _ _ _ _ [some (.inr (.inr (some pl))), some (.inr (.inr (some tp))), some (.inl ((rk6 : Nat) : Int))] _ _ _ _ _
        refine w_iln rfl ?_
        refine w_ic ?_
        refine w_cmne (fun c7 => ?_) (fun c7 => ?_)
        · skip
          refine w_iln rfl ?_
          refine w_iret (fun q => by cases q) ?_
          refine w_iret (fun q => by cases q) ?_
          refine w_isn ?_
          show wz _ _ _ _ [some (.inr (.inr (some pl))), some (.inr (.inr (some tp))), some (.inr (.inr (some w))), some (.inl ((rk6 : Nat) : Int)), none, none] _ _ _ _ _
          refine w_iln rfl ?_
          refine w_ic ?_
          refine w_cmne (fun c8 => ?_) (fun c8 => ?_)
          · skip
            refine w_aln rfl ?_
            refine w_gr gpl rfl (by decide) rfl (s1.rr r6 (by decide)) ?_
            refine w_iln rfl ?_
            refine w_iald goa rfl (by show (0 : Int) ≤ ((rk6 : Nat) : Int); omega) (by show ((rk6 : Nat) : Int) < ((8 : Nat) : Int); omega) (congrFun s1.2.2.2.2.1 _) ?_
            refine w_aln rfl ?_
            refine w_gww (k := 4) gw ?_
            show wz _ _ _ _ _ (.inl 5 :: _) _ _ _ _
            refine w_shr ?_
            intro z9 hz9 ez9
            refine w_ic ?_
            refine w_and ?_
            intro z10 hz10 ez10
            obtain rfl : z10 = rv_bt (OA (((rk6 : Nat) : Int).toNat)) 5 := by rw [ez10, ez9]; rfl
            have hz10 := rv_bt_01 (OA (((rk6 : Nat) : Int).toNat)) 5
            refine w_ifeq (fun c11 => ?_) (fun c11 => ?_)
            · skip
              refine w_aln rfl ?_
              refine w_ic ?_
              refine w_aln rfl ?_
              refine w_gs ?_
              intro a12 ga12
              have ga12 : G a12 = (903050, 0) := ga12
              refine w_acne (fun c13 => ?_) (fun c13 => ?_)
              · skip
                refine w_bp ?_
                have h14 := hvk6.2 (by omega)
                clear hvk6
                have h15 := h14.1 (by omega)
                clear h14
                refine w_cv (st := []) rfl gtp rfl (Nat.le_of_ble_eq_true rfl) (fun kk h => h) (r_X7_nextNumber (d := d) hA s1 (rv_x_le hA hqn) (sp_num.mono h15 (fun fk16 ak16 hfk16 Mk16 Fk16 => ?_) (fun bk16 ck16 ek16 hvk16 Mk16 sk16 => ?_)))
                · skip
                  refine w_is ?_
                  show wz _ _ _ _ [some (.inr (.inr (some pl))), some (.inr (.inr (some tp))), some (.inr (.inr (some w))), some (.inl ((rk6 : Nat) : Int)), some (.inl (-1)), none] _ _ _ _ _
                  refine w_il rfl ?_
                  refine w_ic ?_
                  refine w_cmne (fun c17 => ?_) (fun c17 => ?_)
                  · exfalso; omega
                  · skip
                    refine w_ic ?_
                    exact w_iret (fun _ => Or.inl rfl) (hfk16 _ Fk16)
                · skip
                  refine w_is ?_
                  show wz _ _ _ _ [some (.inr (.inr (some pl))), some (.inr (.inr (some tp))), some (.inr (.inr (some w))), some (.inl ((rk6 : Nat) : Int)), some (.inl ((T (rv_x T (rv_x T q))).2.2.1)), none] _ _ _ _ _
                  refine w_il rfl ?_
                  refine w_ic ?_
                  refine w_cmne (fun c18 => ?_) (fun c18 => ?_)
                  · skip
                    refine w_aln rfl ?_
                    refine w_gs ?_
                    intro a19 ga19
                    have ga19 : G a19 = (906050, 0) := ga19
                    refine w_acne (fun c20 => ?_) (fun c20 => ?_)
                    · skip
                      refine w_aln rfl ?_
                      refine w_gr gpl rfl (by decide) rfl (sk16.rr r6 (by decide)) ?_
                      refine w_iln rfl ?_
                      refine w_dup2 ?_
                      refine w_iald goa rfl (by show (0 : Int) ≤ ((rk6 : Nat) : Int); omega) (by show ((rk6 : Nat) : Int) < ((8 : Nat) : Int); omega) (congrFun sk16.2.2.2.2.1 _) ?_
                      refine w_ic ?_
                      refine w_aln rfl ?_
                      refine w_gww (k := 4) gw ?_
                      show wz _ _ _ _ _ (.inl 5 :: _) _ _ _ _
                      refine w_shl ?_
                      intro z21 hz21 ez21
                      refine w_or ?_
                      intro z22 hz22 ez22
                      obtain rfl : z22 = rv_bs (OA (((rk6 : Nat) : Int).toNat)) 5 := by rw [ez22, ez21]; rfl
                      refine w_iast goa rfl (by decide) (by show (0 : Int) ≤ ((rk6 : Nat) : Int); omega) (by show ((rk6 : Nat) : Int) < ((8 : Nat) : Int); omega) ?_
                      have s23 := sk16.poa (j := ((rk6 : Nat) : Int).toNat) (v := (rv_bs (OA (((rk6 : Nat) : Int).toNat)) 5)) hA.1
                      refine w_aln rfl ?_
                      refine w_gr gpl rfl (by decide) rfl (s23.rr r3 (by decide)) ?_
                      refine w_iln rfl ?_
                      refine w_aald gta rfl (by show (0 : Int) ≤ ((rk6 : Nat) : Int); omega) (by show ((rk6 : Nat) : Int) < ((8 : Nat) : Int); omega) (s23.rq gta gtp (by decide) (r7 _ (by omega))) ?_
                      refine w_aln rfl ?_
                      refine w_gww (k := 4) gw ?_
                      show wz _ _ _ _ _ (.inl 5 :: _) _ _ _ _
                      refine w_il rfl ?_
                      refine w_iast (gtr (((rk6 : Nat) : Int).toNat) (by omega)) rfl (by decide) (by show (0 : Int) ≤ 5; omega) (by show 5 < ((9 : Nat) : Int); omega) ?_
                      have s24 := s23.ptr (j := (5 : Int).toNat) (q := (((rk6 : Nat) : Int).toNat)) (v := (T (rv_x T (rv_x T q))).2.2.1) hA.1 (by omega)
                      refine w_ic ?_
                      exact w_iret (fun _ => Or.inr rfl) (hvk16 (Nat.le_trans (Nat.le_trans (Nat.le_refl q) (rv_x_ge hA hqn)) (rv_x_ge hA (rv_x_le hA hqn))) (rv_x_le hA (rv_x_le hA hqn)) hb _ s24)
                    · exact absurd (Option.some.inj c20) (hn_ne gw ga19 (by decide))
                  · exfalso; omega
              · exact absurd (Option.some.inj c13) (hn_ne gw ga12 (by decide))
            · skip
              refine w_aln rfl ?_
              refine w_ic ?_
              have h26 := hvk6.2 (by omega)
              clear hvk6
              have h27 := h26.2 (by omega)
              clear h26
              refine w_cv (st := []) rfl gtp rfl (Nat.le_of_ble_eq_true rfl) (fun kk h => h) (r_X7_refuse (d := d + 3) hA s1 (by decide) (fun MF25 F25 => ?_))
              exact w_iret (fun _ => Or.inl rfl) (h27 _ F25)
          · exfalso; omega
        · exfalso; omega
      · skip
        refine w_isn ?_
        show wz _ _ _ _ [some (.inr (.inr (some pl))), some (.inr (.inr (some tp))), some (.inl (-1))] _ _ _ _ _
        refine w_iln rfl ?_
        refine w_ic ?_
        refine w_cmne (fun c28 => ?_) (fun c28 => ?_)
        · exfalso; omega
        · skip
          refine w_aln rfl ?_
          refine w_ic ?_
          have h30 := hvk6.1 (by omega)
          clear hvk6
          refine w_cv (st := []) rfl gtp rfl (Nat.le_of_ble_eq_true rfl) (fun kk h => h) (r_X7_refuse (d := d + 1) hA s1 (by decide) (fun MF29 F29 => ?_))
          refine w_pop ?_
          refine w_iln rfl ?_
          refine w_iret (fun q => by cases q) ?_
          refine w_iret (fun q => by cases q) ?_
          refine w_isn ?_
          show wz _ _ _ _ [some (.inr (.inr (some pl))), some (.inr (.inr (some tp))), some (.inr (.inr (some w))), some (.inl (-1)), none, none] _ _ _ _ _
          refine w_iln rfl ?_
          refine w_ic ?_
          refine w_cmne (fun c31 => ?_) (fun c31 => ?_)
          · exfalso; omega
          · skip
            refine w_ic ?_
            exact w_iret (fun _ => Or.inl rfl) (h30 _ F29)
    · exfalso; omega
set_option maxHeartbeats 8000000 in
theorem r_X3_readAboutTown_bridge {G : mj_G} {M0 M : mj_M} {B : Nat → Int} {n lim tp bc pl na ta ba wa oa : Nat} {tr br : Nat → Nat} {T : Nat → Nat × Nat × Int × List Int × Nat} {PL WA OA : Nat → Int} {TO BI : Nat → Nat → Int} {nm : Nat → List Int} {Q : mj_P} {d q : Nat} {w : Nat} (gw : G w = (905050, 0)) (hA : rv_AT G M0 B n lim tp bc pl na ta ba wa oa tr br T) (hS : rv_S G M0 n lim tp pl na wa oa tr br (T q) PL WA OA TO BI nm M) (hqn : q ≤ n) (hb : rv_pb PL) (h : sp_bridge T PL WA OA TO BI nm q (fun f a => ∀ M', rv_F tp pl na wa oa tr br M0 f a M' → Q (some (.inl 0)) G M') (fun PL WA OA TO BI nm q' => q ≤ q' → q' ≤ n → rv_pb PL → ∀ M', rv_S G M0 n lim tp pl na wa oa tr br (T q') PL WA OA TO BI nm M' → Q (some (.inl 1)) G M')) : mj_R mj_tab (d + 5) 38 [.inr (.inr (some pl)), .inr (.inr (some tp)), .inr (.inr (some w))] G M Q := by
  obtain ⟨⟨gtp, gbc, gpl, gna, gta, gba, gwa, goa, gtr, gbr, itr, ibr, r1, r2, r3, r4, r5, r6, r7, r8, rb, rw0, n1, n2, hIw⟩, hT⟩ := id hA
  obtain ⟨b1, b2, b3, b4⟩ := id hb
  unfold sp_bridge at h
  refine ⟨Nat.le_of_ble_eq_true rfl, ?_⟩
  show wz (d + 4) mt_X3_readAboutTown.2.2.2.2.1 Q mt_X3_readAboutTown.2.2.2.2.1 [some (.inr (.inr (some pl))), some (.inr (.inr (some tp))), some (.inr (.inr (some w))), none, none, none] [] G M _ _
  refine w_aln rfl ?_
  refine w_aln rfl ?_
  refine w_cv (st := []) rfl gpl rfl (Nat.le_of_ble_eq_true rfl) (fun kk h => h) ⟨Nat.le_of_ble_eq_true rfl, ?_⟩
  show wz (d + 3) mt_X3_nextTown.2.2.2.2.1 _ mt_X3_nextTown.2.2.2.2.1 [some (.inr (.inr (some pl))), some (.inr (.inr (some tp)))] [] _ _ _ _
  refine w_aln rfl ?_
  refine w_cv (st := []) rfl gtp rfl (Nat.le_of_ble_eq_true rfl) (fun kk h => h) (r_adv2 (d := d) hA hS hqn (fun Ms1 s1 => ?_))
  refine w_aln rfl ?_
  refine w_aln rfl ?_
  refine w_cv (st := []) rfl gpl rfl (Nat.le_of_ble_eq_true rfl) (fun kk h => h) ⟨Nat.le_of_ble_eq_true rfl, ?_⟩
  show wz (d + 2) mt_X3_townHere.2.2.2.2.1 _ mt_X3_townHere.2.2.2.2.1 [some (.inr (.inr (some pl))), some (.inr (.inr (some tp))), none] [] _ _ _ _
  refine w_aln rfl ?_
  refine w_cv (st := []) rfl gtp rfl (Nat.le_of_ble_eq_true rfl) (fun kk h => h) (r_X7_nameHere (d := d) hA s1 (rv_x_le hA hqn) (sp_nam.mono h (fun fk2 ak2 hfk2 Mk2 Fk2 => ?_) (fun bk2 ck2 hvk2 => ?_)))
  · skip
    refine w_ifne (fun c3 => ?_) (fun c3 => ?_)
    · exfalso; omega
    · skip
      refine w_ic ?_
      refine w_iret (fun q => by cases q) ?_
      refine w_iret (fun q => by cases q) ?_
      refine w_isn ?_
      show wz _ _ _ _ [some (.inr (.inr (some pl))), some (.inr (.inr (some tp))), some (.inr (.inr (some w))), some (.inl (-1)), none, none] _ _ _ _ _
      refine w_iln rfl ?_
      refine w_ic ?_
      refine w_cmne (fun c4 => ?_) (fun c4 => ?_)
      · exfalso; omega
      · skip
        refine w_ic ?_
        exact w_iret (fun _ => Or.inl rfl) (hfk2 _ Fk2)
  · skip
    refine w_ifne (fun c5 => ?_) (fun c5 => ?_)
    · skip
      refine w_aln rfl ?_
      refine w_aln rfl ?_
      refine w_gl gtp rfl (by decide) rfl ((s1.2.1.2.2.2.2.2.1 (by omega)).1) ?_
      refine w_cv (st := []) rfl gpl rfl (Nat.le_of_ble_eq_true rfl) (fun kk h => h) (r_X3_find (d := d + 1) hA s1 hb (rv_x_wo hA (rv_x_le hA hqn) (by omega)) (sp_find.mono hvk2 (fun rk6 lk6 ck6 mk6 hvk6 => ?_) (fun mk6 hvk6 => ?_)))
      · skip
        refine w_isn ?_
        show wz _ _ _ _ [some (.inr (.inr (some pl))), some (.inr (.inr (some tp))), some (.inl ((rk6 : Nat) : Int))] _ _ _ _ _
        refine w_iln rfl ?_
        refine w_ic ?_
        refine w_cmne (fun c7 => ?_) (fun c7 => ?_)
        · skip
          refine w_iln rfl ?_
          refine w_iret (fun q => by cases q) ?_
          refine w_iret (fun q => by cases q) ?_
          refine w_isn ?_
          show wz _ _ _ _ [some (.inr (.inr (some pl))), some (.inr (.inr (some tp))), some (.inr (.inr (some w))), some (.inl ((rk6 : Nat) : Int)), none, none] _ _ _ _ _
          refine w_iln rfl ?_
          refine w_ic ?_
          refine w_cmne (fun c8 => ?_) (fun c8 => ?_)
          · skip
            refine w_aln rfl ?_
            refine w_gr gpl rfl (by decide) rfl (s1.rr r6 (by decide)) ?_
            refine w_iln rfl ?_
            refine w_iald goa rfl (by show (0 : Int) ≤ ((rk6 : Nat) : Int); omega) (by show ((rk6 : Nat) : Int) < ((8 : Nat) : Int); omega) (congrFun s1.2.2.2.2.1 _) ?_
            refine w_aln rfl ?_
            refine w_gww (k := 5) gw ?_
            show wz _ _ _ _ _ (.inl 6 :: _) _ _ _ _
            refine w_shr ?_
            intro z9 hz9 ez9
            refine w_ic ?_
            refine w_and ?_
            intro z10 hz10 ez10
            obtain rfl : z10 = rv_bt (OA (((rk6 : Nat) : Int).toNat)) 6 := by rw [ez10, ez9]; rfl
            have hz10 := rv_bt_01 (OA (((rk6 : Nat) : Int).toNat)) 6
            refine w_ifeq (fun c11 => ?_) (fun c11 => ?_)
            · skip
              refine w_aln rfl ?_
              refine w_ic ?_
              refine w_aln rfl ?_
              refine w_gs ?_
              intro a12 ga12
              have ga12 : G a12 = (903050, 0) := ga12
              refine w_acne (fun c13 => ?_) (fun c13 => ?_)
              · skip
                refine w_bp ?_
                have h14 := hvk6.2 (by omega)
                clear hvk6
                have h15 := h14.1 (by omega)
                clear h14
                refine w_cv (st := []) rfl gtp rfl (Nat.le_of_ble_eq_true rfl) (fun kk h => h) (r_X7_nextNumber (d := d) hA s1 (rv_x_le hA hqn) (sp_num.mono h15 (fun fk16 ak16 hfk16 Mk16 Fk16 => ?_) (fun bk16 ck16 ek16 hvk16 Mk16 sk16 => ?_)))
                · skip
                  refine w_is ?_
                  show wz _ _ _ _ [some (.inr (.inr (some pl))), some (.inr (.inr (some tp))), some (.inr (.inr (some w))), some (.inl ((rk6 : Nat) : Int)), some (.inl (-1)), none] _ _ _ _ _
                  refine w_il rfl ?_
                  refine w_ic ?_
                  refine w_cmne (fun c17 => ?_) (fun c17 => ?_)
                  · exfalso; omega
                  · skip
                    refine w_ic ?_
                    exact w_iret (fun _ => Or.inl rfl) (hfk16 _ Fk16)
                · skip
                  refine w_is ?_
                  show wz _ _ _ _ [some (.inr (.inr (some pl))), some (.inr (.inr (some tp))), some (.inr (.inr (some w))), some (.inl ((rk6 : Nat) : Int)), some (.inl ((T (rv_x T (rv_x T q))).2.2.1)), none] _ _ _ _ _
                  refine w_il rfl ?_
                  refine w_ic ?_
                  refine w_cmne (fun c18 => ?_) (fun c18 => ?_)
                  · skip
                    refine w_aln rfl ?_
                    refine w_gs ?_
                    intro a19 ga19
                    have ga19 : G a19 = (906050, 0) := ga19
                    refine w_acne (fun c20 => ?_) (fun c20 => ?_)
                    · skip
                      refine w_aln rfl ?_
                      refine w_gr gpl rfl (by decide) rfl (sk16.rr r6 (by decide)) ?_
                      refine w_iln rfl ?_
                      refine w_dup2 ?_
                      refine w_iald goa rfl (by show (0 : Int) ≤ ((rk6 : Nat) : Int); omega) (by show ((rk6 : Nat) : Int) < ((8 : Nat) : Int); omega) (congrFun sk16.2.2.2.2.1 _) ?_
                      refine w_ic ?_
                      refine w_aln rfl ?_
                      refine w_gww (k := 5) gw ?_
                      show wz _ _ _ _ _ (.inl 6 :: _) _ _ _ _
                      refine w_shl ?_
                      intro z21 hz21 ez21
                      refine w_or ?_
                      intro z22 hz22 ez22
                      obtain rfl : z22 = rv_bs (OA (((rk6 : Nat) : Int).toNat)) 6 := by rw [ez22, ez21]; rfl
                      refine w_iast goa rfl (by decide) (by show (0 : Int) ≤ ((rk6 : Nat) : Int); omega) (by show ((rk6 : Nat) : Int) < ((8 : Nat) : Int); omega) ?_
                      have s23 := sk16.poa (j := ((rk6 : Nat) : Int).toNat) (v := (rv_bs (OA (((rk6 : Nat) : Int).toNat)) 6)) hA.1
                      refine w_aln rfl ?_
                      refine w_gr gpl rfl (by decide) rfl (s23.rr r3 (by decide)) ?_
                      refine w_iln rfl ?_
                      refine w_aald gta rfl (by show (0 : Int) ≤ ((rk6 : Nat) : Int); omega) (by show ((rk6 : Nat) : Int) < ((8 : Nat) : Int); omega) (s23.rq gta gtp (by decide) (r7 _ (by omega))) ?_
                      refine w_aln rfl ?_
                      refine w_gww (k := 5) gw ?_
                      show wz _ _ _ _ _ (.inl 6 :: _) _ _ _ _
                      refine w_il rfl ?_
                      refine w_iast (gtr (((rk6 : Nat) : Int).toNat) (by omega)) rfl (by decide) (by show (0 : Int) ≤ 6; omega) (by show 6 < ((9 : Nat) : Int); omega) ?_
                      have s24 := s23.ptr (j := (6 : Int).toNat) (q := (((rk6 : Nat) : Int).toNat)) (v := (T (rv_x T (rv_x T q))).2.2.1) hA.1 (by omega)
                      refine w_ic ?_
                      exact w_iret (fun _ => Or.inr rfl) (hvk16 (Nat.le_trans (Nat.le_trans (Nat.le_refl q) (rv_x_ge hA hqn)) (rv_x_ge hA (rv_x_le hA hqn))) (rv_x_le hA (rv_x_le hA hqn)) hb _ s24)
                    · exact absurd (Option.some.inj c20) (hn_ne gw ga19 (by decide))
                  · exfalso; omega
              · exact absurd (Option.some.inj c13) (hn_ne gw ga12 (by decide))
            · skip
              refine w_aln rfl ?_
              refine w_ic ?_
              have h26 := hvk6.2 (by omega)
              clear hvk6
              have h27 := h26.2 (by omega)
              clear h26
              refine w_cv (st := []) rfl gtp rfl (Nat.le_of_ble_eq_true rfl) (fun kk h => h) (r_X7_refuse (d := d + 3) hA s1 (by decide) (fun MF25 F25 => ?_))
              exact w_iret (fun _ => Or.inl rfl) (h27 _ F25)
          · exfalso; omega
        · exfalso; omega
      · skip
        refine w_isn ?_
        show wz _ _ _ _ [some (.inr (.inr (some pl))), some (.inr (.inr (some tp))), some (.inl (-1))] _ _ _ _ _
        refine w_iln rfl ?_
        refine w_ic ?_
        refine w_cmne (fun c28 => ?_) (fun c28 => ?_)
        · exfalso; omega
        · skip
          refine w_aln rfl ?_
          refine w_ic ?_
          have h30 := hvk6.1 (by omega)
          clear hvk6
          refine w_cv (st := []) rfl gtp rfl (Nat.le_of_ble_eq_true rfl) (fun kk h => h) (r_X7_refuse (d := d + 1) hA s1 (by decide) (fun MF29 F29 => ?_))
          refine w_pop ?_
          refine w_iln rfl ?_
          refine w_iret (fun q => by cases q) ?_
          refine w_iret (fun q => by cases q) ?_
          refine w_isn ?_
          show wz _ _ _ _ [some (.inr (.inr (some pl))), some (.inr (.inr (some tp))), some (.inr (.inr (some w))), some (.inl (-1)), none, none] _ _ _ _ _
          refine w_iln rfl ?_
          refine w_ic ?_
          refine w_cmne (fun c31 => ?_) (fun c31 => ?_)
          · exfalso; omega
          · skip
            refine w_ic ?_
            exact w_iret (fun _ => Or.inl rfl) (h30 _ F29)
    · exfalso; omega
set_option maxHeartbeats 8000000 in
theorem r_X3_readAboutTown_field {G : mj_G} {M0 M : mj_M} {B : Nat → Int} {n lim tp bc pl na ta ba wa oa : Nat} {tr br : Nat → Nat} {T : Nat → Nat × Nat × Int × List Int × Nat} {PL WA OA : Nat → Int} {TO BI : Nat → Nat → Int} {nm : Nat → List Int} {Q : mj_P} {d q : Nat} {w : Nat} (gw : G w = (906050, 0)) (hA : rv_AT G M0 B n lim tp bc pl na ta ba wa oa tr br T) (hS : rv_S G M0 n lim tp pl na wa oa tr br (T q) PL WA OA TO BI nm M) (hqn : q ≤ n) (hb : rv_pb PL) (h : sp_field T PL WA OA TO BI nm q (fun f a => ∀ M', rv_F tp pl na wa oa tr br M0 f a M' → Q (some (.inl 0)) G M') (fun PL WA OA TO BI nm q' => q ≤ q' → q' ≤ n → rv_pb PL → ∀ M', rv_S G M0 n lim tp pl na wa oa tr br (T q') PL WA OA TO BI nm M' → Q (some (.inl 1)) G M')) : mj_R mj_tab (d + 5) 38 [.inr (.inr (some pl)), .inr (.inr (some tp)), .inr (.inr (some w))] G M Q := by
  obtain ⟨⟨gtp, gbc, gpl, gna, gta, gba, gwa, goa, gtr, gbr, itr, ibr, r1, r2, r3, r4, r5, r6, r7, r8, rb, rw0, n1, n2, hIw⟩, hT⟩ := id hA
  obtain ⟨b1, b2, b3, b4⟩ := id hb
  unfold sp_field at h
  refine ⟨Nat.le_of_ble_eq_true rfl, ?_⟩
  show wz (d + 4) mt_X3_readAboutTown.2.2.2.2.1 Q mt_X3_readAboutTown.2.2.2.2.1 [some (.inr (.inr (some pl))), some (.inr (.inr (some tp))), some (.inr (.inr (some w))), none, none, none] [] G M _ _
  refine w_aln rfl ?_
  refine w_aln rfl ?_
  refine w_cv (st := []) rfl gpl rfl (Nat.le_of_ble_eq_true rfl) (fun kk h => h) ⟨Nat.le_of_ble_eq_true rfl, ?_⟩
  show wz (d + 3) mt_X3_nextTown.2.2.2.2.1 _ mt_X3_nextTown.2.2.2.2.1 [some (.inr (.inr (some pl))), some (.inr (.inr (some tp)))] [] _ _ _ _
  refine w_aln rfl ?_
  refine w_cv (st := []) rfl gtp rfl (Nat.le_of_ble_eq_true rfl) (fun kk h => h) (r_adv2 (d := d) hA hS hqn (fun Ms1 s1 => ?_))
  refine w_aln rfl ?_
  refine w_aln rfl ?_
  refine w_cv (st := []) rfl gpl rfl (Nat.le_of_ble_eq_true rfl) (fun kk h => h) ⟨Nat.le_of_ble_eq_true rfl, ?_⟩
  show wz (d + 2) mt_X3_townHere.2.2.2.2.1 _ mt_X3_townHere.2.2.2.2.1 [some (.inr (.inr (some pl))), some (.inr (.inr (some tp))), none] [] _ _ _ _
  refine w_aln rfl ?_
  refine w_cv (st := []) rfl gtp rfl (Nat.le_of_ble_eq_true rfl) (fun kk h => h) (r_X7_nameHere (d := d) hA s1 (rv_x_le hA hqn) (sp_nam.mono h (fun fk2 ak2 hfk2 Mk2 Fk2 => ?_) (fun bk2 ck2 hvk2 => ?_)))
  · skip
    refine w_ifne (fun c3 => ?_) (fun c3 => ?_)
    · exfalso; omega
    · skip
      refine w_ic ?_
      refine w_iret (fun q => by cases q) ?_
      refine w_iret (fun q => by cases q) ?_
      refine w_isn ?_
      show wz _ _ _ _ [some (.inr (.inr (some pl))), some (.inr (.inr (some tp))), some (.inr (.inr (some w))), some (.inl (-1)), none, none] _ _ _ _ _
      refine w_iln rfl ?_
      refine w_ic ?_
      refine w_cmne (fun c4 => ?_) (fun c4 => ?_)
      · exfalso; omega
      · skip
        refine w_ic ?_
        exact w_iret (fun _ => Or.inl rfl) (hfk2 _ Fk2)
  · skip
    refine w_ifne (fun c5 => ?_) (fun c5 => ?_)
    · skip
      refine w_aln rfl ?_
      refine w_aln rfl ?_
      refine w_gl gtp rfl (by decide) rfl ((s1.2.1.2.2.2.2.2.1 (by omega)).1) ?_
      refine w_cv (st := []) rfl gpl rfl (Nat.le_of_ble_eq_true rfl) (fun kk h => h) (r_X3_find (d := d + 1) hA s1 hb (rv_x_wo hA (rv_x_le hA hqn) (by omega)) (sp_find.mono hvk2 (fun rk6 lk6 ck6 mk6 hvk6 => ?_) (fun mk6 hvk6 => ?_)))
      · skip
        refine w_isn ?_
        show wz _ _ _ _ [some (.inr (.inr (some pl))), some (.inr (.inr (some tp))), some (.inl ((rk6 : Nat) : Int))] _ _ _ _ _
        refine w_iln rfl ?_
        refine w_ic ?_
        refine w_cmne (fun c7 => ?_) (fun c7 => ?_)
        · skip
          refine w_iln rfl ?_
          refine w_iret (fun q => by cases q) ?_
          refine w_iret (fun q => by cases q) ?_
          refine w_isn ?_
          show wz _ _ _ _ [some (.inr (.inr (some pl))), some (.inr (.inr (some tp))), some (.inr (.inr (some w))), some (.inl ((rk6 : Nat) : Int)), none, none] _ _ _ _ _
          refine w_iln rfl ?_
          refine w_ic ?_
          refine w_cmne (fun c8 => ?_) (fun c8 => ?_)
          · skip
            refine w_aln rfl ?_
            refine w_gr gpl rfl (by decide) rfl (s1.rr r6 (by decide)) ?_
            refine w_iln rfl ?_
            refine w_iald goa rfl (by show (0 : Int) ≤ ((rk6 : Nat) : Int); omega) (by show ((rk6 : Nat) : Int) < ((8 : Nat) : Int); omega) (congrFun s1.2.2.2.2.1 _) ?_
            refine w_aln rfl ?_
            refine w_gww (k := 6) gw ?_
            show wz _ _ _ _ _ (.inl 7 :: _) _ _ _ _
            refine w_shr ?_
            intro z9 hz9 ez9
            refine w_ic ?_
            refine w_and ?_
            intro z10 hz10 ez10
            obtain rfl : z10 = rv_bt (OA (((rk6 : Nat) : Int).toNat)) 7 := by rw [ez10, ez9]; rfl
            have hz10 := rv_bt_01 (OA (((rk6 : Nat) : Int).toNat)) 7
            refine w_ifeq (fun c11 => ?_) (fun c11 => ?_)
            · skip
              refine w_aln rfl ?_
              refine w_ic ?_
              refine w_aln rfl ?_
              refine w_gs ?_
              intro a12 ga12
              have ga12 : G a12 = (903050, 0) := ga12
              refine w_acne (fun c13 => ?_) (fun c13 => ?_)
              · skip
                refine w_bp ?_
                have h14 := hvk6.2 (by omega)
                clear hvk6
                have h15 := h14.1 (by omega)
                clear h14
                refine w_cv (st := []) rfl gtp rfl (Nat.le_of_ble_eq_true rfl) (fun kk h => h) (r_X7_nextNumber (d := d) hA s1 (rv_x_le hA hqn) (sp_num.mono h15 (fun fk16 ak16 hfk16 Mk16 Fk16 => ?_) (fun bk16 ck16 ek16 hvk16 Mk16 sk16 => ?_)))
                · skip
                  refine w_is ?_
                  show wz _ _ _ _ [some (.inr (.inr (some pl))), some (.inr (.inr (some tp))), some (.inr (.inr (some w))), some (.inl ((rk6 : Nat) : Int)), some (.inl (-1)), none] _ _ _ _ _
                  refine w_il rfl ?_
                  refine w_ic ?_
                  refine w_cmne (fun c17 => ?_) (fun c17 => ?_)
                  · exfalso; omega
                  · skip
                    refine w_ic ?_
                    exact w_iret (fun _ => Or.inl rfl) (hfk16 _ Fk16)
                · skip
                  refine w_is ?_
                  show wz _ _ _ _ [some (.inr (.inr (some pl))), some (.inr (.inr (some tp))), some (.inr (.inr (some w))), some (.inl ((rk6 : Nat) : Int)), some (.inl ((T (rv_x T (rv_x T q))).2.2.1)), none] _ _ _ _ _
                  refine w_il rfl ?_
                  refine w_ic ?_
                  refine w_cmne (fun c18 => ?_) (fun c18 => ?_)
                  · skip
                    refine w_aln rfl ?_
                    refine w_gs ?_
                    intro a19 ga19
                    have ga19 : G a19 = (906050, 0) := ga19
                    refine w_acne (fun c20 => ?_) (fun c20 => ?_)
                    · exact absurd (congrArg some (hIw _ _ ((congrArg (fun x => x.1 % 1000) gw).trans rfl) (gw.trans ga19.symm))) c20
                    · skip
                      refine w_aln rfl ?_
                      refine w_ic ?_
                      refine w_bp ?_
                      refine w_cv (st := []) rfl gtp rfl (Nat.le_of_ble_eq_true rfl) (fun kk h => h) (r_X7_nextNumber (d := d) hA sk16 (rv_x_le hA (rv_x_le hA hqn)) (sp_num.mono hvk16 (fun fk21 ak21 hfk21 Mk21 Fk21 => ?_) (fun bk21 ck21 ek21 hvk21 Mk21 sk21 => ?_)))
                      · skip
                        refine w_is ?_
                        show wz _ _ _ _ [some (.inr (.inr (some pl))), some (.inr (.inr (some tp))), some (.inr (.inr (some w))), some (.inl ((rk6 : Nat) : Int)), some (.inl ((T (rv_x T (rv_x T q))).2.2.1)), some (.inl (-1))] _ _ _ _ _
                        refine w_il rfl ?_
                        refine w_ic ?_
                        refine w_cmne (fun c22 => ?_) (fun c22 => ?_)
                        · exfalso; omega
                        · skip
                          refine w_ic ?_
                          exact w_iret (fun _ => Or.inl rfl) (hfk21 _ Fk21)
                      · skip
                        refine w_is ?_
                        show wz _ _ _ _ [some (.inr (.inr (some pl))), some (.inr (.inr (some tp))), some (.inr (.inr (some w))), some (.inl ((rk6 : Nat) : Int)), some (.inl ((T (rv_x T (rv_x T q))).2.2.1)), some (.inl ((T (rv_x T (rv_x T (rv_x T q)))).2.2.1))] _ _ _ _ _
                        refine w_il rfl ?_
                        refine w_ic ?_
                        refine w_cmne (fun c23 => ?_) (fun c23 => ?_)
                        · skip
                          refine w_aln rfl ?_
                          refine w_gr gpl rfl (by decide) rfl (sk21.rr r3 (by decide)) ?_
                          refine w_iln rfl ?_
                          refine w_aald gta rfl (by show (0 : Int) ≤ ((rk6 : Nat) : Int); omega) (by show ((rk6 : Nat) : Int) < ((8 : Nat) : Int); omega) (sk21.rq gta gtp (by decide) (r7 _ (by omega))) ?_
                          refine w_bp ?_
                          refine w_il rfl ?_
                          refine w_iast (gtr (((rk6 : Nat) : Int).toNat) (by omega)) rfl (by decide) (by show (0 : Int) ≤ 8; omega) (by show 8 < ((9 : Nat) : Int); omega) ?_
                          have s24 := sk21.ptr (j := (8 : Int).toNat) (q := (((rk6 : Nat) : Int).toNat)) (v := (T (rv_x T (rv_x T (rv_x T q)))).2.2.1) hA.1 (by omega)
                          refine w_aln rfl ?_
                          refine w_gr gpl rfl (by decide) rfl (s24.rr r6 (by decide)) ?_
                          refine w_iln rfl ?_
                          refine w_dup2 ?_
                          refine w_iald goa rfl (by show (0 : Int) ≤ ((rk6 : Nat) : Int); omega) (by show ((rk6 : Nat) : Int) < ((8 : Nat) : Int); omega) (congrFun s24.2.2.2.2.1 _) ?_
                          refine w_ic ?_
                          refine w_aln rfl ?_
                          refine w_gww (k := 6) gw ?_
                          show wz _ _ _ _ _ (.inl 7 :: _) _ _ _ _
                          refine w_shl ?_
                          intro z25 hz25 ez25
                          refine w_or ?_
                          intro z26 hz26 ez26
                          obtain rfl : z26 = rv_bs (OA (((rk6 : Nat) : Int).toNat)) 7 := by rw [ez26, ez25]; rfl
                          refine w_iast goa rfl (by decide) (by show (0 : Int) ≤ ((rk6 : Nat) : Int); omega) (by show ((rk6 : Nat) : Int) < ((8 : Nat) : Int); omega) ?_
                          have s27 := s24.poa (j := ((rk6 : Nat) : Int).toNat) (v := (rv_bs (OA (((rk6 : Nat) : Int).toNat)) 7)) hA.1
                          refine w_aln rfl ?_
                          refine w_gr gpl rfl (by decide) rfl (s27.rr r3 (by decide)) ?_
                          refine w_iln rfl ?_
                          refine w_aald gta rfl (by show (0 : Int) ≤ ((rk6 : Nat) : Int); omega) (by show ((rk6 : Nat) : Int) < ((8 : Nat) : Int); omega) (s27.rq gta gtp (by decide) (r7 _ (by omega))) ?_
                          refine w_aln rfl ?_
                          refine w_gww (k := 6) gw ?_
                          show wz _ _ _ _ _ (.inl 7 :: _) _ _ _ _
                          refine w_il rfl ?_
                          refine w_iast (gtr (((rk6 : Nat) : Int).toNat) (by omega)) rfl (by decide) (by show (0 : Int) ≤ 7; omega) (by show 7 < ((9 : Nat) : Int); omega) ?_
                          have s28 := s27.ptr (j := (7 : Int).toNat) (q := (((rk6 : Nat) : Int).toNat)) (v := (T (rv_x T (rv_x T q))).2.2.1) hA.1 (by omega)
                          refine w_ic ?_
                          exact w_iret (fun _ => Or.inr rfl) (hvk21 (Nat.le_trans (Nat.le_trans (Nat.le_trans (Nat.le_refl q) (rv_x_ge hA hqn)) (rv_x_ge hA (rv_x_le hA hqn))) (rv_x_ge hA (rv_x_le hA (rv_x_le hA hqn)))) (rv_x_le hA (rv_x_le hA (rv_x_le hA hqn))) hb _ s28)
                        · exfalso; omega
                  · exfalso; omega
              · exact absurd (Option.some.inj c13) (hn_ne gw ga12 (by decide))
            · skip
              refine w_aln rfl ?_
              refine w_ic ?_
              have h30 := hvk6.2 (by omega)
              clear hvk6
              have h31 := h30.2 (by omega)
              clear h30
              refine w_cv (st := []) rfl gtp rfl (Nat.le_of_ble_eq_true rfl) (fun kk h => h) (r_X7_refuse (d := d + 3) hA s1 (by decide) (fun MF29 F29 => ?_))
              exact w_iret (fun _ => Or.inl rfl) (h31 _ F29)
          · exfalso; omega
        · exfalso; omega
      · skip
        refine w_isn ?_
        show wz _ _ _ _ [some (.inr (.inr (some pl))), some (.inr (.inr (some tp))), some (.inl (-1))] _ _ _ _ _
        refine w_iln rfl ?_
        refine w_ic ?_
        refine w_cmne (fun c32 => ?_) (fun c32 => ?_)
        · exfalso; omega
        · skip
          refine w_aln rfl ?_
          refine w_ic ?_
          have h34 := hvk6.1 (by omega)
          clear hvk6
          refine w_cv (st := []) rfl gtp rfl (Nat.le_of_ble_eq_true rfl) (fun kk h => h) (r_X7_refuse (d := d + 1) hA s1 (by decide) (fun MF33 F33 => ?_))
          refine w_pop ?_
          refine w_iln rfl ?_
          refine w_iret (fun q => by cases q) ?_
          refine w_iret (fun q => by cases q) ?_
          refine w_isn ?_
          show wz _ _ _ _ [some (.inr (.inr (some pl))), some (.inr (.inr (some tp))), some (.inr (.inr (some w))), some (.inl (-1)), none, none] _ _ _ _ _
          refine w_iln rfl ?_
          refine w_ic ?_
          refine w_cmne (fun c35 => ?_) (fun c35 => ?_)
          · exfalso; omega
          · skip
            refine w_ic ?_
            exact w_iret (fun _ => Or.inl rfl) (h34 _ F33)
    · exfalso; omega
set_option maxHeartbeats 8000000 in
theorem r_X3_readMove {G : mj_G} {M0 M : mj_M} {B : Nat → Int} {n lim tp bc pl na ta ba wa oa : Nat} {tr br : Nat → Nat} {T : Nat → Nat × Nat × Int × List Int × Nat} {PL WA OA : Nat → Int} {TO BI : Nat → Nat → Int} {nm : Nat → List Int} {Q : mj_P} {d q : Nat} (hA : rv_AT G M0 B n lim tp bc pl na ta ba wa oa tr br T) (hS : rv_S G M0 n lim tp pl na wa oa tr br (T q) PL WA OA TO BI nm M) (hqn : q ≤ n) (hb : rv_pb PL) (h : sp_move T PL WA OA TO BI nm q (fun f a => ∀ M', rv_F tp pl na wa oa tr br M0 f a M' → Q (some (.inl 0)) G M') (fun PL WA OA TO BI nm q' => q ≤ q' → q' ≤ n → rv_pb PL → ∀ M', rv_S G M0 n lim tp pl na wa oa tr br (T q') PL WA OA TO BI nm M' → Q (some (.inl 1)) G M')) : mj_R mj_tab (d + 5) 41 [.inr (.inr (some pl)), .inr (.inr (some tp))] G M Q := by
  obtain ⟨⟨gtp, gbc, gpl, gna, gta, gba, gwa, goa, gtr, gbr, itr, ibr, r1, r2, r3, r4, r5, r6, r7, r8, rb, rw0, n1, n2, hIw⟩, hT⟩ := id hA
  obtain ⟨b1, b2, b3, b4⟩ := id hb
  unfold sp_move at h
  refine ⟨Nat.le_of_ble_eq_true rfl, ?_⟩
  show wz (d + 4) mt_X3_readMove.2.2.2.2.1 Q mt_X3_readMove.2.2.2.2.1 [some (.inr (.inr (some pl))), some (.inr (.inr (some tp)))] [] G M _ _
  refine w_aln rfl ?_
  refine w_gi gpl rfl (by decide) rfl ((congrFun hS.2.2.1 12).trans (rfl)) ?_
  refine w_ifeq (fun c1 => ?_) (fun c1 => ?_)
  · skip
    refine w_aln rfl ?_
    refine w_ic ?_
    refine w_pi gpl rfl (by decide) rfl (fun _ => by omega) ?_
    have s2 := hS.ppl (j := 12) (v := 1) hA.1
    refine w_aln rfl ?_
    refine w_aln rfl ?_
    refine w_ic ?_
    refine w_bp ?_
    have h3 := h.1 (by omega)
    clear h
    refine w_cv (st := [.inr (.inr (some pl))]) rfl gtp rfl (Nat.le_of_ble_eq_true rfl) (fun kk h => h) (r_X7_nextNumber (d := d) hA s2 hqn (sp_num.mono h3 (fun fk4 ak4 hfk4 Mk4 Fk4 => ?_) (fun bk4 ck4 ek4 hvk4 Mk4 sk4 => ?_)))
    · skip
      refine w_pi gpl rfl (by decide) rfl (fun q => by cases q) ?_
      have F5 := rv_F.ppl (j := 6) (v := (-1)) (hn_ne gtp gpl (by decide)) Fk4
      refine w_aln rfl ?_
      refine w_gi gpl rfl (by decide) rfl (hn_s) ?_
      refine w_ic ?_
      refine w_cmeq (fun c6 => ?_) (fun c6 => ?_)
      · skip
        refine w_ic ?_
        exact w_iret (fun _ => Or.inl rfl) (hfk4 _ F5)
      · exfalso; omega
    · skip
      refine w_pi gpl rfl (by decide) rfl (fun q => by cases q) ?_
      have s7 := sk4.ppl (j := 6) (v := (T (rv_x T q)).2.2.1) hA.1
      refine w_aln rfl ?_
      refine w_gi gpl rfl (by decide) rfl ((congrFun s7.2.2.1 6).trans (rv_up_s)) ?_
      refine w_ic ?_
      refine w_cmeq (fun c8 => ?_) (fun c8 => ?_)
      · exfalso; omega
      · skip
        refine w_ic ?_
        refine w_goto ?_
        exact w_iret (fun _ => Or.inr rfl) (hvk4 (Nat.le_trans (Nat.le_refl q) (rv_x_ge hA hqn)) (rv_x_le hA hqn) ⟨by rw [show (rv_up (rv_up PL 12 1) 6 ((T (rv_x T q)).2.2.1)) 4 = PL 4 from (rv_up_n (by decide)).trans ((rv_up_n (by decide)))]; exact hb.1, by rw [show (rv_up (rv_up PL 12 1) 6 ((T (rv_x T q)).2.2.1)) 4 = PL 4 from (rv_up_n (by decide)).trans ((rv_up_n (by decide)))]; exact hb.2.1, by rw [show (rv_up (rv_up PL 12 1) 6 ((T (rv_x T q)).2.2.1)) 5 = PL 5 from (rv_up_n (by decide)).trans ((rv_up_n (by decide)))]; exact hb.2.2.1, by rw [show (rv_up (rv_up PL 12 1) 6 ((T (rv_x T q)).2.2.1)) 5 = PL 5 from (rv_up_n (by decide)).trans ((rv_up_n (by decide)))]; exact hb.2.2.2⟩ _ s7)
  · skip
    refine w_aln rfl ?_
    refine w_ic ?_
    have h10 := h.2 (by omega)
    clear h
    refine w_cv (st := []) rfl gtp rfl (Nat.le_of_ble_eq_true rfl) (fun kk h => h) (r_X7_refuse (d := d + 3) hA hS (by decide) (fun MF9 F9 => ?_))
    exact w_iret (fun _ => Or.inl rfl) (h10 _ F9)
set_option maxHeartbeats 8000000 in
theorem r_X3_readFish {G : mj_G} {M0 M : mj_M} {B : Nat → Int} {n lim tp bc pl na ta ba wa oa : Nat} {tr br : Nat → Nat} {T : Nat → Nat × Nat × Int × List Int × Nat} {PL WA OA : Nat → Int} {TO BI : Nat → Nat → Int} {nm : Nat → List Int} {Q : mj_P} {d q : Nat} (hA : rv_AT G M0 B n lim tp bc pl na ta ba wa oa tr br T) (hS : rv_S G M0 n lim tp pl na wa oa tr br (T q) PL WA OA TO BI nm M) (hqn : q ≤ n) (hb : rv_pb PL) (h : sp_fish T PL WA OA TO BI nm q (fun f a => ∀ M', rv_F tp pl na wa oa tr br M0 f a M' → Q (some (.inl 0)) G M') (fun PL WA OA TO BI nm q' => q ≤ q' → q' ≤ n → rv_pb PL → ∀ M', rv_S G M0 n lim tp pl na wa oa tr br (T q') PL WA OA TO BI nm M' → Q (some (.inl 1)) G M')) : mj_R mj_tab (d + 5) 40 [.inr (.inr (some pl)), .inr (.inr (some tp))] G M Q := by
  obtain ⟨⟨gtp, gbc, gpl, gna, gta, gba, gwa, goa, gtr, gbr, itr, ibr, r1, r2, r3, r4, r5, r6, r7, r8, rb, rw0, n1, n2, hIw⟩, hT⟩ := id hA
  obtain ⟨b1, b2, b3, b4⟩ := id hb
  unfold sp_fish at h
  refine ⟨Nat.le_of_ble_eq_true rfl, ?_⟩
  show wz (d + 4) mt_X3_readFish.2.2.2.2.1 Q mt_X3_readFish.2.2.2.2.1 [some (.inr (.inr (some pl))), some (.inr (.inr (some tp)))] [] G M _ _
  refine w_aln rfl ?_
  refine w_gi gpl rfl (by decide) rfl ((congrFun hS.2.2.1 13).trans (rfl)) ?_
  refine w_ifeq (fun c1 => ?_) (fun c1 => ?_)
  · skip
    refine w_aln rfl ?_
    refine w_ic ?_
    refine w_pi gpl rfl (by decide) rfl (fun _ => by omega) ?_
    have s2 := hS.ppl (j := 13) (v := 1) hA.1
    refine w_aln rfl ?_
    refine w_aln rfl ?_
    refine w_ic ?_
    refine w_sp ?_
    have h3 := h.1 (by omega)
    clear h
    refine w_cv (st := [.inr (.inr (some pl))]) rfl gtp rfl (Nat.le_of_ble_eq_true rfl) (fun kk h => h) (r_X7_nextNumber (d := d) hA s2 hqn (sp_num.mono h3 (fun fk4 ak4 hfk4 Mk4 Fk4 => ?_) (fun bk4 ck4 ek4 hvk4 Mk4 sk4 => ?_)))
    · skip
      refine w_pi gpl rfl (by decide) rfl (fun q => by cases q) ?_
      have F5 := rv_F.ppl (j := 7) (v := (-1)) (hn_ne gtp gpl (by decide)) Fk4
      refine w_aln rfl ?_
      refine w_gi gpl rfl (by decide) rfl (hn_s) ?_
      refine w_ic ?_
      refine w_cmeq (fun c6 => ?_) (fun c6 => ?_)
      · skip
        refine w_ic ?_
        exact w_iret (fun _ => Or.inl rfl) (hfk4 _ F5)
      · exfalso; omega
    · skip
      refine w_pi gpl rfl (by decide) rfl (fun q => by cases q) ?_
      have s7 := sk4.ppl (j := 7) (v := (T (rv_x T q)).2.2.1) hA.1
      refine w_aln rfl ?_
      refine w_gi gpl rfl (by decide) rfl ((congrFun s7.2.2.1 7).trans (rv_up_s)) ?_
      refine w_ic ?_
      refine w_cmeq (fun c8 => ?_) (fun c8 => ?_)
      · exfalso; omega
      · skip
        refine w_ic ?_
        refine w_goto ?_
        exact w_iret (fun _ => Or.inr rfl) (hvk4 (Nat.le_trans (Nat.le_refl q) (rv_x_ge hA hqn)) (rv_x_le hA hqn) ⟨by rw [show (rv_up (rv_up PL 13 1) 7 ((T (rv_x T q)).2.2.1)) 4 = PL 4 from (rv_up_n (by decide)).trans ((rv_up_n (by decide)))]; exact hb.1, by rw [show (rv_up (rv_up PL 13 1) 7 ((T (rv_x T q)).2.2.1)) 4 = PL 4 from (rv_up_n (by decide)).trans ((rv_up_n (by decide)))]; exact hb.2.1, by rw [show (rv_up (rv_up PL 13 1) 7 ((T (rv_x T q)).2.2.1)) 5 = PL 5 from (rv_up_n (by decide)).trans ((rv_up_n (by decide)))]; exact hb.2.2.1, by rw [show (rv_up (rv_up PL 13 1) 7 ((T (rv_x T q)).2.2.1)) 5 = PL 5 from (rv_up_n (by decide)).trans ((rv_up_n (by decide)))]; exact hb.2.2.2⟩ _ s7)
  · skip
    refine w_aln rfl ?_
    refine w_ic ?_
    have h10 := h.2 (by omega)
    clear h
    refine w_cv (st := []) rfl gtp rfl (Nat.le_of_ble_eq_true rfl) (fun kk h => h) (r_X7_refuse (d := d + 3) hA hS (by decide) (fun MF9 F9 => ?_))
    exact w_iret (fun _ => Or.inl rfl) (h10 _ F9)
set_option maxHeartbeats 8000000 in
theorem r_X3_readPatience {G : mj_G} {M0 M : mj_M} {B : Nat → Int} {n lim tp bc pl na ta ba wa oa : Nat} {tr br : Nat → Nat} {T : Nat → Nat × Nat × Int × List Int × Nat} {PL WA OA : Nat → Int} {TO BI : Nat → Nat → Int} {nm : Nat → List Int} {Q : mj_P} {d q : Nat} (hA : rv_AT G M0 B n lim tp bc pl na ta ba wa oa tr br T) (hS : rv_S G M0 n lim tp pl na wa oa tr br (T q) PL WA OA TO BI nm M) (hqn : q ≤ n) (hb : rv_pb PL) (h : sp_patience T PL WA OA TO BI nm q (fun f a => ∀ M', rv_F tp pl na wa oa tr br M0 f a M' → Q (some (.inl 0)) G M') (fun PL WA OA TO BI nm q' => q ≤ q' → q' ≤ n → rv_pb PL → ∀ M', rv_S G M0 n lim tp pl na wa oa tr br (T q') PL WA OA TO BI nm M' → Q (some (.inl 1)) G M')) : mj_R mj_tab (d + 5) 42 [.inr (.inr (some pl)), .inr (.inr (some tp))] G M Q := by
  obtain ⟨⟨gtp, gbc, gpl, gna, gta, gba, gwa, goa, gtr, gbr, itr, ibr, r1, r2, r3, r4, r5, r6, r7, r8, rb, rw0, n1, n2, hIw⟩, hT⟩ := id hA
  obtain ⟨b1, b2, b3, b4⟩ := id hb
  unfold sp_patience at h
  refine ⟨Nat.le_of_ble_eq_true rfl, ?_⟩
  show wz (d + 4) mt_X3_readPatience.2.2.2.2.1 Q mt_X3_readPatience.2.2.2.2.1 [some (.inr (.inr (some pl))), some (.inr (.inr (some tp)))] [] G M _ _
  refine w_aln rfl ?_
  refine w_gi gpl rfl (by decide) rfl ((congrFun hS.2.2.1 14).trans (rfl)) ?_
  refine w_ifeq (fun c1 => ?_) (fun c1 => ?_)
  · skip
    refine w_aln rfl ?_
    refine w_ic ?_
    refine w_pi gpl rfl (by decide) rfl (fun _ => by omega) ?_
    have s2 := hS.ppl (j := 14) (v := 1) hA.1
    refine w_aln rfl ?_
    refine w_aln rfl ?_
    refine w_ic ?_
    refine w_bp ?_
    have h3 := h.1 (by omega)
    clear h
    refine w_cv (st := [.inr (.inr (some pl))]) rfl gtp rfl (Nat.le_of_ble_eq_true rfl) (fun kk h => h) (r_X7_nextNumber (d := d) hA s2 hqn (sp_num.mono h3 (fun fk4 ak4 hfk4 Mk4 Fk4 => ?_) (fun bk4 ck4 ek4 hvk4 Mk4 sk4 => ?_)))
    · skip
      refine w_pi gpl rfl (by decide) rfl (fun q => by cases q) ?_
      have F5 := rv_F.ppl (j := 8) (v := (-1)) (hn_ne gtp gpl (by decide)) Fk4
      refine w_aln rfl ?_
      refine w_gi gpl rfl (by decide) rfl (hn_s) ?_
      refine w_ic ?_
      refine w_cmeq (fun c6 => ?_) (fun c6 => ?_)
      · skip
        refine w_ic ?_
        exact w_iret (fun _ => Or.inl rfl) (hfk4 _ F5)
      · exfalso; omega
    · skip
      refine w_pi gpl rfl (by decide) rfl (fun q => by cases q) ?_
      have s7 := sk4.ppl (j := 8) (v := (T (rv_x T q)).2.2.1) hA.1
      refine w_aln rfl ?_
      refine w_gi gpl rfl (by decide) rfl ((congrFun s7.2.2.1 8).trans (rv_up_s)) ?_
      refine w_ic ?_
      refine w_cmeq (fun c8 => ?_) (fun c8 => ?_)
      · exfalso; omega
      · skip
        refine w_ic ?_
        refine w_goto ?_
        exact w_iret (fun _ => Or.inr rfl) (hvk4 (Nat.le_trans (Nat.le_refl q) (rv_x_ge hA hqn)) (rv_x_le hA hqn) ⟨by rw [show (rv_up (rv_up PL 14 1) 8 ((T (rv_x T q)).2.2.1)) 4 = PL 4 from (rv_up_n (by decide)).trans ((rv_up_n (by decide)))]; exact hb.1, by rw [show (rv_up (rv_up PL 14 1) 8 ((T (rv_x T q)).2.2.1)) 4 = PL 4 from (rv_up_n (by decide)).trans ((rv_up_n (by decide)))]; exact hb.2.1, by rw [show (rv_up (rv_up PL 14 1) 8 ((T (rv_x T q)).2.2.1)) 5 = PL 5 from (rv_up_n (by decide)).trans ((rv_up_n (by decide)))]; exact hb.2.2.1, by rw [show (rv_up (rv_up PL 14 1) 8 ((T (rv_x T q)).2.2.1)) 5 = PL 5 from (rv_up_n (by decide)).trans ((rv_up_n (by decide)))]; exact hb.2.2.2⟩ _ s7)
  · skip
    refine w_aln rfl ?_
    refine w_ic ?_
    have h10 := h.2 (by omega)
    clear h
    refine w_cv (st := []) rfl gtp rfl (Nat.le_of_ble_eq_true rfl) (fun kk h => h) (r_X7_refuse (d := d + 3) hA hS (by decide) (fun MF9 F9 => ?_))
    exact w_iret (fun _ => Or.inl rfl) (h10 _ F9)
end
section
/-! ===== the class's readTown (laid by a program) ===== -/
set_option maxHeartbeats 8000000 in
theorem r_X3_readTown {G : mj_G} {M0 M : mj_M} {B : Nat → Int} {n lim tp bc pl na ta ba wa oa : Nat} {tr br : Nat → Nat} {T : Nat → Nat × Nat × Int × List Int × Nat} {PL WA OA : Nat → Int} {TO BI : Nat → Nat → Int} {nm : Nat → List Int} {Q : mj_P} {d q : Nat} (hA : rv_AT G M0 B n lim tp bc pl na ta ba wa oa tr br T) (hS : rv_S G M0 n lim tp pl na wa oa tr br (T q) PL WA OA TO BI nm M) (hqn : q ≤ n) (hb : rv_pb PL) (h : sp_town T PL WA OA TO BI nm q (fun f a => ∀ M', rv_F tp pl na wa oa tr br M0 f a M' → Q (some (.inl 0)) G M') (fun PL WA OA TO BI nm q' => q ≤ q' → q' ≤ n → rv_pb PL → ∀ M', rv_S G M0 n lim tp pl na wa oa tr br (T q') PL WA OA TO BI nm M' → Q (some (.inl 1)) G M')) : mj_R mj_tab (d + 5) 45 [.inr (.inr (some pl)), .inr (.inr (some tp))] G M Q := by
  obtain ⟨⟨gtp, gbc, gpl, gna, gta, gba, gwa, goa, gtr, gbr, itr, ibr, r1, r2, r3, r4, r5, r6, r7, r8, rb, rw0, n1, n2, hIw⟩, hT⟩ := id hA
  obtain ⟨b1, b2, b3, b4⟩ := id hb
  unfold sp_town at h
  refine ⟨Nat.le_of_ble_eq_true rfl, ?_⟩
  show wz (d + 4) mt_X3_readTown.2.2.2.2.1 Q mt_X3_readTown.2.2.2.2.1 [some (.inr (.inr (some pl))), some (.inr (.inr (some tp))), none, none, none] [] G M _ _
  refine w_aln rfl ?_
  refine w_gi gpl rfl (by decide) rfl ((congrFun hS.2.2.1 4).trans (rfl)) ?_
  refine w_bp ?_
  refine w_cmlt (fun c1 => ?_) (fun c1 => ?_)
  · skip
    refine w_aln rfl ?_
    refine w_cv (st := []) rfl gtp rfl (Nat.le_of_ble_eq_true rfl) (fun kk h => h) (r_adv2 (d := d + 1) hA hS hqn (fun Ms2 s2 => ?_))
    refine w_aln rfl ?_
    have h3 := h.2 (by omega)
    clear h
    refine w_cv (st := []) rfl gtp rfl (Nat.le_of_ble_eq_true rfl) (fun kk h => h) (r_X7_nameHere (d := d + 2) hA s2 (rv_x_le hA hqn) (sp_nam.mono h3 (fun fk4 ak4 hfk4 Mk4 Fk4 => ?_) (fun bk4 ck4 hvk4 => ?_)))
    · skip
      refine w_ifne (fun c5 => ?_) (fun c5 => ?_)
      · exfalso; omega
      · skip
        refine w_ic ?_
        exact w_iret (fun _ => Or.inl rfl) (hfk4 _ Fk4)
    · skip
      refine w_ifne (fun c6 => ?_) (fun c6 => ?_)
      · skip
        refine w_aln rfl ?_
        refine w_aln rfl ?_
        refine w_gl gtp rfl (by decide) rfl ((s2.2.1.2.2.2.2.2.1 (by omega)).1) ?_
        refine w_cv (st := []) rfl gpl rfl (Nat.le_of_ble_eq_true rfl) (fun kk h => h) (r_X3_find (d := d + 3) hA s2 hb (rv_x_wo hA (rv_x_le hA hqn) (by omega)) (sp_find.mono hvk4 (fun rk7 lk7 ck7 mk7 hvk7 => ?_) (fun mk7 hvk7 => ?_)))
        · skip
          refine w_ic ?_
          refine w_cmeq (fun c8 => ?_) (fun c8 => ?_)
          · exfalso; omega
          · skip
            refine w_aln rfl ?_
            refine w_ic ?_
            have h10 := hvk7.2 (by omega)
            clear hvk7
            refine w_cv (st := []) rfl gtp rfl (Nat.le_of_ble_eq_true rfl) (fun kk h => h) (r_X7_refuse (d := d + 3) hA s2 (by decide) (fun MF9 F9 => ?_))
            exact w_iret (fun _ => Or.inl rfl) (h10 _ F9)
        · skip
          refine w_ic ?_
          refine w_cmeq (fun c11 => ?_) (fun c11 => ?_)
          · skip
            refine w_aln rfl ?_
            refine w_gr gpl rfl (by decide) rfl (s2.rr r2 (by decide)) ?_
            refine w_aln rfl ?_
            refine w_gi gpl rfl (by decide) rfl ((congrFun s2.2.2.1 4).trans (rfl)) ?_
            refine w_aln rfl ?_
            refine w_gl gtp rfl (by decide) rfl ((s2.2.1.2.2.2.2.2.1 (by omega)).1) ?_
            refine w_last gna rfl (by decide) (by show (0 : Int) ≤ PL 4; omega) (by show PL 4 < ((8 : Nat) : Int); omega) ?_
            have s12 := s2.pna (q := (PL 4).toNat) (w := (T (rv_x T q)).2.2.2.1) hA.1 (rv_x_wo hA (rv_x_le hA hqn) (by omega))
            refine w_ic ?_
            refine w_isn ?_
            show wz _ _ _ _ [some (.inr (.inr (some pl))), some (.inr (.inr (some tp))), some (.inl 0), none, none] _ _ _ _ _
            refine w_iln rfl ?_
            refine w_ic ?_
            refine w_cmgt (fun c13 => ?_) (fun c13 => ?_)
            · exfalso; omega
            · skip
              refine w_iln rfl ?_
              refine w_ic ?_
              refine w_cmeq (fun c14 => ?_) (fun c14 => ?_)
              · exfalso; omega
              · skip
                refine w_iln rfl ?_
                refine w_ic ?_
                refine w_cmne (fun c15 => ?_) (fun c15 => ?_)
                · skip
                  refine w_ic ?_
                  refine w_isn ?_
                  show wz _ _ _ _ [some (.inr (.inr (some pl))), some (.inr (.inr (some tp))), some (.inl 0), some (.inl 0), none] _ _ _ _ _
                  refine w_aln rfl ?_
                  refine w_ic ?_
                  refine w_iln rfl ?_
                  refine w_ifeq (fun c16 => ?_) (fun c16 => ?_)
                  · skip
                    refine w_bp ?_
                    have h17 := hvk7.1 (by omega)
                    clear hvk7
                    refine w_cv (st := []) rfl gtp rfl (Nat.le_of_ble_eq_true rfl) (fun kk h => h) (r_X7_nextNumber (d := d) hA s12 (rv_x_le hA hqn) (sp_num.mono h17 (fun fk18 ak18 hfk18 Mk18 Fk18 => ?_) (fun bk18 ck18 ek18 hvk18 Mk18 sk18 => ?_)))
                    · skip
                      refine w_is ?_
                      show wz _ _ _ _ [some (.inr (.inr (some pl))), some (.inr (.inr (some tp))), some (.inl 0), some (.inl 0), some (.inl (-1))] _ _ _ _ _
                      refine w_il rfl ?_
                      refine w_ic ?_
                      refine w_cmne (fun c19 => ?_) (fun c19 => ?_)
                      · exfalso; omega
                      · skip
                        refine w_ic ?_
                        exact w_iret (fun _ => Or.inl rfl) (hfk18 _ Fk18)
                    · skip
                      refine w_is ?_
                      show wz _ _ _ _ [some (.inr (.inr (some pl))), some (.inr (.inr (some tp))), some (.inl 0), some (.inl 0), some (.inl ((T (rv_x T (rv_x T q))).2.2.1))] _ _ _ _ _
                      refine w_il rfl ?_
                      refine w_ic ?_
                      refine w_cmne (fun c20 => ?_) (fun c20 => ?_)
                      · skip
                        refine w_aln rfl ?_
                        refine w_gr gpl rfl (by decide) rfl (sk18.rr r3 (by decide)) ?_
                        refine w_aln rfl ?_
                        refine w_gi gpl rfl (by decide) rfl ((congrFun sk18.2.2.1 4).trans (rfl)) ?_
                        refine w_aald gta rfl (by show (0 : Int) ≤ PL 4; omega) (by show PL 4 < ((8 : Nat) : Int); omega) (sk18.rq gta gtp (by decide) (r7 _ (by omega))) ?_
                        refine w_iln rfl ?_
                        refine w_il rfl ?_
                        refine w_iast (gtr ((PL 4).toNat) (by omega)) rfl (by decide) (by show (0 : Int) ≤ 0; omega) (by show 0 < ((9 : Nat) : Int); omega) ?_
                        have s21 := sk18.ptr (j := (0 : Int).toNat) (q := ((PL 4).toNat)) (v := (T (rv_x T (rv_x T q))).2.2.1) hA.1 (by omega)
                        refine w_ii rfl ⟨by show (-2147483648 : Int) ≤ 1; omega, by show 1 < (2147483648 : Int); omega⟩ ?_
                        show wz _ _ _ _ [some (.inr (.inr (some pl))), some (.inr (.inr (some tp))), some (.inl 1), some (.inl 0), some (.inl ((T (rv_x T (rv_x T q))).2.2.1))] _ _ _ _ _
                        refine w_goto ?_
                        refine w_iln rfl ?_
                        refine w_ic ?_
                        refine w_cmgt (fun c22 => ?_) (fun c22 => ?_)
                        · exfalso; omega
                        · skip
                          refine w_iln rfl ?_
                          refine w_ic ?_
                          refine w_cmeq (fun c23 => ?_) (fun c23 => ?_)
                          · skip
                            refine w_ic ?_
                            refine w_goto ?_
                            refine w_isn ?_
                            show wz _ _ _ _ [some (.inr (.inr (some pl))), some (.inr (.inr (some tp))), some (.inl 1), some (.inl 1), some (.inl ((T (rv_x T (rv_x T q))).2.2.1))] _ _ _ _ _
                            refine w_aln rfl ?_
                            refine w_ic ?_
                            refine w_iln rfl ?_
                            refine w_ifeq (fun c24 => ?_) (fun c24 => ?_)
                            · exfalso; omega
                            · skip
                              refine w_sp ?_
                              refine w_goto ?_
                              refine w_cv (st := []) rfl gtp rfl (Nat.le_of_ble_eq_true rfl) (fun kk h => h) (r_X7_nextNumber (d := d) hA s21 (rv_x_le hA (rv_x_le hA hqn)) (sp_num.mono hvk18 (fun fk25 ak25 hfk25 Mk25 Fk25 => ?_) (fun bk25 ck25 ek25 hvk25 Mk25 sk25 => ?_)))
                              · skip
                                refine w_is ?_
                                show wz _ _ _ _ [some (.inr (.inr (some pl))), some (.inr (.inr (some tp))), some (.inl 1), some (.inl 1), some (.inl (-1))] _ _ _ _ _
                                refine w_il rfl ?_
                                refine w_ic ?_
                                refine w_cmne (fun c26 => ?_) (fun c26 => ?_)
                                · exfalso; omega
                                · skip
                                  refine w_ic ?_
                                  exact w_iret (fun _ => Or.inl rfl) (hfk25 _ Fk25)
                              · skip
                                refine w_is ?_
                                show wz _ _ _ _ [some (.inr (.inr (some pl))), some (.inr (.inr (some tp))), some (.inl 1), some (.inl 1), some (.inl ((T (rv_x T (rv_x T (rv_x T q)))).2.2.1))] _ _ _ _ _
                                refine w_il rfl ?_
                                refine w_ic ?_
                                refine w_cmne (fun c27 => ?_) (fun c27 => ?_)
                                · skip
                                  refine w_aln rfl ?_
                                  refine w_gr gpl rfl (by decide) rfl (sk25.rr r3 (by decide)) ?_
                                  refine w_aln rfl ?_
                                  refine w_gi gpl rfl (by decide) rfl ((congrFun sk25.2.2.1 4).trans (rfl)) ?_
                                  refine w_aald gta rfl (by show (0 : Int) ≤ PL 4; omega) (by show PL 4 < ((8 : Nat) : Int); omega) (sk25.rq gta gtp (by decide) (r7 _ (by omega))) ?_
                                  refine w_iln rfl ?_
                                  refine w_il rfl ?_
                                  refine w_iast (gtr ((PL 4).toNat) (by omega)) rfl (by decide) (by show (0 : Int) ≤ 1; omega) (by show 1 < ((9 : Nat) : Int); omega) ?_
                                  have s28 := sk25.ptr (j := (1 : Int).toNat) (q := ((PL 4).toNat)) (v := (T (rv_x T (rv_x T (rv_x T q)))).2.2.1) hA.1 (by omega)
                                  refine w_ii rfl ⟨by show (-2147483648 : Int) ≤ 2; omega, by show 2 < (2147483648 : Int); omega⟩ ?_
                                  show wz _ _ _ _ [some (.inr (.inr (some pl))), some (.inr (.inr (some tp))), some (.inl 2), some (.inl 1), some (.inl ((T (rv_x T (rv_x T (rv_x T q)))).2.2.1))] _ _ _ _ _
                                  refine w_goto ?_
                                  refine w_iln rfl ?_
                                  refine w_ic ?_
                                  refine w_cmgt (fun c29 => ?_) (fun c29 => ?_)
                                  · exfalso; omega
                                  · skip
                                    refine w_iln rfl ?_
                                    refine w_ic ?_
                                    refine w_cmeq (fun c30 => ?_) (fun c30 => ?_)
                                    · exfalso; omega
                                    · skip
                                      refine w_iln rfl ?_
                                      refine w_ic ?_
                                      refine w_cmne (fun c31 => ?_) (fun c31 => ?_)
                                      · skip
                                        refine w_ic ?_
                                        refine w_isn ?_
                                        show wz _ _ _ _ [some (.inr (.inr (some pl))), some (.inr (.inr (some tp))), some (.inl 2), some (.inl 0), some (.inl ((T (rv_x T (rv_x T (rv_x T q)))).2.2.1))] _ _ _ _ _
                                        refine w_aln rfl ?_
                                        refine w_ic ?_
                                        refine w_iln rfl ?_
                                        refine w_ifeq (fun c32 => ?_) (fun c32 => ?_)
                                        · skip
                                          refine w_bp ?_
                                          refine w_cv (st := []) rfl gtp rfl (Nat.le_of_ble_eq_true rfl) (fun kk h => h) (r_X7_nextNumber (d := d) hA s28 (rv_x_le hA (rv_x_le hA (rv_x_le hA hqn))) (sp_num.mono hvk25 (fun fk33 ak33 hfk33 Mk33 Fk33 => ?_) (fun bk33 ck33 ek33 hvk33 Mk33 sk33 => ?_)))
                                          · skip
                                            refine w_is ?_
                                            show wz _ _ _ _ [some (.inr (.inr (some pl))), some (.inr (.inr (some tp))), some (.inl 2), some (.inl 0), some (.inl (-1))] _ _ _ _ _
                                            refine w_il rfl ?_
                                            refine w_ic ?_
                                            refine w_cmne (fun c34 => ?_) (fun c34 => ?_)
                                            · exfalso; omega
                                            · skip
                                              refine w_ic ?_
                                              exact w_iret (fun _ => Or.inl rfl) (hfk33 _ Fk33)
                                          · skip
                                            refine w_is ?_
                                            show wz _ _ _ _ [some (.inr (.inr (some pl))), some (.inr (.inr (some tp))), some (.inl 2), some (.inl 0), some (.inl ((T (rv_x T (rv_x T (rv_x T (rv_x T q))))).2.2.1))] _ _ _ _ _
                                            refine w_il rfl ?_
                                            refine w_ic ?_
                                            refine w_cmne (fun c35 => ?_) (fun c35 => ?_)
                                            · skip
                                              refine w_aln rfl ?_
                                              refine w_gr gpl rfl (by decide) rfl (sk33.rr r3 (by decide)) ?_
                                              refine w_aln rfl ?_
                                              refine w_gi gpl rfl (by decide) rfl ((congrFun sk33.2.2.1 4).trans (rfl)) ?_
                                              refine w_aald gta rfl (by show (0 : Int) ≤ PL 4; omega) (by show PL 4 < ((8 : Nat) : Int); omega) (sk33.rq gta gtp (by decide) (r7 _ (by omega))) ?_
                                              refine w_iln rfl ?_
                                              refine w_il rfl ?_
                                              refine w_iast (gtr ((PL 4).toNat) (by omega)) rfl (by decide) (by show (0 : Int) ≤ 2; omega) (by show 2 < ((9 : Nat) : Int); omega) ?_
                                              have s36 := sk33.ptr (j := (2 : Int).toNat) (q := ((PL 4).toNat)) (v := (T (rv_x T (rv_x T (rv_x T (rv_x T q))))).2.2.1) hA.1 (by omega)
                                              refine w_ii rfl ⟨by show (-2147483648 : Int) ≤ 3; omega, by show 3 < (2147483648 : Int); omega⟩ ?_
                                              show wz _ _ _ _ [some (.inr (.inr (some pl))), some (.inr (.inr (some tp))), some (.inl 3), some (.inl 0), some (.inl ((T (rv_x T (rv_x T (rv_x T (rv_x T q))))).2.2.1))] _ _ _ _ _
                                              refine w_goto ?_
                                              refine w_iln rfl ?_
                                              refine w_ic ?_
                                              refine w_cmgt (fun c37 => ?_) (fun c37 => ?_)
                                              · exfalso; omega
                                              · skip
                                                refine w_iln rfl ?_
                                                refine w_ic ?_
                                                refine w_cmeq (fun c38 => ?_) (fun c38 => ?_)
                                                · exfalso; omega
                                                · skip
                                                  refine w_iln rfl ?_
                                                  refine w_ic ?_
                                                  refine w_cmne (fun c39 => ?_) (fun c39 => ?_)
                                                  · exfalso; omega
                                                  · skip
                                                    refine w_ic ?_
                                                    refine w_goto ?_
                                                    refine w_isn ?_
                                                    show wz _ _ _ _ [some (.inr (.inr (some pl))), some (.inr (.inr (some tp))), some (.inl 3), some (.inl 1), some (.inl ((T (rv_x T (rv_x T (rv_x T (rv_x T q))))).2.2.1))] _ _ _ _ _
                                                    refine w_aln rfl ?_
                                                    refine w_ic ?_
                                                    refine w_iln rfl ?_
                                                    refine w_ifeq (fun c40 => ?_) (fun c40 => ?_)
                                                    · exfalso; omega
                                                    · skip
                                                      refine w_sp ?_
                                                      refine w_goto ?_
                                                      refine w_cv (st := []) rfl gtp rfl (Nat.le_of_ble_eq_true rfl) (fun kk h => h) (r_X7_nextNumber (d := d) hA s36 (rv_x_le hA (rv_x_le hA (rv_x_le hA (rv_x_le hA hqn)))) (sp_num.mono hvk33 (fun fk41 ak41 hfk41 Mk41 Fk41 => ?_) (fun bk41 ck41 ek41 hvk41 Mk41 sk41 => ?_)))
                                                      · skip
                                                        refine w_is ?_
                                                        show wz _ _ _ _ [some (.inr (.inr (some pl))), some (.inr (.inr (some tp))), some (.inl 3), some (.inl 1), some (.inl (-1))] _ _ _ _ _
                                                        refine w_il rfl ?_
                                                        refine w_ic ?_
                                                        refine w_cmne (fun c42 => ?_) (fun c42 => ?_)
                                                        · exfalso; omega
                                                        · skip
                                                          refine w_ic ?_
                                                          exact w_iret (fun _ => Or.inl rfl) (hfk41 _ Fk41)
                                                      · skip
                                                        refine w_is ?_
                                                        show wz _ _ _ _ [some (.inr (.inr (some pl))), some (.inr (.inr (some tp))), some (.inl 3), some (.inl 1), some (.inl ((T (rv_x T (rv_x T (rv_x T (rv_x T (rv_x T q)))))).2.2.1))] _ _ _ _ _
                                                        refine w_il rfl ?_
                                                        refine w_ic ?_
                                                        refine w_cmne (fun c43 => ?_) (fun c43 => ?_)
                                                        · skip
                                                          refine w_aln rfl ?_
                                                          refine w_gr gpl rfl (by decide) rfl (sk41.rr r3 (by decide)) ?_
                                                          refine w_aln rfl ?_
                                                          refine w_gi gpl rfl (by decide) rfl ((congrFun sk41.2.2.1 4).trans (rfl)) ?_
                                                          refine w_aald gta rfl (by show (0 : Int) ≤ PL 4; omega) (by show PL 4 < ((8 : Nat) : Int); omega) (sk41.rq gta gtp (by decide) (r7 _ (by omega))) ?_
                                                          refine w_iln rfl ?_
                                                          refine w_il rfl ?_
                                                          refine w_iast (gtr ((PL 4).toNat) (by omega)) rfl (by decide) (by show (0 : Int) ≤ 3; omega) (by show 3 < ((9 : Nat) : Int); omega) ?_
                                                          have s44 := sk41.ptr (j := (3 : Int).toNat) (q := ((PL 4).toNat)) (v := (T (rv_x T (rv_x T (rv_x T (rv_x T (rv_x T q)))))).2.2.1) hA.1 (by omega)
                                                          refine w_ii rfl ⟨by show (-2147483648 : Int) ≤ 4; omega, by show 4 < (2147483648 : Int); omega⟩ ?_
                                                          show wz _ _ _ _ [some (.inr (.inr (some pl))), some (.inr (.inr (some tp))), some (.inl 4), some (.inl 1), some (.inl ((T (rv_x T (rv_x T (rv_x T (rv_x T (rv_x T q)))))).2.2.1))] _ _ _ _ _
                                                          refine w_goto ?_
                                                          refine w_iln rfl ?_
                                                          refine w_ic ?_
                                                          refine w_cmgt (fun c45 => ?_) (fun c45 => ?_)
                                                          · skip
                                                            refine w_aln rfl ?_
                                                            refine w_dupr ?_
                                                            refine w_gi gpl rfl (by decide) rfl ((congrFun s44.2.2.1 4).trans (rfl)) ?_
                                                            refine w_ic ?_
                                                            refine w_add ⟨by show (-2147483648 : Int) ≤ (PL 4) + 1; omega, by show (PL 4) + 1 < (2147483648 : Int); omega⟩ ?_
                                                            refine w_pi gpl rfl (by decide) rfl (fun q => by cases q) ?_
                                                            have s46 := s44.ppl (j := 4) (v := (PL 4) + 1) hA.1
                                                            refine w_ic ?_
                                                            exact w_iret (fun _ => Or.inr rfl) (hvk41 (Nat.le_trans (Nat.le_trans (Nat.le_trans (Nat.le_trans (Nat.le_trans (Nat.le_refl q) (rv_x_ge hA hqn)) (rv_x_ge hA (rv_x_le hA hqn))) (rv_x_ge hA (rv_x_le hA (rv_x_le hA hqn)))) (rv_x_ge hA (rv_x_le hA (rv_x_le hA (rv_x_le hA hqn))))) (rv_x_ge hA (rv_x_le hA (rv_x_le hA (rv_x_le hA (rv_x_le hA hqn)))))) (rv_x_le hA (rv_x_le hA (rv_x_le hA (rv_x_le hA (rv_x_le hA hqn))))) ⟨by rw [show (rv_up PL 4 ((PL 4) + 1)) 4 = (PL 4) + 1 from rv_up_s]; omega, by rw [show (rv_up PL 4 ((PL 4) + 1)) 4 = (PL 4) + 1 from rv_up_s]; omega, by rw [show (rv_up PL 4 ((PL 4) + 1)) 5 = PL 5 from (rv_up_n (by decide))]; omega, by rw [show (rv_up PL 4 ((PL 4) + 1)) 5 = PL 5 from (rv_up_n (by decide))]; omega⟩ _ s46)
                                                          · exfalso; omega
                                                        · exfalso; omega
                                            · exfalso; omega
                                        · exfalso; omega
                                      · exfalso; omega
                                · exfalso; omega
                          · exfalso; omega
                      · exfalso; omega
                  · exfalso; omega
                · exfalso; omega
          · exfalso; omega
      · exfalso; omega
  · skip
    refine w_aln rfl ?_
    refine w_ic ?_
    have h48 := h.1 (by omega)
    clear h
    refine w_cv (st := []) rfl gtp rfl (Nat.le_of_ble_eq_true rfl) (fun kk h => h) (r_X7_refuse (d := d + 3) hA hS (by decide) (fun MF47 F47 => ?_))
    exact w_iret (fun _ => Or.inl rfl) (h48 _ F47)
end
