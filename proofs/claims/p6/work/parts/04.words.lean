/-! ===== the words of the tables that go over to a callee ===== -/
def mj_tb : List Cond := lw_tbl.filter goodWord
theorem mj_tb_good : GoodIn lw_tbl mj_tb := fun w h => ⟨(List.mem_filter.mp h).1, good_of_word (List.mem_filter.mp h).2⟩
theorem mj_tb_in {i : Nat} {w : Cond} (h : lw_tbl[i]? = some w) (hg : goodWord w = true) : w ∈ mj_tb := List.mem_filter.mpr ⟨List.mem_of_getElem? h, hg⟩
theorem mj_lay0 : ∀ w ∈ u_ws RX0 TX0 19, w ∈ mj_tb := by decide +kernel
theorem mj_lay1 : ∀ w ∈ u_ws RX1 TX1 4, w ∈ mj_tb := by decide +kernel
theorem mj_lay2 : ∀ w ∈ u_ws RX2 TX2 8, w ∈ mj_tb := by decide +kernel
theorem mj_lay3 : ∀ w ∈ u_ws RX3 TX3 15, w ∈ mj_tb := by decide +kernel
theorem mj_lay4 : ∀ w ∈ u_ws RX4 TX4 4, w ∈ mj_tb := by decide +kernel
theorem mj_lay5 : ∀ w ∈ u_ws RX5 TX5 6, w ∈ mj_tb := by decide +kernel
theorem mj_lay6 : ∀ w ∈ u_ws RX6 TX6 4, w ∈ mj_tb := by decide +kernel
theorem mj_lay7 : ∀ w ∈ u_ws RX7 TX7 12, w ∈ mj_tb := by decide +kernel
theorem mj_lay8 : ∀ w ∈ u_ws RX8 TX8 4, w ∈ mj_tb := by decide +kernel
theorem mj_lay9 : ∀ w ∈ u_ws RX10 TX10 15, w ∈ mj_tb := by decide +kernel
theorem mj_lay10 : ∀ w ∈ u_ws RX11 TX11 14, w ∈ mj_tb := by decide +kernel
theorem mj_lay11 : ∀ w ∈ u_ws RX12 TX12 62, w ∈ mj_tb := by decide +kernel
