/-! the words that may be handed on, each by its place -/
def jz_tb : List Cond := lw_tbl.filter goodWord
theorem jz_mem {w : Cond} (i : Nat) (h : lw_tbl[i]? = some w) (hg : goodWord w = true) : w ∈ jz_tb := List.mem_filter.mpr ⟨List.mem_of_getElem? h, hg⟩
theorem jz_tb_in {w : Cond} (h : w ∈ jz_tb) : w ∈ lw_tbl := (List.mem_filter.mp h).1
theorem jz_good {w : Cond} (h : w ∈ jz_tb) : (w.onTables && w.keeps) = true ∨ ∃ ty, w = .arrayClass ty := good_of_word (List.mem_filter.mp h).2
/-- the words that a contract hands on of itself -/
def jz_nest : List Cond := [Cond.methodLinkNest RX8 9 yX5_init RX8, Cond.methodLinkNest RX5 30 yX3_init RX8, Cond.methodLinkNest RX0 48 yX2_init RX8, Cond.methodLinkNest RX8 18 yX3_init RX8, Cond.methodLinkNest RX8 50 yX7_init RX8, Cond.methodLinkNest RX8 57 yX6_init RX8, Cond.methodLinkNest RX0 97 yX8_lagInTheDark RX8, Cond.methodLinkNest RX7 29 yX8_lagInTheDark RX8]
