/-- the words that may be carried into a callee, and those of nest mates -/
def gTab : List Cond := lw_tbl.filter goodWord
def gIsN : Cond → Bool
  | .fieldLinkNest _ _ _ _ _ _ => true
  | .methodLinkNest _ _ _ _ => true
  | _ => false
def gNest : List Cond := lw_tbl.filter gIsN
theorem gTab_good {w : Cond} (h : w ∈ gTab) : w ∈ lw_tbl ∧ goodWord w = true := List.mem_filter.mp h
theorem gTab_in {w : Cond} (h : w ∈ lw_tbl) (hg : goodWord w = true) : w ∈ gTab := List.mem_filter.mpr ⟨h, hg⟩
theorem gNest_in {w : Cond} (h : w ∈ lw_tbl) (hg : gIsN w = true) : w ∈ gNest := List.mem_filter.mpr ⟨h, hg⟩
def gLk (own : String) (idx k : Nat) (r : vw_C) : Prop := Cond.fieldLink own idx (r.2.1 k).1 (r.2.1 k).2.1 (r.2.1 k).2.2.1 ∈ gTab ∨ ∃ host, Cond.fieldLinkNest own idx (r.2.1 k).1 (r.2.1 k).2.1 (r.2.1 k).2.2.1 host ∈ gNest
theorem gTb_1 : ∀ w ∈ tables_1_1, w ∈ lw_tbl := fun _ h => List.mem_append_right _ (List.mem_append_left _ h)
theorem gTb_2 : ∀ w ∈ tables_1_2, w ∈ lw_tbl := fun _ h => List.mem_append_right _ (List.mem_append_right _ (List.mem_append_left _ h))
theorem gTb_3 : ∀ w ∈ tables_1_3, w ∈ lw_tbl := fun _ h => List.mem_append_right _ (List.mem_append_right _ (List.mem_append_right _ (List.mem_append_left _ h)))
theorem gTb_4 : ∀ w ∈ tables_1_4, w ∈ lw_tbl := fun _ h => List.mem_append_right _ (List.mem_append_right _ (List.mem_append_right _ (List.mem_append_right _ (List.mem_append_left _ h))))
theorem gTb_5 : ∀ w ∈ tables_1_5, w ∈ lw_tbl := fun _ h => List.mem_append_right _ (List.mem_append_right _ (List.mem_append_right _ (List.mem_append_right _ (List.mem_append_right _ (List.mem_append_left _ h)))))
theorem gTb_6 : ∀ w ∈ tables_1_6, w ∈ lw_tbl := fun _ h => List.mem_append_right _ (List.mem_append_right _ (List.mem_append_right _ (List.mem_append_right _ (List.mem_append_right _ (List.mem_append_right _ (List.mem_append_left _ h))))))
theorem gTb_7 : ∀ w ∈ tables_1_7, w ∈ lw_tbl := fun _ h => List.mem_append_right _ (List.mem_append_right _ (List.mem_append_right _ (List.mem_append_right _ (List.mem_append_right _ (List.mem_append_right _ (List.mem_append_right _ (h)))))))
theorem gIn_0 : ∀ w ∈ u_ws RX0 TX0 14, w ∈ gTab := by decide +kernel
theorem gIn_1 : ∀ w ∈ u_ws RX1 TX1 10, w ∈ gTab := by decide +kernel
theorem gIn_2 : ∀ w ∈ u_ws RX2 TX2 5, w ∈ gTab := by decide +kernel
theorem gIn_3 : ∀ w ∈ u_ws RX3 TX3 4, w ∈ gTab := by decide +kernel
theorem gIn_4 : ∀ w ∈ u_ws RX4 TX4 17, w ∈ gTab := by decide +kernel
theorem gIn_5 : ∀ w ∈ u_ws RX5 TX5 13, w ∈ gTab := by decide +kernel
theorem gIn_6 : ∀ w ∈ u_ws RX6 TX6 15, w ∈ gTab := by decide +kernel
theorem gIn_7 : ∀ w ∈ u_ws RX7 TX7 2, w ∈ gTab := by decide +kernel
theorem gIn_8 : ∀ w ∈ u_ws RX8 TX8 11, w ∈ gTab := by decide +kernel
theorem gIn_9 : ∀ w ∈ u_ws RX9 TX9 4, w ∈ gTab := by decide +kernel
theorem gIn_10 : ∀ w ∈ u_ws RX10 TX10 12, w ∈ gTab := by decide +kernel
theorem gIn_11 : ∀ w ∈ u_ws RX11 TX11 87, w ∈ gTab := by decide +kernel
