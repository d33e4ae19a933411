/-! ===== the claim ===== -/
theorem i_vc : Claimed_1_1 ∧ Claimed_1_2 := i_vc_open (fun _ hV => ⟨tie_order hV, tie_norm hV, tie_room2 hV, tie_base hV, tie_under hV, tie_gap hV, tie_times hV, tie_added hV, tie_orderOf hV, tie_same hV, tie_log hV, tie_torsion2 hV, tie_code hV, tie_sent hV, tie_mended hV⟩)
