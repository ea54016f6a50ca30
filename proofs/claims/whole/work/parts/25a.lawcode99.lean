set_option maxRecDepth 1000000 in
theorem q_lw_all : m_Lw_law.2.2.2.2.2 = q_lw0 ++ (q_lw1 ++ (q_lw2 ++ (q_lw3 ++ (q_lw4 ++ (q_lw5 ++ (q_lw6 ++ (q_lw7 ++ (q_lw8 ++ (q_lw9 ++ (q_lw10 ++ (q_lw11))))))))))) := rfl
theorem q_lw_ok : ∃ ps, q_rsk "ReedSheetsLaw" "law" code m_Lw_law.2.2.2.2.2 ps = true := ⟨_, by rw [q_lw_all]; exact q_rsk_app rfl q_lc0 (q_rsk_app rfl q_lc1 (q_rsk_app rfl q_lc2 (q_rsk_app rfl q_lc3 (q_rsk_app rfl q_lc4 (q_rsk_app rfl q_lc5 (q_rsk_app rfl q_lc6 (q_rsk_app rfl q_lc7 (q_rsk_app rfl q_lc8 (q_rsk_app rfl q_lc9 (q_rsk_app rfl q_lc10 (q_lc11)))))))))))⟩
theorem q_lw_hh : q_hchk m_Lw_law = true := rfl
