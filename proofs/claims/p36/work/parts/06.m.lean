section
/-! ===== the law's own instructions (written by wip/tools/lawpart.py) ===== -/
noncomputable def g_ld : List (List XIn) := f_grp 256 0 (f_walk code 4096 code.data.toList 0)
theorem g_lawK : (chS (f_tab g_ld) (q_lk lk_11) (m_P g_M) (m_R g_M) g_THR (q_lk pn_11) [1] true (fun _ => none) bb_332 [5, 0, 0, 0, 0, 0, 0] [] [] 0).map (fun r => r.2.2) = some (false, [], []) := by decide +kernel
end
