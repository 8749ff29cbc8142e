/-! ===== the methods (written by wip/tools/checks.py) ===== -/
theorem gK_337 : gdK 337 = true := by decide +kernel
theorem gH_337 : gdH 337 = true := by decide +kernel
