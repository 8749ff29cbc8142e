/-! ===== the methods (written by wip/tools/checks.py) ===== -/
theorem gK_48 : gdK 48 = true := by decide +kernel
theorem gH_48 : gdH 48 = true := gH_of rfl (by decide +kernel)
theorem gK_49 : gdK 49 = true := by decide +kernel
theorem gH_49 : gdH 49 = true := gH_of rfl (by decide +kernel)
theorem gK_50 : gdK 50 = true := by decide +kernel
theorem gH_50 : gdH 50 = true := gH_of rfl (by decide +kernel)
theorem gK_51 : gdK 51 = true := by decide +kernel
theorem gH_51 : gdH 51 = true := gH_of rfl (by decide +kernel)
theorem gK_52 : gdK 52 = true := by decide +kernel
theorem gH_52 : gdH 52 = true := gH_of rfl (by decide +kernel)
theorem gK_53 : gdK 53 = true := by decide +kernel
theorem gH_53 : gdH 53 = true := gH_of rfl (by decide +kernel)
theorem gK_54 : gdK 54 = true := by decide +kernel
theorem gH_54 : gdH 54 = true := gH_of rfl (by decide +kernel)
theorem gK_55 : gdK 55 = true := by decide +kernel
theorem gH_55 : gdH 55 = true := gH_of rfl (by decide +kernel)
theorem gK_56 : gdK 56 = true := by decide +kernel
theorem gH_56 : gdH 56 = true := gH_of rfl (by decide +kernel)
theorem gK_57 : gdK 57 = true := by decide +kernel
theorem gH_57 : gdH 57 = true := gH_of rfl (by decide +kernel)
theorem gK_58 : gdK 58 = true := by decide +kernel
theorem gH_58 : gdH 58 = true := gH_of rfl (by decide +kernel)
theorem gK_59 : gdK 59 = true := by decide +kernel
theorem gH_59 : gdH 59 = true := gH_of rfl (by decide +kernel)
theorem gK_60 : gdK 60 = true := by decide +kernel
theorem gH_60 : gdH 60 = true := gH_of rfl (by decide +kernel)
theorem gK_61 : gdK 61 = true := by decide +kernel
theorem gH_61 : gdH 61 = true := gH_of rfl (by decide +kernel)
theorem gK_62 : gdK 62 = true := by decide +kernel
theorem gH_62 : gdH 62 = true := gH_of rfl (by decide +kernel)
theorem gK_63 : gdK 63 = true := by decide +kernel
theorem gH_63 : gdH 63 = true := gH_of rfl (by decide +kernel)
theorem gK_64 : gdK 64 = true := by decide +kernel
theorem gH_64 : gdH 64 = true := gH_of rfl (by decide +kernel)
theorem gK_65 : gdK 65 = true := by decide +kernel
theorem gH_65 : gdH 65 = true := gH_of rfl (by decide +kernel)
theorem gK_66 : gdK 66 = true := by decide +kernel
theorem gH_66 : gdH 66 = true := gH_of rfl (by decide +kernel)
theorem gK_67 : gdK 67 = true := by decide +kernel
theorem gH_67 : gdH 67 = true := gH_of rfl (by decide +kernel)
theorem gK_68 : gdK 68 = true := by decide +kernel
theorem gH_68 : gdH 68 = true := gH_of rfl (by decide +kernel)
theorem gK_69 : gdK 69 = true := by decide +kernel
theorem gH_69 : gdH 69 = true := gH_of rfl (by decide +kernel)
theorem gK_70 : gdK 70 = true := by decide +kernel
theorem gH_70 : gdH 70 = true := gH_of rfl (by decide +kernel)
theorem gK_71 : gdK 71 = true := by decide +kernel
theorem gH_71 : gdH 71 = true := gH_of rfl (by decide +kernel)
theorem gK_72 : gdK 72 = true := by decide +kernel
theorem gH_72 : gdH 72 = true := gH_of rfl (by decide +kernel)
theorem gK_73 : gdK 73 = true := by decide +kernel
theorem gH_73 : gdH 73 = true := gH_of rfl (by decide +kernel)
theorem gK_74 : gdK 74 = true := by decide +kernel
theorem gH_74 : gdH 74 = true := gH_of rfl (by decide +kernel)
theorem gK_75 : gdK 75 = true := by decide +kernel
theorem gH_75 : gdH 75 = true := gH_of rfl (by decide +kernel)
theorem gK_76 : gdK 76 = true := by decide +kernel
theorem gH_76 : gdH 76 = true := gH_of rfl (by decide +kernel)
theorem gK_77 : gdK 77 = true := by decide +kernel
theorem gH_77 : gdH 77 = true := gH_of rfl (by decide +kernel)
theorem gK_78 : gdK 78 = true := by decide +kernel
theorem gH_78 : gdH 78 = true := gH_of rfl (by decide +kernel)
theorem gK_79 : gdK 79 = true := by decide +kernel
theorem gH_79 : gdH 79 = true := gH_of rfl (by decide +kernel)
theorem gK_80 : gdK 80 = true := by decide +kernel
theorem gH_80 : gdH 80 = true := gH_of rfl (by decide +kernel)
theorem gK_81 : gdK 81 = true := by decide +kernel
theorem gH_81 : gdH 81 = true := gH_of rfl (by decide +kernel)
theorem gK_82 : gdK 82 = true := by decide +kernel
theorem gH_82 : gdH 82 = true := gH_of rfl (by decide +kernel)
theorem gK_83 : gdK 83 = true := by decide +kernel
theorem gH_83 : gdH 83 = true := gH_of rfl (by decide +kernel)
theorem gK_84 : gdK 84 = true := by decide +kernel
theorem gH_84 : gdH 84 = true := gH_of rfl (by decide +kernel)
theorem gK_85 : gdK 85 = true := by decide +kernel
theorem gH_85 : gdH 85 = true := gH_of rfl (by decide +kernel)
theorem gK_86 : gdK 86 = true := by decide +kernel
theorem gH_86 : gdH 86 = true := gH_of rfl (by decide +kernel)
theorem gK_87 : gdK 87 = true := by decide +kernel
theorem gH_87 : gdH 87 = true := gH_of rfl (by decide +kernel)
theorem gK_88 : gdK 88 = true := by decide +kernel
theorem gH_88 : gdH 88 = true := gH_of rfl (by decide +kernel)
theorem gK_89 : gdK 89 = true := by decide +kernel
theorem gH_89 : gdH 89 = true := gH_of rfl (by decide +kernel)
theorem gK_90 : gdK 90 = true := by decide +kernel
theorem gH_90 : gdH 90 = true := gH_of rfl (by decide +kernel)
theorem gK_91 : gdK 91 = true := by decide +kernel
theorem gH_91 : gdH 91 = true := gH_of rfl (by decide +kernel)
theorem gK_92 : gdK 92 = true := by decide +kernel
theorem gH_92 : gdH 92 = true := gH_of rfl (by decide +kernel)
theorem gK_93 : gdK 93 = true := by decide +kernel
theorem gH_93 : gdH 93 = true := gH_of rfl (by decide +kernel)
theorem gK_94 : gdK 94 = true := by decide +kernel
theorem gH_94 : gdH 94 = true := gH_of rfl (by decide +kernel)
theorem gK_95 : gdK 95 = true := by decide +kernel
theorem gH_95 : gdH 95 = true := gH_of rfl (by decide +kernel)
