def dm_cdL : List (List dm_Code) := [[cd_0, cd_1, cd_2, cd_3, cd_4, cd_5, cd_6, cd_7, cd_8, cd_9, cd_10, cd_11, cd_12, cd_13, cd_14, cd_15],
  [cd_16, cd_17, cd_18, cd_19, cd_20, cd_21, cd_22, cd_23, cd_24, cd_25, cd_26, cd_27, cd_28, cd_29, cd_30, cd_31],
  [cd_32, cd_33, cd_34, cd_35, cd_36, cd_37, cd_38, cd_39, cd_40, cd_41, cd_42, cd_43, cd_44, cd_45, cd_46, cd_47],
  [cd_48, cd_49, cd_50, cd_51, cd_52, cd_53, cd_54, cd_55, cd_56, cd_57, cd_58, cd_59, cd_60, cd_61, cd_62, cd_63],
  [cd_64, cd_65, cd_66, cd_67, cd_68, cd_69, cd_70, cd_71, cd_72, cd_73, cd_74, cd_75, cd_76, cd_77, cd_78, cd_79],
  [cd_80, cd_81, cd_82, cd_83, cd_84, cd_85, cd_86, cd_87, cd_88, cd_89, cd_90, cd_91, cd_92, cd_93, cd_94, cd_95],
  [cd_96, cd_97, cd_98, cd_99, cd_100, cd_101, cd_102, cd_103, cd_104, cd_105, cd_106, cd_107, cd_108, cd_109, cd_110, cd_111],
  [cd_112, cd_113, cd_114, cd_115, cd_116, cd_117, cd_118, cd_119, cd_120, cd_121, cd_122, cd_123, cd_124, cd_125, cd_126, cd_127],
  [cd_128, cd_129, cd_130, cd_131, cd_132, cd_133, cd_134, cd_135, cd_136, cd_137, cd_138, cd_139, cd_140, cd_141, cd_142, cd_143],
  [cd_144, cd_145, cd_146, cd_147, cd_148, cd_149, cd_150, cd_151, cd_152, cd_153, cd_154, cd_155, cd_156, cd_157, cd_158, cd_159],
  [cd_160, cd_161, cd_162, cd_163, cd_164, cd_165, cd_166, cd_167, cd_168, cd_169, cd_170, cd_171, cd_172, cd_173, cd_174, cd_175],
  [cd_176, cd_177, cd_178, cd_179, cd_180, cd_181, cd_182, cd_183, cd_184, cd_185, cd_186, cd_187, cd_188, cd_189, cd_190, cd_191],
  [cd_192, cd_193, cd_194, cd_195, cd_196, cd_197, cd_198, cd_199, cd_200, cd_201, cd_202, cd_203, cd_204, cd_205, cd_206, cd_207],
  [cd_208, cd_209]]
def dm_cd (mi : Nat) : dm_Code := match dm_cdL[mi / 16]? with
  | some r => r.getD (mi % 16) []
  | none => []
theorem to_0 : dm_Tok dm_tb dm_cd 0 := Or.inr ⟨mo_0, (fun _ => rfl), fun pc f h => dm_rows tk_0 pc f h⟩
theorem to_1 : dm_Tok dm_tb dm_cd 1 := Or.inr ⟨mo_1, (fun h => absurd h (by decide)), fun pc f h => dm_rows tk_1 pc f h⟩
theorem to_2 : dm_Tok dm_tb dm_cd 2 := Or.inr ⟨mo_2, (fun h => absurd h (by decide)), fun pc f h => dm_rows tk_2 pc f h⟩
theorem to_3 : dm_Tok dm_tb dm_cd 3 := Or.inr ⟨mo_3, (fun h => absurd h (by decide)), fun pc f h => dm_rows tk_3 pc f h⟩
theorem to_4 : dm_Tok dm_tb dm_cd 4 := Or.inr ⟨mo_4, (fun h => absurd h (by decide)), fun pc f h => dm_rows tk_4 pc f h⟩
theorem to_5 : dm_Tok dm_tb dm_cd 5 := Or.inr ⟨mo_5, (fun _ => rfl), fun pc f h => dm_rows tk_5 pc f h⟩
theorem to_6 : dm_Tok dm_tb dm_cd 6 := Or.inr ⟨mo_6, (fun h => absurd h (by decide)), fun pc f h => dm_rows tk_6 pc f h⟩
theorem to_7 : dm_Tok dm_tb dm_cd 7 := Or.inr ⟨mo_7, (fun h => absurd h (by decide)), fun pc f h => dm_rows tk_7 pc f h⟩
theorem to_8 : dm_Tok dm_tb dm_cd 8 := Or.inr ⟨mo_8, (fun h => absurd h (by decide)), fun pc f h => dm_rows tk_8 pc f h⟩
theorem to_9 : dm_Tok dm_tb dm_cd 9 := Or.inr ⟨mo_9, (fun h => absurd h (by decide)), fun pc f h => dm_rows tk_9 pc f h⟩
theorem to_10 : dm_Tok dm_tb dm_cd 10 := Or.inr ⟨mo_10, (fun h => absurd h (by decide)), fun pc f h => dm_rows tk_10 pc f h⟩
theorem to_11 : dm_Tok dm_tb dm_cd 11 := Or.inr ⟨mo_11, (fun _ => rfl), fun pc f h => dm_rows tk_11 pc f h⟩
theorem to_12 : dm_Tok dm_tb dm_cd 12 := Or.inr ⟨mo_12, (fun h => absurd h (by decide)), fun pc f h => dm_rows tk_12 pc f h⟩
theorem to_13 : dm_Tok dm_tb dm_cd 13 := Or.inr ⟨mo_13, (fun h => absurd h (by decide)), fun pc f h => dm_rows tk_13 pc f h⟩
theorem to_14 : dm_Tok dm_tb dm_cd 14 := Or.inr ⟨mo_14, (fun h => absurd h (by decide)), fun pc f h => dm_rows tk_14 pc f h⟩
theorem to_15 : dm_Tok dm_tb dm_cd 15 := Or.inr ⟨mo_15, (fun h => absurd h (by decide)), fun pc f h => dm_rows tk_15 pc f h⟩
theorem to_16 : dm_Tok dm_tb dm_cd 16 := Or.inr ⟨mo_16, (fun h => absurd h (by decide)), fun pc f h => dm_rows tk_16 pc f h⟩
theorem to_17 : dm_Tok dm_tb dm_cd 17 := Or.inr ⟨mo_17, (fun h => absurd h (by decide)), fun pc f h => dm_rows tk_17 pc f h⟩
theorem to_18 : dm_Tok dm_tb dm_cd 18 := Or.inr ⟨mo_18, (fun h => absurd h (by decide)), fun pc f h => dm_rows tk_18 pc f h⟩
theorem to_19 : dm_Tok dm_tb dm_cd 19 := Or.inr ⟨mo_19, (fun h => absurd h (by decide)), fun pc f h => dm_rows tk_19 pc f h⟩
theorem to_20 : dm_Tok dm_tb dm_cd 20 := Or.inr ⟨mo_20, (fun h => absurd h (by decide)), fun pc f h => dm_rows tk_20 pc f h⟩
theorem to_21 : dm_Tok dm_tb dm_cd 21 := Or.inr ⟨mo_21, (fun h => absurd h (by decide)), fun pc f h => dm_rows tk_21 pc f h⟩
theorem to_22 : dm_Tok dm_tb dm_cd 22 := Or.inr ⟨mo_22, (fun h => absurd h (by decide)), fun pc f h => dm_rows tk_22 pc f h⟩
theorem to_23 : dm_Tok dm_tb dm_cd 23 := Or.inr ⟨mo_23, (fun h => absurd h (by decide)), fun pc f h => dm_rows tk_23 pc f h⟩
theorem to_24 : dm_Tok dm_tb dm_cd 24 := Or.inr ⟨mo_24, (fun h => absurd h (by decide)), fun pc f h => dm_rows tk_24 pc f h⟩
theorem to_25 : dm_Tok dm_tb dm_cd 25 := Or.inr ⟨mo_25, (fun h => absurd h (by decide)), fun pc f h => dm_rows tk_25 pc f h⟩
theorem to_26 : dm_Tok dm_tb dm_cd 26 := Or.inr ⟨mo_26, (fun h => absurd h (by decide)), fun pc f h => dm_rows tk_26 pc f h⟩
theorem to_27 : dm_Tok dm_tb dm_cd 27 := Or.inr ⟨mo_27, (fun h => absurd h (by decide)), fun pc f h => dm_rows tk_27 pc f h⟩
theorem to_28 : dm_Tok dm_tb dm_cd 28 := Or.inr ⟨mo_28, (fun h => absurd h (by decide)), fun pc f h => dm_rows tk_28 pc f h⟩
theorem to_29 : dm_Tok dm_tb dm_cd 29 := Or.inr ⟨mo_29, (fun h => absurd h (by decide)), fun pc f h => dm_rows tk_29 pc f h⟩
theorem to_30 : dm_Tok dm_tb dm_cd 30 := Or.inr ⟨mo_30, (fun h => absurd h (by decide)), fun pc f h => dm_rows tk_30 pc f h⟩
theorem to_31 : dm_Tok dm_tb dm_cd 31 := Or.inr ⟨mo_31, (fun h => absurd h (by decide)), fun pc f h => dm_rows tk_31 pc f h⟩
theorem to_32 : dm_Tok dm_tb dm_cd 32 := Or.inr ⟨mo_32, (fun h => absurd h (by decide)), fun pc f h => dm_rows tk_32 pc f h⟩
theorem to_33 : dm_Tok dm_tb dm_cd 33 := Or.inr ⟨mo_33, (fun h => absurd h (by decide)), fun pc f h => dm_rows tk_33 pc f h⟩
theorem to_34 : dm_Tok dm_tb dm_cd 34 := Or.inr ⟨mo_34, (fun h => absurd h (by decide)), fun pc f h => dm_rows tk_34 pc f h⟩
theorem to_35 : dm_Tok dm_tb dm_cd 35 := Or.inr ⟨mo_35, (fun h => absurd h (by decide)), fun pc f h => dm_rows tk_35 pc f h⟩
theorem to_36 : dm_Tok dm_tb dm_cd 36 := Or.inr ⟨mo_36, (fun h => absurd h (by decide)), fun pc f h => dm_rows tk_36 pc f h⟩
theorem to_37 : dm_Tok dm_tb dm_cd 37 := Or.inr ⟨mo_37, (fun h => absurd h (by decide)), fun pc f h => dm_rows tk_37 pc f h⟩
theorem to_38 : dm_Tok dm_tb dm_cd 38 := Or.inr ⟨mo_38, (fun h => absurd h (by decide)), fun pc f h => dm_rows tk_38 pc f h⟩
theorem to_39 : dm_Tok dm_tb dm_cd 39 := Or.inr ⟨mo_39, (fun h => absurd h (by decide)), fun pc f h => dm_rows tk_39 pc f h⟩
theorem to_40 : dm_Tok dm_tb dm_cd 40 := Or.inr ⟨mo_40, (fun h => absurd h (by decide)), fun pc f h => dm_rows tk_40 pc f h⟩
theorem to_41 : dm_Tok dm_tb dm_cd 41 := Or.inr ⟨mo_41, (fun h => absurd h (by decide)), fun pc f h => dm_rows tk_41 pc f h⟩
theorem to_42 : dm_Tok dm_tb dm_cd 42 := Or.inr ⟨mo_42, (fun h => absurd h (by decide)), fun pc f h => dm_rows tk_42 pc f h⟩
theorem to_43 : dm_Tok dm_tb dm_cd 43 := Or.inr ⟨mo_43, (fun h => absurd h (by decide)), fun pc f h => dm_rows tk_43 pc f h⟩
theorem to_44 : dm_Tok dm_tb dm_cd 44 := Or.inr ⟨mo_44, (fun _ => rfl), fun pc f h => dm_rows tk_44 pc f h⟩
theorem to_45 : dm_Tok dm_tb dm_cd 45 := Or.inr ⟨mo_45, (fun h => absurd h (by decide)), fun pc f h => dm_rows tk_45 pc f h⟩
theorem to_46 : dm_Tok dm_tb dm_cd 46 := Or.inr ⟨mo_46, (fun h => absurd h (by decide)), fun pc f h => dm_rows tk_46 pc f h⟩
theorem to_47 : dm_Tok dm_tb dm_cd 47 := Or.inr ⟨mo_47, (fun h => absurd h (by decide)), fun pc f h => dm_rows tk_47 pc f h⟩
theorem to_48 : dm_Tok dm_tb dm_cd 48 := Or.inr ⟨mo_48, (fun h => absurd h (by decide)), fun pc f h => dm_rows tk_48 pc f h⟩
theorem to_49 : dm_Tok dm_tb dm_cd 49 := Or.inr ⟨mo_49, (fun _ => rfl), fun pc f h => dm_rows tk_49 pc f h⟩
theorem to_50 : dm_Tok dm_tb dm_cd 50 := Or.inr ⟨mo_50, (fun h => absurd h (by decide)), fun pc f h => dm_rows tk_50 pc f h⟩
theorem to_51 : dm_Tok dm_tb dm_cd 51 := Or.inr ⟨mo_51, (fun h => absurd h (by decide)), fun pc f h => dm_rows tk_51 pc f h⟩
theorem to_52 : dm_Tok dm_tb dm_cd 52 := Or.inr ⟨mo_52, (fun h => absurd h (by decide)), fun pc f h => dm_rows tk_52 pc f h⟩
theorem to_53 : dm_Tok dm_tb dm_cd 53 := Or.inr ⟨mo_53, (fun h => absurd h (by decide)), fun pc f h => dm_rows tk_53 pc f h⟩
theorem to_54 : dm_Tok dm_tb dm_cd 54 := Or.inr ⟨mo_54, (fun _ => rfl), fun pc f h => dm_rows tk_54 pc f h⟩
theorem to_55 : dm_Tok dm_tb dm_cd 55 := Or.inr ⟨mo_55, (fun h => absurd h (by decide)), fun pc f h => dm_rows tk_55 pc f h⟩
theorem to_56 : dm_Tok dm_tb dm_cd 56 := Or.inr ⟨mo_56, (fun h => absurd h (by decide)), fun pc f h => dm_rows tk_56 pc f h⟩
theorem to_57 : dm_Tok dm_tb dm_cd 57 := Or.inr ⟨mo_57, (fun h => absurd h (by decide)), fun pc f h => dm_rows tk_57 pc f h⟩
theorem to_58 : dm_Tok dm_tb dm_cd 58 := Or.inr ⟨mo_58, (fun h => absurd h (by decide)), fun pc f h => dm_rows tk_58 pc f h⟩
theorem to_59 : dm_Tok dm_tb dm_cd 59 := Or.inr ⟨mo_59, (fun h => absurd h (by decide)), fun pc f h => dm_rows tk_59 pc f h⟩
theorem to_60 : dm_Tok dm_tb dm_cd 60 := Or.inr ⟨mo_60, (fun h => absurd h (by decide)), fun pc f h => dm_rows tk_60 pc f h⟩
theorem to_61 : dm_Tok dm_tb dm_cd 61 := Or.inr ⟨mo_61, (fun h => absurd h (by decide)), fun pc f h => dm_rows tk_61 pc f h⟩
theorem to_62 : dm_Tok dm_tb dm_cd 62 := Or.inr ⟨mo_62, (fun h => absurd h (by decide)), fun pc f h => dm_rows tk_62 pc f h⟩
theorem to_63 : dm_Tok dm_tb dm_cd 63 := Or.inr ⟨mo_63, (fun h => absurd h (by decide)), fun pc f h => dm_rows tk_63 pc f h⟩
theorem to_64 : dm_Tok dm_tb dm_cd 64 := Or.inr ⟨mo_64, (fun h => absurd h (by decide)), fun pc f h => dm_rows tk_64 pc f h⟩
theorem to_65 : dm_Tok dm_tb dm_cd 65 := Or.inr ⟨mo_65, (fun h => absurd h (by decide)), fun pc f h => dm_rows tk_65 pc f h⟩
theorem to_66 : dm_Tok dm_tb dm_cd 66 := Or.inr ⟨mo_66, (fun h => absurd h (by decide)), fun pc f h => dm_rows tk_66 pc f h⟩
theorem to_67 : dm_Tok dm_tb dm_cd 67 := Or.inr ⟨mo_67, (fun h => absurd h (by decide)), fun pc f h => dm_rows tk_67 pc f h⟩
theorem to_68 : dm_Tok dm_tb dm_cd 68 := Or.inr ⟨mo_68, (fun h => absurd h (by decide)), fun pc f h => dm_rows tk_68 pc f h⟩
theorem to_69 : dm_Tok dm_tb dm_cd 69 := Or.inr ⟨mo_69, (fun h => absurd h (by decide)), fun pc f h => dm_rows tk_69 pc f h⟩
theorem to_70 : dm_Tok dm_tb dm_cd 70 := Or.inr ⟨mo_70, (fun h => absurd h (by decide)), fun pc f h => dm_rows tk_70 pc f h⟩
theorem to_71 : dm_Tok dm_tb dm_cd 71 := Or.inr ⟨mo_71, (fun _ => rfl), fun pc f h => dm_rows tk_71 pc f h⟩
theorem to_72 : dm_Tok dm_tb dm_cd 72 := Or.inr ⟨mo_72, (fun h => absurd h (by decide)), fun pc f h => dm_rows tk_72 pc f h⟩
theorem to_73 : dm_Tok dm_tb dm_cd 73 := Or.inr ⟨mo_73, (fun h => absurd h (by decide)), fun pc f h => dm_rows tk_73 pc f h⟩
theorem to_74 : dm_Tok dm_tb dm_cd 74 := Or.inr ⟨mo_74, (fun h => absurd h (by decide)), fun pc f h => dm_rows tk_74 pc f h⟩
theorem to_75 : dm_Tok dm_tb dm_cd 75 := Or.inr ⟨mo_75, (fun h => absurd h (by decide)), fun pc f h => dm_rows tk_75 pc f h⟩
theorem to_76 : dm_Tok dm_tb dm_cd 76 := Or.inr ⟨mo_76, (fun h => absurd h (by decide)), fun pc f h => dm_rows tk_76 pc f h⟩
theorem to_77 : dm_Tok dm_tb dm_cd 77 := Or.inr ⟨mo_77, (fun h => absurd h (by decide)), fun pc f h => dm_rows tk_77 pc f h⟩
theorem to_78 : dm_Tok dm_tb dm_cd 78 := Or.inr ⟨mo_78, (fun h => absurd h (by decide)), fun pc f h => dm_rows tk_78 pc f h⟩
theorem to_79 : dm_Tok dm_tb dm_cd 79 := Or.inr ⟨mo_79, (fun h => absurd h (by decide)), fun pc f h => dm_rows tk_79 pc f h⟩
theorem to_80 : dm_Tok dm_tb dm_cd 80 := Or.inr ⟨mo_80, (fun h => absurd h (by decide)), fun pc f h => dm_rows tk_80 pc f h⟩
theorem to_81 : dm_Tok dm_tb dm_cd 81 := Or.inr ⟨mo_81, (fun h => absurd h (by decide)), fun pc f h => dm_rows tk_81 pc f h⟩
theorem to_82 : dm_Tok dm_tb dm_cd 82 := Or.inr ⟨mo_82, (fun h => absurd h (by decide)), fun pc f h => dm_rows tk_82 pc f h⟩
theorem to_83 : dm_Tok dm_tb dm_cd 83 := Or.inr ⟨mo_83, (fun h => absurd h (by decide)), fun pc f h => dm_rows tk_83 pc f h⟩
theorem to_84 : dm_Tok dm_tb dm_cd 84 := Or.inr ⟨mo_84, (fun h => absurd h (by decide)), fun pc f h => dm_rows tk_84 pc f h⟩
theorem to_85 : dm_Tok dm_tb dm_cd 85 := Or.inr ⟨mo_85, (fun h => absurd h (by decide)), fun pc f h => dm_rows tk_85 pc f h⟩
theorem to_86 : dm_Tok dm_tb dm_cd 86 := Or.inr ⟨mo_86, (fun h => absurd h (by decide)), fun pc f h => dm_rows tk_86 pc f h⟩
theorem to_87 : dm_Tok dm_tb dm_cd 87 := Or.inr ⟨mo_87, (fun h => absurd h (by decide)), fun pc f h => dm_rows tk_87 pc f h⟩
theorem to_88 : dm_Tok dm_tb dm_cd 88 := Or.inr ⟨mo_88, (fun h => absurd h (by decide)), fun pc f h => dm_rows tk_88 pc f h⟩
theorem to_89 : dm_Tok dm_tb dm_cd 89 := Or.inr ⟨mo_89, (fun h => absurd h (by decide)), fun pc f h => dm_rows tk_89 pc f h⟩
theorem to_90 : dm_Tok dm_tb dm_cd 90 := Or.inr ⟨mo_90, (fun h => absurd h (by decide)), fun pc f h => dm_rows tk_90 pc f h⟩
theorem to_91 : dm_Tok dm_tb dm_cd 91 := Or.inr ⟨mo_91, (fun h => absurd h (by decide)), fun pc f h => dm_rows tk_91 pc f h⟩
theorem to_92 : dm_Tok dm_tb dm_cd 92 := Or.inr ⟨mo_92, (fun h => absurd h (by decide)), fun pc f h => dm_rows tk_92 pc f h⟩
theorem to_93 : dm_Tok dm_tb dm_cd 93 := Or.inr ⟨mo_93, (fun h => absurd h (by decide)), fun pc f h => dm_rows tk_93 pc f h⟩
theorem to_94 : dm_Tok dm_tb dm_cd 94 := Or.inr ⟨mo_94, (fun _ => rfl), fun pc f h => dm_rows tk_94 pc f h⟩
theorem to_95 : dm_Tok dm_tb dm_cd 95 := Or.inr ⟨mo_95, (fun h => absurd h (by decide)), fun pc f h => dm_rows tk_95 pc f h⟩
theorem to_96 : dm_Tok dm_tb dm_cd 96 := Or.inr ⟨mo_96, (fun h => absurd h (by decide)), fun pc f h => dm_rows tk_96 pc f h⟩
theorem to_97 : dm_Tok dm_tb dm_cd 97 := Or.inr ⟨mo_97, (fun h => absurd h (by decide)), fun pc f h => dm_rows tk_97 pc f h⟩
theorem to_98 : dm_Tok dm_tb dm_cd 98 := Or.inr ⟨mo_98, (fun h => absurd h (by decide)), fun pc f h => dm_rows tk_98 pc f h⟩
theorem to_99 : dm_Tok dm_tb dm_cd 99 := Or.inr ⟨mo_99, (fun h => absurd h (by decide)), fun pc f h => dm_rows tk_99 pc f h⟩
theorem to_100 : dm_Tok dm_tb dm_cd 100 := Or.inr ⟨mo_100, (fun h => absurd h (by decide)), fun pc f h => dm_rows tk_100 pc f h⟩
theorem to_101 : dm_Tok dm_tb dm_cd 101 := Or.inr ⟨mo_101, (fun h => absurd h (by decide)), fun pc f h => dm_rows tk_101 pc f h⟩
theorem to_102 : dm_Tok dm_tb dm_cd 102 := Or.inr ⟨mo_102, (fun h => absurd h (by decide)), fun pc f h => dm_rows tk_102 pc f h⟩
theorem to_103 : dm_Tok dm_tb dm_cd 103 := Or.inr ⟨mo_103, (fun h => absurd h (by decide)), fun pc f h => dm_rows tk_103 pc f h⟩
theorem to_104 : dm_Tok dm_tb dm_cd 104 := Or.inr ⟨mo_104, (fun h => absurd h (by decide)), fun pc f h => dm_rows tk_104 pc f h⟩
theorem to_105 : dm_Tok dm_tb dm_cd 105 := Or.inr ⟨mo_105, (fun h => absurd h (by decide)), fun pc f h => dm_rows tk_105 pc f h⟩
theorem to_106 : dm_Tok dm_tb dm_cd 106 := Or.inr ⟨mo_106, (fun h => absurd h (by decide)), fun pc f h => dm_rows tk_106 pc f h⟩
theorem to_107 : dm_Tok dm_tb dm_cd 107 := Or.inr ⟨mo_107, (fun h => absurd h (by decide)), fun pc f h => dm_rows tk_107 pc f h⟩
theorem to_108 : dm_Tok dm_tb dm_cd 108 := Or.inr ⟨mo_108, (fun h => absurd h (by decide)), fun pc f h => dm_rows tk_108 pc f h⟩
theorem to_109 : dm_Tok dm_tb dm_cd 109 := Or.inr ⟨mo_109, (fun h => absurd h (by decide)), fun pc f h => dm_rows tk_109 pc f h⟩
theorem to_110 : dm_Tok dm_tb dm_cd 110 := Or.inr ⟨mo_110, (fun h => absurd h (by decide)), fun pc f h => dm_rows tk_110 pc f h⟩
theorem to_111 : dm_Tok dm_tb dm_cd 111 := Or.inr ⟨mo_111, (fun h => absurd h (by decide)), fun pc f h => dm_rows tk_111 pc f h⟩
theorem to_112 : dm_Tok dm_tb dm_cd 112 := Or.inr ⟨mo_112, (fun h => absurd h (by decide)), fun pc f h => dm_rows tk_112 pc f h⟩
theorem to_113 : dm_Tok dm_tb dm_cd 113 := Or.inr ⟨mo_113, (fun h => absurd h (by decide)), fun pc f h => dm_rows tk_113 pc f h⟩
theorem to_114 : dm_Tok dm_tb dm_cd 114 := Or.inr ⟨mo_114, (fun h => absurd h (by decide)), fun pc f h => dm_rows tk_114 pc f h⟩
theorem to_115 : dm_Tok dm_tb dm_cd 115 := Or.inr ⟨mo_115, (fun h => absurd h (by decide)), fun pc f h => dm_rows tk_115 pc f h⟩
theorem to_116 : dm_Tok dm_tb dm_cd 116 := Or.inr ⟨mo_116, (fun h => absurd h (by decide)), fun pc f h => dm_rows tk_116 pc f h⟩
theorem to_117 : dm_Tok dm_tb dm_cd 117 := Or.inr ⟨mo_117, (fun h => absurd h (by decide)), fun pc f h => dm_rows tk_117 pc f h⟩
theorem to_118 : dm_Tok dm_tb dm_cd 118 := Or.inr ⟨mo_118, (fun h => absurd h (by decide)), fun pc f h => dm_rows tk_118 pc f h⟩
theorem to_119 : dm_Tok dm_tb dm_cd 119 := Or.inr ⟨mo_119, (fun h => absurd h (by decide)), fun pc f h => dm_rows tk_119 pc f h⟩
theorem to_120 : dm_Tok dm_tb dm_cd 120 := Or.inr ⟨mo_120, (fun h => absurd h (by decide)), fun pc f h => dm_rows tk_120 pc f h⟩
theorem to_121 : dm_Tok dm_tb dm_cd 121 := Or.inr ⟨mo_121, (fun h => absurd h (by decide)), fun pc f h => dm_rows tk_121 pc f h⟩
theorem to_122 : dm_Tok dm_tb dm_cd 122 := Or.inr ⟨mo_122, (fun h => absurd h (by decide)), fun pc f h => dm_rows tk_122 pc f h⟩
theorem to_123 : dm_Tok dm_tb dm_cd 123 := Or.inr ⟨mo_123, (fun h => absurd h (by decide)), fun pc f h => dm_rows tk_123 pc f h⟩
theorem to_124 : dm_Tok dm_tb dm_cd 124 := Or.inr ⟨mo_124, (fun h => absurd h (by decide)), fun pc f h => dm_rows tk_124 pc f h⟩
theorem to_125 : dm_Tok dm_tb dm_cd 125 := Or.inr ⟨mo_125, (fun h => absurd h (by decide)), fun pc f h => dm_rows tk_125 pc f h⟩
theorem to_126 : dm_Tok dm_tb dm_cd 126 := Or.inr ⟨mo_126, (fun h => absurd h (by decide)), fun pc f h => dm_rows tk_126 pc f h⟩
theorem to_127 : dm_Tok dm_tb dm_cd 127 := Or.inr ⟨mo_127, (fun h => absurd h (by decide)), fun pc f h => dm_rows tk_127 pc f h⟩
theorem to_128 : dm_Tok dm_tb dm_cd 128 := Or.inr ⟨mo_128, (fun h => absurd h (by decide)), fun pc f h => dm_rows tk_128 pc f h⟩
theorem to_129 : dm_Tok dm_tb dm_cd 129 := Or.inr ⟨mo_129, (fun h => absurd h (by decide)), fun pc f h => dm_rows tk_129 pc f h⟩
theorem to_130 : dm_Tok dm_tb dm_cd 130 := Or.inr ⟨mo_130, (fun h => absurd h (by decide)), fun pc f h => dm_rows tk_130 pc f h⟩
theorem to_131 : dm_Tok dm_tb dm_cd 131 := Or.inr ⟨mo_131, (fun h => absurd h (by decide)), fun pc f h => dm_rows tk_131 pc f h⟩
theorem to_132 : dm_Tok dm_tb dm_cd 132 := Or.inr ⟨mo_132, (fun h => absurd h (by decide)), fun pc f h => dm_rows tk_132 pc f h⟩
theorem to_133 : dm_Tok dm_tb dm_cd 133 := Or.inr ⟨mo_133, (fun h => absurd h (by decide)), fun pc f h => dm_rows tk_133 pc f h⟩
theorem to_134 : dm_Tok dm_tb dm_cd 134 := Or.inr ⟨mo_134, (fun _ => rfl), fun pc f h => dm_rows tk_134 pc f h⟩
theorem to_135 : dm_Tok dm_tb dm_cd 135 := Or.inr ⟨mo_135, (fun h => absurd h (by decide)), fun pc f h => dm_rows tk_135 pc f h⟩
theorem to_136 : dm_Tok dm_tb dm_cd 136 := Or.inr ⟨mo_136, (fun h => absurd h (by decide)), fun pc f h => dm_rows tk_136 pc f h⟩
theorem to_137 : dm_Tok dm_tb dm_cd 137 := Or.inr ⟨mo_137, (fun h => absurd h (by decide)), fun pc f h => dm_rows tk_137 pc f h⟩
theorem to_138 : dm_Tok dm_tb dm_cd 138 := Or.inr ⟨mo_138, (fun h => absurd h (by decide)), fun pc f h => dm_rows tk_138 pc f h⟩
theorem to_139 : dm_Tok dm_tb dm_cd 139 := Or.inr ⟨mo_139, (fun h => absurd h (by decide)), fun pc f h => dm_rows tk_139 pc f h⟩
theorem to_140 : dm_Tok dm_tb dm_cd 140 := Or.inr ⟨mo_140, (fun h => absurd h (by decide)), fun pc f h => dm_rows tk_140 pc f h⟩
theorem to_141 : dm_Tok dm_tb dm_cd 141 := Or.inr ⟨mo_141, (fun h => absurd h (by decide)), fun pc f h => dm_rows tk_141 pc f h⟩
theorem to_142 : dm_Tok dm_tb dm_cd 142 := Or.inr ⟨mo_142, (fun h => absurd h (by decide)), fun pc f h => dm_rows tk_142 pc f h⟩
theorem to_143 : dm_Tok dm_tb dm_cd 143 := Or.inr ⟨mo_143, (fun h => absurd h (by decide)), fun pc f h => dm_rows tk_143 pc f h⟩
theorem to_144 : dm_Tok dm_tb dm_cd 144 := Or.inr ⟨mo_144, (fun h => absurd h (by decide)), fun pc f h => dm_rows tk_144 pc f h⟩
theorem to_145 : dm_Tok dm_tb dm_cd 145 := Or.inr ⟨mo_145, (fun h => absurd h (by decide)), fun pc f h => dm_rows tk_145 pc f h⟩
theorem to_146 : dm_Tok dm_tb dm_cd 146 := Or.inr ⟨mo_146, (fun h => absurd h (by decide)), fun pc f h => dm_rows tk_146 pc f h⟩
theorem to_147 : dm_Tok dm_tb dm_cd 147 := Or.inr ⟨mo_147, (fun h => absurd h (by decide)), fun pc f h => dm_rows tk_147 pc f h⟩
theorem to_148 : dm_Tok dm_tb dm_cd 148 := Or.inr ⟨mo_148, (fun h => absurd h (by decide)), fun pc f h => dm_rows tk_148 pc f h⟩
theorem to_149 : dm_Tok dm_tb dm_cd 149 := Or.inr ⟨mo_149, (fun h => absurd h (by decide)), fun pc f h => dm_rows tk_149 pc f h⟩
theorem to_150 : dm_Tok dm_tb dm_cd 150 := Or.inr ⟨mo_150, (fun h => absurd h (by decide)), fun pc f h => dm_rows tk_150 pc f h⟩
theorem to_151 : dm_Tok dm_tb dm_cd 151 := Or.inr ⟨mo_151, (fun h => absurd h (by decide)), fun pc f h => dm_rows tk_151 pc f h⟩
theorem to_152 : dm_Tok dm_tb dm_cd 152 := Or.inr ⟨mo_152, (fun h => absurd h (by decide)), fun pc f h => dm_rows tk_152 pc f h⟩
theorem to_153 : dm_Tok dm_tb dm_cd 153 := Or.inr ⟨mo_153, (fun h => absurd h (by decide)), fun pc f h => dm_rows tk_153 pc f h⟩
theorem to_154 : dm_Tok dm_tb dm_cd 154 := Or.inr ⟨mo_154, (fun h => absurd h (by decide)), fun pc f h => dm_rows tk_154 pc f h⟩
theorem to_155 : dm_Tok dm_tb dm_cd 155 := Or.inr ⟨mo_155, (fun h => absurd h (by decide)), fun pc f h => dm_rows tk_155 pc f h⟩
theorem to_156 : dm_Tok dm_tb dm_cd 156 := Or.inr ⟨mo_156, (fun h => absurd h (by decide)), fun pc f h => dm_rows tk_156 pc f h⟩
theorem to_157 : dm_Tok dm_tb dm_cd 157 := Or.inr ⟨mo_157, (fun h => absurd h (by decide)), fun pc f h => dm_rows tk_157 pc f h⟩
theorem to_158 : dm_Tok dm_tb dm_cd 158 := Or.inr ⟨mo_158, (fun h => absurd h (by decide)), fun pc f h => dm_rows tk_158 pc f h⟩
theorem to_159 : dm_Tok dm_tb dm_cd 159 := Or.inr ⟨mo_159, (fun h => absurd h (by decide)), fun pc f h => dm_rows tk_159 pc f h⟩
theorem to_160 : dm_Tok dm_tb dm_cd 160 := Or.inr ⟨mo_160, (fun h => absurd h (by decide)), fun pc f h => dm_rows tk_160 pc f h⟩
theorem to_161 : dm_Tok dm_tb dm_cd 161 := Or.inr ⟨mo_161, (fun h => absurd h (by decide)), fun pc f h => dm_rows tk_161 pc f h⟩
theorem to_162 : dm_Tok dm_tb dm_cd 162 := Or.inr ⟨mo_162, (fun h => absurd h (by decide)), fun pc f h => dm_rows tk_162 pc f h⟩
theorem to_163 : dm_Tok dm_tb dm_cd 163 := Or.inr ⟨mo_163, (fun h => absurd h (by decide)), fun pc f h => dm_rows tk_163 pc f h⟩
theorem to_164 : dm_Tok dm_tb dm_cd 164 := Or.inr ⟨mo_164, (fun h => absurd h (by decide)), fun pc f h => dm_rows tk_164 pc f h⟩
theorem to_165 : dm_Tok dm_tb dm_cd 165 := Or.inr ⟨mo_165, (fun h => absurd h (by decide)), fun pc f h => dm_rows tk_165 pc f h⟩
theorem to_166 : dm_Tok dm_tb dm_cd 166 := Or.inr ⟨mo_166, (fun h => absurd h (by decide)), fun pc f h => dm_rows tk_166 pc f h⟩
theorem to_167 : dm_Tok dm_tb dm_cd 167 := Or.inr ⟨mo_167, (fun h => absurd h (by decide)), fun pc f h => dm_rows tk_167 pc f h⟩
theorem to_168 : dm_Tok dm_tb dm_cd 168 := Or.inr ⟨mo_168, (fun h => absurd h (by decide)), fun pc f h => dm_rows tk_168 pc f h⟩
theorem to_169 : dm_Tok dm_tb dm_cd 169 := Or.inr ⟨mo_169, (fun h => absurd h (by decide)), fun pc f h => dm_rows tk_169 pc f h⟩
theorem to_170 : dm_Tok dm_tb dm_cd 170 := Or.inr ⟨mo_170, (fun h => absurd h (by decide)), fun pc f h => dm_rows tk_170 pc f h⟩
theorem to_171 : dm_Tok dm_tb dm_cd 171 := Or.inr ⟨mo_171, (fun h => absurd h (by decide)), fun pc f h => dm_rows tk_171 pc f h⟩
theorem to_172 : dm_Tok dm_tb dm_cd 172 := Or.inr ⟨mo_172, (fun h => absurd h (by decide)), fun pc f h => dm_rows tk_172 pc f h⟩
theorem to_173 : dm_Tok dm_tb dm_cd 173 := Or.inr ⟨mo_173, (fun h => absurd h (by decide)), fun pc f h => dm_rows tk_173 pc f h⟩
theorem to_174 : dm_Tok dm_tb dm_cd 174 := Or.inr ⟨mo_174, (fun h => absurd h (by decide)), fun pc f h => dm_rows tk_174 pc f h⟩
theorem to_175 : dm_Tok dm_tb dm_cd 175 := Or.inr ⟨mo_175, (fun h => absurd h (by decide)), fun pc f h => dm_rows tk_175 pc f h⟩
theorem to_176 : dm_Tok dm_tb dm_cd 176 := Or.inr ⟨mo_176, (fun h => absurd h (by decide)), fun pc f h => dm_rows tk_176 pc f h⟩
theorem to_177 : dm_Tok dm_tb dm_cd 177 := Or.inr ⟨mo_177, (fun h => absurd h (by decide)), fun pc f h => dm_rows tk_177 pc f h⟩
theorem to_178 : dm_Tok dm_tb dm_cd 178 := Or.inr ⟨mo_178, (fun h => absurd h (by decide)), fun pc f h => dm_rows tk_178 pc f h⟩
theorem to_179 : dm_Tok dm_tb dm_cd 179 := Or.inr ⟨mo_179, (fun h => absurd h (by decide)), fun pc f h => dm_rows tk_179 pc f h⟩
theorem to_180 : dm_Tok dm_tb dm_cd 180 := Or.inr ⟨mo_180, (fun h => absurd h (by decide)), fun pc f h => dm_rows tk_180 pc f h⟩
theorem to_181 : dm_Tok dm_tb dm_cd 181 := Or.inr ⟨mo_181, (fun h => absurd h (by decide)), fun pc f h => dm_rows tk_181 pc f h⟩
theorem to_182 : dm_Tok dm_tb dm_cd 182 := Or.inr ⟨mo_182, (fun h => absurd h (by decide)), fun pc f h => dm_rows tk_182 pc f h⟩
theorem to_183 : dm_Tok dm_tb dm_cd 183 := Or.inr ⟨mo_183, (fun h => absurd h (by decide)), fun pc f h => dm_rows tk_183 pc f h⟩
theorem to_184 : dm_Tok dm_tb dm_cd 184 := Or.inr ⟨mo_184, (fun h => absurd h (by decide)), fun pc f h => dm_rows tk_184 pc f h⟩
theorem to_185 : dm_Tok dm_tb dm_cd 185 := Or.inr ⟨mo_185, (fun h => absurd h (by decide)), fun pc f h => dm_rows tk_185 pc f h⟩
theorem to_186 : dm_Tok dm_tb dm_cd 186 := Or.inr ⟨mo_186, (fun h => absurd h (by decide)), fun pc f h => dm_rows tk_186 pc f h⟩
theorem to_187 : dm_Tok dm_tb dm_cd 187 := Or.inr ⟨mo_187, (fun h => absurd h (by decide)), fun pc f h => dm_rows tk_187 pc f h⟩
theorem to_188 : dm_Tok dm_tb dm_cd 188 := Or.inr ⟨mo_188, (fun h => absurd h (by decide)), fun pc f h => dm_rows tk_188 pc f h⟩
theorem to_189 : dm_Tok dm_tb dm_cd 189 := Or.inr ⟨mo_189, (fun h => absurd h (by decide)), fun pc f h => dm_rows tk_189 pc f h⟩
theorem to_190 : dm_Tok dm_tb dm_cd 190 := Or.inr ⟨mo_190, (fun h => absurd h (by decide)), fun pc f h => dm_rows tk_190 pc f h⟩
theorem to_191 : dm_Tok dm_tb dm_cd 191 := Or.inr ⟨mo_191, (fun h => absurd h (by decide)), fun pc f h => dm_rows tk_191 pc f h⟩
theorem to_192 : dm_Tok dm_tb dm_cd 192 := Or.inr ⟨mo_192, (fun h => absurd h (by decide)), fun pc f h => dm_rows tk_192 pc f h⟩
theorem to_193 : dm_Tok dm_tb dm_cd 193 := Or.inr ⟨mo_193, (fun h => absurd h (by decide)), fun pc f h => dm_rows tk_193 pc f h⟩
theorem to_194 : dm_Tok dm_tb dm_cd 194 := Or.inr ⟨mo_194, (fun h => absurd h (by decide)), fun pc f h => dm_rows tk_194 pc f h⟩
theorem to_195 : dm_Tok dm_tb dm_cd 195 := Or.inr ⟨mo_195, (fun h => absurd h (by decide)), fun pc f h => dm_rows tk_195 pc f h⟩
theorem to_196 : dm_Tok dm_tb dm_cd 196 := Or.inr ⟨mo_196, (fun h => absurd h (by decide)), fun pc f h => dm_rows tk_196 pc f h⟩
theorem to_197 : dm_Tok dm_tb dm_cd 197 := Or.inr ⟨mo_197, (fun h => absurd h (by decide)), fun pc f h => dm_rows tk_197 pc f h⟩
theorem to_198 : dm_Tok dm_tb dm_cd 198 := Or.inr ⟨mo_198, (fun h => absurd h (by decide)), fun pc f h => dm_rows tk_198 pc f h⟩
theorem to_199 : dm_Tok dm_tb dm_cd 199 := Or.inr ⟨mo_199, (fun h => absurd h (by decide)), fun pc f h => dm_rows tk_199 pc f h⟩
theorem to_200 : dm_Tok dm_tb dm_cd 200 := Or.inr ⟨mo_200, (fun h => absurd h (by decide)), fun pc f h => dm_rows tk_200 pc f h⟩
theorem to_201 : dm_Tok dm_tb dm_cd 201 := Or.inr ⟨mo_201, (fun h => absurd h (by decide)), fun pc f h => dm_rows tk_201 pc f h⟩
theorem to_202 : dm_Tok dm_tb dm_cd 202 := Or.inr ⟨mo_202, (fun h => absurd h (by decide)), fun pc f h => dm_rows tk_202 pc f h⟩
theorem to_203 : dm_Tok dm_tb dm_cd 203 := Or.inr ⟨mo_203, (fun h => absurd h (by decide)), fun pc f h => dm_rows tk_203 pc f h⟩
theorem to_204 : dm_Tok dm_tb dm_cd 204 := Or.inr ⟨mo_204, (fun h => absurd h (by decide)), fun pc f h => dm_rows tk_204 pc f h⟩
theorem to_205 : dm_Tok dm_tb dm_cd 205 := Or.inr ⟨mo_205, (fun h => absurd h (by decide)), fun pc f h => dm_rows tk_205 pc f h⟩
theorem to_206 : dm_Tok dm_tb dm_cd 206 := Or.inr ⟨mo_206, (fun h => absurd h (by decide)), fun pc f h => dm_rows tk_206 pc f h⟩
theorem to_207 : dm_Tok dm_tb dm_cd 207 := Or.inr ⟨mo_207, (fun h => absurd h (by decide)), fun pc f h => dm_rows tk_207 pc f h⟩
theorem to_208 : dm_Tok dm_tb dm_cd 208 := Or.inr ⟨mo_208, (fun h => absurd h (by decide)), fun pc f h => dm_rows tk_208 pc f h⟩
theorem to_209 : dm_Tok dm_tb dm_cd 209 := Or.inr ⟨mo_209, (fun h => absurd h (by decide)), fun pc f h => dm_rows tk_209 pc f h⟩
theorem tl_20 : ∀ mi, mi < 20 → dm_Tok dm_tb dm_cd mi := lt_s (lt_s (lt_s (lt_s (lt_s (lt_s (lt_s (lt_s (lt_s (lt_s (lt_s (lt_s (lt_s (lt_s (lt_s (lt_s (lt_s (lt_s (lt_s (lt_s (lt_0) to_0) to_1) to_2) to_3) to_4) to_5) to_6) to_7) to_8) to_9) to_10) to_11) to_12) to_13) to_14) to_15) to_16) to_17) to_18) to_19
theorem tl_40 : ∀ mi, mi < 40 → dm_Tok dm_tb dm_cd mi := lt_s (lt_s (lt_s (lt_s (lt_s (lt_s (lt_s (lt_s (lt_s (lt_s (lt_s (lt_s (lt_s (lt_s (lt_s (lt_s (lt_s (lt_s (lt_s (lt_s (tl_20) to_20) to_21) to_22) to_23) to_24) to_25) to_26) to_27) to_28) to_29) to_30) to_31) to_32) to_33) to_34) to_35) to_36) to_37) to_38) to_39
theorem tl_60 : ∀ mi, mi < 60 → dm_Tok dm_tb dm_cd mi := lt_s (lt_s (lt_s (lt_s (lt_s (lt_s (lt_s (lt_s (lt_s (lt_s (lt_s (lt_s (lt_s (lt_s (lt_s (lt_s (lt_s (lt_s (lt_s (lt_s (tl_40) to_40) to_41) to_42) to_43) to_44) to_45) to_46) to_47) to_48) to_49) to_50) to_51) to_52) to_53) to_54) to_55) to_56) to_57) to_58) to_59
theorem tl_80 : ∀ mi, mi < 80 → dm_Tok dm_tb dm_cd mi := lt_s (lt_s (lt_s (lt_s (lt_s (lt_s (lt_s (lt_s (lt_s (lt_s (lt_s (lt_s (lt_s (lt_s (lt_s (lt_s (lt_s (lt_s (lt_s (lt_s (tl_60) to_60) to_61) to_62) to_63) to_64) to_65) to_66) to_67) to_68) to_69) to_70) to_71) to_72) to_73) to_74) to_75) to_76) to_77) to_78) to_79
theorem tl_100 : ∀ mi, mi < 100 → dm_Tok dm_tb dm_cd mi := lt_s (lt_s (lt_s (lt_s (lt_s (lt_s (lt_s (lt_s (lt_s (lt_s (lt_s (lt_s (lt_s (lt_s (lt_s (lt_s (lt_s (lt_s (lt_s (lt_s (tl_80) to_80) to_81) to_82) to_83) to_84) to_85) to_86) to_87) to_88) to_89) to_90) to_91) to_92) to_93) to_94) to_95) to_96) to_97) to_98) to_99
theorem tl_120 : ∀ mi, mi < 120 → dm_Tok dm_tb dm_cd mi := lt_s (lt_s (lt_s (lt_s (lt_s (lt_s (lt_s (lt_s (lt_s (lt_s (lt_s (lt_s (lt_s (lt_s (lt_s (lt_s (lt_s (lt_s (lt_s (lt_s (tl_100) to_100) to_101) to_102) to_103) to_104) to_105) to_106) to_107) to_108) to_109) to_110) to_111) to_112) to_113) to_114) to_115) to_116) to_117) to_118) to_119
theorem tl_140 : ∀ mi, mi < 140 → dm_Tok dm_tb dm_cd mi := lt_s (lt_s (lt_s (lt_s (lt_s (lt_s (lt_s (lt_s (lt_s (lt_s (lt_s (lt_s (lt_s (lt_s (lt_s (lt_s (lt_s (lt_s (lt_s (lt_s (tl_120) to_120) to_121) to_122) to_123) to_124) to_125) to_126) to_127) to_128) to_129) to_130) to_131) to_132) to_133) to_134) to_135) to_136) to_137) to_138) to_139
theorem tl_160 : ∀ mi, mi < 160 → dm_Tok dm_tb dm_cd mi := lt_s (lt_s (lt_s (lt_s (lt_s (lt_s (lt_s (lt_s (lt_s (lt_s (lt_s (lt_s (lt_s (lt_s (lt_s (lt_s (lt_s (lt_s (lt_s (lt_s (tl_140) to_140) to_141) to_142) to_143) to_144) to_145) to_146) to_147) to_148) to_149) to_150) to_151) to_152) to_153) to_154) to_155) to_156) to_157) to_158) to_159
theorem tl_180 : ∀ mi, mi < 180 → dm_Tok dm_tb dm_cd mi := lt_s (lt_s (lt_s (lt_s (lt_s (lt_s (lt_s (lt_s (lt_s (lt_s (lt_s (lt_s (lt_s (lt_s (lt_s (lt_s (lt_s (lt_s (lt_s (lt_s (tl_160) to_160) to_161) to_162) to_163) to_164) to_165) to_166) to_167) to_168) to_169) to_170) to_171) to_172) to_173) to_174) to_175) to_176) to_177) to_178) to_179
theorem tl_200 : ∀ mi, mi < 200 → dm_Tok dm_tb dm_cd mi := lt_s (lt_s (lt_s (lt_s (lt_s (lt_s (lt_s (lt_s (lt_s (lt_s (lt_s (lt_s (lt_s (lt_s (lt_s (lt_s (lt_s (lt_s (lt_s (lt_s (tl_180) to_180) to_181) to_182) to_183) to_184) to_185) to_186) to_187) to_188) to_189) to_190) to_191) to_192) to_193) to_194) to_195) to_196) to_197) to_198) to_199
theorem tl_210 : ∀ mi, mi < 210 → dm_Tok dm_tb dm_cd mi := lt_s (lt_s (lt_s (lt_s (lt_s (lt_s (lt_s (lt_s (lt_s (lt_s (tl_200) to_200) to_201) to_202) to_203) to_204) to_205) to_206) to_207) to_208) to_209
theorem dm_all : ∀ mi, dm_Tok dm_tb dm_cd mi := by
  intro mi
  by_cases h : mi < 210
  · exact tl_210 mi h
  · refine Or.inl ?_
    by_cases h2 : mi < 224
    · have h3 : ∃ j, j < 14 ∧ mi = 210 + j := ⟨mi - 210, by omega, by omega⟩
      obtain ⟨j, hj, rfl⟩ := h3
      revert j
      decide
    · unfold dm_cd
      have h4 : dm_cdL[mi / 16]? = none := by
        apply List.getElem?_eq_none
        show 14 ≤ mi / 16
        omega
      rw [h4]
