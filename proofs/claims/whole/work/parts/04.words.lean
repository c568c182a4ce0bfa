theorem tbl_out {x : Int32} {lo hi : Int} (h : ∀ k : Int, lo ≤ k → k ≤ hi → ¬ x = Int32.ofInt k) : x.toInt < lo ∨ hi < x.toInt := by
  by_cases h1 : x.toInt < lo
  · exact Or.inl h1
  · by_cases h2 : hi < x.toInt
    · exact Or.inr h2
    · exact absurd (Int32.ofInt_toInt x).symm (h x.toInt (by omega) (by omega))
def IsX (Z : ZT) : Prop := zl Z = layX ∧ zn Z = 164
def IsM (Z : ZT) : Prop := zl Z = layM ∧ zn Z = 16
theorem ox_0 {Z : ZT} (hZ : IsX Z) : AtO Z 0 8 := ⟨by rw [hZ.1]; rfl, by rw [hZ.2]; decide, by decide⟩
theorem ox_1 {Z : ZT} (hZ : IsX Z) : AtO Z 1 5 := ⟨by rw [hZ.1]; rfl, by rw [hZ.2]; decide, by decide⟩
theorem ox_2 {Z : ZT} (hZ : IsX Z) : AtA Z 2 200 := ⟨by rw [hZ.1]; rfl, by rw [hZ.2]; decide, by decide⟩
theorem ox_3 {Z : ZT} (hZ : IsX Z) : AtA Z 3 5 := ⟨by rw [hZ.1]; rfl, by rw [hZ.2]; decide, by decide⟩
theorem ox_4 {Z : ZT} (hZ : IsX Z) : AtO Z 4 4 := ⟨by rw [hZ.1]; rfl, by rw [hZ.2]; decide, by decide⟩
theorem ox_5 {Z : ZT} (hZ : IsX Z) : AtA Z 5 7 := ⟨by rw [hZ.1]; rfl, by rw [hZ.2]; decide, by decide⟩
theorem ox_6 {Z : ZT} (hZ : IsX Z) : AtA Z 6 7 := ⟨by rw [hZ.1]; rfl, by rw [hZ.2]; decide, by decide⟩
theorem ox_7 {Z : ZT} (hZ : IsX Z) : AtA Z 7 7 := ⟨by rw [hZ.1]; rfl, by rw [hZ.2]; decide, by decide⟩
theorem ox_8 {Z : ZT} (hZ : IsX Z) : AtA Z 8 7 := ⟨by rw [hZ.1]; rfl, by rw [hZ.2]; decide, by decide⟩
theorem ox_9 {Z : ZT} (hZ : IsX Z) : AtA Z 9 7 := ⟨by rw [hZ.1]; rfl, by rw [hZ.2]; decide, by decide⟩
theorem ox_10 {Z : ZT} (hZ : IsX Z) : AtA Z 10 7 := ⟨by rw [hZ.1]; rfl, by rw [hZ.2]; decide, by decide⟩
theorem ox_11 {Z : ZT} (hZ : IsX Z) : AtO Z 11 4 := ⟨by rw [hZ.1]; rfl, by rw [hZ.2]; decide, by decide⟩
theorem ox_12 {Z : ZT} (hZ : IsX Z) : AtA Z 12 7 := ⟨by rw [hZ.1]; rfl, by rw [hZ.2]; decide, by decide⟩
theorem ox_13 {Z : ZT} (hZ : IsX Z) : AtA Z 13 7 := ⟨by rw [hZ.1]; rfl, by rw [hZ.2]; decide, by decide⟩
theorem ox_14 {Z : ZT} (hZ : IsX Z) : AtA Z 14 7 := ⟨by rw [hZ.1]; rfl, by rw [hZ.2]; decide, by decide⟩
theorem ox_15 {Z : ZT} (hZ : IsX Z) : AtA Z 15 7 := ⟨by rw [hZ.1]; rfl, by rw [hZ.2]; decide, by decide⟩
theorem ox_16 {Z : ZT} (hZ : IsX Z) : AtA Z 16 7 := ⟨by rw [hZ.1]; rfl, by rw [hZ.2]; decide, by decide⟩
theorem ox_17 {Z : ZT} (hZ : IsX Z) : AtA Z 17 7 := ⟨by rw [hZ.1]; rfl, by rw [hZ.2]; decide, by decide⟩
theorem ox_18 {Z : ZT} (hZ : IsX Z) : AtO Z 18 2 := ⟨by rw [hZ.1]; rfl, by rw [hZ.2]; decide, by decide⟩
theorem ox_19 {Z : ZT} (hZ : IsX Z) : AtA Z 19 7 := ⟨by rw [hZ.1]; rfl, by rw [hZ.2]; decide, by decide⟩
theorem ox_20 {Z : ZT} (hZ : IsX Z) : AtA Z 20 7 := ⟨by rw [hZ.1]; rfl, by rw [hZ.2]; decide, by decide⟩
theorem ox_21 {Z : ZT} (hZ : IsX Z) : AtA Z 21 7 := ⟨by rw [hZ.1]; rfl, by rw [hZ.2]; decide, by decide⟩
theorem ox_22 {Z : ZT} (hZ : IsX Z) : AtA Z 22 7 := ⟨by rw [hZ.1]; rfl, by rw [hZ.2]; decide, by decide⟩
theorem ox_23 {Z : ZT} (hZ : IsX Z) : AtA Z 23 7 := ⟨by rw [hZ.1]; rfl, by rw [hZ.2]; decide, by decide⟩
theorem ox_24 {Z : ZT} (hZ : IsX Z) : AtA Z 24 7 := ⟨by rw [hZ.1]; rfl, by rw [hZ.2]; decide, by decide⟩
theorem ox_25 {Z : ZT} (hZ : IsX Z) : AtA Z 25 7 := ⟨by rw [hZ.1]; rfl, by rw [hZ.2]; decide, by decide⟩
theorem ox_26 {Z : ZT} (hZ : IsX Z) : AtO Z 26 2 := ⟨by rw [hZ.1]; rfl, by rw [hZ.2]; decide, by decide⟩
theorem ox_27 {Z : ZT} (hZ : IsX Z) : AtA Z 27 7 := ⟨by rw [hZ.1]; rfl, by rw [hZ.2]; decide, by decide⟩
theorem ox_28 {Z : ZT} (hZ : IsX Z) : AtA Z 28 7 := ⟨by rw [hZ.1]; rfl, by rw [hZ.2]; decide, by decide⟩
theorem ox_29 {Z : ZT} (hZ : IsX Z) : AtA Z 29 7 := ⟨by rw [hZ.1]; rfl, by rw [hZ.2]; decide, by decide⟩
theorem ox_30 {Z : ZT} (hZ : IsX Z) : AtA Z 30 7 := ⟨by rw [hZ.1]; rfl, by rw [hZ.2]; decide, by decide⟩
theorem ox_31 {Z : ZT} (hZ : IsX Z) : AtA Z 31 7 := ⟨by rw [hZ.1]; rfl, by rw [hZ.2]; decide, by decide⟩
theorem ox_32 {Z : ZT} (hZ : IsX Z) : AtA Z 32 7 := ⟨by rw [hZ.1]; rfl, by rw [hZ.2]; decide, by decide⟩
theorem ox_33 {Z : ZT} (hZ : IsX Z) : AtA Z 33 7 := ⟨by rw [hZ.1]; rfl, by rw [hZ.2]; decide, by decide⟩
theorem ox_34 {Z : ZT} (hZ : IsX Z) : AtO Z 34 3 := ⟨by rw [hZ.1]; rfl, by rw [hZ.2]; decide, by decide⟩
theorem ox_35 {Z : ZT} (hZ : IsX Z) : AtA Z 35 7 := ⟨by rw [hZ.1]; rfl, by rw [hZ.2]; decide, by decide⟩
theorem ox_36 {Z : ZT} (hZ : IsX Z) : AtA Z 36 7 := ⟨by rw [hZ.1]; rfl, by rw [hZ.2]; decide, by decide⟩
theorem ox_37 {Z : ZT} (hZ : IsX Z) : AtA Z 37 7 := ⟨by rw [hZ.1]; rfl, by rw [hZ.2]; decide, by decide⟩
theorem ox_38 {Z : ZT} (hZ : IsX Z) : AtA Z 38 7 := ⟨by rw [hZ.1]; rfl, by rw [hZ.2]; decide, by decide⟩
theorem ox_39 {Z : ZT} (hZ : IsX Z) : AtA Z 39 7 := ⟨by rw [hZ.1]; rfl, by rw [hZ.2]; decide, by decide⟩
theorem ox_40 {Z : ZT} (hZ : IsX Z) : AtO Z 40 6 := ⟨by rw [hZ.1]; rfl, by rw [hZ.2]; decide, by decide⟩
theorem ox_41 {Z : ZT} (hZ : IsX Z) : AtR Z 41 8 := ⟨by rw [hZ.1]; rfl, by rw [hZ.2]; decide, by decide⟩
theorem ox_42 {Z : ZT} (hZ : IsX Z) : AtO Z 42 2 := ⟨by rw [hZ.1]; rfl, by rw [hZ.2]; decide, by decide⟩
theorem ox_43 {Z : ZT} (hZ : IsX Z) : AtA Z 43 7 := ⟨by rw [hZ.1]; rfl, by rw [hZ.2]; decide, by decide⟩
theorem ox_44 {Z : ZT} (hZ : IsX Z) : AtA Z 44 7 := ⟨by rw [hZ.1]; rfl, by rw [hZ.2]; decide, by decide⟩
theorem ox_45 {Z : ZT} (hZ : IsX Z) : AtA Z 45 7 := ⟨by rw [hZ.1]; rfl, by rw [hZ.2]; decide, by decide⟩
theorem ox_46 {Z : ZT} (hZ : IsX Z) : AtA Z 46 7 := ⟨by rw [hZ.1]; rfl, by rw [hZ.2]; decide, by decide⟩
theorem ox_47 {Z : ZT} (hZ : IsX Z) : AtA Z 47 7 := ⟨by rw [hZ.1]; rfl, by rw [hZ.2]; decide, by decide⟩
theorem ox_48 {Z : ZT} (hZ : IsX Z) : AtA Z 48 7 := ⟨by rw [hZ.1]; rfl, by rw [hZ.2]; decide, by decide⟩
theorem ox_49 {Z : ZT} (hZ : IsX Z) : AtA Z 49 7 := ⟨by rw [hZ.1]; rfl, by rw [hZ.2]; decide, by decide⟩
theorem ox_50 {Z : ZT} (hZ : IsX Z) : AtO Z 50 2 := ⟨by rw [hZ.1]; rfl, by rw [hZ.2]; decide, by decide⟩
theorem ox_51 {Z : ZT} (hZ : IsX Z) : AtA Z 51 7 := ⟨by rw [hZ.1]; rfl, by rw [hZ.2]; decide, by decide⟩
theorem ox_52 {Z : ZT} (hZ : IsX Z) : AtA Z 52 7 := ⟨by rw [hZ.1]; rfl, by rw [hZ.2]; decide, by decide⟩
theorem ox_53 {Z : ZT} (hZ : IsX Z) : AtA Z 53 7 := ⟨by rw [hZ.1]; rfl, by rw [hZ.2]; decide, by decide⟩
theorem ox_54 {Z : ZT} (hZ : IsX Z) : AtA Z 54 7 := ⟨by rw [hZ.1]; rfl, by rw [hZ.2]; decide, by decide⟩
theorem ox_55 {Z : ZT} (hZ : IsX Z) : AtA Z 55 7 := ⟨by rw [hZ.1]; rfl, by rw [hZ.2]; decide, by decide⟩
theorem ox_56 {Z : ZT} (hZ : IsX Z) : AtA Z 56 7 := ⟨by rw [hZ.1]; rfl, by rw [hZ.2]; decide, by decide⟩
theorem ox_57 {Z : ZT} (hZ : IsX Z) : AtA Z 57 7 := ⟨by rw [hZ.1]; rfl, by rw [hZ.2]; decide, by decide⟩
theorem ox_58 {Z : ZT} (hZ : IsX Z) : AtO Z 58 2 := ⟨by rw [hZ.1]; rfl, by rw [hZ.2]; decide, by decide⟩
theorem ox_59 {Z : ZT} (hZ : IsX Z) : AtA Z 59 7 := ⟨by rw [hZ.1]; rfl, by rw [hZ.2]; decide, by decide⟩
theorem ox_60 {Z : ZT} (hZ : IsX Z) : AtA Z 60 7 := ⟨by rw [hZ.1]; rfl, by rw [hZ.2]; decide, by decide⟩
theorem ox_61 {Z : ZT} (hZ : IsX Z) : AtA Z 61 7 := ⟨by rw [hZ.1]; rfl, by rw [hZ.2]; decide, by decide⟩
theorem ox_62 {Z : ZT} (hZ : IsX Z) : AtA Z 62 7 := ⟨by rw [hZ.1]; rfl, by rw [hZ.2]; decide, by decide⟩
theorem ox_63 {Z : ZT} (hZ : IsX Z) : AtA Z 63 7 := ⟨by rw [hZ.1]; rfl, by rw [hZ.2]; decide, by decide⟩
theorem ox_64 {Z : ZT} (hZ : IsX Z) : AtA Z 64 7 := ⟨by rw [hZ.1]; rfl, by rw [hZ.2]; decide, by decide⟩
theorem ox_65 {Z : ZT} (hZ : IsX Z) : AtA Z 65 7 := ⟨by rw [hZ.1]; rfl, by rw [hZ.2]; decide, by decide⟩
theorem ox_66 {Z : ZT} (hZ : IsX Z) : AtO Z 66 2 := ⟨by rw [hZ.1]; rfl, by rw [hZ.2]; decide, by decide⟩
theorem ox_67 {Z : ZT} (hZ : IsX Z) : AtA Z 67 7 := ⟨by rw [hZ.1]; rfl, by rw [hZ.2]; decide, by decide⟩
theorem ox_68 {Z : ZT} (hZ : IsX Z) : AtA Z 68 7 := ⟨by rw [hZ.1]; rfl, by rw [hZ.2]; decide, by decide⟩
theorem ox_69 {Z : ZT} (hZ : IsX Z) : AtA Z 69 7 := ⟨by rw [hZ.1]; rfl, by rw [hZ.2]; decide, by decide⟩
theorem ox_70 {Z : ZT} (hZ : IsX Z) : AtA Z 70 7 := ⟨by rw [hZ.1]; rfl, by rw [hZ.2]; decide, by decide⟩
theorem ox_71 {Z : ZT} (hZ : IsX Z) : AtA Z 71 7 := ⟨by rw [hZ.1]; rfl, by rw [hZ.2]; decide, by decide⟩
theorem ox_72 {Z : ZT} (hZ : IsX Z) : AtA Z 72 7 := ⟨by rw [hZ.1]; rfl, by rw [hZ.2]; decide, by decide⟩
theorem ox_73 {Z : ZT} (hZ : IsX Z) : AtA Z 73 7 := ⟨by rw [hZ.1]; rfl, by rw [hZ.2]; decide, by decide⟩
theorem ox_74 {Z : ZT} (hZ : IsX Z) : AtO Z 74 2 := ⟨by rw [hZ.1]; rfl, by rw [hZ.2]; decide, by decide⟩
theorem ox_75 {Z : ZT} (hZ : IsX Z) : AtA Z 75 7 := ⟨by rw [hZ.1]; rfl, by rw [hZ.2]; decide, by decide⟩
theorem ox_76 {Z : ZT} (hZ : IsX Z) : AtA Z 76 7 := ⟨by rw [hZ.1]; rfl, by rw [hZ.2]; decide, by decide⟩
theorem ox_77 {Z : ZT} (hZ : IsX Z) : AtA Z 77 7 := ⟨by rw [hZ.1]; rfl, by rw [hZ.2]; decide, by decide⟩
theorem ox_78 {Z : ZT} (hZ : IsX Z) : AtA Z 78 7 := ⟨by rw [hZ.1]; rfl, by rw [hZ.2]; decide, by decide⟩
theorem ox_79 {Z : ZT} (hZ : IsX Z) : AtA Z 79 7 := ⟨by rw [hZ.1]; rfl, by rw [hZ.2]; decide, by decide⟩
theorem ox_80 {Z : ZT} (hZ : IsX Z) : AtA Z 80 7 := ⟨by rw [hZ.1]; rfl, by rw [hZ.2]; decide, by decide⟩
theorem ox_81 {Z : ZT} (hZ : IsX Z) : AtA Z 81 7 := ⟨by rw [hZ.1]; rfl, by rw [hZ.2]; decide, by decide⟩
theorem ox_82 {Z : ZT} (hZ : IsX Z) : AtO Z 82 2 := ⟨by rw [hZ.1]; rfl, by rw [hZ.2]; decide, by decide⟩
theorem ox_83 {Z : ZT} (hZ : IsX Z) : AtA Z 83 7 := ⟨by rw [hZ.1]; rfl, by rw [hZ.2]; decide, by decide⟩
theorem ox_84 {Z : ZT} (hZ : IsX Z) : AtA Z 84 7 := ⟨by rw [hZ.1]; rfl, by rw [hZ.2]; decide, by decide⟩
theorem ox_85 {Z : ZT} (hZ : IsX Z) : AtA Z 85 7 := ⟨by rw [hZ.1]; rfl, by rw [hZ.2]; decide, by decide⟩
theorem ox_86 {Z : ZT} (hZ : IsX Z) : AtA Z 86 7 := ⟨by rw [hZ.1]; rfl, by rw [hZ.2]; decide, by decide⟩
theorem ox_87 {Z : ZT} (hZ : IsX Z) : AtA Z 87 7 := ⟨by rw [hZ.1]; rfl, by rw [hZ.2]; decide, by decide⟩
theorem ox_88 {Z : ZT} (hZ : IsX Z) : AtA Z 88 7 := ⟨by rw [hZ.1]; rfl, by rw [hZ.2]; decide, by decide⟩
theorem ox_89 {Z : ZT} (hZ : IsX Z) : AtA Z 89 7 := ⟨by rw [hZ.1]; rfl, by rw [hZ.2]; decide, by decide⟩
theorem ox_90 {Z : ZT} (hZ : IsX Z) : AtO Z 90 2 := ⟨by rw [hZ.1]; rfl, by rw [hZ.2]; decide, by decide⟩
theorem ox_91 {Z : ZT} (hZ : IsX Z) : AtA Z 91 7 := ⟨by rw [hZ.1]; rfl, by rw [hZ.2]; decide, by decide⟩
theorem ox_92 {Z : ZT} (hZ : IsX Z) : AtA Z 92 7 := ⟨by rw [hZ.1]; rfl, by rw [hZ.2]; decide, by decide⟩
theorem ox_93 {Z : ZT} (hZ : IsX Z) : AtA Z 93 7 := ⟨by rw [hZ.1]; rfl, by rw [hZ.2]; decide, by decide⟩
theorem ox_94 {Z : ZT} (hZ : IsX Z) : AtA Z 94 7 := ⟨by rw [hZ.1]; rfl, by rw [hZ.2]; decide, by decide⟩
theorem ox_95 {Z : ZT} (hZ : IsX Z) : AtA Z 95 7 := ⟨by rw [hZ.1]; rfl, by rw [hZ.2]; decide, by decide⟩
theorem ox_96 {Z : ZT} (hZ : IsX Z) : AtA Z 96 7 := ⟨by rw [hZ.1]; rfl, by rw [hZ.2]; decide, by decide⟩
theorem ox_97 {Z : ZT} (hZ : IsX Z) : AtA Z 97 7 := ⟨by rw [hZ.1]; rfl, by rw [hZ.2]; decide, by decide⟩
theorem ox_98 {Z : ZT} (hZ : IsX Z) : AtO Z 98 2 := ⟨by rw [hZ.1]; rfl, by rw [hZ.2]; decide, by decide⟩
theorem ox_99 {Z : ZT} (hZ : IsX Z) : AtA Z 99 7 := ⟨by rw [hZ.1]; rfl, by rw [hZ.2]; decide, by decide⟩
theorem ox_100 {Z : ZT} (hZ : IsX Z) : AtA Z 100 7 := ⟨by rw [hZ.1]; rfl, by rw [hZ.2]; decide, by decide⟩
theorem ox_101 {Z : ZT} (hZ : IsX Z) : AtA Z 101 7 := ⟨by rw [hZ.1]; rfl, by rw [hZ.2]; decide, by decide⟩
theorem ox_102 {Z : ZT} (hZ : IsX Z) : AtA Z 102 7 := ⟨by rw [hZ.1]; rfl, by rw [hZ.2]; decide, by decide⟩
theorem ox_103 {Z : ZT} (hZ : IsX Z) : AtA Z 103 7 := ⟨by rw [hZ.1]; rfl, by rw [hZ.2]; decide, by decide⟩
theorem ox_104 {Z : ZT} (hZ : IsX Z) : AtA Z 104 7 := ⟨by rw [hZ.1]; rfl, by rw [hZ.2]; decide, by decide⟩
theorem ox_105 {Z : ZT} (hZ : IsX Z) : AtA Z 105 7 := ⟨by rw [hZ.1]; rfl, by rw [hZ.2]; decide, by decide⟩
theorem ox_106 {Z : ZT} (hZ : IsX Z) : AtO Z 106 6 := ⟨by rw [hZ.1]; rfl, by rw [hZ.2]; decide, by decide⟩
theorem ox_107 {Z : ZT} (hZ : IsX Z) : AtR Z 107 2 := ⟨by rw [hZ.1]; rfl, by rw [hZ.2]; decide, by decide⟩
theorem ox_108 {Z : ZT} (hZ : IsX Z) : AtO Z 108 2 := ⟨by rw [hZ.1]; rfl, by rw [hZ.2]; decide, by decide⟩
theorem ox_109 {Z : ZT} (hZ : IsX Z) : AtA Z 109 7 := ⟨by rw [hZ.1]; rfl, by rw [hZ.2]; decide, by decide⟩
theorem ox_110 {Z : ZT} (hZ : IsX Z) : AtA Z 110 7 := ⟨by rw [hZ.1]; rfl, by rw [hZ.2]; decide, by decide⟩
theorem ox_111 {Z : ZT} (hZ : IsX Z) : AtA Z 111 7 := ⟨by rw [hZ.1]; rfl, by rw [hZ.2]; decide, by decide⟩
theorem ox_112 {Z : ZT} (hZ : IsX Z) : AtA Z 112 7 := ⟨by rw [hZ.1]; rfl, by rw [hZ.2]; decide, by decide⟩
theorem ox_113 {Z : ZT} (hZ : IsX Z) : AtA Z 113 7 := ⟨by rw [hZ.1]; rfl, by rw [hZ.2]; decide, by decide⟩
theorem ox_114 {Z : ZT} (hZ : IsX Z) : AtA Z 114 7 := ⟨by rw [hZ.1]; rfl, by rw [hZ.2]; decide, by decide⟩
theorem ox_115 {Z : ZT} (hZ : IsX Z) : AtA Z 115 7 := ⟨by rw [hZ.1]; rfl, by rw [hZ.2]; decide, by decide⟩
theorem ox_116 {Z : ZT} (hZ : IsX Z) : AtO Z 116 2 := ⟨by rw [hZ.1]; rfl, by rw [hZ.2]; decide, by decide⟩
theorem ox_117 {Z : ZT} (hZ : IsX Z) : AtA Z 117 7 := ⟨by rw [hZ.1]; rfl, by rw [hZ.2]; decide, by decide⟩
theorem ox_118 {Z : ZT} (hZ : IsX Z) : AtA Z 118 7 := ⟨by rw [hZ.1]; rfl, by rw [hZ.2]; decide, by decide⟩
theorem ox_119 {Z : ZT} (hZ : IsX Z) : AtA Z 119 7 := ⟨by rw [hZ.1]; rfl, by rw [hZ.2]; decide, by decide⟩
theorem ox_120 {Z : ZT} (hZ : IsX Z) : AtA Z 120 7 := ⟨by rw [hZ.1]; rfl, by rw [hZ.2]; decide, by decide⟩
theorem ox_121 {Z : ZT} (hZ : IsX Z) : AtA Z 121 7 := ⟨by rw [hZ.1]; rfl, by rw [hZ.2]; decide, by decide⟩
theorem ox_122 {Z : ZT} (hZ : IsX Z) : AtA Z 122 7 := ⟨by rw [hZ.1]; rfl, by rw [hZ.2]; decide, by decide⟩
theorem ox_123 {Z : ZT} (hZ : IsX Z) : AtA Z 123 7 := ⟨by rw [hZ.1]; rfl, by rw [hZ.2]; decide, by decide⟩
theorem ox_124 {Z : ZT} (hZ : IsX Z) : AtO Z 124 1 := ⟨by rw [hZ.1]; rfl, by rw [hZ.2]; decide, by decide⟩
theorem ox_125 {Z : ZT} (hZ : IsX Z) : AtA Z 125 7 := ⟨by rw [hZ.1]; rfl, by rw [hZ.2]; decide, by decide⟩
theorem ox_126 {Z : ZT} (hZ : IsX Z) : AtA Z 126 7 := ⟨by rw [hZ.1]; rfl, by rw [hZ.2]; decide, by decide⟩
theorem ox_127 {Z : ZT} (hZ : IsX Z) : AtA Z 127 7 := ⟨by rw [hZ.1]; rfl, by rw [hZ.2]; decide, by decide⟩
theorem ox_128 {Z : ZT} (hZ : IsX Z) : AtO Z 128 2 := ⟨by rw [hZ.1]; rfl, by rw [hZ.2]; decide, by decide⟩
theorem ox_129 {Z : ZT} (hZ : IsX Z) : AtA Z 129 7 := ⟨by rw [hZ.1]; rfl, by rw [hZ.2]; decide, by decide⟩
theorem ox_130 {Z : ZT} (hZ : IsX Z) : AtA Z 130 7 := ⟨by rw [hZ.1]; rfl, by rw [hZ.2]; decide, by decide⟩
theorem ox_131 {Z : ZT} (hZ : IsX Z) : AtA Z 131 7 := ⟨by rw [hZ.1]; rfl, by rw [hZ.2]; decide, by decide⟩
theorem ox_132 {Z : ZT} (hZ : IsX Z) : AtA Z 132 7 := ⟨by rw [hZ.1]; rfl, by rw [hZ.2]; decide, by decide⟩
theorem ox_133 {Z : ZT} (hZ : IsX Z) : AtA Z 133 7 := ⟨by rw [hZ.1]; rfl, by rw [hZ.2]; decide, by decide⟩
theorem ox_134 {Z : ZT} (hZ : IsX Z) : AtA Z 134 7 := ⟨by rw [hZ.1]; rfl, by rw [hZ.2]; decide, by decide⟩
theorem ox_135 {Z : ZT} (hZ : IsX Z) : AtA Z 135 7 := ⟨by rw [hZ.1]; rfl, by rw [hZ.2]; decide, by decide⟩
theorem ox_136 {Z : ZT} (hZ : IsX Z) : AtO Z 136 3 := ⟨by rw [hZ.1]; rfl, by rw [hZ.2]; decide, by decide⟩
theorem ox_137 {Z : ZT} (hZ : IsX Z) : AtA Z 137 7 := ⟨by rw [hZ.1]; rfl, by rw [hZ.2]; decide, by decide⟩
theorem ox_138 {Z : ZT} (hZ : IsX Z) : AtA Z 138 7 := ⟨by rw [hZ.1]; rfl, by rw [hZ.2]; decide, by decide⟩
theorem ox_139 {Z : ZT} (hZ : IsX Z) : AtA Z 139 7 := ⟨by rw [hZ.1]; rfl, by rw [hZ.2]; decide, by decide⟩
theorem ox_140 {Z : ZT} (hZ : IsX Z) : AtA Z 140 7 := ⟨by rw [hZ.1]; rfl, by rw [hZ.2]; decide, by decide⟩
theorem ox_141 {Z : ZT} (hZ : IsX Z) : AtA Z 141 7 := ⟨by rw [hZ.1]; rfl, by rw [hZ.2]; decide, by decide⟩
theorem ox_142 {Z : ZT} (hZ : IsX Z) : AtO Z 142 7 := ⟨by rw [hZ.1]; rfl, by rw [hZ.2]; decide, by decide⟩
theorem ox_143 {Z : ZT} (hZ : IsX Z) : AtA Z 143 7 := ⟨by rw [hZ.1]; rfl, by rw [hZ.2]; decide, by decide⟩
theorem ox_144 {Z : ZT} (hZ : IsX Z) : AtA Z 144 7 := ⟨by rw [hZ.1]; rfl, by rw [hZ.2]; decide, by decide⟩
theorem ox_145 {Z : ZT} (hZ : IsX Z) : AtA Z 145 7 := ⟨by rw [hZ.1]; rfl, by rw [hZ.2]; decide, by decide⟩
theorem ox_146 {Z : ZT} (hZ : IsX Z) : AtA Z 146 7 := ⟨by rw [hZ.1]; rfl, by rw [hZ.2]; decide, by decide⟩
theorem ox_147 {Z : ZT} (hZ : IsX Z) : AtA Z 147 7 := ⟨by rw [hZ.1]; rfl, by rw [hZ.2]; decide, by decide⟩
theorem ox_148 {Z : ZT} (hZ : IsX Z) : AtO Z 148 0 := ⟨by rw [hZ.1]; rfl, by rw [hZ.2]; decide, by decide⟩
theorem ox_149 {Z : ZT} (hZ : IsX Z) : AtA Z 149 7 := ⟨by rw [hZ.1]; rfl, by rw [hZ.2]; decide, by decide⟩
theorem ox_150 {Z : ZT} (hZ : IsX Z) : AtO Z 150 2 := ⟨by rw [hZ.1]; rfl, by rw [hZ.2]; decide, by decide⟩
theorem ox_151 {Z : ZT} (hZ : IsX Z) : AtA Z 151 7 := ⟨by rw [hZ.1]; rfl, by rw [hZ.2]; decide, by decide⟩
theorem ox_152 {Z : ZT} (hZ : IsX Z) : AtA Z 152 7 := ⟨by rw [hZ.1]; rfl, by rw [hZ.2]; decide, by decide⟩
theorem ox_153 {Z : ZT} (hZ : IsX Z) : AtA Z 153 7 := ⟨by rw [hZ.1]; rfl, by rw [hZ.2]; decide, by decide⟩
theorem ox_154 {Z : ZT} (hZ : IsX Z) : AtA Z 154 7 := ⟨by rw [hZ.1]; rfl, by rw [hZ.2]; decide, by decide⟩
theorem ox_155 {Z : ZT} (hZ : IsX Z) : AtA Z 155 7 := ⟨by rw [hZ.1]; rfl, by rw [hZ.2]; decide, by decide⟩
theorem ox_156 {Z : ZT} (hZ : IsX Z) : AtA Z 156 7 := ⟨by rw [hZ.1]; rfl, by rw [hZ.2]; decide, by decide⟩
theorem ox_157 {Z : ZT} (hZ : IsX Z) : AtA Z 157 7 := ⟨by rw [hZ.1]; rfl, by rw [hZ.2]; decide, by decide⟩
theorem ox_158 {Z : ZT} (hZ : IsX Z) : AtO Z 158 3 := ⟨by rw [hZ.1]; rfl, by rw [hZ.2]; decide, by decide⟩
theorem ox_159 {Z : ZT} (hZ : IsX Z) : AtA Z 159 7 := ⟨by rw [hZ.1]; rfl, by rw [hZ.2]; decide, by decide⟩
theorem ox_160 {Z : ZT} (hZ : IsX Z) : AtA Z 160 7 := ⟨by rw [hZ.1]; rfl, by rw [hZ.2]; decide, by decide⟩
theorem ox_161 {Z : ZT} (hZ : IsX Z) : AtA Z 161 7 := ⟨by rw [hZ.1]; rfl, by rw [hZ.2]; decide, by decide⟩
theorem ox_162 {Z : ZT} (hZ : IsX Z) : AtA Z 162 7 := ⟨by rw [hZ.1]; rfl, by rw [hZ.2]; decide, by decide⟩
theorem ox_163 {Z : ZT} (hZ : IsX Z) : AtA Z 163 7 := ⟨by rw [hZ.1]; rfl, by rw [hZ.2]; decide, by decide⟩
theorem om_0 {Z : ZT} (hZ : IsM Z) : AtO Z 0 9 := ⟨by rw [hZ.1]; rfl, by rw [hZ.2]; decide, by decide⟩
theorem om_1 {Z : ZT} (hZ : IsM Z) : AtA Z 1 612 := ⟨by rw [hZ.1]; rfl, by rw [hZ.2]; decide, by decide⟩
theorem om_2 {Z : ZT} (hZ : IsM Z) : AtA Z 2 7 := ⟨by rw [hZ.1]; rfl, by rw [hZ.2]; decide, by decide⟩
theorem om_3 {Z : ZT} (hZ : IsM Z) : AtA Z 3 7 := ⟨by rw [hZ.1]; rfl, by rw [hZ.2]; decide, by decide⟩
theorem om_4 {Z : ZT} (hZ : IsM Z) : AtA Z 4 7 := ⟨by rw [hZ.1]; rfl, by rw [hZ.2]; decide, by decide⟩
theorem om_5 {Z : ZT} (hZ : IsM Z) : AtA Z 5 7 := ⟨by rw [hZ.1]; rfl, by rw [hZ.2]; decide, by decide⟩
theorem om_6 {Z : ZT} (hZ : IsM Z) : AtA Z 6 7 := ⟨by rw [hZ.1]; rfl, by rw [hZ.2]; decide, by decide⟩
theorem om_7 {Z : ZT} (hZ : IsM Z) : AtA Z 7 7 := ⟨by rw [hZ.1]; rfl, by rw [hZ.2]; decide, by decide⟩
theorem om_8 {Z : ZT} (hZ : IsM Z) : AtA Z 8 200 := ⟨by rw [hZ.1]; rfl, by rw [hZ.2]; decide, by decide⟩
theorem om_9 {Z : ZT} (hZ : IsM Z) : AtA Z 9 35 := ⟨by rw [hZ.1]; rfl, by rw [hZ.2]; decide, by decide⟩
theorem om_10 {Z : ZT} (hZ : IsM Z) : AtA Z 10 7 := ⟨by rw [hZ.1]; rfl, by rw [hZ.2]; decide, by decide⟩
theorem om_11 {Z : ZT} (hZ : IsM Z) : AtA Z 11 7 := ⟨by rw [hZ.1]; rfl, by rw [hZ.2]; decide, by decide⟩
theorem om_12 {Z : ZT} (hZ : IsM Z) : AtA Z 12 8 := ⟨by rw [hZ.1]; rfl, by rw [hZ.2]; decide, by decide⟩
theorem om_13 {Z : ZT} (hZ : IsM Z) : AtA Z 13 7 := ⟨by rw [hZ.1]; rfl, by rw [hZ.2]; decide, by decide⟩
theorem om_14 {Z : ZT} (hZ : IsM Z) : AtA Z 14 8 := ⟨by rw [hZ.1]; rfl, by rw [hZ.2]; decide, by decide⟩
theorem om_15 {Z : ZT} (hZ : IsM Z) : AtA Z 15 7 := ⟨by rw [hZ.1]; rfl, by rw [hZ.2]; decide, by decide⟩
def Hh (a : Nat) : Prop := layX a = 2 ∧ a + 7 < 164 ∧ layX (a + 1) = 107 ∧ layX (a + 2) = 107 ∧ layX (a + 3) = 107 ∧ layX (a + 4) = 107 ∧ layX (a + 5) = 107 ∧ layX (a + 6) = 107 ∧ layX (a + 7) = 107
theorem Hh.o {Z : ZT} {a : Nat} (hZ : IsX Z) (h : Hh a) : AtO Z a 2 := ⟨by rw [hZ.1]; exact h.1, by rw [hZ.2]; have := h.2.1; omega, by decide⟩
theorem Hh.f1 {Z : ZT} {a : Nat} (hZ : IsX Z) (h : Hh a) : AtA Z (a + 1) 7 := ⟨by rw [hZ.1]; exact h.2.2.1, by rw [hZ.2]; have := h.2.1; omega, by decide⟩
theorem Hh.f2 {Z : ZT} {a : Nat} (hZ : IsX Z) (h : Hh a) : AtA Z (a + 2) 7 := ⟨by rw [hZ.1]; exact h.2.2.2.1, by rw [hZ.2]; have := h.2.1; omega, by decide⟩
theorem Hh.f3 {Z : ZT} {a : Nat} (hZ : IsX Z) (h : Hh a) : AtA Z (a + 3) 7 := ⟨by rw [hZ.1]; exact h.2.2.2.2.1, by rw [hZ.2]; have := h.2.1; omega, by decide⟩
theorem Hh.f4 {Z : ZT} {a : Nat} (hZ : IsX Z) (h : Hh a) : AtA Z (a + 4) 7 := ⟨by rw [hZ.1]; exact h.2.2.2.2.2.1, by rw [hZ.2]; have := h.2.1; omega, by decide⟩
theorem Hh.f5 {Z : ZT} {a : Nat} (hZ : IsX Z) (h : Hh a) : AtA Z (a + 5) 7 := ⟨by rw [hZ.1]; exact h.2.2.2.2.2.2.1, by rw [hZ.2]; have := h.2.1; omega, by decide⟩
theorem Hh.f6 {Z : ZT} {a : Nat} (hZ : IsX Z) (h : Hh a) : AtA Z (a + 6) 7 := ⟨by rw [hZ.1]; exact h.2.2.2.2.2.2.2.1, by rw [hZ.2]; have := h.2.1; omega, by decide⟩
theorem Hh.f7 {Z : ZT} {a : Nat} (hZ : IsX Z) (h : Hh a) : AtA Z (a + 7) 7 := ⟨by rw [hZ.1]; exact h.2.2.2.2.2.2.2.2, by rw [hZ.2]; have := h.2.1; omega, by decide⟩
def Ho (a : Nat) : Prop := layX a = 3 ∧ a + 5 < 164 ∧ layX (a + 1) = 107 ∧ layX (a + 2) = 107 ∧ layX (a + 3) = 107 ∧ layX (a + 4) = 107 ∧ layX (a + 5) = 107
theorem Ho.o {Z : ZT} {a : Nat} (hZ : IsX Z) (h : Ho a) : AtO Z a 3 := ⟨by rw [hZ.1]; exact h.1, by rw [hZ.2]; have := h.2.1; omega, by decide⟩
theorem Ho.f1 {Z : ZT} {a : Nat} (hZ : IsX Z) (h : Ho a) : AtA Z (a + 1) 7 := ⟨by rw [hZ.1]; exact h.2.2.1, by rw [hZ.2]; have := h.2.1; omega, by decide⟩
theorem Ho.f2 {Z : ZT} {a : Nat} (hZ : IsX Z) (h : Ho a) : AtA Z (a + 2) 7 := ⟨by rw [hZ.1]; exact h.2.2.2.1, by rw [hZ.2]; have := h.2.1; omega, by decide⟩
theorem Ho.f3 {Z : ZT} {a : Nat} (hZ : IsX Z) (h : Ho a) : AtA Z (a + 3) 7 := ⟨by rw [hZ.1]; exact h.2.2.2.2.1, by rw [hZ.2]; have := h.2.1; omega, by decide⟩
theorem Ho.f4 {Z : ZT} {a : Nat} (hZ : IsX Z) (h : Ho a) : AtA Z (a + 4) 7 := ⟨by rw [hZ.1]; exact h.2.2.2.2.2.1, by rw [hZ.2]; have := h.2.1; omega, by decide⟩
theorem Ho.f5 {Z : ZT} {a : Nat} (hZ : IsX Z) (h : Ho a) : AtA Z (a + 5) 7 := ⟨by rw [hZ.1]; exact h.2.2.2.2.2.2, by rw [hZ.2]; have := h.2.1; omega, by decide⟩
def Hp (a : Nat) : Prop := layX a = 4 ∧ a + 6 < 164 ∧ layX (a + 1) = 107 ∧ layX (a + 2) = 107 ∧ layX (a + 3) = 107 ∧ layX (a + 4) = 107 ∧ layX (a + 5) = 107 ∧ layX (a + 6) = 107
theorem Hp.o {Z : ZT} {a : Nat} (hZ : IsX Z) (h : Hp a) : AtO Z a 4 := ⟨by rw [hZ.1]; exact h.1, by rw [hZ.2]; have := h.2.1; omega, by decide⟩
theorem Hp.f1 {Z : ZT} {a : Nat} (hZ : IsX Z) (h : Hp a) : AtA Z (a + 1) 7 := ⟨by rw [hZ.1]; exact h.2.2.1, by rw [hZ.2]; have := h.2.1; omega, by decide⟩
theorem Hp.f2 {Z : ZT} {a : Nat} (hZ : IsX Z) (h : Hp a) : AtA Z (a + 2) 7 := ⟨by rw [hZ.1]; exact h.2.2.2.1, by rw [hZ.2]; have := h.2.1; omega, by decide⟩
theorem Hp.f3 {Z : ZT} {a : Nat} (hZ : IsX Z) (h : Hp a) : AtA Z (a + 3) 7 := ⟨by rw [hZ.1]; exact h.2.2.2.2.1, by rw [hZ.2]; have := h.2.1; omega, by decide⟩
theorem Hp.f4 {Z : ZT} {a : Nat} (hZ : IsX Z) (h : Hp a) : AtA Z (a + 4) 7 := ⟨by rw [hZ.1]; exact h.2.2.2.2.2.1, by rw [hZ.2]; have := h.2.1; omega, by decide⟩
theorem Hp.f5 {Z : ZT} {a : Nat} (hZ : IsX Z) (h : Hp a) : AtA Z (a + 5) 7 := ⟨by rw [hZ.1]; exact h.2.2.2.2.2.2.1, by rw [hZ.2]; have := h.2.1; omega, by decide⟩
theorem Hp.f6 {Z : ZT} {a : Nat} (hZ : IsX Z) (h : Hp a) : AtA Z (a + 6) 7 := ⟨by rw [hZ.1]; exact h.2.2.2.2.2.2.2, by rw [hZ.2]; have := h.2.1; omega, by decide⟩
theorem Hh.lt {a : Nat} (h : Hh a) : a < 2 ^ 31 := by have := h.2.1; omega
def H5 (a : Nat) : Prop := layX a = 105 ∧ a < 164
theorem H5.o {Z : ZT} {a : Nat} (hZ : IsX Z) (h : H5 a) : AtA Z a 5 := ⟨by rw [hZ.1]; exact h.1, by rw [hZ.2]; exact h.2, by decide⟩
def Hf (a n : Nat) : Prop := layX a = 6 ∧ a + 1 < 164 ∧ layX (a + 1) = 2000 + n ∧ n < 1000
theorem Hf.o {Z : ZT} {a n : Nat} (hZ : IsX Z) (h : Hf a n) : AtO Z a 6 := ⟨by rw [hZ.1]; exact h.1, by rw [hZ.2]; have := h.2.1; omega, by decide⟩
theorem Hf.f1 {Z : ZT} {a n : Nat} (hZ : IsX Z) (h : Hf a n) : AtR Z (a + 1) n := ⟨by rw [hZ.1]; exact h.2.2.1, by rw [hZ.2]; exact h.2.1, h.2.2.2⟩
theorem wd_1 : Cond.initialized RX8 ∈ BIG := big_t 1 (by decide +kernel) rfl
theorem wd_2 : Cond.initialized RX5 ∈ BIG := big_t 2 (by decide +kernel) rfl
theorem wd_3 : Cond.initialized RX4 ∈ BIG := big_t 3 (by decide +kernel) rfl
theorem wd_4 : Cond.initialized RX2 ∈ BIG := big_t 4 (by decide +kernel) rfl
theorem wd_5 : Cond.initialized RX3 ∈ BIG := big_t 5 (by decide +kernel) rfl
theorem wd_6 : Cond.initialized RX6 ∈ BIG := big_t 6 (by decide +kernel) rfl
theorem wd_8 : Cond.initialized RX1 ∈ BIG := big_t 8 (by decide +kernel) rfl
theorem wd_9 : Cond.initialized RX7 ∈ BIG := big_t 9 (by decide +kernel) rfl
theorem wd_10 : Cond.initialized RX0 ∈ BIG := big_t 10 (by decide +kernel) rfl
theorem wd_15 : Cond.initialized RX9 ∈ BIG := big_t 15 (by decide +kernel) rfl
theorem wd_372 : Cond.instanceMethod yX5_append ∈ BIG := big_t 372 (by decide +kernel) rfl
theorem wd_373 : Cond.code yX5_append cX5_append 2 (some .boolean) ∈ BIG := big_t 373 (by decide +kernel) rfl
theorem wd_374 : Cond.methodLink RX8 94 yX8_layScript ∈ BIG := big_t 374 (by decide +kernel) rfl
theorem wd_376 : Cond.instanceMethod yX8_layScript ∈ BIG := big_t 376 (by decide +kernel) rfl
theorem wd_377 : Cond.code yX8_layScript cX8_layScript 1 (some .boolean) ∈ BIG := big_t 377 (by decide +kernel) rfl
theorem wd_380 : Cond.instanceMethod yX5_readInto ∈ BIG := big_t 380 (by decide +kernel) rfl
theorem wd_381 : Cond.code yX5_readInto cX5_readInto 5 (some .int) ∈ BIG := big_t 381 (by decide +kernel) rfl
theorem wd_384 : Cond.instanceMethod yX4_clear ∈ BIG := big_t 384 (by decide +kernel) rfl
theorem wd_385 : Cond.code yX4_clear cX4_clear 2 none ∈ BIG := big_t 385 (by decide +kernel) rfl
theorem wd_386 : Cond.methodLink RX5 27 yX5_readItem ∈ BIG := big_t 386 (by decide +kernel) rfl
theorem wd_388 : Cond.instanceMethod yX5_readItem ∈ BIG := big_t 388 (by decide +kernel) rfl
theorem wd_389 : Cond.code yX5_readItem cX5_readItem 4 (some .int) ∈ BIG := big_t 389 (by decide +kernel) rfl
theorem wd_390 : Cond.methodLink RX5 31 yX5_letterAt ∈ BIG := big_t 390 (by decide +kernel) rfl
theorem wd_392 : Cond.instanceMethod yX5_letterAt ∈ BIG := big_t 392 (by decide +kernel) rfl
theorem wd_393 : Cond.code yX5_letterAt cX5_letterAt 2 (some .int) ∈ BIG := big_t 393 (by decide +kernel) rfl
theorem wd_398 : Cond.methodLink RX5 41 yX5_readNumbers ∈ BIG := big_t 398 (by decide +kernel) rfl
theorem wd_400 : Cond.instanceMethod yX5_readNumbers ∈ BIG := big_t 400 (by decide +kernel) rfl
theorem wd_401 : Cond.code yX5_readNumbers cX5_readNumbers 9 (some .int) ∈ BIG := big_t 401 (by decide +kernel) rfl
theorem wd_402 : Cond.methodLink RX5 59 Lib.Math.min.name ∈ BIG := big_t 402 (by decide +kernel) rfl
theorem wd_405 : Cond.methodLink RX5 65 yX5_isFigure ∈ BIG := big_t 405 (by decide +kernel) rfl
theorem wd_407 : Cond.instanceMethod yX5_isFigure ∈ BIG := big_t 407 (by decide +kernel) rfl
theorem wd_408 : Cond.code yX5_isFigure cX5_isFigure 2 (some .boolean) ∈ BIG := big_t 408 (by decide +kernel) rfl
theorem wd_411 : Cond.instanceMethod yX4_addGuest ∈ BIG := big_t 411 (by decide +kernel) rfl
theorem wd_412 : Cond.code yX4_addGuest cX4_addGuest 2 (some .boolean) ∈ BIG := big_t 412 (by decide +kernel) rfl
theorem wd_419 : Cond.instanceMethod yX4_addRoom ∈ BIG := big_t 419 (by decide +kernel) rfl
theorem wd_420 : Cond.code yX4_addRoom cX4_addRoom 2 (some .boolean) ∈ BIG := big_t 420 (by decide +kernel) rfl
theorem wd_423 : Cond.instanceMethod yX4_copyFrom ∈ BIG := big_t 423 (by decide +kernel) rfl
theorem wd_424 : Cond.code yX4_copyFrom cX4_copyFrom 3 none ∈ BIG := big_t 424 (by decide +kernel) rfl
theorem wd_427 : Cond.instanceMethod yX2_open ∈ BIG := big_t 427 (by decide +kernel) rfl
theorem wd_428 : Cond.code yX2_open cX2_open 2 none ∈ BIG := big_t 428 (by decide +kernel) rfl
theorem wd_431 : Cond.instanceMethod yX6_clear ∈ BIG := big_t 431 (by decide +kernel) rfl
theorem wd_432 : Cond.code yX6_clear cX6_clear 1 none ∈ BIG := big_t 432 (by decide +kernel) rfl
theorem wd_435 : Cond.instanceMethod yX7_clear ∈ BIG := big_t 435 (by decide +kernel) rfl
theorem wd_436 : Cond.code yX7_clear cX7_clear 1 none ∈ BIG := big_t 436 (by decide +kernel) rfl
theorem wd_439 : Cond.instanceMethod yX1_goStale ∈ BIG := big_t 439 (by decide +kernel) rfl
theorem wd_440 : Cond.code yX1_goStale cX1_goStale 1 none ∈ BIG := big_t 440 (by decide +kernel) rfl
theorem wd_443 : Cond.instanceMethod yX5_clear ∈ BIG := big_t 443 (by decide +kernel) rfl
theorem wd_444 : Cond.code yX5_clear cX5_clear 1 none ∈ BIG := big_t 444 (by decide +kernel) rfl
theorem wd_502 : Cond.instanceMethod yX4_has ∈ BIG := big_t 502 (by decide +kernel) rfl
theorem wd_503 : Cond.code yX4_has cX4_has 2 (some .boolean) ∈ BIG := big_t 503 (by decide +kernel) rfl
theorem wd_512 : Cond.methodLink RX8 148 yX8_beginAct ∈ BIG := big_t 512 (by decide +kernel) rfl
theorem wd_514 : Cond.instanceMethod yX8_beginAct ∈ BIG := big_t 514 (by decide +kernel) rfl
theorem wd_515 : Cond.code yX8_beginAct cX8_beginAct 1 none ∈ BIG := big_t 515 (by decide +kernel) rfl
theorem wd_518 : Cond.instanceMethod yX6_put ∈ BIG := big_t 518 (by decide +kernel) rfl
theorem wd_519 : Cond.code yX6_put cX6_put 3 none ∈ BIG := big_t 519 (by decide +kernel) rfl
theorem wd_520 : Cond.methodLink RX6 28 yX6_isFull ∈ BIG := big_t 520 (by decide +kernel) rfl
theorem wd_522 : Cond.instanceMethod yX6_isFull ∈ BIG := big_t 522 (by decide +kernel) rfl
theorem wd_523 : Cond.code yX6_isFull cX6_isFull 1 (some .boolean) ∈ BIG := big_t 523 (by decide +kernel) rfl
theorem wd_524 : Cond.methodLink RX6 32 yX6_dropOldest ∈ BIG := big_t 524 (by decide +kernel) rfl
theorem wd_526 : Cond.instanceMethod yX6_dropOldest ∈ BIG := big_t 526 (by decide +kernel) rfl
theorem wd_527 : Cond.code yX6_dropOldest cX6_dropOldest 4 none ∈ BIG := big_t 527 (by decide +kernel) rfl
theorem wd_530 : Cond.instanceMethod yX2_copyFrom ∈ BIG := big_t 530 (by decide +kernel) rfl
theorem wd_531 : Cond.code yX2_copyFrom cX2_copyFrom 3 none ∈ BIG := big_t 531 (by decide +kernel) rfl
theorem wd_534 : Cond.instanceMethod yX2_oneHour ∈ BIG := big_t 534 (by decide +kernel) rfl
theorem wd_535 : Cond.code yX2_oneHour cX2_oneHour 2 none ∈ BIG := big_t 535 (by decide +kernel) rfl
theorem wd_536 : Cond.methodLink RX2 65 yX2_comes ∈ BIG := big_t 536 (by decide +kernel) rfl
theorem wd_538 : Cond.instanceMethod yX2_comes ∈ BIG := big_t 538 (by decide +kernel) rfl
theorem wd_539 : Cond.code yX2_comes cX2_comes 2 none ∈ BIG := big_t 539 (by decide +kernel) rfl
theorem wd_541 : Cond.methodLink RX2 81 yX2_brings ∈ BIG := big_t 541 (by decide +kernel) rfl
theorem wd_543 : Cond.instanceMethod yX2_brings ∈ BIG := big_t 543 (by decide +kernel) rfl
theorem wd_544 : Cond.code yX2_brings cX2_brings 3 (some .int) ∈ BIG := big_t 544 (by decide +kernel) rfl
theorem wd_545 : Cond.methodLink RX2 72 Lib.Math.max.name ∈ BIG := big_t 545 (by decide +kernel) rfl
theorem wd_546 : Cond.methodLink RX2 78 yX2_setFree ∈ BIG := big_t 546 (by decide +kernel) rfl
theorem wd_548 : Cond.instanceMethod yX2_setFree ∈ BIG := big_t 548 (by decide +kernel) rfl
theorem wd_549 : Cond.code yX2_setFree cX2_setFree 4 none ∈ BIG := big_t 549 (by decide +kernel) rfl
theorem wd_556 : Cond.instanceMethod yX2_isBooked ∈ BIG := big_t 556 (by decide +kernel) rfl
theorem wd_557 : Cond.code yX2_isBooked cX2_isBooked 2 (some .boolean) ∈ BIG := big_t 557 (by decide +kernel) rfl
theorem wd_560 : Cond.instanceMethod yX2_rebook ∈ BIG := big_t 560 (by decide +kernel) rfl
theorem wd_561 : Cond.code yX2_rebook cX2_rebook 3 none ∈ BIG := big_t 561 (by decide +kernel) rfl
theorem wd_562 : Cond.methodLink RX2 53 yX2_isBooked ∈ BIG := big_t 562 (by decide +kernel) rfl
theorem wd_569 : Cond.instanceMethod yX2_callOff ∈ BIG := big_t 569 (by decide +kernel) rfl
theorem wd_570 : Cond.code yX2_callOff cX2_callOff 2 none ∈ BIG := big_t 570 (by decide +kernel) rfl
theorem wd_573 : Cond.instanceMethod yX2_howMany ∈ BIG := big_t 573 (by decide +kernel) rfl
theorem wd_574 : Cond.code yX2_howMany cX2_howMany 4 (some .int) ∈ BIG := big_t 574 (by decide +kernel) rfl
theorem wd_581 : Cond.instanceMethod yX2_swapRooms ∈ BIG := big_t 581 (by decide +kernel) rfl
theorem wd_582 : Cond.code yX2_swapRooms cX2_swapRooms 4 none ∈ BIG := big_t 582 (by decide +kernel) rfl
theorem wd_589 : Cond.instanceMethod yX6_takeInto ∈ BIG := big_t 589 (by decide +kernel) rfl
theorem wd_590 : Cond.code yX6_takeInto cX6_takeInto 3 (some .boolean) ∈ BIG := big_t 590 (by decide +kernel) rfl
theorem wd_597 : Cond.instanceMethod yX3_look ∈ BIG := big_t 597 (by decide +kernel) rfl
theorem wd_598 : Cond.code yX3_look cX3_look 2 none ∈ BIG := big_t 598 (by decide +kernel) rfl
theorem wd_599 : Cond.methodLink RX3 41 yX3_lineUp ∈ BIG := big_t 599 (by decide +kernel) rfl
theorem wd_601 : Cond.instanceMethod yX3_lineUp ∈ BIG := big_t 601 (by decide +kernel) rfl
theorem wd_602 : Cond.code yX3_lineUp cX3_lineUp 4 none ∈ BIG := big_t 602 (by decide +kernel) rfl
theorem wd_605 : Cond.instanceMethod yX2_hourOf ∈ BIG := big_t 605 (by decide +kernel) rfl
theorem wd_606 : Cond.code yX2_hourOf cX2_hourOf 2 (some .int) ∈ BIG := big_t 606 (by decide +kernel) rfl
theorem wd_607 : Cond.constant RX2 52 (1000000) ∈ BIG := big_t 607 (by decide +kernel) rfl
theorem wd_608 : Cond.methodLink RX3 45 yX3_reckon ∈ BIG := big_t 608 (by decide +kernel) rfl
theorem wd_610 : Cond.instanceMethod yX3_reckon ∈ BIG := big_t 610 (by decide +kernel) rfl
theorem wd_611 : Cond.code yX3_reckon cX3_reckon 4 none ∈ BIG := big_t 611 (by decide +kernel) rfl
theorem wd_612 : Cond.methodLink RX3 62 yX3_begin ∈ BIG := big_t 612 (by decide +kernel) rfl
theorem wd_614 : Cond.instanceMethod yX3_begin ∈ BIG := big_t 614 (by decide +kernel) rfl
theorem wd_615 : Cond.code yX3_begin cX3_begin 3 none ∈ BIG := big_t 615 (by decide +kernel) rfl
theorem wd_616 : Cond.constant RX3 78 (1000000) ∈ BIG := big_t 616 (by decide +kernel) rfl
theorem wd_617 : Cond.methodLink RX3 79 yX3_leaves ∈ BIG := big_t 617 (by decide +kernel) rfl
theorem wd_619 : Cond.instanceMethod yX3_leaves ∈ BIG := big_t 619 (by decide +kernel) rfl
theorem wd_620 : Cond.code yX3_leaves cX3_leaves 4 none ∈ BIG := big_t 620 (by decide +kernel) rfl
theorem wd_621 : Cond.methodLink RX3 86 Lib.Math.max.name ∈ BIG := big_t 621 (by decide +kernel) rfl
theorem wd_623 : Cond.methodLink RX3 69 yX3_meets ∈ BIG := big_t 623 (by decide +kernel) rfl
theorem wd_625 : Cond.instanceMethod yX3_meets ∈ BIG := big_t 625 (by decide +kernel) rfl
theorem wd_626 : Cond.code yX3_meets cX3_meets 7 none ∈ BIG := big_t 626 (by decide +kernel) rfl
theorem wd_628 : Cond.methodLink RX8 190 yX8_withinHorizon ∈ BIG := big_t 628 (by decide +kernel) rfl
theorem wd_629 : Cond.static yX8_withinHorizon ∈ BIG := big_t 629 (by decide +kernel) rfl
theorem wd_630 : Cond.code yX8_withinHorizon cX8_withinHorizon 1 (some .int) ∈ BIG := big_t 630 (by decide +kernel) rfl
theorem wd_637 : Cond.instanceMethod yX2_loadSoFar ∈ BIG := big_t 637 (by decide +kernel) rfl
theorem wd_638 : Cond.code yX2_loadSoFar cX2_loadSoFar 4 (some .int) ∈ BIG := big_t 638 (by decide +kernel) rfl
theorem wd_644 : Cond.methodLink RX8 202 Lib.Math.max.name ∈ BIG := big_t 644 (by decide +kernel) rfl
theorem wd_655 : Cond.instanceMethod yX1_refresh ∈ BIG := big_t 655 (by decide +kernel) rfl
theorem wd_656 : Cond.code yX1_refresh cX1_refresh 2 none ∈ BIG := big_t 656 (by decide +kernel) rfl
theorem wd_658 : Cond.methodLink RX1 68 yX1_begin ∈ BIG := big_t 658 (by decide +kernel) rfl
theorem wd_660 : Cond.instanceMethod yX1_begin ∈ BIG := big_t 660 (by decide +kernel) rfl
theorem wd_661 : Cond.code yX1_begin cX1_begin 2 none ∈ BIG := big_t 661 (by decide +kernel) rfl
theorem wd_662 : Cond.constant RX1 80 (1000000) ∈ BIG := big_t 662 (by decide +kernel) rfl
theorem wd_663 : Cond.methodLink RX1 90 Lib.Math.min.name ∈ BIG := big_t 663 (by decide +kernel) rfl
theorem wd_664 : Cond.methodLink RX1 96 yX1_isPlace ∈ BIG := big_t 664 (by decide +kernel) rfl
theorem wd_666 : Cond.instanceMethod yX1_isPlace ∈ BIG := big_t 666 (by decide +kernel) rfl
theorem wd_667 : Cond.code yX1_isPlace cX1_isPlace 2 (some .boolean) ∈ BIG := big_t 667 (by decide +kernel) rfl
theorem wd_670 : Cond.instanceMethod yX2_giveRoom ∈ BIG := big_t 670 (by decide +kernel) rfl
theorem wd_671 : Cond.code yX2_giveRoom cX2_giveRoom 3 none ∈ BIG := big_t 671 (by decide +kernel) rfl
theorem wd_673 : Cond.methodLink RX1 77 yX1_search ∈ BIG := big_t 673 (by decide +kernel) rfl
theorem wd_675 : Cond.instanceMethod yX1_search ∈ BIG := big_t 675 (by decide +kernel) rfl
theorem wd_676 : Cond.code yX1_search cX1_search 4 none ∈ BIG := big_t 676 (by decide +kernel) rfl
theorem wd_678 : Cond.methodLink RX1 106 yX1_pickNext ∈ BIG := big_t 678 (by decide +kernel) rfl
theorem wd_680 : Cond.instanceMethod yX1_pickNext ∈ BIG := big_t 680 (by decide +kernel) rfl
theorem wd_681 : Cond.code yX1_pickNext cX1_pickNext 5 (some .boolean) ∈ BIG := big_t 681 (by decide +kernel) rfl
theorem wd_684 : Cond.instanceMethod yX2_roomOf ∈ BIG := big_t 684 (by decide +kernel) rfl
theorem wd_685 : Cond.code yX2_roomOf cX2_roomOf 2 (some .int) ∈ BIG := big_t 685 (by decide +kernel) rfl
theorem wd_687 : Cond.methodLink RX1 113 yX1_writeDown ∈ BIG := big_t 687 (by decide +kernel) rfl
theorem wd_689 : Cond.instanceMethod yX1_writeDown ∈ BIG := big_t 689 (by decide +kernel) rfl
theorem wd_690 : Cond.code yX1_writeDown cX1_writeDown 2 none ∈ BIG := big_t 690 (by decide +kernel) rfl
theorem wd_694 : Cond.instanceMethod yX1_ownerFor ∈ BIG := big_t 694 (by decide +kernel) rfl
theorem wd_695 : Cond.code yX1_ownerFor cX1_ownerFor 2 (some .int) ∈ BIG := big_t 695 (by decide +kernel) rfl
theorem wd_706 : Cond.instanceMethod yX7_add ∈ BIG := big_t 706 (by decide +kernel) rfl
theorem wd_707 : Cond.code yX7_add cX7_add 3 (some .boolean) ∈ BIG := big_t 707 (by decide +kernel) rfl
theorem wd_718 : Cond.instanceMethod yX7_refresh ∈ BIG := big_t 718 (by decide +kernel) rfl
theorem wd_719 : Cond.code yX7_refresh cX7_refresh 3 none ∈ BIG := big_t 719 (by decide +kernel) rfl
theorem wd_720 : Cond.constant RX7 49 (1000000) ∈ BIG := big_t 720 (by decide +kernel) rfl
theorem wd_721 : Cond.methodLink RX7 50 yX7_comeInOrder ∈ BIG := big_t 721 (by decide +kernel) rfl
theorem wd_723 : Cond.instanceMethod yX7_comeInOrder ∈ BIG := big_t 723 (by decide +kernel) rfl
theorem wd_724 : Cond.code yX7_comeInOrder cX7_comeInOrder 6 none ∈ BIG := big_t 724 (by decide +kernel) rfl
theorem wd_726 : Cond.methodLink RX7 69 yX7_payOut ∈ BIG := big_t 726 (by decide +kernel) rfl
theorem wd_728 : Cond.instanceMethod yX7_payOut ∈ BIG := big_t 728 (by decide +kernel) rfl
theorem wd_729 : Cond.code yX7_payOut cX7_payOut 5 none ∈ BIG := big_t 729 (by decide +kernel) rfl
theorem wd_730 : Cond.methodLink RX7 53 yX7_isAsSeen ∈ BIG := big_t 730 (by decide +kernel) rfl
theorem wd_732 : Cond.instanceMethod yX7_isAsSeen ∈ BIG := big_t 732 (by decide +kernel) rfl
theorem wd_733 : Cond.code yX7_isAsSeen cX7_isAsSeen 2 (some .boolean) ∈ BIG := big_t 733 (by decide +kernel) rfl
theorem wd_734 : Cond.methodLink RX7 57 yX7_noteOrder ∈ BIG := big_t 734 (by decide +kernel) rfl
theorem wd_736 : Cond.instanceMethod yX7_noteOrder ∈ BIG := big_t 736 (by decide +kernel) rfl
theorem wd_737 : Cond.code yX7_noteOrder cX7_noteOrder 2 none ∈ BIG := big_t 737 (by decide +kernel) rfl
theorem wd_738 : Cond.methodLink RX7 60 yX7_nextOrder ∈ BIG := big_t 738 (by decide +kernel) rfl
theorem wd_740 : Cond.instanceMethod yX7_nextOrder ∈ BIG := big_t 740 (by decide +kernel) rfl
theorem wd_741 : Cond.code yX7_nextOrder cX7_nextOrder 6 (some .boolean) ∈ BIG := big_t 741 (by decide +kernel) rfl
theorem wd_742 : Cond.methodLink RX7 73 Lib.Math.min.name ∈ BIG := big_t 742 (by decide +kernel) rfl
theorem wd_743 : Cond.methodLink RX7 79 yX7_swap ∈ BIG := big_t 743 (by decide +kernel) rfl
theorem wd_745 : Cond.instanceMethod yX7_swap ∈ BIG := big_t 745 (by decide +kernel) rfl
theorem wd_746 : Cond.code yX7_swap cX7_swap 4 none ∈ BIG := big_t 746 (by decide +kernel) rfl
theorem wd_749 : Cond.instanceMethod yX7_firstOrderAt ∈ BIG := big_t 749 (by decide +kernel) rfl
theorem wd_750 : Cond.code yX7_firstOrderAt cX7_firstOrderAt 2 (some .int) ∈ BIG := big_t 750 (by decide +kernel) rfl
theorem wd_757 : Cond.instanceMethod yX0_weigh ∈ BIG := big_t 757 (by decide +kernel) rfl
theorem wd_758 : Cond.code yX0_weigh cX0_weigh 6 none ∈ BIG := big_t 758 (by decide +kernel) rfl
theorem wd_760 : Cond.methodLink RX0 57 yX0_weightOf ∈ BIG := big_t 760 (by decide +kernel) rfl
theorem wd_762 : Cond.instanceMethod yX0_weightOf ∈ BIG := big_t 762 (by decide +kernel) rfl
theorem wd_763 : Cond.code yX0_weightOf cX0_weightOf 5 (some .int) ∈ BIG := big_t 763 (by decide +kernel) rfl
theorem wd_764 : Cond.methodLink RX0 61 yX0_isFreeWithout ∈ BIG := big_t 764 (by decide +kernel) rfl
theorem wd_766 : Cond.instanceMethod yX0_isFreeWithout ∈ BIG := big_t 766 (by decide +kernel) rfl
theorem wd_767 : Cond.code yX0_isFreeWithout cX0_isFreeWithout 4 (some .boolean) ∈ BIG := big_t 767 (by decide +kernel) rfl
theorem wd_770 : Cond.methodLink RX0 65 yX0_lower ∈ BIG := big_t 770 (by decide +kernel) rfl
theorem wd_772 : Cond.instanceMethod yX0_lower ∈ BIG := big_t 772 (by decide +kernel) rfl
theorem wd_773 : Cond.code yX0_lower cX0_lower 5 none ∈ BIG := big_t 773 (by decide +kernel) rfl
theorem wd_778 : Cond.methodLink RX8 244 yX8_drawOf ∈ BIG := big_t 778 (by decide +kernel) rfl
theorem wd_779 : Cond.static yX8_drawOf ∈ BIG := big_t 779 (by decide +kernel) rfl
theorem wd_780 : Cond.code yX8_drawOf cX8_drawOf 4 (some .int) ∈ BIG := big_t 780 (by decide +kernel) rfl
theorem wd_781 : Cond.constantLong RX8 271 (7919) ∈ BIG := big_t 781 (by decide +kernel) rfl
theorem wd_782 : Cond.constantLong RX8 273 (6151) ∈ BIG := big_t 782 (by decide +kernel) rfl
theorem wd_783 : Cond.constantLong RX8 275 (65521) ∈ BIG := big_t 783 (by decide +kernel) rfl
theorem wd_786 : Cond.instanceMethod yX2_disturb ∈ BIG := big_t 786 (by decide +kernel) rfl
theorem wd_787 : Cond.code yX2_disturb cX2_disturb 5 none ∈ BIG := big_t 787 (by decide +kernel) rfl
theorem wd_788 : Cond.methodLink RX2 88 Lib.Math.min.name ∈ BIG := big_t 788 (by decide +kernel) rfl
theorem wd_789 : Cond.methodLink RX2 91 yX2_rebook ∈ BIG := big_t 789 (by decide +kernel) rfl
theorem wd_790 : Cond.methodLink RX2 95 yX2_callOff ∈ BIG := big_t 790 (by decide +kernel) rfl
theorem wd_791 : Cond.methodLink RX2 98 yX2_swapRooms ∈ BIG := big_t 791 (by decide +kernel) rfl
theorem wd_794 : Cond.instanceMethod yX2_allCoins ∈ BIG := big_t 794 (by decide +kernel) rfl
theorem wd_795 : Cond.code yX2_allCoins cX2_allCoins 3 (some .int) ∈ BIG := big_t 795 (by decide +kernel) rfl
theorem wd_811 : Cond.instanceMethod yX2_allWork ∈ BIG := big_t 811 (by decide +kernel) rfl
theorem wd_812 : Cond.code yX2_allWork cX2_allWork 3 (some .int) ∈ BIG := big_t 812 (by decide +kernel) rfl
theorem wd_819 : Cond.methodLink RX9 55 yX9_starts ∈ BIG := big_t 819 (by decide +kernel) rfl
theorem wd_821 : Cond.instanceMethod yX9_starts ∈ BIG := big_t 821 (by decide +kernel) rfl
theorem wd_822 : Cond.code yX9_starts cX9_starts 2 none ∈ BIG := big_t 822 (by decide +kernel) rfl
theorem wd_827 : Cond.methodLink RX9 62 yX9_addsRoom ∈ BIG := big_t 827 (by decide +kernel) rfl
theorem wd_829 : Cond.instanceMethod yX9_addsRoom ∈ BIG := big_t 829 (by decide +kernel) rfl
theorem wd_830 : Cond.code yX9_addsRoom cX9_addsRoom 2 none ∈ BIG := big_t 830 (by decide +kernel) rfl
theorem wd_831 : Cond.methodLink RX9 66 yX9_begins ∈ BIG := big_t 831 (by decide +kernel) rfl
theorem wd_833 : Cond.instanceMethod yX9_begins ∈ BIG := big_t 833 (by decide +kernel) rfl
theorem wd_834 : Cond.code yX9_begins cX9_begins 2 none ∈ BIG := big_t 834 (by decide +kernel) rfl
theorem wd_912 : Cond.constantLong RX9 92 (32) ∈ BIG := big_t 912 (by decide +kernel) rfl
theorem wd_913 : Cond.constantLong RX9 94 (126) ∈ BIG := big_t 913 (by decide +kernel) rfl
theorem wd_914 : Cond.methodLink RX9 73 yX9_in ∈ BIG := big_t 914 (by decide +kernel) rfl
theorem wd_915 : Cond.static yX9_in ∈ BIG := big_t 915 (by decide +kernel) rfl
theorem wd_916 : Cond.code yX9_in cX9_in 6 (some .boolean) ∈ BIG := big_t 916 (by decide +kernel) rfl
theorem wd_925 : Cond.methodLink RX9 127 yX9_faultOf ∈ BIG := big_t 925 (by decide +kernel) rfl
theorem wd_927 : Cond.instanceMethod yX9_faultOf ∈ BIG := big_t 927 (by decide +kernel) rfl
theorem wd_928 : Cond.code yX9_faultOf cX9_faultOf 2 (some .int) ∈ BIG := big_t 928 (by decide +kernel) rfl
theorem wd_929 : Cond.methodLink RX9 124 yX9_takesItem ∈ BIG := big_t 929 (by decide +kernel) rfl
theorem wd_931 : Cond.instanceMethod yX9_takesItem ∈ BIG := big_t 931 (by decide +kernel) rfl
theorem wd_932 : Cond.code yX9_takesItem cX9_takesItem 2 (some .boolean) ∈ BIG := big_t 932 (by decide +kernel) rfl
theorem wd_933 : Cond.methodLink RX9 105 yX9_letterAt ∈ BIG := big_t 933 (by decide +kernel) rfl
theorem wd_935 : Cond.instanceMethod yX9_letterAt ∈ BIG := big_t 935 (by decide +kernel) rfl
theorem wd_936 : Cond.code yX9_letterAt cX9_letterAt 2 (some .int) ∈ BIG := big_t 936 (by decide +kernel) rfl
theorem wd_937 : Cond.methodLink RX9 117 yX9_takesGuest ∈ BIG := big_t 937 (by decide +kernel) rfl
theorem wd_939 : Cond.instanceMethod yX9_takesGuest ∈ BIG := big_t 939 (by decide +kernel) rfl
theorem wd_940 : Cond.code yX9_takesGuest cX9_takesGuest 5 (some .boolean) ∈ BIG := big_t 940 (by decide +kernel) rfl
theorem wd_941 : Cond.methodLink RX9 113 yX9_takesNumber ∈ BIG := big_t 941 (by decide +kernel) rfl
theorem wd_943 : Cond.instanceMethod yX9_takesNumber ∈ BIG := big_t 943 (by decide +kernel) rfl
theorem wd_944 : Cond.code yX9_takesNumber cX9_takesNumber 5 (some .boolean) ∈ BIG := big_t 944 (by decide +kernel) rfl
theorem wd_945 : Cond.constantLong RX9 109 (48) ∈ BIG := big_t 945 (by decide +kernel) rfl
theorem wd_946 : Cond.constantLong RX9 111 (57) ∈ BIG := big_t 946 (by decide +kernel) rfl
theorem wd_947 : Cond.methodLink RX9 121 yX9_takesRoom ∈ BIG := big_t 947 (by decide +kernel) rfl
theorem wd_949 : Cond.instanceMethod yX9_takesRoom ∈ BIG := big_t 949 (by decide +kernel) rfl
theorem wd_950 : Cond.code yX9_takesRoom cX9_takesRoom 1 (some .boolean) ∈ BIG := big_t 950 (by decide +kernel) rfl
theorem wd_959 : Cond.methodLink RX9 131 yX9_isGuest ∈ BIG := big_t 959 (by decide +kernel) rfl
theorem wd_961 : Cond.instanceMethod yX9_isGuest ∈ BIG := big_t 961 (by decide +kernel) rfl
theorem wd_962 : Cond.code yX9_isGuest cX9_isGuest 2 (some .boolean) ∈ BIG := big_t 962 (by decide +kernel) rfl
theorem wd_967 : Cond.constantLong RX9 135 (6) ∈ BIG := big_t 967 (by decide +kernel) rfl
theorem wd_972 : Cond.constantLong RX9 158 (24) ∈ BIG := big_t 972 (by decide +kernel) rfl
theorem wd_973 : Cond.methodLink RX9 160 yX9_minds ∈ BIG := big_t 973 (by decide +kernel) rfl
theorem wd_975 : Cond.instanceMethod yX9_minds ∈ BIG := big_t 975 (by decide +kernel) rfl
theorem wd_976 : Cond.code yX9_minds cX9_minds 2 none ∈ BIG := big_t 976 (by decide +kernel) rfl
theorem wd_977 : Cond.methodLink RX9 155 yX9_copy ∈ BIG := big_t 977 (by decide +kernel) rfl
theorem wd_979 : Cond.instanceMethod yX9_copy ∈ BIG := big_t 979 (by decide +kernel) rfl
theorem wd_980 : Cond.code yX9_copy cX9_copy 4 none ∈ BIG := big_t 980 (by decide +kernel) rfl
theorem wd_981 : Cond.methodLink RX9 163 yX9_passes ∈ BIG := big_t 981 (by decide +kernel) rfl
theorem wd_983 : Cond.instanceMethod yX9_passes ∈ BIG := big_t 983 (by decide +kernel) rfl
theorem wd_984 : Cond.code yX9_passes cX9_passes 3 none ∈ BIG := big_t 984 (by decide +kernel) rfl
theorem wd_985 : Cond.methodLink RX9 149 yX9_comes ∈ BIG := big_t 985 (by decide +kernel) rfl
theorem wd_987 : Cond.instanceMethod yX9_comes ∈ BIG := big_t 987 (by decide +kernel) rfl
theorem wd_988 : Cond.code yX9_comes cX9_comes 4 none ∈ BIG := big_t 988 (by decide +kernel) rfl
theorem wd_989 : Cond.methodLink RX9 137 yX9_bringsIn ∈ BIG := big_t 989 (by decide +kernel) rfl
theorem wd_991 : Cond.instanceMethod yX9_bringsIn ∈ BIG := big_t 991 (by decide +kernel) rfl
theorem wd_992 : Cond.code yX9_bringsIn cX9_bringsIn 4 (some .int) ∈ BIG := big_t 992 (by decide +kernel) rfl
theorem wd_993 : Cond.methodLink RX9 152 yX9_freesThose ∈ BIG := big_t 993 (by decide +kernel) rfl
theorem wd_995 : Cond.instanceMethod yX9_freesThose ∈ BIG := big_t 995 (by decide +kernel) rfl
theorem wd_996 : Cond.code yX9_freesThose cX9_freesThose 3 none ∈ BIG := big_t 996 (by decide +kernel) rfl
theorem wd_997 : Cond.methodLink RX9 145 yX9_goesFree ∈ BIG := big_t 997 (by decide +kernel) rfl
theorem wd_999 : Cond.instanceMethod yX9_goesFree ∈ BIG := big_t 999 (by decide +kernel) rfl
theorem wd_1000 : Cond.code yX9_goesFree cX9_goesFree 5 none ∈ BIG := big_t 1000 (by decide +kernel) rfl
theorem wd_1001 : Cond.methodLink RX9 141 yX9_has ∈ BIG := big_t 1001 (by decide +kernel) rfl
theorem wd_1002 : Cond.static yX9_has ∈ BIG := big_t 1002 (by decide +kernel) rfl
theorem wd_1003 : Cond.code yX9_has cX9_has 2 (some .boolean) ∈ BIG := big_t 1003 (by decide +kernel) rfl
theorem wd_1008 : Cond.constantLong RX9 166 (40) ∈ BIG := big_t 1008 (by decide +kernel) rfl
theorem wd_1009 : Cond.methodLink RX9 168 yX9_canBook ∈ BIG := big_t 1009 (by decide +kernel) rfl
theorem wd_1011 : Cond.instanceMethod yX9_canBook ∈ BIG := big_t 1011 (by decide +kernel) rfl
theorem wd_1012 : Cond.code yX9_canBook cX9_canBook 4 (some .boolean) ∈ BIG := big_t 1012 (by decide +kernel) rfl
theorem wd_1017 : Cond.methodLink RX9 171 yX9_manyHow ∈ BIG := big_t 1017 (by decide +kernel) rfl
theorem wd_1019 : Cond.instanceMethod yX9_manyHow ∈ BIG := big_t 1019 (by decide +kernel) rfl
theorem wd_1020 : Cond.code yX9_manyHow cX9_manyHow 5 (some .int) ∈ BIG := big_t 1020 (by decide +kernel) rfl
theorem wd_1025 : Cond.methodLink RX9 174 yX9_canChange ∈ BIG := big_t 1025 (by decide +kernel) rfl
theorem wd_1027 : Cond.instanceMethod yX9_canChange ∈ BIG := big_t 1027 (by decide +kernel) rfl
theorem wd_1028 : Cond.code yX9_canChange cX9_canChange 4 (some .boolean) ∈ BIG := big_t 1028 (by decide +kernel) rfl
theorem wd_1029 : Cond.methodLink RX9 177 yX9_changes ∈ BIG := big_t 1029 (by decide +kernel) rfl
theorem wd_1031 : Cond.instanceMethod yX9_changes ∈ BIG := big_t 1031 (by decide +kernel) rfl
theorem wd_1032 : Cond.code yX9_changes cX9_changes 5 none ∈ BIG := big_t 1032 (by decide +kernel) rfl
theorem wd_1041 : Cond.methodLink RX9 181 yX9_tries ∈ BIG := big_t 1041 (by decide +kernel) rfl
theorem wd_1043 : Cond.instanceMethod yX9_tries ∈ BIG := big_t 1043 (by decide +kernel) rfl
theorem wd_1044 : Cond.code yX9_tries cX9_tries 1 none ∈ BIG := big_t 1044 (by decide +kernel) rfl
theorem wd_1049 : Cond.methodLink RX9 184 yX9_taskOf ∈ BIG := big_t 1049 (by decide +kernel) rfl
theorem wd_1051 : Cond.instanceMethod yX9_taskOf ∈ BIG := big_t 1051 (by decide +kernel) rfl
theorem wd_1052 : Cond.code yX9_taskOf cX9_taskOf 4 (some .int) ∈ BIG := big_t 1052 (by decide +kernel) rfl
theorem wd_1057 : Cond.constant RX9 187 (1000000) ∈ BIG := big_t 1057 (by decide +kernel) rfl
theorem wd_1062 : Cond.methodLink RX9 191 yX9_doneBy ∈ BIG := big_t 1062 (by decide +kernel) rfl
theorem wd_1064 : Cond.instanceMethod yX9_doneBy ∈ BIG := big_t 1064 (by decide +kernel) rfl
theorem wd_1065 : Cond.code yX9_doneBy cX9_doneBy 2 (some .int) ∈ BIG := big_t 1065 (by decide +kernel) rfl
theorem wd_1066 : Cond.methodLink RX9 188 yX9_isDone ∈ BIG := big_t 1066 (by decide +kernel) rfl
theorem wd_1068 : Cond.instanceMethod yX9_isDone ∈ BIG := big_t 1068 (by decide +kernel) rfl
theorem wd_1069 : Cond.code yX9_isDone cX9_isDone 4 (some .boolean) ∈ BIG := big_t 1069 (by decide +kernel) rfl
theorem wd_1074 : Cond.methodLink RX9 194 yX9_bestDeal ∈ BIG := big_t 1074 (by decide +kernel) rfl
theorem wd_1076 : Cond.instanceMethod yX9_bestDeal ∈ BIG := big_t 1076 (by decide +kernel) rfl
theorem wd_1077 : Cond.code yX9_bestDeal cX9_bestDeal 7 (some .int) ∈ BIG := big_t 1077 (by decide +kernel) rfl
theorem wd_1086 : Cond.constantLong RX9 197 (200) ∈ BIG := big_t 1086 (by decide +kernel) rfl
theorem wd_1095 : Cond.constantLong RX9 202 (-1) ∈ BIG := big_t 1095 (by decide +kernel) rfl
theorem wd_1096 : Cond.methodLink RX9 204 yX9_manyOrders ∈ BIG := big_t 1096 (by decide +kernel) rfl
theorem wd_1098 : Cond.instanceMethod yX9_manyOrders ∈ BIG := big_t 1098 (by decide +kernel) rfl
theorem wd_1099 : Cond.code yX9_manyOrders cX9_manyOrders 5 (some .int) ∈ BIG := big_t 1099 (by decide +kernel) rfl
theorem wd_1100 : Cond.methodLink RX9 199 yX9_areSo ∈ BIG := big_t 1100 (by decide +kernel) rfl
theorem wd_1102 : Cond.instanceMethod yX9_areSo ∈ BIG := big_t 1102 (by decide +kernel) rfl
theorem wd_1103 : Cond.code yX9_areSo cX9_areSo 3 (some .boolean) ∈ BIG := big_t 1103 (by decide +kernel) rfl
theorem wd_1108 : Cond.constantLong RX9 207 (10) ∈ BIG := big_t 1108 (by decide +kernel) rfl
theorem wd_1113 : Cond.constantLong RX9 209 (9999) ∈ BIG := big_t 1113 (by decide +kernel) rfl
theorem wd_1114 : Cond.constantLong RX9 211 (60) ∈ BIG := big_t 1114 (by decide +kernel) rfl
theorem wd_1115 : Cond.constantLong RX9 213 (7919) ∈ BIG := big_t 1115 (by decide +kernel) rfl
theorem wd_1116 : Cond.constantLong RX9 215 (6151) ∈ BIG := big_t 1116 (by decide +kernel) rfl
theorem wd_1117 : Cond.constantLong RX9 217 (65521) ∈ BIG := big_t 1117 (by decide +kernel) rfl
theorem wd_1118 : Cond.methodLink RX9 219 yX9_doesBy ∈ BIG := big_t 1118 (by decide +kernel) rfl
theorem wd_1120 : Cond.instanceMethod yX9_doesBy ∈ BIG := big_t 1120 (by decide +kernel) rfl
theorem wd_1121 : Cond.code yX9_doesBy cX9_doesBy 5 none ∈ BIG := big_t 1121 (by decide +kernel) rfl
theorem wd_1122 : Cond.methodLink RX9 222 yX9_coinsOf ∈ BIG := big_t 1122 (by decide +kernel) rfl
theorem wd_1124 : Cond.instanceMethod yX9_coinsOf ∈ BIG := big_t 1124 (by decide +kernel) rfl
theorem wd_1125 : Cond.code yX9_coinsOf cX9_coinsOf 4 (some .int) ∈ BIG := big_t 1125 (by decide +kernel) rfl
theorem wd_1138 : Cond.methodLink RX9 225 yX9_allToDo ∈ BIG := big_t 1138 (by decide +kernel) rfl
theorem wd_1140 : Cond.instanceMethod yX9_allToDo ∈ BIG := big_t 1140 (by decide +kernel) rfl
theorem wd_1141 : Cond.code yX9_allToDo cX9_allToDo 3 (some .int) ∈ BIG := big_t 1141 (by decide +kernel) rfl
theorem wn_370 : Cond.methodLinkNest RX8 90 yX5_append "NextBellboy" ∈ NWL := nw_t 370 (by decide +kernel) rfl
theorem wn_378 : Cond.methodLinkNest RX8 104 yX5_readInto "NextBellboy" ∈ NWL := nw_t 378 (by decide +kernel) rfl
theorem wn_382 : Cond.methodLinkNest RX5 22 yX4_clear "NextBellboy" ∈ NWL := nw_t 382 (by decide +kernel) rfl
theorem wn_409 : Cond.methodLinkNest RX5 45 yX4_addGuest "NextBellboy" ∈ NWL := nw_t 409 (by decide +kernel) rfl
theorem wn_417 : Cond.methodLinkNest RX5 55 yX4_addRoom "NextBellboy" ∈ NWL := nw_t 417 (by decide +kernel) rfl
theorem wn_421 : Cond.methodLinkNest RX8 266 yX4_copyFrom "NextBellboy" ∈ NWL := nw_t 421 (by decide +kernel) rfl
theorem wn_425 : Cond.methodLinkNest RX8 268 yX2_open "NextBellboy" ∈ NWL := nw_t 425 (by decide +kernel) rfl
theorem wn_429 : Cond.methodLinkNest RX8 259 yX6_clear "NextBellboy" ∈ NWL := nw_t 429 (by decide +kernel) rfl
theorem wn_433 : Cond.methodLinkNest RX8 225 yX7_clear "NextBellboy" ∈ NWL := nw_t 433 (by decide +kernel) rfl
theorem wn_437 : Cond.methodLinkNest RX8 179 yX1_goStale "NextBellboy" ∈ NWL := nw_t 437 (by decide +kernel) rfl
theorem wn_441 : Cond.methodLinkNest RX8 98 yX5_clear "NextBellboy" ∈ NWL := nw_t 441 (by decide +kernel) rfl
theorem wn_500 : Cond.methodLinkNest RX8 111 yX4_has "NextBellboy" ∈ NWL := nw_t 500 (by decide +kernel) rfl
theorem wn_516 : Cond.methodLinkNest RX8 256 yX6_put "NextBellboy" ∈ NWL := nw_t 516 (by decide +kernel) rfl
theorem wn_528 : Cond.methodLinkNest RX6 35 yX2_copyFrom "NextBellboy" ∈ NWL := nw_t 528 (by decide +kernel) rfl
theorem wn_532 : Cond.methodLinkNest RX8 151 yX2_oneHour "NextBellboy" ∈ NWL := nw_t 532 (by decide +kernel) rfl
theorem wn_540 : Cond.methodLinkNest RX2 48 yX4_has "NextBellboy" ∈ NWL := nw_t 540 (by decide +kernel) rfl
theorem wn_554 : Cond.methodLinkNest RX8 157 yX2_isBooked "NextBellboy" ∈ NWL := nw_t 554 (by decide +kernel) rfl
theorem wn_558 : Cond.methodLinkNest RX8 160 yX2_rebook "NextBellboy" ∈ NWL := nw_t 558 (by decide +kernel) rfl
theorem wn_567 : Cond.methodLinkNest RX8 164 yX2_callOff "NextBellboy" ∈ NWL := nw_t 567 (by decide +kernel) rfl
theorem wn_571 : Cond.methodLinkNest RX8 168 yX2_howMany "NextBellboy" ∈ NWL := nw_t 571 (by decide +kernel) rfl
theorem wn_579 : Cond.methodLinkNest RX8 172 yX2_swapRooms "NextBellboy" ∈ NWL := nw_t 579 (by decide +kernel) rfl
theorem wn_587 : Cond.methodLinkNest RX8 175 yX6_takeInto "NextBellboy" ∈ NWL := nw_t 587 (by decide +kernel) rfl
theorem wn_595 : Cond.methodLinkNest RX8 183 yX3_look "NextBellboy" ∈ NWL := nw_t 595 (by decide +kernel) rfl
theorem wn_603 : Cond.methodLinkNest RX3 58 yX2_hourOf "NextBellboy" ∈ NWL := nw_t 603 (by decide +kernel) rfl
theorem wn_622 : Cond.methodLinkNest RX3 65 yX4_has "NextBellboy" ∈ NWL := nw_t 622 (by decide +kernel) rfl
theorem wn_627 : Cond.methodLinkNest RX3 92 yX2_brings "NextBellboy" ∈ NWL := nw_t 627 (by decide +kernel) rfl
theorem wn_635 : Cond.methodLinkNest RX8 193 yX2_loadSoFar "NextBellboy" ∈ NWL := nw_t 635 (by decide +kernel) rfl
theorem wn_643 : Cond.methodLinkNest RX8 199 yX2_copyFrom "NextBellboy" ∈ NWL := nw_t 643 (by decide +kernel) rfl
theorem wn_653 : Cond.methodLinkNest RX8 211 yX1_refresh "NextBellboy" ∈ NWL := nw_t 653 (by decide +kernel) rfl
theorem wn_657 : Cond.methodLinkNest RX1 64 yX2_copyFrom "NextBellboy" ∈ NWL := nw_t 657 (by decide +kernel) rfl
theorem wn_668 : Cond.methodLinkNest RX1 99 yX2_giveRoom "NextBellboy" ∈ NWL := nw_t 668 (by decide +kernel) rfl
theorem wn_672 : Cond.methodLinkNest RX1 71 yX3_look "NextBellboy" ∈ NWL := nw_t 672 (by decide +kernel) rfl
theorem wn_677 : Cond.methodLinkNest RX1 103 yX3_lineUp "NextBellboy" ∈ NWL := nw_t 677 (by decide +kernel) rfl
theorem wn_682 : Cond.methodLinkNest RX1 116 yX2_roomOf "NextBellboy" ∈ NWL := nw_t 682 (by decide +kernel) rfl
theorem wn_686 : Cond.methodLinkNest RX1 110 yX3_reckon "NextBellboy" ∈ NWL := nw_t 686 (by decide +kernel) rfl
theorem wn_691 : Cond.methodLinkNest RX1 58 yX4_has "NextBellboy" ∈ NWL := nw_t 691 (by decide +kernel) rfl
theorem wn_692 : Cond.methodLinkNest RX8 217 yX1_ownerFor "NextBellboy" ∈ NWL := nw_t 692 (by decide +kernel) rfl
theorem wn_704 : Cond.methodLinkNest RX8 220 yX7_add "NextBellboy" ∈ NWL := nw_t 704 (by decide +kernel) rfl
theorem wn_716 : Cond.methodLinkNest RX8 226 yX7_refresh "NextBellboy" ∈ NWL := nw_t 716 (by decide +kernel) rfl
theorem wn_725 : Cond.methodLinkNest RX7 42 yX4_has "NextBellboy" ∈ NWL := nw_t 725 (by decide +kernel) rfl
theorem wn_747 : Cond.methodLinkNest RX8 231 yX7_firstOrderAt "NextBellboy" ∈ NWL := nw_t 747 (by decide +kernel) rfl
theorem wn_755 : Cond.methodLinkNest RX8 234 yX0_weigh "NextBellboy" ∈ NWL := nw_t 755 (by decide +kernel) rfl
theorem wn_759 : Cond.methodLinkNest RX0 53 yX2_copyFrom "NextBellboy" ∈ NWL := nw_t 759 (by decide +kernel) rfl
theorem wn_768 : Cond.methodLinkNest RX0 68 yX4_has "NextBellboy" ∈ NWL := nw_t 768 (by decide +kernel) rfl
theorem wn_769 : Cond.methodLinkNest RX0 72 yX3_look "NextBellboy" ∈ NWL := nw_t 769 (by decide +kernel) rfl
theorem wn_784 : Cond.methodLinkNest RX8 247 yX2_disturb "NextBellboy" ∈ NWL := nw_t 784 (by decide +kernel) rfl
theorem wn_792 : Cond.methodLinkNest RX8 250 yX2_allCoins "NextBellboy" ∈ NWL := nw_t 792 (by decide +kernel) rfl
theorem wn_800 : Cond.methodLinkNest RX8 253 yX6_isFull "NextBellboy" ∈ NWL := nw_t 800 (by decide +kernel) rfl
theorem wn_809 : Cond.methodLinkNest RX8 263 yX2_allWork "NextBellboy" ∈ NWL := nw_t 809 (by decide +kernel) rfl
theorem ws_394 : Cond.fieldLink RX5 35 RX5 (tnm 0) "[I" ∈ BIG := big_t 394 (by decide +kernel) rfl
theorem ws_396 : Cond.fieldLink RX5 38 RX5 (tnm 1) "[I" ∈ BIG := big_t 396 (by decide +kernel) rfl
theorem ws_413 : Cond.fieldLink RX5 49 RX5 (tnm 2) "[I" ∈ BIG := big_t 413 (by decide +kernel) rfl
theorem ws_415 : Cond.fieldLink RX5 52 RX5 (tnm 3) "[I" ∈ BIG := big_t 415 (by decide +kernel) rfl
theorem wq_193 : Cond.static Lib.Math.max.name ∈ BIG := big_t 193 (by decide +kernel) rfl
theorem wq_7 : Cond.initialized "java/lang/Math" ∈ BIG := big_t 7 (by decide +kernel) rfl
theorem wq_194 : Cond.code Lib.Math.max.name Lib.Math.max.code 2 (some .int) ∈ BIG := big_t 194 (by decide +kernel) rfl
theorem wq_403 : Cond.static Lib.Math.min.name ∈ BIG := big_t 403 (by decide +kernel) rfl
theorem wq_404 : Cond.code Lib.Math.min.name Lib.Math.min.code 2 (some .int) ∈ BIG := big_t 404 (by decide +kernel) rfl
theorem yi_X0_isFreeWithout : YI yX0_isFreeWithout cX0_isFreeWithout 4 (some .boolean) 2 := ⟨wd_766, big_p (y := yX0_isFreeWithout) (n := 7) (List.mem_of_getElem? (i := 60) (by decide +kernel)), wd_10, wd_767, by decide, by decide, by decide +kernel⟩
theorem yi_X0_lower : YI yX0_lower cX0_lower 5 none 0 := ⟨wd_772, big_p (y := yX0_lower) (n := 7) (List.mem_of_getElem? (i := 61) (by decide +kernel)), wd_10, wd_773, by decide, by decide, by decide +kernel⟩
theorem yi_X0_weigh : YI yX0_weigh cX0_weigh 6 none 3 := ⟨wd_757, big_p (y := yX0_weigh) (n := 7) (List.mem_of_getElem? (i := 58) (by decide +kernel)), wd_10, wd_758, by decide, by decide, by decide +kernel⟩
theorem yi_X0_weightOf : YI yX0_weightOf cX0_weightOf 5 (some .int) 2 := ⟨wd_762, big_p (y := yX0_weightOf) (n := 7) (List.mem_of_getElem? (i := 59) (by decide +kernel)), wd_10, wd_763, by decide, by decide, by decide +kernel⟩
theorem yi_X1_begin : YI yX1_begin cX1_begin 2 none 0 := ⟨wd_660, big_p (y := yX1_begin) (n := 11) (List.mem_of_getElem? (i := 41) (by decide +kernel)), wd_8, wd_661, by decide, by decide, by decide +kernel⟩
theorem yi_X1_goStale : YI yX1_goStale cX1_goStale 1 none 0 := ⟨wd_439, big_p (y := yX1_goStale) (n := 11) (List.mem_of_getElem? (i := 14) (by decide +kernel)), wd_8, wd_440, by decide, by decide, by decide +kernel⟩
theorem yi_X1_isPlace : YI yX1_isPlace cX1_isPlace 2 (some .boolean) 1 := ⟨wd_666, big_p (y := yX1_isPlace) (n := 11) (List.mem_of_getElem? (i := 42) (by decide +kernel)), wd_8, wd_667, by decide, by decide, by decide +kernel⟩
theorem yi_X1_ownerFor : YI yX1_ownerFor cX1_ownerFor 2 (some .int) 1 := ⟨wd_694, big_p (y := yX1_ownerFor) (n := 11) (List.mem_of_getElem? (i := 48) (by decide +kernel)), wd_8, wd_695, by decide, by decide, by decide +kernel⟩
theorem yi_X1_pickNext : YI yX1_pickNext cX1_pickNext 5 (some .boolean) 2 := ⟨wd_680, big_p (y := yX1_pickNext) (n := 11) (List.mem_of_getElem? (i := 45) (by decide +kernel)), wd_8, wd_681, by decide, by decide, by decide +kernel⟩
theorem yi_X1_refresh : YI yX1_refresh cX1_refresh 2 none 1 := ⟨wd_655, big_p (y := yX1_refresh) (n := 11) (List.mem_of_getElem? (i := 40) (by decide +kernel)), wd_8, wd_656, by decide, by decide, by decide +kernel⟩
theorem yi_X1_search : YI yX1_search cX1_search 4 none 1 := ⟨wd_675, big_p (y := yX1_search) (n := 11) (List.mem_of_getElem? (i := 44) (by decide +kernel)), wd_8, wd_676, by decide, by decide, by decide +kernel⟩
theorem yi_X1_writeDown : YI yX1_writeDown cX1_writeDown 2 none 0 := ⟨wd_689, big_p (y := yX1_writeDown) (n := 11) (List.mem_of_getElem? (i := 47) (by decide +kernel)), wd_8, wd_690, by decide, by decide, by decide +kernel⟩
theorem yi_X2_allCoins : YI yX2_allCoins cX2_allCoins 3 (some .int) 0 := ⟨wd_794, big_p (y := yX2_allCoins) (n := 10) (List.mem_of_getElem? (i := 63) (by decide +kernel)), wd_4, wd_795, by decide, by decide, by decide +kernel⟩
theorem yi_X2_allWork : YI yX2_allWork cX2_allWork 3 (some .int) 0 := ⟨wd_811, big_p (y := yX2_allWork) (n := 10) (List.mem_of_getElem? (i := 64) (by decide +kernel)), wd_4, wd_812, by decide, by decide, by decide +kernel⟩
theorem yi_X2_brings : YI yX2_brings cX2_brings 3 (some .int) 1 := ⟨wd_543, big_p (y := yX2_brings) (n := 10) (List.mem_of_getElem? (i := 24) (by decide +kernel)), wd_4, wd_544, by decide, by decide, by decide +kernel⟩
theorem yi_X2_callOff : YI yX2_callOff cX2_callOff 2 none 1 := ⟨wd_569, big_p (y := yX2_callOff) (n := 10) (List.mem_of_getElem? (i := 28) (by decide +kernel)), wd_4, wd_570, by decide, by decide, by decide +kernel⟩
theorem yi_X2_comes : YI yX2_comes cX2_comes 2 none 1 := ⟨wd_538, big_p (y := yX2_comes) (n := 10) (List.mem_of_getElem? (i := 23) (by decide +kernel)), wd_4, wd_539, by decide, by decide, by decide +kernel⟩
theorem yi_X2_copyFrom : YI yX2_copyFrom cX2_copyFrom 3 none 1 := ⟨wd_530, big_p (y := yX2_copyFrom) (n := 10) (List.mem_of_getElem? (i := 21) (by decide +kernel)), wd_4, wd_531, by decide, by decide, by decide +kernel⟩
theorem yi_X2_disturb : YI yX2_disturb cX2_disturb 5 none 1 := ⟨wd_786, big_p (y := yX2_disturb) (n := 10) (List.mem_of_getElem? (i := 62) (by decide +kernel)), wd_4, wd_787, by decide, by decide, by decide +kernel⟩
theorem yi_X2_giveRoom : YI yX2_giveRoom cX2_giveRoom 3 none 2 := ⟨wd_670, big_p (y := yX2_giveRoom) (n := 10) (List.mem_of_getElem? (i := 43) (by decide +kernel)), wd_4, wd_671, by decide, by decide, by decide +kernel⟩
theorem yi_X2_hourOf : YI yX2_hourOf cX2_hourOf 2 (some .int) 1 := ⟨wd_605, big_p (y := yX2_hourOf) (n := 10) (List.mem_of_getElem? (i := 34) (by decide +kernel)), wd_4, wd_606, by decide, by decide, by decide +kernel⟩
theorem yi_X2_howMany : YI yX2_howMany cX2_howMany 4 (some .int) 1 := ⟨wd_573, big_p (y := yX2_howMany) (n := 10) (List.mem_of_getElem? (i := 29) (by decide +kernel)), wd_4, wd_574, by decide, by decide, by decide +kernel⟩
theorem yi_X2_isBooked : YI yX2_isBooked cX2_isBooked 2 (some .boolean) 1 := ⟨wd_556, big_p (y := yX2_isBooked) (n := 10) (List.mem_of_getElem? (i := 26) (by decide +kernel)), wd_4, wd_557, by decide, by decide, by decide +kernel⟩
theorem yi_X2_loadSoFar : YI yX2_loadSoFar cX2_loadSoFar 4 (some .int) 1 := ⟨wd_637, big_p (y := yX2_loadSoFar) (n := 10) (List.mem_of_getElem? (i := 39) (by decide +kernel)), wd_4, wd_638, by decide, by decide, by decide +kernel⟩
theorem yi_X2_oneHour : YI yX2_oneHour cX2_oneHour 2 none 0 := ⟨wd_534, big_p (y := yX2_oneHour) (n := 10) (List.mem_of_getElem? (i := 22) (by decide +kernel)), wd_4, wd_535, by decide, by decide, by decide +kernel⟩
theorem yi_X2_open : YI yX2_open cX2_open 2 none 0 := ⟨wd_427, big_p (y := yX2_open) (n := 10) (List.mem_of_getElem? (i := 11) (by decide +kernel)), wd_4, wd_428, by decide, by decide, by decide +kernel⟩
theorem yi_X2_rebook : YI yX2_rebook cX2_rebook 3 none 2 := ⟨wd_560, big_p (y := yX2_rebook) (n := 10) (List.mem_of_getElem? (i := 27) (by decide +kernel)), wd_4, wd_561, by decide, by decide, by decide +kernel⟩
theorem yi_X2_roomOf : YI yX2_roomOf cX2_roomOf 2 (some .int) 1 := ⟨wd_684, big_p (y := yX2_roomOf) (n := 10) (List.mem_of_getElem? (i := 46) (by decide +kernel)), wd_4, wd_685, by decide, by decide, by decide +kernel⟩
theorem yi_X2_setFree : YI yX2_setFree cX2_setFree 4 none 1 := ⟨wd_548, big_p (y := yX2_setFree) (n := 10) (List.mem_of_getElem? (i := 25) (by decide +kernel)), wd_4, wd_549, by decide, by decide, by decide +kernel⟩
theorem yi_X2_swapRooms : YI yX2_swapRooms cX2_swapRooms 4 none 2 := ⟨wd_581, big_p (y := yX2_swapRooms) (n := 10) (List.mem_of_getElem? (i := 30) (by decide +kernel)), wd_4, wd_582, by decide, by decide, by decide +kernel⟩
theorem yi_X3_begin : YI yX3_begin cX3_begin 3 none 1 := ⟨wd_614, big_p (y := yX3_begin) (n := 9) (List.mem_of_getElem? (i := 36) (by decide +kernel)), wd_5, wd_615, by decide, by decide, by decide +kernel⟩
theorem yi_X3_leaves : YI yX3_leaves cX3_leaves 4 none 2 := ⟨wd_619, big_p (y := yX3_leaves) (n := 9) (List.mem_of_getElem? (i := 37) (by decide +kernel)), wd_5, wd_620, by decide, by decide, by decide +kernel⟩
theorem yi_X3_lineUp : YI yX3_lineUp cX3_lineUp 4 none 1 := ⟨wd_601, big_p (y := yX3_lineUp) (n := 9) (List.mem_of_getElem? (i := 33) (by decide +kernel)), wd_5, wd_602, by decide, by decide, by decide +kernel⟩
theorem yi_X3_look : YI yX3_look cX3_look 2 none 1 := ⟨wd_597, big_p (y := yX3_look) (n := 9) (List.mem_of_getElem? (i := 32) (by decide +kernel)), wd_5, wd_598, by decide, by decide, by decide +kernel⟩
theorem yi_X3_meets : YI yX3_meets cX3_meets 7 none 2 := ⟨wd_625, big_p (y := yX3_meets) (n := 9) (List.mem_of_getElem? (i := 38) (by decide +kernel)), wd_5, wd_626, by decide, by decide, by decide +kernel⟩
theorem yi_X3_reckon : YI yX3_reckon cX3_reckon 4 none 1 := ⟨wd_610, big_p (y := yX3_reckon) (n := 9) (List.mem_of_getElem? (i := 35) (by decide +kernel)), wd_5, wd_611, by decide, by decide, by decide +kernel⟩
theorem yi_X4_addGuest : YI yX4_addGuest cX4_addGuest 2 (some .boolean) 1 := ⟨wd_411, big_p (y := yX4_addGuest) (n := 8) (List.mem_of_getElem? (i := 8) (by decide +kernel)), wd_3, wd_412, by decide, by decide, by decide +kernel⟩
theorem yi_X4_addRoom : YI yX4_addRoom cX4_addRoom 2 (some .boolean) 1 := ⟨wd_419, big_p (y := yX4_addRoom) (n := 8) (List.mem_of_getElem? (i := 9) (by decide +kernel)), wd_3, wd_420, by decide, by decide, by decide +kernel⟩
theorem yi_X4_clear : YI yX4_clear cX4_clear 2 none 0 := ⟨wd_384, big_p (y := yX4_clear) (n := 8) (List.mem_of_getElem? (i := 3) (by decide +kernel)), wd_3, wd_385, by decide, by decide, by decide +kernel⟩
theorem yi_X4_copyFrom : YI yX4_copyFrom cX4_copyFrom 3 none 1 := ⟨wd_423, big_p (y := yX4_copyFrom) (n := 8) (List.mem_of_getElem? (i := 10) (by decide +kernel)), wd_3, wd_424, by decide, by decide, by decide +kernel⟩
theorem yi_X4_has : YI yX4_has cX4_has 2 (some .boolean) 1 := ⟨wd_502, big_p (y := yX4_has) (n := 8) (List.mem_of_getElem? (i := 16) (by decide +kernel)), wd_3, wd_503, by decide, by decide, by decide +kernel⟩
theorem yi_X5_append : YI yX5_append cX5_append 2 (some .boolean) 1 := ⟨wd_372, big_p (y := yX5_append) (n := 3) (List.mem_of_getElem? (i := 0) (by decide +kernel)), wd_2, wd_373, by decide, by decide, by decide +kernel⟩
theorem yi_X5_clear : YI yX5_clear cX5_clear 1 none 0 := ⟨wd_443, big_p (y := yX5_clear) (n := 3) (List.mem_of_getElem? (i := 15) (by decide +kernel)), wd_2, wd_444, by decide, by decide, by decide +kernel⟩
theorem yi_X5_isFigure : YI yX5_isFigure cX5_isFigure 2 (some .boolean) 1 := ⟨wd_407, big_p (y := yX5_isFigure) (n := 3) (List.mem_of_getElem? (i := 7) (by decide +kernel)), wd_2, wd_408, by decide, by decide, by decide +kernel⟩
theorem yi_X5_letterAt : YI yX5_letterAt cX5_letterAt 2 (some .int) 1 := ⟨wd_392, big_p (y := yX5_letterAt) (n := 3) (List.mem_of_getElem? (i := 5) (by decide +kernel)), wd_2, wd_393, by decide, by decide, by decide +kernel⟩
theorem yi_X5_readInto : YI yX5_readInto cX5_readInto 5 (some .int) 1 := ⟨wd_380, big_p (y := yX5_readInto) (n := 3) (List.mem_of_getElem? (i := 2) (by decide +kernel)), wd_2, wd_381, by decide, by decide, by decide +kernel⟩
theorem yi_X5_readItem : YI yX5_readItem cX5_readItem 4 (some .int) 2 := ⟨wd_388, big_p (y := yX5_readItem) (n := 3) (List.mem_of_getElem? (i := 4) (by decide +kernel)), wd_2, wd_389, by decide, by decide, by decide +kernel⟩
theorem yi_X5_readNumbers : YI yX5_readNumbers cX5_readNumbers 9 (some .int) 3 := ⟨wd_400, big_p (y := yX5_readNumbers) (n := 3) (List.mem_of_getElem? (i := 6) (by decide +kernel)), wd_2, wd_401, by decide, by decide, by decide +kernel⟩
theorem yi_X6_clear : YI yX6_clear cX6_clear 1 none 0 := ⟨wd_431, big_p (y := yX6_clear) (n := 2) (List.mem_of_getElem? (i := 12) (by decide +kernel)), wd_6, wd_432, by decide, by decide, by decide +kernel⟩
theorem yi_X6_dropOldest : YI yX6_dropOldest cX6_dropOldest 4 none 0 := ⟨wd_526, big_p (y := yX6_dropOldest) (n := 2) (List.mem_of_getElem? (i := 20) (by decide +kernel)), wd_6, wd_527, by decide, by decide, by decide +kernel⟩
theorem yi_X6_isFull : YI yX6_isFull cX6_isFull 1 (some .boolean) 0 := ⟨wd_522, big_p (y := yX6_isFull) (n := 2) (List.mem_of_getElem? (i := 19) (by decide +kernel)), wd_6, wd_523, by decide, by decide, by decide +kernel⟩
theorem yi_X6_put : YI yX6_put cX6_put 3 none 1 := ⟨wd_518, big_p (y := yX6_put) (n := 2) (List.mem_of_getElem? (i := 18) (by decide +kernel)), wd_6, wd_519, by decide, by decide, by decide +kernel⟩
theorem yi_X6_takeInto : YI yX6_takeInto cX6_takeInto 3 (some .boolean) 1 := ⟨wd_589, big_p (y := yX6_takeInto) (n := 2) (List.mem_of_getElem? (i := 31) (by decide +kernel)), wd_6, wd_590, by decide, by decide, by decide +kernel⟩
theorem yi_X7_add : YI yX7_add cX7_add 3 (some .boolean) 2 := ⟨wd_706, big_p (y := yX7_add) (n := 9) (List.mem_of_getElem? (i := 49) (by decide +kernel)), wd_9, wd_707, by decide, by decide, by decide +kernel⟩
theorem yi_X7_clear : YI yX7_clear cX7_clear 1 none 0 := ⟨wd_435, big_p (y := yX7_clear) (n := 9) (List.mem_of_getElem? (i := 13) (by decide +kernel)), wd_9, wd_436, by decide, by decide, by decide +kernel⟩
theorem yi_X7_comeInOrder : YI yX7_comeInOrder cX7_comeInOrder 6 none 0 := ⟨wd_723, big_p (y := yX7_comeInOrder) (n := 9) (List.mem_of_getElem? (i := 51) (by decide +kernel)), wd_9, wd_724, by decide, by decide, by decide +kernel⟩
theorem yi_X7_firstOrderAt : YI yX7_firstOrderAt cX7_firstOrderAt 2 (some .int) 1 := ⟨wd_749, big_p (y := yX7_firstOrderAt) (n := 9) (List.mem_of_getElem? (i := 57) (by decide +kernel)), wd_9, wd_750, by decide, by decide, by decide +kernel⟩
theorem yi_X7_isAsSeen : YI yX7_isAsSeen cX7_isAsSeen 2 (some .boolean) 0 := ⟨wd_732, big_p (y := yX7_isAsSeen) (n := 9) (List.mem_of_getElem? (i := 53) (by decide +kernel)), wd_9, wd_733, by decide, by decide, by decide +kernel⟩
theorem yi_X7_nextOrder : YI yX7_nextOrder cX7_nextOrder 6 (some .boolean) 0 := ⟨wd_740, big_p (y := yX7_nextOrder) (n := 9) (List.mem_of_getElem? (i := 55) (by decide +kernel)), wd_9, wd_741, by decide, by decide, by decide +kernel⟩
theorem yi_X7_noteOrder : YI yX7_noteOrder cX7_noteOrder 2 none 0 := ⟨wd_736, big_p (y := yX7_noteOrder) (n := 9) (List.mem_of_getElem? (i := 54) (by decide +kernel)), wd_9, wd_737, by decide, by decide, by decide +kernel⟩
theorem yi_X7_payOut : YI yX7_payOut cX7_payOut 5 none 3 := ⟨wd_728, big_p (y := yX7_payOut) (n := 9) (List.mem_of_getElem? (i := 52) (by decide +kernel)), wd_9, wd_729, by decide, by decide, by decide +kernel⟩
theorem yi_X7_refresh : YI yX7_refresh cX7_refresh 3 none 0 := ⟨wd_718, big_p (y := yX7_refresh) (n := 9) (List.mem_of_getElem? (i := 50) (by decide +kernel)), wd_9, wd_719, by decide, by decide, by decide +kernel⟩
theorem yi_X7_swap : YI yX7_swap cX7_swap 4 none 2 := ⟨wd_745, big_p (y := yX7_swap) (n := 9) (List.mem_of_getElem? (i := 56) (by decide +kernel)), wd_9, wd_746, by decide, by decide, by decide +kernel⟩
theorem yi_X8_beginAct : YI yX8_beginAct cX8_beginAct 1 none 0 := ⟨wd_514, big_p (y := yX8_beginAct) (n := 11) (List.mem_of_getElem? (i := 17) (by decide +kernel)), wd_1, wd_515, by decide, by decide, by decide +kernel⟩
theorem yi_X8_layScript : YI yX8_layScript cX8_layScript 1 (some .boolean) 0 := ⟨wd_376, big_p (y := yX8_layScript) (n := 11) (List.mem_of_getElem? (i := 1) (by decide +kernel)), wd_1, wd_377, by decide, by decide, by decide +kernel⟩
theorem yi_X9_addsRoom : YI yX9_addsRoom cX9_addsRoom 2 none 1 := ⟨wd_829, big_p (y := yX9_addsRoom) (n := 24) (List.mem_of_getElem? (i := 67) (by decide +kernel)), wd_15, wd_830, by decide, by decide, by decide +kernel⟩
theorem yi_X9_allToDo : YI yX9_allToDo cX9_allToDo 3 (some .int) 0 := ⟨wd_1140, big_p (y := yX9_allToDo) (n := 24) (List.mem_of_getElem? (i := 96) (by decide +kernel)), wd_15, wd_1141, by decide, by decide, by decide +kernel⟩
theorem yi_X9_areSo : YI yX9_areSo cX9_areSo 3 (some .boolean) 0 := ⟨wd_1102, big_p (y := yX9_areSo) (n := 24) (List.mem_of_getElem? (i := 93) (by decide +kernel)), wd_15, wd_1103, by decide, by decide, by decide +kernel⟩
theorem yi_X9_begins : YI yX9_begins cX9_begins 2 none 0 := ⟨wd_833, big_p (y := yX9_begins) (n := 24) (List.mem_of_getElem? (i := 68) (by decide +kernel)), wd_15, wd_834, by decide, by decide, by decide +kernel⟩
theorem yi_X9_bestDeal : YI yX9_bestDeal cX9_bestDeal 7 (some .int) 0 := ⟨wd_1076, big_p (y := yX9_bestDeal) (n := 24) (List.mem_of_getElem? (i := 91) (by decide +kernel)), wd_15, wd_1077, by decide, by decide, by decide +kernel⟩
theorem yi_X9_bringsIn : YI yX9_bringsIn cX9_bringsIn 4 (some .int) 2 := ⟨wd_991, big_p (y := yX9_bringsIn) (n := 24) (List.mem_of_getElem? (i := 80) (by decide +kernel)), wd_15, wd_992, by decide, by decide, by decide +kernel⟩
theorem yi_X9_canBook : YI yX9_canBook cX9_canBook 4 (some .boolean) 3 := ⟨wd_1011, big_p (y := yX9_canBook) (n := 24) (List.mem_of_getElem? (i := 83) (by decide +kernel)), wd_15, wd_1012, by decide, by decide, by decide +kernel⟩
theorem yi_X9_canChange : YI yX9_canChange cX9_canChange 4 (some .boolean) 3 := ⟨wd_1027, big_p (y := yX9_canChange) (n := 24) (List.mem_of_getElem? (i := 85) (by decide +kernel)), wd_15, wd_1028, by decide, by decide, by decide +kernel⟩
theorem yi_X9_changes : YI yX9_changes cX9_changes 5 none 3 := ⟨wd_1031, big_p (y := yX9_changes) (n := 24) (List.mem_of_getElem? (i := 86) (by decide +kernel)), wd_15, wd_1032, by decide, by decide, by decide +kernel⟩
theorem yi_X9_coinsOf : YI yX9_coinsOf cX9_coinsOf 4 (some .int) 1 := ⟨wd_1124, big_p (y := yX9_coinsOf) (n := 24) (List.mem_of_getElem? (i := 95) (by decide +kernel)), wd_15, wd_1125, by decide, by decide, by decide +kernel⟩
theorem yi_X9_comes : YI yX9_comes cX9_comes 4 none 2 := ⟨wd_987, big_p (y := yX9_comes) (n := 24) (List.mem_of_getElem? (i := 79) (by decide +kernel)), wd_15, wd_988, by decide, by decide, by decide +kernel⟩
theorem yi_X9_copy : YI yX9_copy cX9_copy 4 none 2 := ⟨wd_979, big_p (y := yX9_copy) (n := 24) (List.mem_of_getElem? (i := 77) (by decide +kernel)), wd_15, wd_980, by decide, by decide, by decide +kernel⟩
theorem yi_X9_doesBy : YI yX9_doesBy cX9_doesBy 5 none 1 := ⟨wd_1120, big_p (y := yX9_doesBy) (n := 24) (List.mem_of_getElem? (i := 94) (by decide +kernel)), wd_15, wd_1121, by decide, by decide, by decide +kernel⟩
theorem yi_X9_doneBy : YI yX9_doneBy cX9_doneBy 2 (some .int) 0 := ⟨wd_1064, big_p (y := yX9_doneBy) (n := 24) (List.mem_of_getElem? (i := 89) (by decide +kernel)), wd_15, wd_1065, by decide, by decide, by decide +kernel⟩
theorem yi_X9_faultOf : YI yX9_faultOf cX9_faultOf 2 (some .int) 0 := ⟨wd_927, big_p (y := yX9_faultOf) (n := 24) (List.mem_of_getElem? (i := 69) (by decide +kernel)), wd_15, wd_928, by decide, by decide, by decide +kernel⟩
theorem yi_X9_freesThose : YI yX9_freesThose cX9_freesThose 3 none 1 := ⟨wd_995, big_p (y := yX9_freesThose) (n := 24) (List.mem_of_getElem? (i := 81) (by decide +kernel)), wd_15, wd_996, by decide, by decide, by decide +kernel⟩
theorem yi_X9_goesFree : YI yX9_goesFree cX9_goesFree 5 none 2 := ⟨wd_999, big_p (y := yX9_goesFree) (n := 24) (List.mem_of_getElem? (i := 82) (by decide +kernel)), wd_15, wd_1000, by decide, by decide, by decide +kernel⟩
theorem yi_X9_isDone : YI yX9_isDone cX9_isDone 4 (some .boolean) 1 := ⟨wd_1068, big_p (y := yX9_isDone) (n := 24) (List.mem_of_getElem? (i := 90) (by decide +kernel)), wd_15, wd_1069, by decide, by decide, by decide +kernel⟩
theorem yi_X9_isGuest : YI yX9_isGuest cX9_isGuest 2 (some .boolean) 1 := ⟨wd_961, big_p (y := yX9_isGuest) (n := 24) (List.mem_of_getElem? (i := 75) (by decide +kernel)), wd_15, wd_962, by decide, by decide, by decide +kernel⟩
theorem yi_X9_letterAt : YI yX9_letterAt cX9_letterAt 2 (some .int) 1 := ⟨wd_935, big_p (y := yX9_letterAt) (n := 24) (List.mem_of_getElem? (i := 71) (by decide +kernel)), wd_15, wd_936, by decide, by decide, by decide +kernel⟩
theorem yi_X9_manyHow : YI yX9_manyHow cX9_manyHow 5 (some .int) 2 := ⟨wd_1019, big_p (y := yX9_manyHow) (n := 24) (List.mem_of_getElem? (i := 84) (by decide +kernel)), wd_15, wd_1020, by decide, by decide, by decide +kernel⟩
theorem yi_X9_manyOrders : YI yX9_manyOrders cX9_manyOrders 5 (some .int) 0 := ⟨wd_1098, big_p (y := yX9_manyOrders) (n := 24) (List.mem_of_getElem? (i := 92) (by decide +kernel)), wd_15, wd_1099, by decide, by decide, by decide +kernel⟩
theorem yi_X9_minds : YI yX9_minds cX9_minds 2 none 0 := ⟨wd_975, big_p (y := yX9_minds) (n := 24) (List.mem_of_getElem? (i := 76) (by decide +kernel)), wd_15, wd_976, by decide, by decide, by decide +kernel⟩
theorem yi_X9_passes : YI yX9_passes cX9_passes 3 none 1 := ⟨wd_983, big_p (y := yX9_passes) (n := 24) (List.mem_of_getElem? (i := 78) (by decide +kernel)), wd_15, wd_984, by decide, by decide, by decide +kernel⟩
theorem yi_X9_starts : YI yX9_starts cX9_starts 2 none 0 := ⟨wd_821, big_p (y := yX9_starts) (n := 24) (List.mem_of_getElem? (i := 65) (by decide +kernel)), wd_15, wd_822, by decide, by decide, by decide +kernel⟩
theorem yi_X9_takesGuest : YI yX9_takesGuest cX9_takesGuest 5 (some .boolean) 0 := ⟨wd_939, big_p (y := yX9_takesGuest) (n := 24) (List.mem_of_getElem? (i := 72) (by decide +kernel)), wd_15, wd_940, by decide, by decide, by decide +kernel⟩
theorem yi_X9_takesItem : YI yX9_takesItem cX9_takesItem 2 (some .boolean) 0 := ⟨wd_931, big_p (y := yX9_takesItem) (n := 24) (List.mem_of_getElem? (i := 70) (by decide +kernel)), wd_15, wd_932, by decide, by decide, by decide +kernel⟩
theorem yi_X9_takesNumber : YI yX9_takesNumber cX9_takesNumber 5 (some .boolean) 3 := ⟨wd_943, big_p (y := yX9_takesNumber) (n := 24) (List.mem_of_getElem? (i := 73) (by decide +kernel)), wd_15, wd_944, by decide, by decide, by decide +kernel⟩
theorem yi_X9_takesRoom : YI yX9_takesRoom cX9_takesRoom 1 (some .boolean) 0 := ⟨wd_949, big_p (y := yX9_takesRoom) (n := 24) (List.mem_of_getElem? (i := 74) (by decide +kernel)), wd_15, wd_950, by decide, by decide, by decide +kernel⟩
theorem yi_X9_taskOf : YI yX9_taskOf cX9_taskOf 4 (some .int) 1 := ⟨wd_1051, big_p (y := yX9_taskOf) (n := 24) (List.mem_of_getElem? (i := 88) (by decide +kernel)), wd_15, wd_1052, by decide, by decide, by decide +kernel⟩
theorem yi_X9_tries : YI yX9_tries cX9_tries 1 none 0 := ⟨wd_1043, big_p (y := yX9_tries) (n := 24) (List.mem_of_getElem? (i := 87) (by decide +kernel)), wd_15, wd_1044, by decide, by decide, by decide +kernel⟩
theorem ys_X8_drawOf : YS yX8_drawOf cX8_drawOf 4 (some .int) 2 := ⟨wd_779, wd_1, wd_780, by decide, by decide, by decide +kernel⟩
theorem ys_X8_withinHorizon : YS yX8_withinHorizon cX8_withinHorizon 1 (some .int) 1 := ⟨wd_629, wd_1, wd_630, by decide, by decide, by decide +kernel⟩
theorem ys_X9_has : YS yX9_has cX9_has 2 (some .boolean) 2 := ⟨wd_1002, wd_15, wd_1003, by decide, by decide, by decide +kernel⟩
theorem ys_X9_in : YS yX9_in cX9_in 6 (some .boolean) 3 := ⟨wd_915, wd_15, wd_916, by decide, by decide, by decide +kernel⟩
theorem inB0 : ∀ w ∈ u_ws RX0 TX0 7, w ∈ BIG := by
  intro w hw
  obtain ⟨k, hk, rfl⟩ := List.mem_map.mp hw
  have hk := List.mem_range.mp hk
  rcases (show k = 0 ∨ k = 1 ∨ k = 2 ∨ k = 3 ∨ k = 4 ∨ k = 5 ∨ k = 6 by omega) with rfl | rfl | rfl | rfl | rfl | rfl | rfl
  · exact big_t 306 (by decide +kernel) rfl
  · exact big_t 308 (by decide +kernel) rfl
  · exact big_t 310 (by decide +kernel) rfl
  · exact big_t 312 (by decide +kernel) rfl
  · exact big_t 314 (by decide +kernel) rfl
  · exact big_t 316 (by decide +kernel) rfl
  · exact big_t 318 (by decide +kernel) rfl
theorem inB1 : ∀ w ∈ u_ws RX1 TX1 11, w ∈ BIG := by
  intro w hw
  obtain ⟨k, hk, rfl⟩ := List.mem_map.mp hw
  have hk := List.mem_range.mp hk
  rcases (show k = 0 ∨ k = 1 ∨ k = 2 ∨ k = 3 ∨ k = 4 ∨ k = 5 ∨ k = 6 ∨ k = 7 ∨ k = 8 ∨ k = 9 ∨ k = 10 by omega) with rfl | rfl | rfl | rfl | rfl | rfl | rfl | rfl | rfl | rfl | rfl
  · exact big_t 228 (by decide +kernel) rfl
  · exact big_t 230 (by decide +kernel) rfl
  · exact big_t 232 (by decide +kernel) rfl
  · exact big_t 234 (by decide +kernel) rfl
  · exact big_t 236 (by decide +kernel) rfl
  · exact big_t 238 (by decide +kernel) rfl
  · exact big_t 240 (by decide +kernel) rfl
  · exact big_t 242 (by decide +kernel) rfl
  · exact big_t 244 (by decide +kernel) rfl
  · exact big_t 246 (by decide +kernel) rfl
  · exact big_t 248 (by decide +kernel) rfl
theorem inB2 : ∀ w ∈ u_ws RX2 TX2 10, w ∈ BIG := by
  intro w hw
  obtain ⟨k, hk, rfl⟩ := List.mem_map.mp hw
  have hk := List.mem_range.mp hk
  rcases (show k = 0 ∨ k = 1 ∨ k = 2 ∨ k = 3 ∨ k = 4 ∨ k = 5 ∨ k = 6 ∨ k = 7 ∨ k = 8 ∨ k = 9 by omega) with rfl | rfl | rfl | rfl | rfl | rfl | rfl | rfl | rfl | rfl
  · exact big_t 126 (by decide +kernel) rfl
  · exact big_t 128 (by decide +kernel) rfl
  · exact big_t 130 (by decide +kernel) rfl
  · exact big_t 132 (by decide +kernel) rfl
  · exact big_t 134 (by decide +kernel) rfl
  · exact big_t 136 (by decide +kernel) rfl
  · exact big_t 138 (by decide +kernel) rfl
  · exact big_t 140 (by decide +kernel) rfl
  · exact big_t 142 (by decide +kernel) rfl
  · exact big_t 144 (by decide +kernel) rfl
theorem inB3 : ∀ w ∈ u_ws RX3 TX3 9, w ∈ BIG := by
  intro w hw
  obtain ⟨k, hk, rfl⟩ := List.mem_map.mp hw
  have hk := List.mem_range.mp hk
  rcases (show k = 0 ∨ k = 1 ∨ k = 2 ∨ k = 3 ∨ k = 4 ∨ k = 5 ∨ k = 6 ∨ k = 7 ∨ k = 8 by omega) with rfl | rfl | rfl | rfl | rfl | rfl | rfl | rfl | rfl
  · exact big_t 167 (by decide +kernel) rfl
  · exact big_t 169 (by decide +kernel) rfl
  · exact big_t 171 (by decide +kernel) rfl
  · exact big_t 173 (by decide +kernel) rfl
  · exact big_t 175 (by decide +kernel) rfl
  · exact big_t 177 (by decide +kernel) rfl
  · exact big_t 179 (by decide +kernel) rfl
  · exact big_t 181 (by decide +kernel) rfl
  · exact big_t 183 (by decide +kernel) rfl
theorem inB4 : ∀ w ∈ u_ws RX4 TX4 8, w ∈ BIG := by
  intro w hw
  obtain ⟨k, hk, rfl⟩ := List.mem_map.mp hw
  have hk := List.mem_range.mp hk
  rcases (show k = 0 ∨ k = 1 ∨ k = 2 ∨ k = 3 ∨ k = 4 ∨ k = 5 ∨ k = 6 ∨ k = 7 by omega) with rfl | rfl | rfl | rfl | rfl | rfl | rfl | rfl
  · exact big_t 76 (by decide +kernel) rfl
  · exact big_t 78 (by decide +kernel) rfl
  · exact big_t 80 (by decide +kernel) rfl
  · exact big_t 82 (by decide +kernel) rfl
  · exact big_t 84 (by decide +kernel) rfl
  · exact big_t 86 (by decide +kernel) rfl
  · exact big_t 88 (by decide +kernel) rfl
  · exact big_t 90 (by decide +kernel) rfl
theorem inB5 : ∀ w ∈ u_ws RX5 TX5 3, w ∈ BIG := by
  intro w hw
  obtain ⟨k, hk, rfl⟩ := List.mem_map.mp hw
  have hk := List.mem_range.mp hk
  rcases (show k = 0 ∨ k = 1 ∨ k = 2 by omega) with rfl | rfl | rfl
  · exact big_t 34 (by decide +kernel) rfl
  · exact big_t 36 (by decide +kernel) rfl
  · exact big_t 38 (by decide +kernel) rfl
theorem inB6 : ∀ w ∈ u_ws RX6 TX6 2, w ∈ BIG := by
  intro w hw
  obtain ⟨k, hk, rfl⟩ := List.mem_map.mp hw
  have hk := List.mem_range.mp hk
  rcases (show k = 0 ∨ k = 1 by omega) with rfl | rfl
  · exact big_t 201 (by decide +kernel) rfl
  · exact big_t 203 (by decide +kernel) rfl
theorem inB7 : ∀ w ∈ u_ws RX7 TX7 9, w ∈ BIG := by
  intro w hw
  obtain ⟨k, hk, rfl⟩ := List.mem_map.mp hw
  have hk := List.mem_range.mp hk
  rcases (show k = 0 ∨ k = 1 ∨ k = 2 ∨ k = 3 ∨ k = 4 ∨ k = 5 ∨ k = 6 ∨ k = 7 ∨ k = 8 by omega) with rfl | rfl | rfl | rfl | rfl | rfl | rfl | rfl | rfl
  · exact big_t 268 (by decide +kernel) rfl
  · exact big_t 270 (by decide +kernel) rfl
  · exact big_t 272 (by decide +kernel) rfl
  · exact big_t 274 (by decide +kernel) rfl
  · exact big_t 276 (by decide +kernel) rfl
  · exact big_t 278 (by decide +kernel) rfl
  · exact big_t 280 (by decide +kernel) rfl
  · exact big_t 282 (by decide +kernel) rfl
  · exact big_t 284 (by decide +kernel) rfl
theorem inB8 : ∀ w ∈ u_ws RX8 TX8 11, w ∈ BIG := by
  intro w hw
  obtain ⟨k, hk, rfl⟩ := List.mem_map.mp hw
  have hk := List.mem_range.mp hk
  rcases (show k = 0 ∨ k = 1 ∨ k = 2 ∨ k = 3 ∨ k = 4 ∨ k = 5 ∨ k = 6 ∨ k = 7 ∨ k = 8 ∨ k = 9 ∨ k = 10 by omega) with rfl | rfl | rfl | rfl | rfl | rfl | rfl | rfl | rfl | rfl | rfl
  · exact big_t 456 (by decide +kernel) rfl
  · exact big_t 458 (by decide +kernel) rfl
  · exact big_t 460 (by decide +kernel) rfl
  · exact big_t 462 (by decide +kernel) rfl
  · exact big_t 464 (by decide +kernel) rfl
  · exact big_t 466 (by decide +kernel) rfl
  · exact big_t 468 (by decide +kernel) rfl
  · exact big_t 470 (by decide +kernel) rfl
  · exact big_t 472 (by decide +kernel) rfl
  · exact big_t 474 (by decide +kernel) rfl
  · exact big_t 476 (by decide +kernel) rfl
theorem inB9 : ∀ w ∈ u_ws RX9 TX9 24, w ∈ BIG := by
  intro w hw
  obtain ⟨k, hk, rfl⟩ := List.mem_map.mp hw
  have hk := List.mem_range.mp hk
  rcases (show k = 0 ∨ k = 1 ∨ k = 2 ∨ k = 3 ∨ k = 4 ∨ k = 5 ∨ k = 6 ∨ k = 7 ∨ k = 8 ∨ k = 9 ∨ k = 10 ∨ k = 11 ∨ k = 12 ∨ k = 13 ∨ k = 14 ∨ k = 15 ∨ k = 16 ∨ k = 17 ∨ k = 18 ∨ k = 19 ∨ k = 20 ∨ k = 21 ∨ k = 22 ∨ k = 23 by omega) with rfl | rfl | rfl | rfl | rfl | rfl | rfl | rfl | rfl | rfl | rfl | rfl | rfl | rfl | rfl | rfl | rfl | rfl | rfl | rfl | rfl | rfl | rfl | rfl
  · exact big_t 859 (by decide +kernel) rfl
  · exact big_t 861 (by decide +kernel) rfl
  · exact big_t 863 (by decide +kernel) rfl
  · exact big_t 865 (by decide +kernel) rfl
  · exact big_t 867 (by decide +kernel) rfl
  · exact big_t 869 (by decide +kernel) rfl
  · exact big_t 871 (by decide +kernel) rfl
  · exact big_t 873 (by decide +kernel) rfl
  · exact big_t 875 (by decide +kernel) rfl
  · exact big_t 877 (by decide +kernel) rfl
  · exact big_t 879 (by decide +kernel) rfl
  · exact big_t 881 (by decide +kernel) rfl
  · exact big_t 883 (by decide +kernel) rfl
  · exact big_t 885 (by decide +kernel) rfl
  · exact big_t 887 (by decide +kernel) rfl
  · exact big_t 889 (by decide +kernel) rfl
  · exact big_t 891 (by decide +kernel) rfl
  · exact big_t 893 (by decide +kernel) rfl
  · exact big_t 895 (by decide +kernel) rfl
  · exact big_t 897 (by decide +kernel) rfl
  · exact big_t 899 (by decide +kernel) rfl
  · exact big_t 901 (by decide +kernel) rfl
  · exact big_t 903 (by decide +kernel) rfl
  · exact big_t 905 (by decide +kernel) rfl
theorem wd_445 : Cond.fieldLink RX8 10 (TX8 0).1 (TX8 0).2.1 (TX8 0).2.2.1 ∈ BIG := big_t 445 (by decide +kernel) rfl
theorem gf_X8_10 {Z : ZT} {X : XT} {cc : ByteArray} {nL fr lo pc n : Nat} {lv : List (Nat × Value)} {rest : List Value} {M : Mem} {k : Nat} (C : CX X cc RX8 nL fr lo) (E : EX Z (xs X)) (hk : AtO Z k 8) (d : decode cc pc = .ok (.getfield 10, 3)) (hn : pc + 3 = n) (kk : GS Z X n lv (.ref (zb Z + 1) :: rest) M) : GS Z X pc lv (.ref (zb Z + k) :: rest) M := g_get 0 C E rfl inB8 (by decide) wd_445 hk rfl d hn kk
theorem wd_446 : Cond.fieldLink RX8 19 (TX8 1).1 (TX8 1).2.1 (TX8 1).2.2.1 ∈ BIG := big_t 446 (by decide +kernel) rfl
theorem gf_X8_19 {Z : ZT} {X : XT} {cc : ByteArray} {nL fr lo pc n : Nat} {lv : List (Nat × Value)} {rest : List Value} {M : Mem} {k : Nat} (C : CX X cc RX8 nL fr lo) (E : EX Z (xs X)) (hk : AtO Z k 8) (d : decode cc pc = .ok (.getfield 19, 3)) (hn : pc + 3 = n) (kk : GS Z X n lv (.ref (zb Z + 4) :: rest) M) : GS Z X pc lv (.ref (zb Z + k) :: rest) M := g_get 1 C E rfl inB8 (by decide) wd_446 hk rfl d hn kk
theorem wd_447 : Cond.fieldLink RX8 23 (TX8 2).1 (TX8 2).2.1 (TX8 2).2.2.1 ∈ BIG := big_t 447 (by decide +kernel) rfl
theorem gf_X8_23 {Z : ZT} {X : XT} {cc : ByteArray} {nL fr lo pc n : Nat} {lv : List (Nat × Value)} {rest : List Value} {M : Mem} {k : Nat} (C : CX X cc RX8 nL fr lo) (E : EX Z (xs X)) (hk : AtO Z k 8) (d : decode cc pc = .ok (.getfield 23, 3)) (hn : pc + 3 = n) (kk : GS Z X n lv (.ref (zb Z + 11) :: rest) M) : GS Z X pc lv (.ref (zb Z + k) :: rest) M := g_get 2 C E rfl inB8 (by decide) wd_447 hk rfl d hn kk
theorem wd_448 : Cond.fieldLink RX8 31 (TX8 3).1 (TX8 3).2.1 (TX8 3).2.2.1 ∈ BIG := big_t 448 (by decide +kernel) rfl
theorem gf_X8_31 {Z : ZT} {X : XT} {cc : ByteArray} {nL fr lo pc n : Nat} {lv : List (Nat × Value)} {rest : List Value} {M : Mem} {k : Nat} (C : CX X cc RX8 nL fr lo) (E : EX Z (xs X)) (hk : AtO Z k 8) (d : decode cc pc = .ok (.getfield 31, 3)) (hn : pc + 3 = n) (kk : GS Z X n lv (.ref (zb Z + 18) :: rest) M) : GS Z X pc lv (.ref (zb Z + k) :: rest) M := g_get 3 C E rfl inB8 (by decide) wd_448 hk rfl d hn kk
theorem wd_449 : Cond.fieldLink RX8 35 (TX8 4).1 (TX8 4).2.1 (TX8 4).2.2.1 ∈ BIG := big_t 449 (by decide +kernel) rfl
theorem gf_X8_35 {Z : ZT} {X : XT} {cc : ByteArray} {nL fr lo pc n : Nat} {lv : List (Nat × Value)} {rest : List Value} {M : Mem} {k : Nat} (C : CX X cc RX8 nL fr lo) (E : EX Z (xs X)) (hk : AtO Z k 8) (d : decode cc pc = .ok (.getfield 35, 3)) (hn : pc + 3 = n) (kk : GS Z X n lv (.ref (zb Z + 26) :: rest) M) : GS Z X pc lv (.ref (zb Z + k) :: rest) M := g_get 4 C E rfl inB8 (by decide) wd_449 hk rfl d hn kk
theorem wd_450 : Cond.fieldLink RX8 41 (TX8 5).1 (TX8 5).2.1 (TX8 5).2.2.1 ∈ BIG := big_t 450 (by decide +kernel) rfl
theorem gf_X8_41 {Z : ZT} {X : XT} {cc : ByteArray} {nL fr lo pc n : Nat} {lv : List (Nat × Value)} {rest : List Value} {M : Mem} {k : Nat} (C : CX X cc RX8 nL fr lo) (E : EX Z (xs X)) (hk : AtO Z k 8) (d : decode cc pc = .ok (.getfield 41, 3)) (hn : pc + 3 = n) (kk : GS Z X n lv (.ref (zb Z + 34) :: rest) M) : GS Z X pc lv (.ref (zb Z + k) :: rest) M := g_get 5 C E rfl inB8 (by decide) wd_450 hk rfl d hn kk
theorem wd_451 : Cond.fieldLink RX8 50 (TX8 6).1 (TX8 6).2.1 (TX8 6).2.2.1 ∈ BIG := big_t 451 (by decide +kernel) rfl
theorem gf_X8_50 {Z : ZT} {X : XT} {cc : ByteArray} {nL fr lo pc n : Nat} {lv : List (Nat × Value)} {rest : List Value} {M : Mem} {k : Nat} (C : CX X cc RX8 nL fr lo) (E : EX Z (xs X)) (hk : AtO Z k 8) (d : decode cc pc = .ok (.getfield 50, 3)) (hn : pc + 3 = n) (kk : GS Z X n lv (.ref (zb Z + 40) :: rest) M) : GS Z X pc lv (.ref (zb Z + k) :: rest) M := g_get 6 C E rfl inB8 (by decide) wd_451 hk rfl d hn kk
theorem wd_452 : Cond.fieldLink RX8 54 (TX8 7).1 (TX8 7).2.1 (TX8 7).2.2.1 ∈ BIG := big_t 452 (by decide +kernel) rfl
theorem gf_X8_54 {Z : ZT} {X : XT} {cc : ByteArray} {nL fr lo pc n : Nat} {lv : List (Nat × Value)} {rest : List Value} {M : Mem} {k : Nat} (C : CX X cc RX8 nL fr lo) (E : EX Z (xs X)) (hk : AtO Z k 8) (d : decode cc pc = .ok (.getfield 54, 3)) (hn : pc + 3 = n) (kk : GS Z X n lv (.ref (zb Z + 106) :: rest) M) : GS Z X pc lv (.ref (zb Z + k) :: rest) M := g_get 7 C E rfl inB8 (by decide) wd_452 hk rfl d hn kk
theorem wd_453 : Cond.fieldLink RX8 60 (TX8 8).1 (TX8 8).2.1 (TX8 8).2.2.1 ∈ BIG := big_t 453 (by decide +kernel) rfl
theorem gf_X8_60 {Z : ZT} {X : XT} {cc : ByteArray} {nL fr lo pc n : Nat} {lv : List (Nat × Value)} {rest : List Value} {M : Mem} {k : Nat} (C : CX X cc RX8 nL fr lo) (E : EX Z (xs X)) (hk : AtO Z k 8) (d : decode cc pc = .ok (.getfield 60, 3)) (hn : pc + 3 = n) (kk : GS Z X n lv (.ref (zb Z + 124) :: rest) M) : GS Z X pc lv (.ref (zb Z + k) :: rest) M := g_get 8 C E rfl inB8 (by decide) wd_453 hk rfl d hn kk
theorem wd_454 : Cond.fieldLink RX8 67 (TX8 9).1 (TX8 9).2.1 (TX8 9).2.2.1 ∈ BIG := big_t 454 (by decide +kernel) rfl
theorem gf_X8_67 {Z : ZT} {X : XT} {cc : ByteArray} {nL fr lo pc n : Nat} {lv : List (Nat × Value)} {rest : List Value} {M : Mem} {k : Nat} (C : CX X cc RX8 nL fr lo) (E : EX Z (xs X)) (hk : AtO Z k 8) (d : decode cc pc = .ok (.getfield 67, 3)) (hn : pc + 3 = n) (kk : GS Z X n lv (.ref (zb Z + 142) :: rest) M) : GS Z X pc lv (.ref (zb Z + k) :: rest) M := g_get 9 C E rfl inB8 (by decide) wd_454 hk rfl d hn kk
theorem wd_455 : Cond.fieldLink RX8 74 (TX8 10).1 (TX8 10).2.1 (TX8 10).2.2.1 ∈ BIG := big_t 455 (by decide +kernel) rfl
theorem gf_X8_74 {Z : ZT} {X : XT} {cc : ByteArray} {nL fr lo pc n : Nat} {lv : List (Nat × Value)} {rest : List Value} {M : Mem} {k : Nat} (C : CX X cc RX8 nL fr lo) (E : EX Z (xs X)) (hk : AtO Z k 8) (d : decode cc pc = .ok (.getfield 74, 3)) (hn : pc + 3 = n) (kk : GS Z X n lv (.ref (zb Z + 148) :: rest) M) : GS Z X pc lv (.ref (zb Z + k) :: rest) M := g_get 10 C E rfl inB8 (by decide) wd_455 hk rfl d hn kk
theorem wn_33 : Cond.fieldLinkNest RX8 101 (TX5 2).1 (TX5 2).2.1 (TX5 2).2.2.1 "NextBellboy" ∈ NWL := nw_t 33 (by decide +kernel) rfl
theorem gf_X8_101 {Z : ZT} {X : XT} {cc : ByteArray} {nL fr lo pc n : Nat} {lv : List (Nat × Value)} {rest : List Value} {M : Mem} {k : Nat} (C : CX X cc RX8 nL fr lo) (E : EX Z (xs X)) (hk : AtO Z k 5) (d : decode cc pc = .ok (.getfield 101, 3)) (hn : pc + 3 = n) (kk : GS Z X n lv (.int (M k 2) :: rest) M) : GS Z X pc lv (.ref (zb Z + k) :: rest) M := g_getN 2 C E rfl inB5 (by decide) wn_33 hk rfl d hn kk
theorem wn_71 : Cond.fieldLinkNest RX8 108 (TX4 6).1 (TX4 6).2.1 (TX4 6).2.2.1 "NextBellboy" ∈ NWL := nw_t 71 (by decide +kernel) rfl
theorem gf_X8_108 {Z : ZT} {X : XT} {cc : ByteArray} {nL fr lo pc n : Nat} {lv : List (Nat × Value)} {rest : List Value} {M : Mem} {k : Nat} (C : CX X cc RX8 nL fr lo) (E : EX Z (xs X)) (hk : AtO Z k 4) (d : decode cc pc = .ok (.getfield 108, 3)) (hn : pc + 3 = n) (kk : GS Z X n lv (.int (M k 6) :: rest) M) : GS Z X pc lv (.ref (zb Z + k) :: rest) M := g_getN 6 C E rfl inB4 (by decide) wn_71 hk rfl d hn kk
theorem wn_49 : Cond.fieldLinkNest RX8 114 (TX4 0).1 (TX4 0).2.1 (TX4 0).2.2.1 "NextBellboy" ∈ NWL := nw_t 49 (by decide +kernel) rfl
theorem gf_X8_114 {Z : ZT} {X : XT} {cc : ByteArray} {nL fr lo pc n : Nat} {lv : List (Nat × Value)} {rest : List Value} {M : Mem} {k : Nat} (q : Nat) (C : CX X cc RX8 nL fr lo) (E : EX Z (xs X)) (hk : AtO Z k 4) (hq : k + 1 = q) (d : decode cc pc = .ok (.getfield 114, 3)) (hn : pc + 3 = n) (kk : GS Z X n lv (.ref (zb Z + q) :: rest) M) : GS Z X pc lv (.ref (zb Z + k) :: rest) M := by
  subst hq
  exact g_getN 0 C E rfl inB4 (by decide) wn_49 hk rfl d hn kk
theorem wn_56 : Cond.fieldLinkNest RX8 118 (TX4 2).1 (TX4 2).2.1 (TX4 2).2.2.1 "NextBellboy" ∈ NWL := nw_t 56 (by decide +kernel) rfl
theorem gf_X8_118 {Z : ZT} {X : XT} {cc : ByteArray} {nL fr lo pc n : Nat} {lv : List (Nat × Value)} {rest : List Value} {M : Mem} {k : Nat} (q : Nat) (C : CX X cc RX8 nL fr lo) (E : EX Z (xs X)) (hk : AtO Z k 4) (hq : k + 3 = q) (d : decode cc pc = .ok (.getfield 118, 3)) (hn : pc + 3 = n) (kk : GS Z X n lv (.ref (zb Z + q) :: rest) M) : GS Z X pc lv (.ref (zb Z + k) :: rest) M := by
  subst hq
  exact g_getN 2 C E rfl inB4 (by decide) wn_56 hk rfl d hn kk
theorem wn_59 : Cond.fieldLinkNest RX8 121 (TX4 3).1 (TX4 3).2.1 (TX4 3).2.2.1 "NextBellboy" ∈ NWL := nw_t 59 (by decide +kernel) rfl
theorem gf_X8_121 {Z : ZT} {X : XT} {cc : ByteArray} {nL fr lo pc n : Nat} {lv : List (Nat × Value)} {rest : List Value} {M : Mem} {k : Nat} (q : Nat) (C : CX X cc RX8 nL fr lo) (E : EX Z (xs X)) (hk : AtO Z k 4) (hq : k + 4 = q) (d : decode cc pc = .ok (.getfield 121, 3)) (hn : pc + 3 = n) (kk : GS Z X n lv (.ref (zb Z + q) :: rest) M) : GS Z X pc lv (.ref (zb Z + k) :: rest) M := by
  subst hq
  exact g_getN 3 C E rfl inB4 (by decide) wn_59 hk rfl d hn kk
theorem wn_64 : Cond.fieldLinkNest RX8 124 (TX4 4).1 (TX4 4).2.1 (TX4 4).2.2.1 "NextBellboy" ∈ NWL := nw_t 64 (by decide +kernel) rfl
theorem gf_X8_124 {Z : ZT} {X : XT} {cc : ByteArray} {nL fr lo pc n : Nat} {lv : List (Nat × Value)} {rest : List Value} {M : Mem} {k : Nat} (q : Nat) (C : CX X cc RX8 nL fr lo) (E : EX Z (xs X)) (hk : AtO Z k 4) (hq : k + 5 = q) (d : decode cc pc = .ok (.getfield 124, 3)) (hn : pc + 3 = n) (kk : GS Z X n lv (.ref (zb Z + q) :: rest) M) : GS Z X pc lv (.ref (zb Z + k) :: rest) M := by
  subst hq
  exact g_getN 4 C E rfl inB4 (by decide) wn_64 hk rfl d hn kk
theorem wn_104 : Cond.fieldLinkNest RX8 127 (TX2 1).1 (TX2 1).2.1 (TX2 1).2.2.1 "NextBellboy" ∈ NWL := nw_t 104 (by decide +kernel) rfl
theorem gf_X8_127 {Z : ZT} {X : XT} {cc : ByteArray} {nL fr lo pc n : Nat} {lv : List (Nat × Value)} {rest : List Value} {M : Mem} {k : Nat} (q : Nat) (C : CX X cc RX8 nL fr lo) (E : EX Z (xs X)) (hk : AtO Z k 2) (hq : k + 1 = q) (d : decode cc pc = .ok (.getfield 127, 3)) (hn : pc + 3 = n) (kk : GS Z X n lv (.ref (zb Z + q) :: rest) M) : GS Z X pc lv (.ref (zb Z + k) :: rest) M := by
  subst hq
  exact g_getN 1 C E rfl inB2 (by decide) wn_104 hk rfl d hn kk
theorem wn_107 : Cond.fieldLinkNest RX8 130 (TX2 2).1 (TX2 2).2.1 (TX2 2).2.2.1 "NextBellboy" ∈ NWL := nw_t 107 (by decide +kernel) rfl
theorem gf_X8_130 {Z : ZT} {X : XT} {cc : ByteArray} {nL fr lo pc n : Nat} {lv : List (Nat × Value)} {rest : List Value} {M : Mem} {k : Nat} (q : Nat) (C : CX X cc RX8 nL fr lo) (E : EX Z (xs X)) (hk : AtO Z k 2) (hq : k + 2 = q) (d : decode cc pc = .ok (.getfield 130, 3)) (hn : pc + 3 = n) (kk : GS Z X n lv (.ref (zb Z + q) :: rest) M) : GS Z X pc lv (.ref (zb Z + k) :: rest) M := by
  subst hq
  exact g_getN 2 C E rfl inB2 (by decide) wn_107 hk rfl d hn kk
theorem wn_110 : Cond.fieldLinkNest RX8 133 (TX2 3).1 (TX2 3).2.1 (TX2 3).2.2.1 "NextBellboy" ∈ NWL := nw_t 110 (by decide +kernel) rfl
theorem gf_X8_133 {Z : ZT} {X : XT} {cc : ByteArray} {nL fr lo pc n : Nat} {lv : List (Nat × Value)} {rest : List Value} {M : Mem} {k : Nat} (q : Nat) (C : CX X cc RX8 nL fr lo) (E : EX Z (xs X)) (hk : AtO Z k 2) (hq : k + 3 = q) (d : decode cc pc = .ok (.getfield 133, 3)) (hn : pc + 3 = n) (kk : GS Z X n lv (.ref (zb Z + q) :: rest) M) : GS Z X pc lv (.ref (zb Z + k) :: rest) M := by
  subst hq
  exact g_getN 3 C E rfl inB2 (by decide) wn_110 hk rfl d hn kk
theorem wn_113 : Cond.fieldLinkNest RX8 136 (TX2 4).1 (TX2 4).2.1 (TX2 4).2.2.1 "NextBellboy" ∈ NWL := nw_t 113 (by decide +kernel) rfl
theorem gf_X8_136 {Z : ZT} {X : XT} {cc : ByteArray} {nL fr lo pc n : Nat} {lv : List (Nat × Value)} {rest : List Value} {M : Mem} {k : Nat} (q : Nat) (C : CX X cc RX8 nL fr lo) (E : EX Z (xs X)) (hk : AtO Z k 2) (hq : k + 4 = q) (d : decode cc pc = .ok (.getfield 136, 3)) (hn : pc + 3 = n) (kk : GS Z X n lv (.ref (zb Z + q) :: rest) M) : GS Z X pc lv (.ref (zb Z + k) :: rest) M := by
  subst hq
  exact g_getN 4 C E rfl inB2 (by decide) wn_113 hk rfl d hn kk
theorem wn_115 : Cond.fieldLinkNest RX8 139 (TX2 5).1 (TX2 5).2.1 (TX2 5).2.2.1 "NextBellboy" ∈ NWL := nw_t 115 (by decide +kernel) rfl
theorem gf_X8_139 {Z : ZT} {X : XT} {cc : ByteArray} {nL fr lo pc n : Nat} {lv : List (Nat × Value)} {rest : List Value} {M : Mem} {k : Nat} (q : Nat) (C : CX X cc RX8 nL fr lo) (E : EX Z (xs X)) (hk : AtO Z k 2) (hq : k + 5 = q) (d : decode cc pc = .ok (.getfield 139, 3)) (hn : pc + 3 = n) (kk : GS Z X n lv (.ref (zb Z + q) :: rest) M) : GS Z X pc lv (.ref (zb Z + k) :: rest) M := by
  subst hq
  exact g_getN 5 C E rfl inB2 (by decide) wn_115 hk rfl d hn kk
theorem wn_117 : Cond.fieldLinkNest RX8 142 (TX2 6).1 (TX2 6).2.1 (TX2 6).2.2.1 "NextBellboy" ∈ NWL := nw_t 117 (by decide +kernel) rfl
theorem gf_X8_142 {Z : ZT} {X : XT} {cc : ByteArray} {nL fr lo pc n : Nat} {lv : List (Nat × Value)} {rest : List Value} {M : Mem} {k : Nat} (q : Nat) (C : CX X cc RX8 nL fr lo) (E : EX Z (xs X)) (hk : AtO Z k 2) (hq : k + 6 = q) (d : decode cc pc = .ok (.getfield 142, 3)) (hn : pc + 3 = n) (kk : GS Z X n lv (.ref (zb Z + q) :: rest) M) : GS Z X pc lv (.ref (zb Z + k) :: rest) M := by
  subst hq
  exact g_getN 6 C E rfl inB2 (by decide) wn_117 hk rfl d hn kk
theorem wn_119 : Cond.fieldLinkNest RX8 145 (TX2 7).1 (TX2 7).2.1 (TX2 7).2.2.1 "NextBellboy" ∈ NWL := nw_t 119 (by decide +kernel) rfl
theorem gf_X8_145 {Z : ZT} {X : XT} {cc : ByteArray} {nL fr lo pc n : Nat} {lv : List (Nat × Value)} {rest : List Value} {M : Mem} {k : Nat} (q : Nat) (C : CX X cc RX8 nL fr lo) (E : EX Z (xs X)) (hk : AtO Z k 2) (hq : k + 7 = q) (d : decode cc pc = .ok (.getfield 145, 3)) (hn : pc + 3 = n) (kk : GS Z X n lv (.ref (zb Z + q) :: rest) M) : GS Z X pc lv (.ref (zb Z + k) :: rest) M := by
  subst hq
  exact g_getN 7 C E rfl inB2 (by decide) wn_119 hk rfl d hn kk
theorem wn_125 : Cond.fieldLinkNest RX8 154 (TX2 9).1 (TX2 9).2.1 (TX2 9).2.2.1 "NextBellboy" ∈ NWL := nw_t 125 (by decide +kernel) rfl
theorem gf_X8_154 {Z : ZT} {X : XT} {cc : ByteArray} {nL fr lo pc n : Nat} {lv : List (Nat × Value)} {rest : List Value} {M : Mem} {k : Nat} (C : CX X cc RX8 nL fr lo) (E : EX Z (xs X)) (hk : AtO Z k 2) (d : decode cc pc = .ok (.getfield 154, 3)) (hn : pc + 3 = n) (kk : GS Z X n lv (.int (M k 9) :: rest) M) : GS Z X pc lv (.ref (zb Z + k) :: rest) M := g_getN 9 C E rfl inB2 (by decide) wn_125 hk rfl d hn kk
theorem wn_200 : Cond.fieldLinkNest RX8 182 (TX6 1).1 (TX6 1).2.1 (TX6 1).2.2.1 "NextBellboy" ∈ NWL := nw_t 200 (by decide +kernel) rfl
theorem gf_X8_182 {Z : ZT} {X : XT} {cc : ByteArray} {nL fr lo pc n : Nat} {lv : List (Nat × Value)} {rest : List Value} {M : Mem} {k : Nat} (C : CX X cc RX8 nL fr lo) (E : EX Z (xs X)) (hk : AtO Z k 6) (d : decode cc pc = .ok (.getfield 182, 3)) (hn : pc + 3 = n) (kk : GS Z X n lv (.int (M k 1) :: rest) M) : GS Z X pc lv (.ref (zb Z + k) :: rest) M := g_getN 1 C E rfl inB6 (by decide) wn_200 hk rfl d hn kk
theorem wn_159 : Cond.fieldLinkNest RX8 187 (TX3 4).1 (TX3 4).2.1 (TX3 4).2.2.1 "NextBellboy" ∈ NWL := nw_t 159 (by decide +kernel) rfl
theorem gf_X8_187 {Z : ZT} {X : XT} {cc : ByteArray} {nL fr lo pc n : Nat} {lv : List (Nat × Value)} {rest : List Value} {M : Mem} {k : Nat} (q : Nat) (C : CX X cc RX8 nL fr lo) (E : EX Z (xs X)) (hk : AtO Z k 3) (hq : k + 4 = q) (d : decode cc pc = .ok (.getfield 187, 3)) (hn : pc + 3 = n) (kk : GS Z X n lv (.ref (zb Z + q) :: rest) M) : GS Z X pc lv (.ref (zb Z + k) :: rest) M := by
  subst hq
  exact g_getN 4 C E rfl inB3 (by decide) wn_159 hk rfl d hn kk
theorem wn_161 : Cond.fieldLinkNest RX8 196 (TX3 5).1 (TX3 5).2.1 (TX3 5).2.2.1 "NextBellboy" ∈ NWL := nw_t 161 (by decide +kernel) rfl
theorem gf_X8_196 {Z : ZT} {X : XT} {cc : ByteArray} {nL fr lo pc n : Nat} {lv : List (Nat × Value)} {rest : List Value} {M : Mem} {k : Nat} (q : Nat) (C : CX X cc RX8 nL fr lo) (E : EX Z (xs X)) (hk : AtO Z k 3) (hq : k + 5 = q) (d : decode cc pc = .ok (.getfield 196, 3)) (hn : pc + 3 = n) (kk : GS Z X n lv (.ref (zb Z + q) :: rest) M) : GS Z X pc lv (.ref (zb Z + k) :: rest) M := by
  subst hq
  exact g_getN 5 C E rfl inB3 (by decide) wn_161 hk rfl d hn kk
theorem wn_166 : Cond.fieldLinkNest RX8 208 (TX3 8).1 (TX3 8).2.1 (TX3 8).2.2.1 "NextBellboy" ∈ NWL := nw_t 166 (by decide +kernel) rfl
theorem gf_X8_208 {Z : ZT} {X : XT} {cc : ByteArray} {nL fr lo pc n : Nat} {lv : List (Nat × Value)} {rest : List Value} {M : Mem} {k : Nat} (C : CX X cc RX8 nL fr lo) (E : EX Z (xs X)) (hk : AtO Z k 3) (d : decode cc pc = .ok (.getfield 208, 3)) (hn : pc + 3 = n) (kk : GS Z X n lv (.int (M k 8) :: rest) M) : GS Z X pc lv (.ref (zb Z + k) :: rest) M := g_getN 8 C E rfl inB3 (by decide) wn_166 hk rfl d hn kk
theorem wn_226 : Cond.fieldLinkNest RX8 214 (TX1 9).1 (TX1 9).2.1 (TX1 9).2.2.1 "NextBellboy" ∈ NWL := nw_t 226 (by decide +kernel) rfl
theorem gf_X8_214 {Z : ZT} {X : XT} {cc : ByteArray} {nL fr lo pc n : Nat} {lv : List (Nat × Value)} {rest : List Value} {M : Mem} {k : Nat} (C : CX X cc RX8 nL fr lo) (E : EX Z (xs X)) (hk : AtO Z k 1) (d : decode cc pc = .ok (.getfield 214, 3)) (hn : pc + 3 = n) (kk : GS Z X n lv (.int (M k 9) :: rest) M) : GS Z X pc lv (.ref (zb Z + k) :: rest) M := g_getN 9 C E rfl inB1 (by decide) wn_226 hk rfl d hn kk
theorem wn_264 : Cond.fieldLinkNest RX8 224 (TX7 6).1 (TX7 6).2.1 (TX7 6).2.2.1 "NextBellboy" ∈ NWL := nw_t 264 (by decide +kernel) rfl
theorem gf_X8_224 {Z : ZT} {X : XT} {cc : ByteArray} {nL fr lo pc n : Nat} {lv : List (Nat × Value)} {rest : List Value} {M : Mem} {k : Nat} (C : CX X cc RX8 nL fr lo) (E : EX Z (xs X)) (hk : AtO Z k 7) (d : decode cc pc = .ok (.getfield 224, 3)) (hn : pc + 3 = n) (kk : GS Z X n lv (.int (M k 6) :: rest) M) : GS Z X pc lv (.ref (zb Z + k) :: rest) M := g_getN 6 C E rfl inB7 (by decide) wn_264 hk rfl d hn kk
theorem wn_266 : Cond.fieldLinkNest RX8 228 (TX7 7).1 (TX7 7).2.1 (TX7 7).2.2.1 "NextBellboy" ∈ NWL := nw_t 266 (by decide +kernel) rfl
theorem gf_X8_228 {Z : ZT} {X : XT} {cc : ByteArray} {nL fr lo pc n : Nat} {lv : List (Nat × Value)} {rest : List Value} {M : Mem} {k : Nat} (C : CX X cc RX8 nL fr lo) (E : EX Z (xs X)) (hk : AtO Z k 7) (d : decode cc pc = .ok (.getfield 228, 3)) (hn : pc + 3 = n) (kk : GS Z X n lv (.int (M k 7) :: rest) M) : GS Z X pc lv (.ref (zb Z + k) :: rest) M := g_getN 7 C E rfl inB7 (by decide) wn_266 hk rfl d hn kk
theorem wn_303 : Cond.fieldLinkNest RX8 238 (TX0 5).1 (TX0 5).2.1 (TX0 5).2.2.1 "NextBellboy" ∈ NWL := nw_t 303 (by decide +kernel) rfl
theorem gf_X8_238 {Z : ZT} {X : XT} {cc : ByteArray} {nL fr lo pc n : Nat} {lv : List (Nat × Value)} {rest : List Value} {M : Mem} {k : Nat} (C : CX X cc RX8 nL fr lo) (E : EX Z (xs X)) (hk : AtO Z k 0) (d : decode cc pc = .ok (.getfield 238, 3)) (hn : pc + 3 = n) (kk : GS Z X n lv (.int (M k 5) :: rest) M) : GS Z X pc lv (.ref (zb Z + k) :: rest) M := g_getN 5 C E rfl inB0 (by decide) wn_303 hk rfl d hn kk
theorem wn_305 : Cond.fieldLinkNest RX8 241 (TX0 6).1 (TX0 6).2.1 (TX0 6).2.2.1 "NextBellboy" ∈ NWL := nw_t 305 (by decide +kernel) rfl
theorem gf_X8_241 {Z : ZT} {X : XT} {cc : ByteArray} {nL fr lo pc n : Nat} {lv : List (Nat × Value)} {rest : List Value} {M : Mem} {k : Nat} (C : CX X cc RX8 nL fr lo) (E : EX Z (xs X)) (hk : AtO Z k 0) (d : decode cc pc = .ok (.getfield 241, 3)) (hn : pc + 3 = n) (kk : GS Z X n lv (.int (M k 6) :: rest) M) : GS Z X pc lv (.ref (zb Z + k) :: rest) M := g_getN 6 C E rfl inB0 (by decide) wn_305 hk rfl d hn kk
theorem wn_122 : Cond.fieldLinkNest RX8 260 (TX2 8).1 (TX2 8).2.1 (TX2 8).2.2.1 "NextBellboy" ∈ NWL := nw_t 122 (by decide +kernel) rfl
theorem gf_X8_260 {Z : ZT} {X : XT} {cc : ByteArray} {nL fr lo pc n : Nat} {lv : List (Nat × Value)} {rest : List Value} {M : Mem} {k : Nat} (C : CX X cc RX8 nL fr lo) (E : EX Z (xs X)) (hk : AtO Z k 2) (d : decode cc pc = .ok (.getfield 260, 3)) (hn : pc + 3 = n) (kk : GS Z X n lv (.int (M k 8) :: rest) M) : GS Z X pc lv (.ref (zb Z + k) :: rest) M := g_getN 8 C E rfl inB2 (by decide) wn_122 hk rfl d hn kk
theorem wd_300 : Cond.fieldLink RX0 9 (TX0 3).1 (TX0 3).2.1 (TX0 3).2.2.1 ∈ BIG := big_t 300 (by decide +kernel) rfl
theorem gf_X0_9 {Z : ZT} {X : XT} {cc : ByteArray} {nL fr lo pc n : Nat} {lv : List (Nat × Value)} {rest : List Value} {M : Mem} {k : Nat} (q : Nat) (C : CX X cc RX0 nL fr lo) (E : EX Z (xs X)) (hk : AtO Z k 0) (hq : k + 1 = q) (d : decode cc pc = .ok (.getfield 9, 3)) (hn : pc + 3 = n) (kk : GS Z X n lv (.ref (zb Z + q) :: rest) M) : GS Z X pc lv (.ref (zb Z + k) :: rest) M := by
  subst hq
  exact g_get 3 C E rfl inB0 (by decide) wd_300 hk rfl d hn kk
theorem wd_301 : Cond.fieldLink RX0 15 (TX0 4).1 (TX0 4).2.1 (TX0 4).2.2.1 ∈ BIG := big_t 301 (by decide +kernel) rfl
theorem gf_X0_15 {Z : ZT} {X : XT} {cc : ByteArray} {nL fr lo pc n : Nat} {lv : List (Nat × Value)} {rest : List Value} {M : Mem} {k : Nat} (C : CX X cc RX0 nL fr lo) (E : EX Z (xs X)) (hk : AtO Z k 0) (d : decode cc pc = .ok (.getfield 15, 3)) (hn : pc + 3 = n) (kk : GS Z X n lv (.int (M k 4) :: rest) M) : GS Z X pc lv (.ref (zb Z + k) :: rest) M := g_get 4 C E rfl inB0 (by decide) wd_301 hk rfl d hn kk
theorem wd_302 : Cond.fieldLink RX0 19 (TX0 5).1 (TX0 5).2.1 (TX0 5).2.2.1 ∈ BIG := big_t 302 (by decide +kernel) rfl
theorem gf_X0_19 {Z : ZT} {X : XT} {cc : ByteArray} {nL fr lo pc n : Nat} {lv : List (Nat × Value)} {rest : List Value} {M : Mem} {k : Nat} (C : CX X cc RX0 nL fr lo) (E : EX Z (xs X)) (hk : AtO Z k 0) (d : decode cc pc = .ok (.getfield 19, 3)) (hn : pc + 3 = n) (kk : GS Z X n lv (.int (M k 5) :: rest) M) : GS Z X pc lv (.ref (zb Z + k) :: rest) M := g_get 5 C E rfl inB0 (by decide) wd_302 hk rfl d hn kk
theorem wd_304 : Cond.fieldLink RX0 22 (TX0 6).1 (TX0 6).2.1 (TX0 6).2.2.1 ∈ BIG := big_t 304 (by decide +kernel) rfl
theorem gf_X0_22 {Z : ZT} {X : XT} {cc : ByteArray} {nL fr lo pc n : Nat} {lv : List (Nat × Value)} {rest : List Value} {M : Mem} {k : Nat} (C : CX X cc RX0 nL fr lo) (E : EX Z (xs X)) (hk : AtO Z k 0) (d : decode cc pc = .ok (.getfield 22, 3)) (hn : pc + 3 = n) (kk : GS Z X n lv (.int (M k 6) :: rest) M) : GS Z X pc lv (.ref (zb Z + k) :: rest) M := g_get 6 C E rfl inB0 (by decide) wd_304 hk rfl d hn kk
theorem wd_297 : Cond.fieldLink RX0 25 (TX0 0).1 (TX0 0).2.1 (TX0 0).2.2.1 ∈ BIG := big_t 297 (by decide +kernel) rfl
theorem gf_X0_25 {Z : ZT} {X : XT} {cc : ByteArray} {nL fr lo pc n : Nat} {lv : List (Nat × Value)} {rest : List Value} {M : Mem} {k : Nat} (C : CX X cc RX0 nL fr lo) (E : EX Z (xs X)) (hk : AtO Z k 0) (d : decode cc pc = .ok (.getfield 25, 3)) (hn : pc + 3 = n) (kk : GS Z X n lv (.ref (zb Z + 4) :: rest) M) : GS Z X pc lv (.ref (zb Z + k) :: rest) M := g_get 0 C E rfl inB0 (by decide) wd_297 hk rfl d hn kk
theorem wd_298 : Cond.fieldLink RX0 34 (TX0 1).1 (TX0 1).2.1 (TX0 1).2.2.1 ∈ BIG := big_t 298 (by decide +kernel) rfl
theorem gf_X0_34 {Z : ZT} {X : XT} {cc : ByteArray} {nL fr lo pc n : Nat} {lv : List (Nat × Value)} {rest : List Value} {M : Mem} {k : Nat} (q : Nat) (C : CX X cc RX0 nL fr lo) (E : EX Z (xs X)) (hk : AtO Z k 0) (hq : k + 2 = q) (d : decode cc pc = .ok (.getfield 34, 3)) (hn : pc + 3 = n) (kk : GS Z X n lv (.ref (zb Z + q) :: rest) M) : GS Z X pc lv (.ref (zb Z + k) :: rest) M := by
  subst hq
  exact g_get 1 C E rfl inB0 (by decide) wd_298 hk rfl d hn kk
theorem wd_299 : Cond.fieldLink RX0 41 (TX0 2).1 (TX0 2).2.1 (TX0 2).2.2.1 ∈ BIG := big_t 299 (by decide +kernel) rfl
theorem gf_X0_41 {Z : ZT} {X : XT} {cc : ByteArray} {nL fr lo pc n : Nat} {lv : List (Nat × Value)} {rest : List Value} {M : Mem} {k : Nat} (q : Nat) (C : CX X cc RX0 nL fr lo) (E : EX Z (xs X)) (hk : AtO Z k 0) (hq : k + 10 = q) (d : decode cc pc = .ok (.getfield 41, 3)) (hn : pc + 3 = n) (kk : GS Z X n lv (.ref (zb Z + q) :: rest) M) : GS Z X pc lv (.ref (zb Z + k) :: rest) M := by
  subst hq
  exact g_get 2 C E rfl inB0 (by decide) wd_299 hk rfl d hn kk
theorem wn_69 : Cond.fieldLinkNest RX0 45 (TX4 6).1 (TX4 6).2.1 (TX4 6).2.2.1 "NextBellboy" ∈ NWL := nw_t 69 (by decide +kernel) rfl
theorem gf_X0_45 {Z : ZT} {X : XT} {cc : ByteArray} {nL fr lo pc n : Nat} {lv : List (Nat × Value)} {rest : List Value} {M : Mem} {k : Nat} (C : CX X cc RX0 nL fr lo) (E : EX Z (xs X)) (hk : AtO Z k 4) (d : decode cc pc = .ok (.getfield 45, 3)) (hn : pc + 3 = n) (kk : GS Z X n lv (.int (M k 6) :: rest) M) : GS Z X pc lv (.ref (zb Z + k) :: rest) M := g_getN 6 C E rfl inB4 (by decide) wn_69 hk rfl d hn kk
theorem wn_101 : Cond.fieldLinkNest RX0 50 (TX2 1).1 (TX2 1).2.1 (TX2 1).2.2.1 "NextBellboy" ∈ NWL := nw_t 101 (by decide +kernel) rfl
theorem gf_X0_50 {Z : ZT} {X : XT} {cc : ByteArray} {nL fr lo pc n : Nat} {lv : List (Nat × Value)} {rest : List Value} {M : Mem} {k : Nat} (q : Nat) (C : CX X cc RX0 nL fr lo) (E : EX Z (xs X)) (hk : AtO Z k 2) (hq : k + 1 = q) (d : decode cc pc = .ok (.getfield 50, 3)) (hn : pc + 3 = n) (kk : GS Z X n lv (.ref (zb Z + q) :: rest) M) : GS Z X pc lv (.ref (zb Z + k) :: rest) M := by
  subst hq
  exact g_getN 1 C E rfl inB2 (by decide) wn_101 hk rfl d hn kk
theorem wn_158 : Cond.fieldLinkNest RX0 75 (TX3 4).1 (TX3 4).2.1 (TX3 4).2.2.1 "NextBellboy" ∈ NWL := nw_t 158 (by decide +kernel) rfl
theorem gf_X0_75 {Z : ZT} {X : XT} {cc : ByteArray} {nL fr lo pc n : Nat} {lv : List (Nat × Value)} {rest : List Value} {M : Mem} {k : Nat} (q : Nat) (C : CX X cc RX0 nL fr lo) (E : EX Z (xs X)) (hk : AtO Z k 3) (hq : k + 4 = q) (d : decode cc pc = .ok (.getfield 75, 3)) (hn : pc + 3 = n) (kk : GS Z X n lv (.ref (zb Z + q) :: rest) M) : GS Z X pc lv (.ref (zb Z + k) :: rest) M := by
  subst hq
  exact g_getN 4 C E rfl inB3 (by decide) wn_158 hk rfl d hn kk
theorem wd_219 : Cond.fieldLink RX1 9 (TX1 3).1 (TX1 3).2.1 (TX1 3).2.2.1 ∈ BIG := big_t 219 (by decide +kernel) rfl
theorem gf_X1_9 {Z : ZT} {X : XT} {cc : ByteArray} {nL fr lo pc n : Nat} {lv : List (Nat × Value)} {rest : List Value} {M : Mem} {k : Nat} (q : Nat) (C : CX X cc RX1 nL fr lo) (E : EX Z (xs X)) (hk : AtO Z k 1) (hq : k + 1 = q) (d : decode cc pc = .ok (.getfield 9, 3)) (hn : pc + 3 = n) (kk : GS Z X n lv (.ref (zb Z + q) :: rest) M) : GS Z X pc lv (.ref (zb Z + k) :: rest) M := by
  subst hq
  exact g_get 3 C E rfl inB1 (by decide) wd_219 hk rfl d hn kk
theorem wd_220 : Cond.fieldLink RX1 15 (TX1 4).1 (TX1 4).2.1 (TX1 4).2.2.1 ∈ BIG := big_t 220 (by decide +kernel) rfl
theorem gf_X1_15 {Z : ZT} {X : XT} {cc : ByteArray} {nL fr lo pc n : Nat} {lv : List (Nat × Value)} {rest : List Value} {M : Mem} {k : Nat} (q : Nat) (C : CX X cc RX1 nL fr lo) (E : EX Z (xs X)) (hk : AtO Z k 1) (hq : k + 2 = q) (d : decode cc pc = .ok (.getfield 15, 3)) (hn : pc + 3 = n) (kk : GS Z X n lv (.ref (zb Z + q) :: rest) M) : GS Z X pc lv (.ref (zb Z + k) :: rest) M := by
  subst hq
  exact g_get 4 C E rfl inB1 (by decide) wd_220 hk rfl d hn kk
theorem wd_221 : Cond.fieldLink RX1 18 (TX1 5).1 (TX1 5).2.1 (TX1 5).2.2.1 ∈ BIG := big_t 221 (by decide +kernel) rfl
theorem gf_X1_18 {Z : ZT} {X : XT} {cc : ByteArray} {nL fr lo pc n : Nat} {lv : List (Nat × Value)} {rest : List Value} {M : Mem} {k : Nat} (q : Nat) (C : CX X cc RX1 nL fr lo) (E : EX Z (xs X)) (hk : AtO Z k 1) (hq : k + 3 = q) (d : decode cc pc = .ok (.getfield 18, 3)) (hn : pc + 3 = n) (kk : GS Z X n lv (.ref (zb Z + q) :: rest) M) : GS Z X pc lv (.ref (zb Z + k) :: rest) M := by
  subst hq
  exact g_get 5 C E rfl inB1 (by decide) wd_221 hk rfl d hn kk
theorem wd_222 : Cond.fieldLink RX1 21 (TX1 6).1 (TX1 6).2.1 (TX1 6).2.2.1 ∈ BIG := big_t 222 (by decide +kernel) rfl
theorem gf_X1_21 {Z : ZT} {X : XT} {cc : ByteArray} {nL fr lo pc n : Nat} {lv : List (Nat × Value)} {rest : List Value} {M : Mem} {k : Nat} (C : CX X cc RX1 nL fr lo) (E : EX Z (xs X)) (hk : AtO Z k 1) (d : decode cc pc = .ok (.getfield 21, 3)) (hn : pc + 3 = n) (kk : GS Z X n lv (.int (M k 6) :: rest) M) : GS Z X pc lv (.ref (zb Z + k) :: rest) M := g_get 6 C E rfl inB1 (by decide) wd_222 hk rfl d hn kk
theorem wd_223 : Cond.fieldLink RX1 25 (TX1 7).1 (TX1 7).2.1 (TX1 7).2.2.1 ∈ BIG := big_t 223 (by decide +kernel) rfl
theorem gf_X1_25 {Z : ZT} {X : XT} {cc : ByteArray} {nL fr lo pc n : Nat} {lv : List (Nat × Value)} {rest : List Value} {M : Mem} {k : Nat} (C : CX X cc RX1 nL fr lo) (E : EX Z (xs X)) (hk : AtO Z k 1) (d : decode cc pc = .ok (.getfield 25, 3)) (hn : pc + 3 = n) (kk : GS Z X n lv (.int (M k 7) :: rest) M) : GS Z X pc lv (.ref (zb Z + k) :: rest) M := g_get 7 C E rfl inB1 (by decide) wd_223 hk rfl d hn kk
theorem wd_224 : Cond.fieldLink RX1 28 (TX1 8).1 (TX1 8).2.1 (TX1 8).2.2.1 ∈ BIG := big_t 224 (by decide +kernel) rfl
theorem gf_X1_28 {Z : ZT} {X : XT} {cc : ByteArray} {nL fr lo pc n : Nat} {lv : List (Nat × Value)} {rest : List Value} {M : Mem} {k : Nat} (C : CX X cc RX1 nL fr lo) (E : EX Z (xs X)) (hk : AtO Z k 1) (d : decode cc pc = .ok (.getfield 28, 3)) (hn : pc + 3 = n) (kk : GS Z X n lv (.int (M k 8) :: rest) M) : GS Z X pc lv (.ref (zb Z + k) :: rest) M := g_get 8 C E rfl inB1 (by decide) wd_224 hk rfl d hn kk
theorem wd_225 : Cond.fieldLink RX1 31 (TX1 9).1 (TX1 9).2.1 (TX1 9).2.2.1 ∈ BIG := big_t 225 (by decide +kernel) rfl
theorem gf_X1_31 {Z : ZT} {X : XT} {cc : ByteArray} {nL fr lo pc n : Nat} {lv : List (Nat × Value)} {rest : List Value} {M : Mem} {k : Nat} (C : CX X cc RX1 nL fr lo) (E : EX Z (xs X)) (hk : AtO Z k 1) (d : decode cc pc = .ok (.getfield 31, 3)) (hn : pc + 3 = n) (kk : GS Z X n lv (.int (M k 9) :: rest) M) : GS Z X pc lv (.ref (zb Z + k) :: rest) M := g_get 9 C E rfl inB1 (by decide) wd_225 hk rfl d hn kk
theorem wd_227 : Cond.fieldLink RX1 34 (TX1 10).1 (TX1 10).2.1 (TX1 10).2.2.1 ∈ BIG := big_t 227 (by decide +kernel) rfl
theorem gf_X1_34 {Z : ZT} {X : XT} {cc : ByteArray} {nL fr lo pc n : Nat} {lv : List (Nat × Value)} {rest : List Value} {M : Mem} {k : Nat} (C : CX X cc RX1 nL fr lo) (E : EX Z (xs X)) (hk : AtO Z k 1) (d : decode cc pc = .ok (.getfield 34, 3)) (hn : pc + 3 = n) (kk : GS Z X n lv (.int (M k 10) :: rest) M) : GS Z X pc lv (.ref (zb Z + k) :: rest) M := g_get 10 C E rfl inB1 (by decide) wd_227 hk rfl d hn kk
theorem wd_216 : Cond.fieldLink RX1 38 (TX1 0).1 (TX1 0).2.1 (TX1 0).2.2.1 ∈ BIG := big_t 216 (by decide +kernel) rfl
theorem gf_X1_38 {Z : ZT} {X : XT} {cc : ByteArray} {nL fr lo pc n : Nat} {lv : List (Nat × Value)} {rest : List Value} {M : Mem} {k : Nat} (C : CX X cc RX1 nL fr lo) (E : EX Z (xs X)) (hk : AtO Z k 1) (d : decode cc pc = .ok (.getfield 38, 3)) (hn : pc + 3 = n) (kk : GS Z X n lv (.ref (zb Z + 4) :: rest) M) : GS Z X pc lv (.ref (zb Z + k) :: rest) M := g_get 0 C E rfl inB1 (by decide) wd_216 hk rfl d hn kk
theorem wd_217 : Cond.fieldLink RX1 47 (TX1 1).1 (TX1 1).2.1 (TX1 1).2.2.1 ∈ BIG := big_t 217 (by decide +kernel) rfl
theorem gf_X1_47 {Z : ZT} {X : XT} {cc : ByteArray} {nL fr lo pc n : Nat} {lv : List (Nat × Value)} {rest : List Value} {M : Mem} {k : Nat} (q : Nat) (C : CX X cc RX1 nL fr lo) (E : EX Z (xs X)) (hk : AtO Z k 1) (hq : k + 4 = q) (d : decode cc pc = .ok (.getfield 47, 3)) (hn : pc + 3 = n) (kk : GS Z X n lv (.ref (zb Z + q) :: rest) M) : GS Z X pc lv (.ref (zb Z + k) :: rest) M := by
  subst hq
  exact g_get 1 C E rfl inB1 (by decide) wd_217 hk rfl d hn kk
theorem wd_218 : Cond.fieldLink RX1 54 (TX1 2).1 (TX1 2).2.1 (TX1 2).2.2.1 ∈ BIG := big_t 218 (by decide +kernel) rfl
theorem gf_X1_54 {Z : ZT} {X : XT} {cc : ByteArray} {nL fr lo pc n : Nat} {lv : List (Nat × Value)} {rest : List Value} {M : Mem} {k : Nat} (q : Nat) (C : CX X cc RX1 nL fr lo) (E : EX Z (xs X)) (hk : AtO Z k 1) (hq : k + 12 = q) (d : decode cc pc = .ok (.getfield 54, 3)) (hn : pc + 3 = n) (kk : GS Z X n lv (.ref (zb Z + q) :: rest) M) : GS Z X pc lv (.ref (zb Z + k) :: rest) M := by
  subst hq
  exact g_get 2 C E rfl inB1 (by decide) wd_218 hk rfl d hn kk
theorem wn_165 : Cond.fieldLinkNest RX1 74 (TX3 8).1 (TX3 8).2.1 (TX3 8).2.2.1 "NextBellboy" ∈ NWL := nw_t 165 (by decide +kernel) rfl
theorem gf_X1_74 {Z : ZT} {X : XT} {cc : ByteArray} {nL fr lo pc n : Nat} {lv : List (Nat × Value)} {rest : List Value} {M : Mem} {k : Nat} (C : CX X cc RX1 nL fr lo) (E : EX Z (xs X)) (hk : AtO Z k 3) (d : decode cc pc = .ok (.getfield 74, 3)) (hn : pc + 3 = n) (kk : GS Z X n lv (.int (M k 8) :: rest) M) : GS Z X pc lv (.ref (zb Z + k) :: rest) M := g_getN 8 C E rfl inB3 (by decide) wn_165 hk rfl d hn kk
theorem wn_72 : Cond.fieldLinkNest RX1 81 (TX4 6).1 (TX4 6).2.1 (TX4 6).2.2.1 "NextBellboy" ∈ NWL := nw_t 72 (by decide +kernel) rfl
theorem gf_X1_81 {Z : ZT} {X : XT} {cc : ByteArray} {nL fr lo pc n : Nat} {lv : List (Nat × Value)} {rest : List Value} {M : Mem} {k : Nat} (C : CX X cc RX1 nL fr lo) (E : EX Z (xs X)) (hk : AtO Z k 4) (d : decode cc pc = .ok (.getfield 81, 3)) (hn : pc + 3 = n) (kk : GS Z X n lv (.int (M k 6) :: rest) M) : GS Z X pc lv (.ref (zb Z + k) :: rest) M := g_getN 6 C E rfl inB4 (by decide) wn_72 hk rfl d hn kk
theorem wn_103 : Cond.fieldLinkNest RX1 84 (TX2 1).1 (TX2 1).2.1 (TX2 1).2.2.1 "NextBellboy" ∈ NWL := nw_t 103 (by decide +kernel) rfl
theorem gf_X1_84 {Z : ZT} {X : XT} {cc : ByteArray} {nL fr lo pc n : Nat} {lv : List (Nat × Value)} {rest : List Value} {M : Mem} {k : Nat} (q : Nat) (C : CX X cc RX1 nL fr lo) (E : EX Z (xs X)) (hk : AtO Z k 2) (hq : k + 1 = q) (d : decode cc pc = .ok (.getfield 84, 3)) (hn : pc + 3 = n) (kk : GS Z X n lv (.ref (zb Z + q) :: rest) M) : GS Z X pc lv (.ref (zb Z + k) :: rest) M := by
  subst hq
  exact g_getN 1 C E rfl inB2 (by decide) wn_103 hk rfl d hn kk
theorem wn_109 : Cond.fieldLinkNest RX1 87 (TX2 3).1 (TX2 3).2.1 (TX2 3).2.2.1 "NextBellboy" ∈ NWL := nw_t 109 (by decide +kernel) rfl
theorem gf_X1_87 {Z : ZT} {X : XT} {cc : ByteArray} {nL fr lo pc n : Nat} {lv : List (Nat × Value)} {rest : List Value} {M : Mem} {k : Nat} (q : Nat) (C : CX X cc RX1 nL fr lo) (E : EX Z (xs X)) (hk : AtO Z k 2) (hq : k + 3 = q) (d : decode cc pc = .ok (.getfield 87, 3)) (hn : pc + 3 = n) (kk : GS Z X n lv (.ref (zb Z + q) :: rest) M) : GS Z X pc lv (.ref (zb Z + k) :: rest) M := by
  subst hq
  exact g_getN 3 C E rfl inB2 (by decide) wn_109 hk rfl d hn kk
theorem wd_100 : Cond.fieldLink RX2 9 (TX2 1).1 (TX2 1).2.1 (TX2 1).2.2.1 ∈ BIG := big_t 100 (by decide +kernel) rfl
theorem gf_X2_9 {Z : ZT} {X : XT} {cc : ByteArray} {nL fr lo pc n : Nat} {lv : List (Nat × Value)} {rest : List Value} {M : Mem} {k : Nat} (q : Nat) (C : CX X cc RX2 nL fr lo) (E : EX Z (xs X)) (hk : AtO Z k 2) (hq : k + 1 = q) (d : decode cc pc = .ok (.getfield 9, 3)) (hn : pc + 3 = n) (kk : GS Z X n lv (.ref (zb Z + q) :: rest) M) : GS Z X pc lv (.ref (zb Z + k) :: rest) M := by
  subst hq
  exact g_get 1 C E rfl inB2 (by decide) wd_100 hk rfl d hn kk
theorem wd_105 : Cond.fieldLink RX2 15 (TX2 2).1 (TX2 2).2.1 (TX2 2).2.2.1 ∈ BIG := big_t 105 (by decide +kernel) rfl
theorem gf_X2_15 {Z : ZT} {X : XT} {cc : ByteArray} {nL fr lo pc n : Nat} {lv : List (Nat × Value)} {rest : List Value} {M : Mem} {k : Nat} (q : Nat) (C : CX X cc RX2 nL fr lo) (E : EX Z (xs X)) (hk : AtO Z k 2) (hq : k + 2 = q) (d : decode cc pc = .ok (.getfield 15, 3)) (hn : pc + 3 = n) (kk : GS Z X n lv (.ref (zb Z + q) :: rest) M) : GS Z X pc lv (.ref (zb Z + k) :: rest) M := by
  subst hq
  exact g_get 2 C E rfl inB2 (by decide) wd_105 hk rfl d hn kk
theorem wd_108 : Cond.fieldLink RX2 18 (TX2 3).1 (TX2 3).2.1 (TX2 3).2.2.1 ∈ BIG := big_t 108 (by decide +kernel) rfl
theorem gf_X2_18 {Z : ZT} {X : XT} {cc : ByteArray} {nL fr lo pc n : Nat} {lv : List (Nat × Value)} {rest : List Value} {M : Mem} {k : Nat} (q : Nat) (C : CX X cc RX2 nL fr lo) (E : EX Z (xs X)) (hk : AtO Z k 2) (hq : k + 3 = q) (d : decode cc pc = .ok (.getfield 18, 3)) (hn : pc + 3 = n) (kk : GS Z X n lv (.ref (zb Z + q) :: rest) M) : GS Z X pc lv (.ref (zb Z + k) :: rest) M := by
  subst hq
  exact g_get 3 C E rfl inB2 (by decide) wd_108 hk rfl d hn kk
theorem wd_111 : Cond.fieldLink RX2 21 (TX2 4).1 (TX2 4).2.1 (TX2 4).2.2.1 ∈ BIG := big_t 111 (by decide +kernel) rfl
theorem gf_X2_21 {Z : ZT} {X : XT} {cc : ByteArray} {nL fr lo pc n : Nat} {lv : List (Nat × Value)} {rest : List Value} {M : Mem} {k : Nat} (q : Nat) (C : CX X cc RX2 nL fr lo) (E : EX Z (xs X)) (hk : AtO Z k 2) (hq : k + 4 = q) (d : decode cc pc = .ok (.getfield 21, 3)) (hn : pc + 3 = n) (kk : GS Z X n lv (.ref (zb Z + q) :: rest) M) : GS Z X pc lv (.ref (zb Z + k) :: rest) M := by
  subst hq
  exact g_get 4 C E rfl inB2 (by decide) wd_111 hk rfl d hn kk
theorem wd_114 : Cond.fieldLink RX2 24 (TX2 5).1 (TX2 5).2.1 (TX2 5).2.2.1 ∈ BIG := big_t 114 (by decide +kernel) rfl
theorem gf_X2_24 {Z : ZT} {X : XT} {cc : ByteArray} {nL fr lo pc n : Nat} {lv : List (Nat × Value)} {rest : List Value} {M : Mem} {k : Nat} (q : Nat) (C : CX X cc RX2 nL fr lo) (E : EX Z (xs X)) (hk : AtO Z k 2) (hq : k + 5 = q) (d : decode cc pc = .ok (.getfield 24, 3)) (hn : pc + 3 = n) (kk : GS Z X n lv (.ref (zb Z + q) :: rest) M) : GS Z X pc lv (.ref (zb Z + k) :: rest) M := by
  subst hq
  exact g_get 5 C E rfl inB2 (by decide) wd_114 hk rfl d hn kk
theorem wd_116 : Cond.fieldLink RX2 27 (TX2 6).1 (TX2 6).2.1 (TX2 6).2.2.1 ∈ BIG := big_t 116 (by decide +kernel) rfl
theorem gf_X2_27 {Z : ZT} {X : XT} {cc : ByteArray} {nL fr lo pc n : Nat} {lv : List (Nat × Value)} {rest : List Value} {M : Mem} {k : Nat} (q : Nat) (C : CX X cc RX2 nL fr lo) (E : EX Z (xs X)) (hk : AtO Z k 2) (hq : k + 6 = q) (d : decode cc pc = .ok (.getfield 27, 3)) (hn : pc + 3 = n) (kk : GS Z X n lv (.ref (zb Z + q) :: rest) M) : GS Z X pc lv (.ref (zb Z + k) :: rest) M := by
  subst hq
  exact g_get 6 C E rfl inB2 (by decide) wd_116 hk rfl d hn kk
theorem wd_118 : Cond.fieldLink RX2 30 (TX2 7).1 (TX2 7).2.1 (TX2 7).2.2.1 ∈ BIG := big_t 118 (by decide +kernel) rfl
theorem gf_X2_30 {Z : ZT} {X : XT} {cc : ByteArray} {nL fr lo pc n : Nat} {lv : List (Nat × Value)} {rest : List Value} {M : Mem} {k : Nat} (q : Nat) (C : CX X cc RX2 nL fr lo) (E : EX Z (xs X)) (hk : AtO Z k 2) (hq : k + 7 = q) (d : decode cc pc = .ok (.getfield 30, 3)) (hn : pc + 3 = n) (kk : GS Z X n lv (.ref (zb Z + q) :: rest) M) : GS Z X pc lv (.ref (zb Z + k) :: rest) M := by
  subst hq
  exact g_get 7 C E rfl inB2 (by decide) wd_118 hk rfl d hn kk
theorem wd_120 : Cond.fieldLink RX2 33 (TX2 8).1 (TX2 8).2.1 (TX2 8).2.2.1 ∈ BIG := big_t 120 (by decide +kernel) rfl
theorem gf_X2_33 {Z : ZT} {X : XT} {cc : ByteArray} {nL fr lo pc n : Nat} {lv : List (Nat × Value)} {rest : List Value} {M : Mem} {k : Nat} (C : CX X cc RX2 nL fr lo) (E : EX Z (xs X)) (hk : AtO Z k 2) (d : decode cc pc = .ok (.getfield 33, 3)) (hn : pc + 3 = n) (kk : GS Z X n lv (.int (M k 8) :: rest) M) : GS Z X pc lv (.ref (zb Z + k) :: rest) M := g_get 8 C E rfl inB2 (by decide) wd_120 hk rfl d hn kk
theorem wd_123 : Cond.fieldLink RX2 37 (TX2 9).1 (TX2 9).2.1 (TX2 9).2.2.1 ∈ BIG := big_t 123 (by decide +kernel) rfl
theorem gf_X2_37 {Z : ZT} {X : XT} {cc : ByteArray} {nL fr lo pc n : Nat} {lv : List (Nat × Value)} {rest : List Value} {M : Mem} {k : Nat} (C : CX X cc RX2 nL fr lo) (E : EX Z (xs X)) (hk : AtO Z k 2) (d : decode cc pc = .ok (.getfield 37, 3)) (hn : pc + 3 = n) (kk : GS Z X n lv (.int (M k 9) :: rest) M) : GS Z X pc lv (.ref (zb Z + k) :: rest) M := g_get 9 C E rfl inB2 (by decide) wd_123 hk rfl d hn kk
theorem wd_99 : Cond.fieldLink RX2 40 (TX2 0).1 (TX2 0).2.1 (TX2 0).2.2.1 ∈ BIG := big_t 99 (by decide +kernel) rfl
theorem gf_X2_40 {Z : ZT} {X : XT} {cc : ByteArray} {nL fr lo pc n : Nat} {lv : List (Nat × Value)} {rest : List Value} {M : Mem} {k : Nat} (C : CX X cc RX2 nL fr lo) (E : EX Z (xs X)) (hk : AtO Z k 2) (d : decode cc pc = .ok (.getfield 40, 3)) (hn : pc + 3 = n) (kk : GS Z X n lv (.ref (zb Z + 4) :: rest) M) : GS Z X pc lv (.ref (zb Z + k) :: rest) M := g_get 0 C E rfl inB2 (by decide) wd_99 hk rfl d hn kk
theorem wn_54 : Cond.fieldLinkNest RX2 44 (TX4 1).1 (TX4 1).2.1 (TX4 1).2.2.1 "NextBellboy" ∈ NWL := nw_t 54 (by decide +kernel) rfl
theorem gf_X2_44 {Z : ZT} {X : XT} {cc : ByteArray} {nL fr lo pc n : Nat} {lv : List (Nat × Value)} {rest : List Value} {M : Mem} {k : Nat} (q : Nat) (C : CX X cc RX2 nL fr lo) (E : EX Z (xs X)) (hk : AtO Z k 4) (hq : k + 2 = q) (d : decode cc pc = .ok (.getfield 44, 3)) (hn : pc + 3 = n) (kk : GS Z X n lv (.ref (zb Z + q) :: rest) M) : GS Z X pc lv (.ref (zb Z + k) :: rest) M := by
  subst hq
  exact g_getN 1 C E rfl inB4 (by decide) wn_54 hk rfl d hn kk
theorem wn_67 : Cond.fieldLinkNest RX2 47 (TX4 5).1 (TX4 5).2.1 (TX4 5).2.2.1 "NextBellboy" ∈ NWL := nw_t 67 (by decide +kernel) rfl
theorem gf_X2_47 {Z : ZT} {X : XT} {cc : ByteArray} {nL fr lo pc n : Nat} {lv : List (Nat × Value)} {rest : List Value} {M : Mem} {k : Nat} (q : Nat) (C : CX X cc RX2 nL fr lo) (E : EX Z (xs X)) (hk : AtO Z k 4) (hq : k + 6 = q) (d : decode cc pc = .ok (.getfield 47, 3)) (hn : pc + 3 = n) (kk : GS Z X n lv (.ref (zb Z + q) :: rest) M) : GS Z X pc lv (.ref (zb Z + k) :: rest) M := by
  subst hq
  exact g_getN 5 C E rfl inB4 (by decide) wn_67 hk rfl d hn kk
theorem wn_57 : Cond.fieldLinkNest RX2 56 (TX4 2).1 (TX4 2).2.1 (TX4 2).2.2.1 "NextBellboy" ∈ NWL := nw_t 57 (by decide +kernel) rfl
theorem gf_X2_56 {Z : ZT} {X : XT} {cc : ByteArray} {nL fr lo pc n : Nat} {lv : List (Nat × Value)} {rest : List Value} {M : Mem} {k : Nat} (q : Nat) (C : CX X cc RX2 nL fr lo) (E : EX Z (xs X)) (hk : AtO Z k 4) (hq : k + 3 = q) (d : decode cc pc = .ok (.getfield 56, 3)) (hn : pc + 3 = n) (kk : GS Z X n lv (.ref (zb Z + q) :: rest) M) : GS Z X pc lv (.ref (zb Z + k) :: rest) M := by
  subst hq
  exact g_getN 2 C E rfl inB4 (by decide) wn_57 hk rfl d hn kk
theorem wn_52 : Cond.fieldLinkNest RX2 59 (TX4 0).1 (TX4 0).2.1 (TX4 0).2.2.1 "NextBellboy" ∈ NWL := nw_t 52 (by decide +kernel) rfl
theorem gf_X2_59 {Z : ZT} {X : XT} {cc : ByteArray} {nL fr lo pc n : Nat} {lv : List (Nat × Value)} {rest : List Value} {M : Mem} {k : Nat} (q : Nat) (C : CX X cc RX2 nL fr lo) (E : EX Z (xs X)) (hk : AtO Z k 4) (hq : k + 1 = q) (d : decode cc pc = .ok (.getfield 59, 3)) (hn : pc + 3 = n) (kk : GS Z X n lv (.ref (zb Z + q) :: rest) M) : GS Z X pc lv (.ref (zb Z + k) :: rest) M := by
  subst hq
  exact g_getN 0 C E rfl inB4 (by decide) wn_52 hk rfl d hn kk
theorem wn_74 : Cond.fieldLinkNest RX2 62 (TX4 6).1 (TX4 6).2.1 (TX4 6).2.2.1 "NextBellboy" ∈ NWL := nw_t 74 (by decide +kernel) rfl
theorem gf_X2_62 {Z : ZT} {X : XT} {cc : ByteArray} {nL fr lo pc n : Nat} {lv : List (Nat × Value)} {rest : List Value} {M : Mem} {k : Nat} (C : CX X cc RX2 nL fr lo) (E : EX Z (xs X)) (hk : AtO Z k 4) (d : decode cc pc = .ok (.getfield 62, 3)) (hn : pc + 3 = n) (kk : GS Z X n lv (.int (M k 6) :: rest) M) : GS Z X pc lv (.ref (zb Z + k) :: rest) M := g_getN 6 C E rfl inB4 (by decide) wn_74 hk rfl d hn kk
theorem wn_65 : Cond.fieldLinkNest RX2 69 (TX4 4).1 (TX4 4).2.1 (TX4 4).2.2.1 "NextBellboy" ∈ NWL := nw_t 65 (by decide +kernel) rfl
theorem gf_X2_69 {Z : ZT} {X : XT} {cc : ByteArray} {nL fr lo pc n : Nat} {lv : List (Nat × Value)} {rest : List Value} {M : Mem} {k : Nat} (q : Nat) (C : CX X cc RX2 nL fr lo) (E : EX Z (xs X)) (hk : AtO Z k 4) (hq : k + 5 = q) (d : decode cc pc = .ok (.getfield 69, 3)) (hn : pc + 3 = n) (kk : GS Z X n lv (.ref (zb Z + q) :: rest) M) : GS Z X pc lv (.ref (zb Z + k) :: rest) M := by
  subst hq
  exact g_getN 4 C E rfl inB4 (by decide) wn_65 hk rfl d hn kk
theorem wn_61 : Cond.fieldLinkNest RX2 85 (TX4 3).1 (TX4 3).2.1 (TX4 3).2.2.1 "NextBellboy" ∈ NWL := nw_t 61 (by decide +kernel) rfl
theorem gf_X2_85 {Z : ZT} {X : XT} {cc : ByteArray} {nL fr lo pc n : Nat} {lv : List (Nat × Value)} {rest : List Value} {M : Mem} {k : Nat} (q : Nat) (C : CX X cc RX2 nL fr lo) (E : EX Z (xs X)) (hk : AtO Z k 4) (hq : k + 4 = q) (d : decode cc pc = .ok (.getfield 85, 3)) (hn : pc + 3 = n) (kk : GS Z X n lv (.ref (zb Z + q) :: rest) M) : GS Z X pc lv (.ref (zb Z + k) :: rest) M := by
  subst hq
  exact g_getN 3 C E rfl inB4 (by decide) wn_61 hk rfl d hn kk
theorem wd_154 : Cond.fieldLink RX3 9 (TX3 1).1 (TX3 1).2.1 (TX3 1).2.2.1 ∈ BIG := big_t 154 (by decide +kernel) rfl
theorem gf_X3_9 {Z : ZT} {X : XT} {cc : ByteArray} {nL fr lo pc n : Nat} {lv : List (Nat × Value)} {rest : List Value} {M : Mem} {k : Nat} (q : Nat) (C : CX X cc RX3 nL fr lo) (E : EX Z (xs X)) (hk : AtO Z k 3) (hq : k + 1 = q) (d : decode cc pc = .ok (.getfield 9, 3)) (hn : pc + 3 = n) (kk : GS Z X n lv (.ref (zb Z + q) :: rest) M) : GS Z X pc lv (.ref (zb Z + k) :: rest) M := by
  subst hq
  exact g_get 1 C E rfl inB3 (by decide) wd_154 hk rfl d hn kk
theorem wd_155 : Cond.fieldLink RX3 15 (TX3 2).1 (TX3 2).2.1 (TX3 2).2.2.1 ∈ BIG := big_t 155 (by decide +kernel) rfl
theorem gf_X3_15 {Z : ZT} {X : XT} {cc : ByteArray} {nL fr lo pc n : Nat} {lv : List (Nat × Value)} {rest : List Value} {M : Mem} {k : Nat} (q : Nat) (C : CX X cc RX3 nL fr lo) (E : EX Z (xs X)) (hk : AtO Z k 3) (hq : k + 2 = q) (d : decode cc pc = .ok (.getfield 15, 3)) (hn : pc + 3 = n) (kk : GS Z X n lv (.ref (zb Z + q) :: rest) M) : GS Z X pc lv (.ref (zb Z + k) :: rest) M := by
  subst hq
  exact g_get 2 C E rfl inB3 (by decide) wd_155 hk rfl d hn kk
theorem wd_156 : Cond.fieldLink RX3 18 (TX3 3).1 (TX3 3).2.1 (TX3 3).2.2.1 ∈ BIG := big_t 156 (by decide +kernel) rfl
theorem gf_X3_18 {Z : ZT} {X : XT} {cc : ByteArray} {nL fr lo pc n : Nat} {lv : List (Nat × Value)} {rest : List Value} {M : Mem} {k : Nat} (q : Nat) (C : CX X cc RX3 nL fr lo) (E : EX Z (xs X)) (hk : AtO Z k 3) (hq : k + 3 = q) (d : decode cc pc = .ok (.getfield 18, 3)) (hn : pc + 3 = n) (kk : GS Z X n lv (.ref (zb Z + q) :: rest) M) : GS Z X pc lv (.ref (zb Z + k) :: rest) M := by
  subst hq
  exact g_get 3 C E rfl inB3 (by decide) wd_156 hk rfl d hn kk
theorem wd_157 : Cond.fieldLink RX3 21 (TX3 4).1 (TX3 4).2.1 (TX3 4).2.2.1 ∈ BIG := big_t 157 (by decide +kernel) rfl
theorem gf_X3_21 {Z : ZT} {X : XT} {cc : ByteArray} {nL fr lo pc n : Nat} {lv : List (Nat × Value)} {rest : List Value} {M : Mem} {k : Nat} (q : Nat) (C : CX X cc RX3 nL fr lo) (E : EX Z (xs X)) (hk : AtO Z k 3) (hq : k + 4 = q) (d : decode cc pc = .ok (.getfield 21, 3)) (hn : pc + 3 = n) (kk : GS Z X n lv (.ref (zb Z + q) :: rest) M) : GS Z X pc lv (.ref (zb Z + k) :: rest) M := by
  subst hq
  exact g_get 4 C E rfl inB3 (by decide) wd_157 hk rfl d hn kk
theorem wd_160 : Cond.fieldLink RX3 24 (TX3 5).1 (TX3 5).2.1 (TX3 5).2.2.1 ∈ BIG := big_t 160 (by decide +kernel) rfl
theorem gf_X3_24 {Z : ZT} {X : XT} {cc : ByteArray} {nL fr lo pc n : Nat} {lv : List (Nat × Value)} {rest : List Value} {M : Mem} {k : Nat} (q : Nat) (C : CX X cc RX3 nL fr lo) (E : EX Z (xs X)) (hk : AtO Z k 3) (hq : k + 5 = q) (d : decode cc pc = .ok (.getfield 24, 3)) (hn : pc + 3 = n) (kk : GS Z X n lv (.ref (zb Z + q) :: rest) M) : GS Z X pc lv (.ref (zb Z + k) :: rest) M := by
  subst hq
  exact g_get 5 C E rfl inB3 (by decide) wd_160 hk rfl d hn kk
theorem wd_162 : Cond.fieldLink RX3 27 (TX3 6).1 (TX3 6).2.1 (TX3 6).2.2.1 ∈ BIG := big_t 162 (by decide +kernel) rfl
theorem gf_X3_27 {Z : ZT} {X : XT} {cc : ByteArray} {nL fr lo pc n : Nat} {lv : List (Nat × Value)} {rest : List Value} {M : Mem} {k : Nat} (C : CX X cc RX3 nL fr lo) (E : EX Z (xs X)) (hk : AtO Z k 3) (d : decode cc pc = .ok (.getfield 27, 3)) (hn : pc + 3 = n) (kk : GS Z X n lv (.int (M k 6) :: rest) M) : GS Z X pc lv (.ref (zb Z + k) :: rest) M := g_get 6 C E rfl inB3 (by decide) wd_162 hk rfl d hn kk
theorem wd_163 : Cond.fieldLink RX3 31 (TX3 7).1 (TX3 7).2.1 (TX3 7).2.2.1 ∈ BIG := big_t 163 (by decide +kernel) rfl
theorem gf_X3_31 {Z : ZT} {X : XT} {cc : ByteArray} {nL fr lo pc n : Nat} {lv : List (Nat × Value)} {rest : List Value} {M : Mem} {k : Nat} (C : CX X cc RX3 nL fr lo) (E : EX Z (xs X)) (hk : AtO Z k 3) (d : decode cc pc = .ok (.getfield 31, 3)) (hn : pc + 3 = n) (kk : GS Z X n lv (.int (M k 7) :: rest) M) : GS Z X pc lv (.ref (zb Z + k) :: rest) M := g_get 7 C E rfl inB3 (by decide) wd_163 hk rfl d hn kk
theorem wd_164 : Cond.fieldLink RX3 34 (TX3 8).1 (TX3 8).2.1 (TX3 8).2.2.1 ∈ BIG := big_t 164 (by decide +kernel) rfl
theorem gf_X3_34 {Z : ZT} {X : XT} {cc : ByteArray} {nL fr lo pc n : Nat} {lv : List (Nat × Value)} {rest : List Value} {M : Mem} {k : Nat} (C : CX X cc RX3 nL fr lo) (E : EX Z (xs X)) (hk : AtO Z k 3) (d : decode cc pc = .ok (.getfield 34, 3)) (hn : pc + 3 = n) (kk : GS Z X n lv (.int (M k 8) :: rest) M) : GS Z X pc lv (.ref (zb Z + k) :: rest) M := g_get 8 C E rfl inB3 (by decide) wd_164 hk rfl d hn kk
theorem wd_153 : Cond.fieldLink RX3 37 (TX3 0).1 (TX3 0).2.1 (TX3 0).2.2.1 ∈ BIG := big_t 153 (by decide +kernel) rfl
theorem gf_X3_37 {Z : ZT} {X : XT} {cc : ByteArray} {nL fr lo pc n : Nat} {lv : List (Nat × Value)} {rest : List Value} {M : Mem} {k : Nat} (C : CX X cc RX3 nL fr lo) (E : EX Z (xs X)) (hk : AtO Z k 3) (d : decode cc pc = .ok (.getfield 37, 3)) (hn : pc + 3 = n) (kk : GS Z X n lv (.ref (zb Z + 4) :: rest) M) : GS Z X pc lv (.ref (zb Z + k) :: rest) M := g_get 0 C E rfl inB3 (by decide) wd_153 hk rfl d hn kk
theorem wn_70 : Cond.fieldLinkNest RX3 48 (TX4 6).1 (TX4 6).2.1 (TX4 6).2.2.1 "NextBellboy" ∈ NWL := nw_t 70 (by decide +kernel) rfl
theorem gf_X3_48 {Z : ZT} {X : XT} {cc : ByteArray} {nL fr lo pc n : Nat} {lv : List (Nat × Value)} {rest : List Value} {M : Mem} {k : Nat} (C : CX X cc RX3 nL fr lo) (E : EX Z (xs X)) (hk : AtO Z k 4) (d : decode cc pc = .ok (.getfield 48, 3)) (hn : pc + 3 = n) (kk : GS Z X n lv (.int (M k 6) :: rest) M) : GS Z X pc lv (.ref (zb Z + k) :: rest) M := g_getN 6 C E rfl inB4 (by decide) wn_70 hk rfl d hn kk
theorem wn_102 : Cond.fieldLinkNest RX3 53 (TX2 1).1 (TX2 1).2.1 (TX2 1).2.2.1 "NextBellboy" ∈ NWL := nw_t 102 (by decide +kernel) rfl
theorem gf_X3_53 {Z : ZT} {X : XT} {cc : ByteArray} {nL fr lo pc n : Nat} {lv : List (Nat × Value)} {rest : List Value} {M : Mem} {k : Nat} (q : Nat) (C : CX X cc RX3 nL fr lo) (E : EX Z (xs X)) (hk : AtO Z k 2) (hq : k + 1 = q) (d : decode cc pc = .ok (.getfield 53, 3)) (hn : pc + 3 = n) (kk : GS Z X n lv (.ref (zb Z + q) :: rest) M) : GS Z X pc lv (.ref (zb Z + k) :: rest) M := by
  subst hq
  exact g_getN 1 C E rfl inB2 (by decide) wn_102 hk rfl d hn kk
theorem wn_121 : Cond.fieldLinkNest RX3 73 (TX2 8).1 (TX2 8).2.1 (TX2 8).2.2.1 "NextBellboy" ∈ NWL := nw_t 121 (by decide +kernel) rfl
theorem gf_X3_73 {Z : ZT} {X : XT} {cc : ByteArray} {nL fr lo pc n : Nat} {lv : List (Nat × Value)} {rest : List Value} {M : Mem} {k : Nat} (C : CX X cc RX3 nL fr lo) (E : EX Z (xs X)) (hk : AtO Z k 2) (d : decode cc pc = .ok (.getfield 73, 3)) (hn : pc + 3 = n) (kk : GS Z X n lv (.int (M k 8) :: rest) M) : GS Z X pc lv (.ref (zb Z + k) :: rest) M := g_getN 8 C E rfl inB2 (by decide) wn_121 hk rfl d hn kk
theorem wn_112 : Cond.fieldLinkNest RX3 74 (TX2 4).1 (TX2 4).2.1 (TX2 4).2.2.1 "NextBellboy" ∈ NWL := nw_t 112 (by decide +kernel) rfl
theorem gf_X3_74 {Z : ZT} {X : XT} {cc : ByteArray} {nL fr lo pc n : Nat} {lv : List (Nat × Value)} {rest : List Value} {M : Mem} {k : Nat} (q : Nat) (C : CX X cc RX3 nL fr lo) (E : EX Z (xs X)) (hk : AtO Z k 2) (hq : k + 4 = q) (d : decode cc pc = .ok (.getfield 74, 3)) (hn : pc + 3 = n) (kk : GS Z X n lv (.ref (zb Z + q) :: rest) M) : GS Z X pc lv (.ref (zb Z + k) :: rest) M := by
  subst hq
  exact g_getN 4 C E rfl inB2 (by decide) wn_112 hk rfl d hn kk
theorem wn_124 : Cond.fieldLinkNest RX3 75 (TX2 9).1 (TX2 9).2.1 (TX2 9).2.2.1 "NextBellboy" ∈ NWL := nw_t 124 (by decide +kernel) rfl
theorem gf_X3_75 {Z : ZT} {X : XT} {cc : ByteArray} {nL fr lo pc n : Nat} {lv : List (Nat × Value)} {rest : List Value} {M : Mem} {k : Nat} (C : CX X cc RX3 nL fr lo) (E : EX Z (xs X)) (hk : AtO Z k 2) (d : decode cc pc = .ok (.getfield 75, 3)) (hn : pc + 3 = n) (kk : GS Z X n lv (.int (M k 9) :: rest) M) : GS Z X pc lv (.ref (zb Z + k) :: rest) M := g_getN 9 C E rfl inB2 (by decide) wn_124 hk rfl d hn kk
theorem wn_106 : Cond.fieldLinkNest RX3 83 (TX2 2).1 (TX2 2).2.1 (TX2 2).2.2.1 "NextBellboy" ∈ NWL := nw_t 106 (by decide +kernel) rfl
theorem gf_X3_83 {Z : ZT} {X : XT} {cc : ByteArray} {nL fr lo pc n : Nat} {lv : List (Nat × Value)} {rest : List Value} {M : Mem} {k : Nat} (q : Nat) (C : CX X cc RX3 nL fr lo) (E : EX Z (xs X)) (hk : AtO Z k 2) (hq : k + 2 = q) (d : decode cc pc = .ok (.getfield 83, 3)) (hn : pc + 3 = n) (kk : GS Z X n lv (.ref (zb Z + q) :: rest) M) : GS Z X pc lv (.ref (zb Z + k) :: rest) M := by
  subst hq
  exact g_getN 2 C E rfl inB2 (by decide) wn_106 hk rfl d hn kk
theorem wn_63 : Cond.fieldLinkNest RX3 95 (TX4 4).1 (TX4 4).2.1 (TX4 4).2.2.1 "NextBellboy" ∈ NWL := nw_t 63 (by decide +kernel) rfl
theorem gf_X3_95 {Z : ZT} {X : XT} {cc : ByteArray} {nL fr lo pc n : Nat} {lv : List (Nat × Value)} {rest : List Value} {M : Mem} {k : Nat} (q : Nat) (C : CX X cc RX3 nL fr lo) (E : EX Z (xs X)) (hk : AtO Z k 4) (hq : k + 5 = q) (d : decode cc pc = .ok (.getfield 95, 3)) (hn : pc + 3 = n) (kk : GS Z X n lv (.ref (zb Z + q) :: rest) M) : GS Z X pc lv (.ref (zb Z + k) :: rest) M := by
  subst hq
  exact g_getN 4 C E rfl inB4 (by decide) wn_63 hk rfl d hn kk
theorem wn_50 : Cond.fieldLinkNest RX3 98 (TX4 0).1 (TX4 0).2.1 (TX4 0).2.2.1 "NextBellboy" ∈ NWL := nw_t 50 (by decide +kernel) rfl
theorem gf_X3_98 {Z : ZT} {X : XT} {cc : ByteArray} {nL fr lo pc n : Nat} {lv : List (Nat × Value)} {rest : List Value} {M : Mem} {k : Nat} (q : Nat) (C : CX X cc RX3 nL fr lo) (E : EX Z (xs X)) (hk : AtO Z k 4) (hq : k + 1 = q) (d : decode cc pc = .ok (.getfield 98, 3)) (hn : pc + 3 = n) (kk : GS Z X n lv (.ref (zb Z + q) :: rest) M) : GS Z X pc lv (.ref (zb Z + k) :: rest) M := by
  subst hq
  exact g_getN 0 C E rfl inB4 (by decide) wn_50 hk rfl d hn kk
theorem wd_48 : Cond.fieldLink RX4 9 (TX4 0).1 (TX4 0).2.1 (TX4 0).2.2.1 ∈ BIG := big_t 48 (by decide +kernel) rfl
theorem gf_X4_9 {Z : ZT} {X : XT} {cc : ByteArray} {nL fr lo pc n : Nat} {lv : List (Nat × Value)} {rest : List Value} {M : Mem} {k : Nat} (q : Nat) (C : CX X cc RX4 nL fr lo) (E : EX Z (xs X)) (hk : AtO Z k 4) (hq : k + 1 = q) (d : decode cc pc = .ok (.getfield 9, 3)) (hn : pc + 3 = n) (kk : GS Z X n lv (.ref (zb Z + q) :: rest) M) : GS Z X pc lv (.ref (zb Z + k) :: rest) M := by
  subst hq
  exact g_get 0 C E rfl inB4 (by decide) wd_48 hk rfl d hn kk
theorem wd_53 : Cond.fieldLink RX4 15 (TX4 1).1 (TX4 1).2.1 (TX4 1).2.2.1 ∈ BIG := big_t 53 (by decide +kernel) rfl
theorem gf_X4_15 {Z : ZT} {X : XT} {cc : ByteArray} {nL fr lo pc n : Nat} {lv : List (Nat × Value)} {rest : List Value} {M : Mem} {k : Nat} (q : Nat) (C : CX X cc RX4 nL fr lo) (E : EX Z (xs X)) (hk : AtO Z k 4) (hq : k + 2 = q) (d : decode cc pc = .ok (.getfield 15, 3)) (hn : pc + 3 = n) (kk : GS Z X n lv (.ref (zb Z + q) :: rest) M) : GS Z X pc lv (.ref (zb Z + k) :: rest) M := by
  subst hq
  exact g_get 1 C E rfl inB4 (by decide) wd_53 hk rfl d hn kk
theorem wd_55 : Cond.fieldLink RX4 18 (TX4 2).1 (TX4 2).2.1 (TX4 2).2.2.1 ∈ BIG := big_t 55 (by decide +kernel) rfl
theorem gf_X4_18 {Z : ZT} {X : XT} {cc : ByteArray} {nL fr lo pc n : Nat} {lv : List (Nat × Value)} {rest : List Value} {M : Mem} {k : Nat} (q : Nat) (C : CX X cc RX4 nL fr lo) (E : EX Z (xs X)) (hk : AtO Z k 4) (hq : k + 3 = q) (d : decode cc pc = .ok (.getfield 18, 3)) (hn : pc + 3 = n) (kk : GS Z X n lv (.ref (zb Z + q) :: rest) M) : GS Z X pc lv (.ref (zb Z + k) :: rest) M := by
  subst hq
  exact g_get 2 C E rfl inB4 (by decide) wd_55 hk rfl d hn kk
theorem wd_58 : Cond.fieldLink RX4 21 (TX4 3).1 (TX4 3).2.1 (TX4 3).2.2.1 ∈ BIG := big_t 58 (by decide +kernel) rfl
theorem gf_X4_21 {Z : ZT} {X : XT} {cc : ByteArray} {nL fr lo pc n : Nat} {lv : List (Nat × Value)} {rest : List Value} {M : Mem} {k : Nat} (q : Nat) (C : CX X cc RX4 nL fr lo) (E : EX Z (xs X)) (hk : AtO Z k 4) (hq : k + 4 = q) (d : decode cc pc = .ok (.getfield 21, 3)) (hn : pc + 3 = n) (kk : GS Z X n lv (.ref (zb Z + q) :: rest) M) : GS Z X pc lv (.ref (zb Z + k) :: rest) M := by
  subst hq
  exact g_get 3 C E rfl inB4 (by decide) wd_58 hk rfl d hn kk
theorem wd_62 : Cond.fieldLink RX4 24 (TX4 4).1 (TX4 4).2.1 (TX4 4).2.2.1 ∈ BIG := big_t 62 (by decide +kernel) rfl
theorem gf_X4_24 {Z : ZT} {X : XT} {cc : ByteArray} {nL fr lo pc n : Nat} {lv : List (Nat × Value)} {rest : List Value} {M : Mem} {k : Nat} (q : Nat) (C : CX X cc RX4 nL fr lo) (E : EX Z (xs X)) (hk : AtO Z k 4) (hq : k + 5 = q) (d : decode cc pc = .ok (.getfield 24, 3)) (hn : pc + 3 = n) (kk : GS Z X n lv (.ref (zb Z + q) :: rest) M) : GS Z X pc lv (.ref (zb Z + k) :: rest) M := by
  subst hq
  exact g_get 4 C E rfl inB4 (by decide) wd_62 hk rfl d hn kk
theorem wd_66 : Cond.fieldLink RX4 27 (TX4 5).1 (TX4 5).2.1 (TX4 5).2.2.1 ∈ BIG := big_t 66 (by decide +kernel) rfl
theorem gf_X4_27 {Z : ZT} {X : XT} {cc : ByteArray} {nL fr lo pc n : Nat} {lv : List (Nat × Value)} {rest : List Value} {M : Mem} {k : Nat} (q : Nat) (C : CX X cc RX4 nL fr lo) (E : EX Z (xs X)) (hk : AtO Z k 4) (hq : k + 6 = q) (d : decode cc pc = .ok (.getfield 27, 3)) (hn : pc + 3 = n) (kk : GS Z X n lv (.ref (zb Z + q) :: rest) M) : GS Z X pc lv (.ref (zb Z + k) :: rest) M := by
  subst hq
  exact g_get 5 C E rfl inB4 (by decide) wd_66 hk rfl d hn kk
theorem wd_68 : Cond.fieldLink RX4 30 (TX4 6).1 (TX4 6).2.1 (TX4 6).2.2.1 ∈ BIG := big_t 68 (by decide +kernel) rfl
theorem gf_X4_30 {Z : ZT} {X : XT} {cc : ByteArray} {nL fr lo pc n : Nat} {lv : List (Nat × Value)} {rest : List Value} {M : Mem} {k : Nat} (C : CX X cc RX4 nL fr lo) (E : EX Z (xs X)) (hk : AtO Z k 4) (d : decode cc pc = .ok (.getfield 30, 3)) (hn : pc + 3 = n) (kk : GS Z X n lv (.int (M k 6) :: rest) M) : GS Z X pc lv (.ref (zb Z + k) :: rest) M := g_get 6 C E rfl inB4 (by decide) wd_68 hk rfl d hn kk
theorem wd_75 : Cond.fieldLink RX4 34 (TX4 7).1 (TX4 7).2.1 (TX4 7).2.2.1 ∈ BIG := big_t 75 (by decide +kernel) rfl
theorem gf_X4_34 {Z : ZT} {X : XT} {cc : ByteArray} {nL fr lo pc n : Nat} {lv : List (Nat × Value)} {rest : List Value} {M : Mem} {k : Nat} (C : CX X cc RX4 nL fr lo) (E : EX Z (xs X)) (hk : AtO Z k 4) (d : decode cc pc = .ok (.getfield 34, 3)) (hn : pc + 3 = n) (kk : GS Z X n lv (.int (M k 7) :: rest) M) : GS Z X pc lv (.ref (zb Z + k) :: rest) M := g_get 7 C E rfl inB4 (by decide) wd_75 hk rfl d hn kk
theorem wd_30 : Cond.fieldLink RX5 9 (TX5 0).1 (TX5 0).2.1 (TX5 0).2.2.1 ∈ BIG := big_t 30 (by decide +kernel) rfl
theorem gf_X5_9 {Z : ZT} {X : XT} {cc : ByteArray} {nL fr lo pc n : Nat} {lv : List (Nat × Value)} {rest : List Value} {M : Mem} {k : Nat} (q : Nat) (C : CX X cc RX5 nL fr lo) (E : EX Z (xs X)) (hk : AtO Z k 5) (hq : k + 1 = q) (d : decode cc pc = .ok (.getfield 9, 3)) (hn : pc + 3 = n) (kk : GS Z X n lv (.ref (zb Z + q) :: rest) M) : GS Z X pc lv (.ref (zb Z + k) :: rest) M := by
  subst hq
  exact g_get 0 C E rfl inB5 (by decide) wd_30 hk rfl d hn kk
theorem wd_31 : Cond.fieldLink RX5 15 (TX5 1).1 (TX5 1).2.1 (TX5 1).2.2.1 ∈ BIG := big_t 31 (by decide +kernel) rfl
theorem gf_X5_15 {Z : ZT} {X : XT} {cc : ByteArray} {nL fr lo pc n : Nat} {lv : List (Nat × Value)} {rest : List Value} {M : Mem} {k : Nat} (q : Nat) (C : CX X cc RX5 nL fr lo) (E : EX Z (xs X)) (hk : AtO Z k 5) (hq : k + 2 = q) (d : decode cc pc = .ok (.getfield 15, 3)) (hn : pc + 3 = n) (kk : GS Z X n lv (.ref (zb Z + q) :: rest) M) : GS Z X pc lv (.ref (zb Z + k) :: rest) M := by
  subst hq
  exact g_get 1 C E rfl inB5 (by decide) wd_31 hk rfl d hn kk
theorem wd_32 : Cond.fieldLink RX5 18 (TX5 2).1 (TX5 2).2.1 (TX5 2).2.2.1 ∈ BIG := big_t 32 (by decide +kernel) rfl
theorem gf_X5_18 {Z : ZT} {X : XT} {cc : ByteArray} {nL fr lo pc n : Nat} {lv : List (Nat × Value)} {rest : List Value} {M : Mem} {k : Nat} (C : CX X cc RX5 nL fr lo) (E : EX Z (xs X)) (hk : AtO Z k 5) (d : decode cc pc = .ok (.getfield 18, 3)) (hn : pc + 3 = n) (kk : GS Z X n lv (.int (M k 2) :: rest) M) : GS Z X pc lv (.ref (zb Z + k) :: rest) M := g_get 2 C E rfl inB5 (by decide) wd_32 hk rfl d hn kk
theorem wd_199 : Cond.fieldLink RX6 7 (TX6 1).1 (TX6 1).2.1 (TX6 1).2.2.1 ∈ BIG := big_t 199 (by decide +kernel) rfl
theorem gf_X6_7 {Z : ZT} {X : XT} {cc : ByteArray} {nL fr lo pc n : Nat} {lv : List (Nat × Value)} {rest : List Value} {M : Mem} {k : Nat} (C : CX X cc RX6 nL fr lo) (E : EX Z (xs X)) (hk : AtO Z k 6) (d : decode cc pc = .ok (.getfield 7, 3)) (hn : pc + 3 = n) (kk : GS Z X n lv (.int (M k 1) :: rest) M) : GS Z X pc lv (.ref (zb Z + k) :: rest) M := g_get 1 C E rfl inB6 (by decide) wd_199 hk rfl d hn kk
theorem wd_198 : Cond.fieldLink RX6 21 (TX6 0).1 (TX6 0).2.1 (TX6 0).2.2.1 ∈ BIG := big_t 198 (by decide +kernel) rfl
theorem gf_X6_21 {Z : ZT} {X : XT} {cc : ByteArray} {nL fr lo pc n : Nat} {lv : List (Nat × Value)} {rest : List Value} {M : Mem} {k : Nat} (q : Nat) (C : CX X cc RX6 nL fr lo) (E : EX Z (xs X)) (hk : AtO Z k 6) (hq : k + 1 = q) (d : decode cc pc = .ok (.getfield 21, 3)) (hn : pc + 3 = n) (kk : GS Z X n lv (.ref (zb Z + q) :: rest) M) : GS Z X pc lv (.ref (zb Z + k) :: rest) M := by
  subst hq
  exact g_get 0 C E rfl inB6 (by decide) wd_198 hk rfl d hn kk
theorem wd_258 : Cond.fieldLink RX7 9 (TX7 1).1 (TX7 1).2.1 (TX7 1).2.2.1 ∈ BIG := big_t 258 (by decide +kernel) rfl
theorem gf_X7_9 {Z : ZT} {X : XT} {cc : ByteArray} {nL fr lo pc n : Nat} {lv : List (Nat × Value)} {rest : List Value} {M : Mem} {k : Nat} (q : Nat) (C : CX X cc RX7 nL fr lo) (E : EX Z (xs X)) (hk : AtO Z k 7) (hq : k + 1 = q) (d : decode cc pc = .ok (.getfield 9, 3)) (hn : pc + 3 = n) (kk : GS Z X n lv (.ref (zb Z + q) :: rest) M) : GS Z X pc lv (.ref (zb Z + k) :: rest) M := by
  subst hq
  exact g_get 1 C E rfl inB7 (by decide) wd_258 hk rfl d hn kk
theorem wd_259 : Cond.fieldLink RX7 15 (TX7 2).1 (TX7 2).2.1 (TX7 2).2.2.1 ∈ BIG := big_t 259 (by decide +kernel) rfl
theorem gf_X7_15 {Z : ZT} {X : XT} {cc : ByteArray} {nL fr lo pc n : Nat} {lv : List (Nat × Value)} {rest : List Value} {M : Mem} {k : Nat} (q : Nat) (C : CX X cc RX7 nL fr lo) (E : EX Z (xs X)) (hk : AtO Z k 7) (hq : k + 2 = q) (d : decode cc pc = .ok (.getfield 15, 3)) (hn : pc + 3 = n) (kk : GS Z X n lv (.ref (zb Z + q) :: rest) M) : GS Z X pc lv (.ref (zb Z + k) :: rest) M := by
  subst hq
  exact g_get 2 C E rfl inB7 (by decide) wd_259 hk rfl d hn kk
theorem wd_260 : Cond.fieldLink RX7 18 (TX7 3).1 (TX7 3).2.1 (TX7 3).2.2.1 ∈ BIG := big_t 260 (by decide +kernel) rfl
theorem gf_X7_18 {Z : ZT} {X : XT} {cc : ByteArray} {nL fr lo pc n : Nat} {lv : List (Nat × Value)} {rest : List Value} {M : Mem} {k : Nat} (q : Nat) (C : CX X cc RX7 nL fr lo) (E : EX Z (xs X)) (hk : AtO Z k 7) (hq : k + 3 = q) (d : decode cc pc = .ok (.getfield 18, 3)) (hn : pc + 3 = n) (kk : GS Z X n lv (.ref (zb Z + q) :: rest) M) : GS Z X pc lv (.ref (zb Z + k) :: rest) M := by
  subst hq
  exact g_get 3 C E rfl inB7 (by decide) wd_260 hk rfl d hn kk
theorem wd_261 : Cond.fieldLink RX7 21 (TX7 4).1 (TX7 4).2.1 (TX7 4).2.2.1 ∈ BIG := big_t 261 (by decide +kernel) rfl
theorem gf_X7_21 {Z : ZT} {X : XT} {cc : ByteArray} {nL fr lo pc n : Nat} {lv : List (Nat × Value)} {rest : List Value} {M : Mem} {k : Nat} (q : Nat) (C : CX X cc RX7 nL fr lo) (E : EX Z (xs X)) (hk : AtO Z k 7) (hq : k + 4 = q) (d : decode cc pc = .ok (.getfield 21, 3)) (hn : pc + 3 = n) (kk : GS Z X n lv (.ref (zb Z + q) :: rest) M) : GS Z X pc lv (.ref (zb Z + k) :: rest) M := by
  subst hq
  exact g_get 4 C E rfl inB7 (by decide) wd_261 hk rfl d hn kk
theorem wd_262 : Cond.fieldLink RX7 24 (TX7 5).1 (TX7 5).2.1 (TX7 5).2.2.1 ∈ BIG := big_t 262 (by decide +kernel) rfl
theorem gf_X7_24 {Z : ZT} {X : XT} {cc : ByteArray} {nL fr lo pc n : Nat} {lv : List (Nat × Value)} {rest : List Value} {M : Mem} {k : Nat} (q : Nat) (C : CX X cc RX7 nL fr lo) (E : EX Z (xs X)) (hk : AtO Z k 7) (hq : k + 5 = q) (d : decode cc pc = .ok (.getfield 24, 3)) (hn : pc + 3 = n) (kk : GS Z X n lv (.ref (zb Z + q) :: rest) M) : GS Z X pc lv (.ref (zb Z + k) :: rest) M := by
  subst hq
  exact g_get 5 C E rfl inB7 (by decide) wd_262 hk rfl d hn kk
theorem wd_263 : Cond.fieldLink RX7 27 (TX7 6).1 (TX7 6).2.1 (TX7 6).2.2.1 ∈ BIG := big_t 263 (by decide +kernel) rfl
theorem gf_X7_27 {Z : ZT} {X : XT} {cc : ByteArray} {nL fr lo pc n : Nat} {lv : List (Nat × Value)} {rest : List Value} {M : Mem} {k : Nat} (C : CX X cc RX7 nL fr lo) (E : EX Z (xs X)) (hk : AtO Z k 7) (d : decode cc pc = .ok (.getfield 27, 3)) (hn : pc + 3 = n) (kk : GS Z X n lv (.int (M k 6) :: rest) M) : GS Z X pc lv (.ref (zb Z + k) :: rest) M := g_get 6 C E rfl inB7 (by decide) wd_263 hk rfl d hn kk
theorem wd_265 : Cond.fieldLink RX7 31 (TX7 7).1 (TX7 7).2.1 (TX7 7).2.2.1 ∈ BIG := big_t 265 (by decide +kernel) rfl
theorem gf_X7_31 {Z : ZT} {X : XT} {cc : ByteArray} {nL fr lo pc n : Nat} {lv : List (Nat × Value)} {rest : List Value} {M : Mem} {k : Nat} (C : CX X cc RX7 nL fr lo) (E : EX Z (xs X)) (hk : AtO Z k 7) (d : decode cc pc = .ok (.getfield 31, 3)) (hn : pc + 3 = n) (kk : GS Z X n lv (.int (M k 7) :: rest) M) : GS Z X pc lv (.ref (zb Z + k) :: rest) M := g_get 7 C E rfl inB7 (by decide) wd_265 hk rfl d hn kk
theorem wd_267 : Cond.fieldLink RX7 34 (TX7 8).1 (TX7 8).2.1 (TX7 8).2.2.1 ∈ BIG := big_t 267 (by decide +kernel) rfl
theorem gf_X7_34 {Z : ZT} {X : XT} {cc : ByteArray} {nL fr lo pc n : Nat} {lv : List (Nat × Value)} {rest : List Value} {M : Mem} {k : Nat} (C : CX X cc RX7 nL fr lo) (E : EX Z (xs X)) (hk : AtO Z k 7) (d : decode cc pc = .ok (.getfield 34, 3)) (hn : pc + 3 = n) (kk : GS Z X n lv (.int (M k 8) :: rest) M) : GS Z X pc lv (.ref (zb Z + k) :: rest) M := g_get 8 C E rfl inB7 (by decide) wd_267 hk rfl d hn kk
theorem wd_257 : Cond.fieldLink RX7 38 (TX7 0).1 (TX7 0).2.1 (TX7 0).2.2.1 ∈ BIG := big_t 257 (by decide +kernel) rfl
theorem gf_X7_38 {Z : ZT} {X : XT} {cc : ByteArray} {nL fr lo pc n : Nat} {lv : List (Nat × Value)} {rest : List Value} {M : Mem} {k : Nat} (C : CX X cc RX7 nL fr lo) (E : EX Z (xs X)) (hk : AtO Z k 7) (d : decode cc pc = .ok (.getfield 38, 3)) (hn : pc + 3 = n) (kk : GS Z X n lv (.ref (zb Z + 4) :: rest) M) : GS Z X pc lv (.ref (zb Z + k) :: rest) M := g_get 0 C E rfl inB7 (by decide) wd_257 hk rfl d hn kk
theorem wn_73 : Cond.fieldLinkNest RX7 48 (TX4 6).1 (TX4 6).2.1 (TX4 6).2.2.1 "NextBellboy" ∈ NWL := nw_t 73 (by decide +kernel) rfl
theorem gf_X7_48 {Z : ZT} {X : XT} {cc : ByteArray} {nL fr lo pc n : Nat} {lv : List (Nat × Value)} {rest : List Value} {M : Mem} {k : Nat} (C : CX X cc RX7 nL fr lo) (E : EX Z (xs X)) (hk : AtO Z k 4) (d : decode cc pc = .ok (.getfield 48, 3)) (hn : pc + 3 = n) (kk : GS Z X n lv (.int (M k 6) :: rest) M) : GS Z X pc lv (.ref (zb Z + k) :: rest) M := g_getN 6 C E rfl inB4 (by decide) wn_73 hk rfl d hn kk
theorem wn_60 : Cond.fieldLinkNest RX7 63 (TX4 3).1 (TX4 3).2.1 (TX4 3).2.2.1 "NextBellboy" ∈ NWL := nw_t 60 (by decide +kernel) rfl
theorem gf_X7_63 {Z : ZT} {X : XT} {cc : ByteArray} {nL fr lo pc n : Nat} {lv : List (Nat × Value)} {rest : List Value} {M : Mem} {k : Nat} (q : Nat) (C : CX X cc RX7 nL fr lo) (E : EX Z (xs X)) (hk : AtO Z k 4) (hq : k + 4 = q) (d : decode cc pc = .ok (.getfield 63, 3)) (hn : pc + 3 = n) (kk : GS Z X n lv (.ref (zb Z + q) :: rest) M) : GS Z X pc lv (.ref (zb Z + k) :: rest) M := by
  subst hq
  exact g_getN 3 C E rfl inB4 (by decide) wn_60 hk rfl d hn kk
theorem wn_51 : Cond.fieldLinkNest RX7 66 (TX4 0).1 (TX4 0).2.1 (TX4 0).2.2.1 "NextBellboy" ∈ NWL := nw_t 51 (by decide +kernel) rfl
theorem gf_X7_66 {Z : ZT} {X : XT} {cc : ByteArray} {nL fr lo pc n : Nat} {lv : List (Nat × Value)} {rest : List Value} {M : Mem} {k : Nat} (q : Nat) (C : CX X cc RX7 nL fr lo) (E : EX Z (xs X)) (hk : AtO Z k 4) (hq : k + 1 = q) (d : decode cc pc = .ok (.getfield 66, 3)) (hn : pc + 3 = n) (kk : GS Z X n lv (.ref (zb Z + q) :: rest) M) : GS Z X pc lv (.ref (zb Z + k) :: rest) M := by
  subst hq
  exact g_getN 0 C E rfl inB4 (by decide) wn_51 hk rfl d hn kk
theorem wd_835 : Cond.fieldLink RX9 7 (TX9 0).1 (TX9 0).2.1 (TX9 0).2.2.1 ∈ BIG := big_t 835 (by decide +kernel) rfl
theorem gf_X9_7 {Z : ZT} {X : XT} {cc : ByteArray} {nL fr lo pc n : Nat} {lv : List (Nat × Value)} {rest : List Value} {M : Mem} {k : Nat} (q : Nat) (C : CX X cc RX9 nL fr lo) (E : EX Z (xs X)) (hk : AtO Z k 9) (hq : k + 1 = q) (d : decode cc pc = .ok (.getfield 7, 3)) (hn : pc + 3 = n) (kk : GS Z X n lv (.ref (zb Z + q) :: rest) M) : GS Z X pc lv (.ref (zb Z + k) :: rest) M := by
  subst hq
  exact g_get 0 C E rfl inB9 (by decide) wd_835 hk rfl d hn kk
theorem wd_839 : Cond.fieldLink RX9 13 (TX9 4).1 (TX9 4).2.1 (TX9 4).2.2.1 ∈ BIG := big_t 839 (by decide +kernel) rfl
theorem gf_X9_13 {Z : ZT} {X : XT} {cc : ByteArray} {nL fr lo pc n : Nat} {lv : List (Nat × Value)} {rest : List Value} {M : Mem} {k : Nat} (q : Nat) (C : CX X cc RX9 nL fr lo) (E : EX Z (xs X)) (hk : AtO Z k 9) (hq : k + 2 = q) (d : decode cc pc = .ok (.getfield 13, 3)) (hn : pc + 3 = n) (kk : GS Z X n lv (.ref (zb Z + q) :: rest) M) : GS Z X pc lv (.ref (zb Z + k) :: rest) M := by
  subst hq
  exact g_get 4 C E rfl inB9 (by decide) wd_839 hk rfl d hn kk
theorem wd_840 : Cond.fieldLink RX9 16 (TX9 5).1 (TX9 5).2.1 (TX9 5).2.2.1 ∈ BIG := big_t 840 (by decide +kernel) rfl
theorem gf_X9_16 {Z : ZT} {X : XT} {cc : ByteArray} {nL fr lo pc n : Nat} {lv : List (Nat × Value)} {rest : List Value} {M : Mem} {k : Nat} (q : Nat) (C : CX X cc RX9 nL fr lo) (E : EX Z (xs X)) (hk : AtO Z k 9) (hq : k + 3 = q) (d : decode cc pc = .ok (.getfield 16, 3)) (hn : pc + 3 = n) (kk : GS Z X n lv (.ref (zb Z + q) :: rest) M) : GS Z X pc lv (.ref (zb Z + k) :: rest) M := by
  subst hq
  exact g_get 5 C E rfl inB9 (by decide) wd_840 hk rfl d hn kk
theorem wd_841 : Cond.fieldLink RX9 19 (TX9 6).1 (TX9 6).2.1 (TX9 6).2.2.1 ∈ BIG := big_t 841 (by decide +kernel) rfl
theorem gf_X9_19 {Z : ZT} {X : XT} {cc : ByteArray} {nL fr lo pc n : Nat} {lv : List (Nat × Value)} {rest : List Value} {M : Mem} {k : Nat} (q : Nat) (C : CX X cc RX9 nL fr lo) (E : EX Z (xs X)) (hk : AtO Z k 9) (hq : k + 4 = q) (d : decode cc pc = .ok (.getfield 19, 3)) (hn : pc + 3 = n) (kk : GS Z X n lv (.ref (zb Z + q) :: rest) M) : GS Z X pc lv (.ref (zb Z + k) :: rest) M := by
  subst hq
  exact g_get 6 C E rfl inB9 (by decide) wd_841 hk rfl d hn kk
theorem wd_842 : Cond.fieldLink RX9 22 (TX9 7).1 (TX9 7).2.1 (TX9 7).2.2.1 ∈ BIG := big_t 842 (by decide +kernel) rfl
theorem gf_X9_22 {Z : ZT} {X : XT} {cc : ByteArray} {nL fr lo pc n : Nat} {lv : List (Nat × Value)} {rest : List Value} {M : Mem} {k : Nat} (q : Nat) (C : CX X cc RX9 nL fr lo) (E : EX Z (xs X)) (hk : AtO Z k 9) (hq : k + 5 = q) (d : decode cc pc = .ok (.getfield 22, 3)) (hn : pc + 3 = n) (kk : GS Z X n lv (.ref (zb Z + q) :: rest) M) : GS Z X pc lv (.ref (zb Z + k) :: rest) M := by
  subst hq
  exact g_get 7 C E rfl inB9 (by decide) wd_842 hk rfl d hn kk
theorem wd_844 : Cond.fieldLink RX9 25 (TX9 9).1 (TX9 9).2.1 (TX9 9).2.2.1 ∈ BIG := big_t 844 (by decide +kernel) rfl
theorem gf_X9_25 {Z : ZT} {X : XT} {cc : ByteArray} {nL fr lo pc n : Nat} {lv : List (Nat × Value)} {rest : List Value} {M : Mem} {k : Nat} (q : Nat) (C : CX X cc RX9 nL fr lo) (E : EX Z (xs X)) (hk : AtO Z k 9) (hq : k + 6 = q) (d : decode cc pc = .ok (.getfield 25, 3)) (hn : pc + 3 = n) (kk : GS Z X n lv (.ref (zb Z + q) :: rest) M) : GS Z X pc lv (.ref (zb Z + k) :: rest) M := by
  subst hq
  exact g_get 9 C E rfl inB9 (by decide) wd_844 hk rfl d hn kk
theorem wd_845 : Cond.fieldLink RX9 28 (TX9 10).1 (TX9 10).2.1 (TX9 10).2.2.1 ∈ BIG := big_t 845 (by decide +kernel) rfl
theorem gf_X9_28 {Z : ZT} {X : XT} {cc : ByteArray} {nL fr lo pc n : Nat} {lv : List (Nat × Value)} {rest : List Value} {M : Mem} {k : Nat} (q : Nat) (C : CX X cc RX9 nL fr lo) (E : EX Z (xs X)) (hk : AtO Z k 9) (hq : k + 7 = q) (d : decode cc pc = .ok (.getfield 28, 3)) (hn : pc + 3 = n) (kk : GS Z X n lv (.ref (zb Z + q) :: rest) M) : GS Z X pc lv (.ref (zb Z + k) :: rest) M := by
  subst hq
  exact g_get 10 C E rfl inB9 (by decide) wd_845 hk rfl d hn kk
theorem wd_846 : Cond.fieldLink RX9 31 (TX9 11).1 (TX9 11).2.1 (TX9 11).2.2.1 ∈ BIG := big_t 846 (by decide +kernel) rfl
theorem gf_X9_31 {Z : ZT} {X : XT} {cc : ByteArray} {nL fr lo pc n : Nat} {lv : List (Nat × Value)} {rest : List Value} {M : Mem} {k : Nat} (q : Nat) (C : CX X cc RX9 nL fr lo) (E : EX Z (xs X)) (hk : AtO Z k 9) (hq : k + 8 = q) (d : decode cc pc = .ok (.getfield 31, 3)) (hn : pc + 3 = n) (kk : GS Z X n lv (.ref (zb Z + q) :: rest) M) : GS Z X pc lv (.ref (zb Z + k) :: rest) M := by
  subst hq
  exact g_get 11 C E rfl inB9 (by decide) wd_846 hk rfl d hn kk
theorem wd_851 : Cond.fieldLink RX9 34 (TX9 16).1 (TX9 16).2.1 (TX9 16).2.2.1 ∈ BIG := big_t 851 (by decide +kernel) rfl
theorem gf_X9_34 {Z : ZT} {X : XT} {cc : ByteArray} {nL fr lo pc n : Nat} {lv : List (Nat × Value)} {rest : List Value} {M : Mem} {k : Nat} (q : Nat) (C : CX X cc RX9 nL fr lo) (E : EX Z (xs X)) (hk : AtO Z k 9) (hq : k + 9 = q) (d : decode cc pc = .ok (.getfield 34, 3)) (hn : pc + 3 = n) (kk : GS Z X n lv (.ref (zb Z + q) :: rest) M) : GS Z X pc lv (.ref (zb Z + k) :: rest) M := by
  subst hq
  exact g_get 16 C E rfl inB9 (by decide) wd_851 hk rfl d hn kk
theorem wd_853 : Cond.fieldLink RX9 37 (TX9 18).1 (TX9 18).2.1 (TX9 18).2.2.1 ∈ BIG := big_t 853 (by decide +kernel) rfl
theorem gf_X9_37 {Z : ZT} {X : XT} {cc : ByteArray} {nL fr lo pc n : Nat} {lv : List (Nat × Value)} {rest : List Value} {M : Mem} {k : Nat} (q : Nat) (C : CX X cc RX9 nL fr lo) (E : EX Z (xs X)) (hk : AtO Z k 9) (hq : k + 10 = q) (d : decode cc pc = .ok (.getfield 37, 3)) (hn : pc + 3 = n) (kk : GS Z X n lv (.ref (zb Z + q) :: rest) M) : GS Z X pc lv (.ref (zb Z + k) :: rest) M := by
  subst hq
  exact g_get 18 C E rfl inB9 (by decide) wd_853 hk rfl d hn kk
theorem wd_854 : Cond.fieldLink RX9 40 (TX9 19).1 (TX9 19).2.1 (TX9 19).2.2.1 ∈ BIG := big_t 854 (by decide +kernel) rfl
theorem gf_X9_40 {Z : ZT} {X : XT} {cc : ByteArray} {nL fr lo pc n : Nat} {lv : List (Nat × Value)} {rest : List Value} {M : Mem} {k : Nat} (q : Nat) (C : CX X cc RX9 nL fr lo) (E : EX Z (xs X)) (hk : AtO Z k 9) (hq : k + 11 = q) (d : decode cc pc = .ok (.getfield 40, 3)) (hn : pc + 3 = n) (kk : GS Z X n lv (.ref (zb Z + q) :: rest) M) : GS Z X pc lv (.ref (zb Z + k) :: rest) M := by
  subst hq
  exact g_get 19 C E rfl inB9 (by decide) wd_854 hk rfl d hn kk
theorem wd_855 : Cond.fieldLink RX9 43 (TX9 20).1 (TX9 20).2.1 (TX9 20).2.2.1 ∈ BIG := big_t 855 (by decide +kernel) rfl
theorem gf_X9_43 {Z : ZT} {X : XT} {cc : ByteArray} {nL fr lo pc n : Nat} {lv : List (Nat × Value)} {rest : List Value} {M : Mem} {k : Nat} (q : Nat) (C : CX X cc RX9 nL fr lo) (E : EX Z (xs X)) (hk : AtO Z k 9) (hq : k + 12 = q) (d : decode cc pc = .ok (.getfield 43, 3)) (hn : pc + 3 = n) (kk : GS Z X n lv (.ref (zb Z + q) :: rest) M) : GS Z X pc lv (.ref (zb Z + k) :: rest) M := by
  subst hq
  exact g_get 20 C E rfl inB9 (by decide) wd_855 hk rfl d hn kk
theorem wd_856 : Cond.fieldLink RX9 46 (TX9 21).1 (TX9 21).2.1 (TX9 21).2.2.1 ∈ BIG := big_t 856 (by decide +kernel) rfl
theorem gf_X9_46 {Z : ZT} {X : XT} {cc : ByteArray} {nL fr lo pc n : Nat} {lv : List (Nat × Value)} {rest : List Value} {M : Mem} {k : Nat} (q : Nat) (C : CX X cc RX9 nL fr lo) (E : EX Z (xs X)) (hk : AtO Z k 9) (hq : k + 13 = q) (d : decode cc pc = .ok (.getfield 46, 3)) (hn : pc + 3 = n) (kk : GS Z X n lv (.ref (zb Z + q) :: rest) M) : GS Z X pc lv (.ref (zb Z + k) :: rest) M := by
  subst hq
  exact g_get 21 C E rfl inB9 (by decide) wd_856 hk rfl d hn kk
theorem wd_857 : Cond.fieldLink RX9 49 (TX9 22).1 (TX9 22).2.1 (TX9 22).2.2.1 ∈ BIG := big_t 857 (by decide +kernel) rfl
theorem gf_X9_49 {Z : ZT} {X : XT} {cc : ByteArray} {nL fr lo pc n : Nat} {lv : List (Nat × Value)} {rest : List Value} {M : Mem} {k : Nat} (q : Nat) (C : CX X cc RX9 nL fr lo) (E : EX Z (xs X)) (hk : AtO Z k 9) (hq : k + 14 = q) (d : decode cc pc = .ok (.getfield 49, 3)) (hn : pc + 3 = n) (kk : GS Z X n lv (.ref (zb Z + q) :: rest) M) : GS Z X pc lv (.ref (zb Z + k) :: rest) M := by
  subst hq
  exact g_get 22 C E rfl inB9 (by decide) wd_857 hk rfl d hn kk
theorem wd_858 : Cond.fieldLink RX9 52 (TX9 23).1 (TX9 23).2.1 (TX9 23).2.2.1 ∈ BIG := big_t 858 (by decide +kernel) rfl
theorem gf_X9_52 {Z : ZT} {X : XT} {cc : ByteArray} {nL fr lo pc n : Nat} {lv : List (Nat × Value)} {rest : List Value} {M : Mem} {k : Nat} (q : Nat) (C : CX X cc RX9 nL fr lo) (E : EX Z (xs X)) (hk : AtO Z k 9) (hq : k + 15 = q) (d : decode cc pc = .ok (.getfield 52, 3)) (hn : pc + 3 = n) (kk : GS Z X n lv (.ref (zb Z + q) :: rest) M) : GS Z X pc lv (.ref (zb Z + k) :: rest) M := by
  subst hq
  exact g_get 23 C E rfl inB9 (by decide) wd_858 hk rfl d hn kk
theorem wd_838 : Cond.fieldLink RX9 69 (TX9 3).1 (TX9 3).2.1 (TX9 3).2.2.1 ∈ BIG := big_t 838 (by decide +kernel) rfl
theorem gf_X9_69 {Z : ZT} {X : XT} {cc : ByteArray} {nL fr lo pc n : Nat} {lv : List (Nat × Value)} {rest : List Value} {M : Mem} {k : Nat} (C : CX X cc RX9 nL fr lo) (E : EX Z (xs X)) (hk : AtO Z k 9) (d : decode cc pc = .ok (.getfield 69, 3)) (hn : pc + 3 = n) (kk : GS Z X n lv (.int (M k 3) :: rest) M) : GS Z X pc lv (.ref (zb Z + k) :: rest) M := g_get 3 C E rfl inB9 (by decide) wd_838 hk rfl d hn kk
theorem wd_850 : Cond.fieldLink RX9 77 (TX9 15).1 (TX9 15).2.1 (TX9 15).2.2.1 ∈ BIG := big_t 850 (by decide +kernel) rfl
theorem gf_X9_77 {Z : ZT} {X : XT} {cc : ByteArray} {nL fr lo pc n : Nat} {lv : List (Nat × Value)} {rest : List Value} {M : Mem} {k : Nat} (C : CX X cc RX9 nL fr lo) (E : EX Z (xs X)) (hk : AtO Z k 9) (d : decode cc pc = .ok (.getfield 77, 3)) (hn : pc + 3 = n) (kk : GS Z X n lv (.int (M k 15) :: rest) M) : GS Z X pc lv (.ref (zb Z + k) :: rest) M := g_get 15 C E rfl inB9 (by decide) wd_850 hk rfl d hn kk
theorem wd_852 : Cond.fieldLink RX9 80 (TX9 17).1 (TX9 17).2.1 (TX9 17).2.2.1 ∈ BIG := big_t 852 (by decide +kernel) rfl
theorem gf_X9_80 {Z : ZT} {X : XT} {cc : ByteArray} {nL fr lo pc n : Nat} {lv : List (Nat × Value)} {rest : List Value} {M : Mem} {k : Nat} (C : CX X cc RX9 nL fr lo) (E : EX Z (xs X)) (hk : AtO Z k 9) (d : decode cc pc = .ok (.getfield 80, 3)) (hn : pc + 3 = n) (kk : GS Z X n lv (.int (M k 17) :: rest) M) : GS Z X pc lv (.ref (zb Z + k) :: rest) M := g_get 17 C E rfl inB9 (by decide) wd_852 hk rfl d hn kk
theorem wd_836 : Cond.fieldLink RX9 83 (TX9 1).1 (TX9 1).2.1 (TX9 1).2.2.1 ∈ BIG := big_t 836 (by decide +kernel) rfl
theorem gf_X9_83 {Z : ZT} {X : XT} {cc : ByteArray} {nL fr lo pc n : Nat} {lv : List (Nat × Value)} {rest : List Value} {M : Mem} {k : Nat} (C : CX X cc RX9 nL fr lo) (E : EX Z (xs X)) (hk : AtO Z k 9) (d : decode cc pc = .ok (.getfield 83, 3)) (hn : pc + 3 = n) (kk : GS Z X n lv (.int (M k 1) :: rest) M) : GS Z X pc lv (.ref (zb Z + k) :: rest) M := g_get 1 C E rfl inB9 (by decide) wd_836 hk rfl d hn kk
theorem wd_837 : Cond.fieldLink RX9 86 (TX9 2).1 (TX9 2).2.1 (TX9 2).2.2.1 ∈ BIG := big_t 837 (by decide +kernel) rfl
theorem gf_X9_86 {Z : ZT} {X : XT} {cc : ByteArray} {nL fr lo pc n : Nat} {lv : List (Nat × Value)} {rest : List Value} {M : Mem} {k : Nat} (C : CX X cc RX9 nL fr lo) (E : EX Z (xs X)) (hk : AtO Z k 9) (d : decode cc pc = .ok (.getfield 86, 3)) (hn : pc + 3 = n) (kk : GS Z X n lv (.int (M k 2) :: rest) M) : GS Z X pc lv (.ref (zb Z + k) :: rest) M := g_get 2 C E rfl inB9 (by decide) wd_837 hk rfl d hn kk
theorem wd_843 : Cond.fieldLink RX9 89 (TX9 8).1 (TX9 8).2.1 (TX9 8).2.2.1 ∈ BIG := big_t 843 (by decide +kernel) rfl
theorem gf_X9_89 {Z : ZT} {X : XT} {cc : ByteArray} {nL fr lo pc n : Nat} {lv : List (Nat × Value)} {rest : List Value} {M : Mem} {k : Nat} (C : CX X cc RX9 nL fr lo) (E : EX Z (xs X)) (hk : AtO Z k 9) (d : decode cc pc = .ok (.getfield 89, 3)) (hn : pc + 3 = n) (kk : GS Z X n lv (.int (M k 8) :: rest) M) : GS Z X pc lv (.ref (zb Z + k) :: rest) M := g_get 8 C E rfl inB9 (by decide) wd_843 hk rfl d hn kk
theorem wd_847 : Cond.fieldLink RX9 96 (TX9 12).1 (TX9 12).2.1 (TX9 12).2.2.1 ∈ BIG := big_t 847 (by decide +kernel) rfl
theorem gf_X9_96 {Z : ZT} {X : XT} {cc : ByteArray} {nL fr lo pc n : Nat} {lv : List (Nat × Value)} {rest : List Value} {M : Mem} {k : Nat} (C : CX X cc RX9 nL fr lo) (E : EX Z (xs X)) (hk : AtO Z k 9) (d : decode cc pc = .ok (.getfield 96, 3)) (hn : pc + 3 = n) (kk : GS Z X n lv (.int (M k 12) :: rest) M) : GS Z X pc lv (.ref (zb Z + k) :: rest) M := g_get 12 C E rfl inB9 (by decide) wd_847 hk rfl d hn kk
theorem wd_848 : Cond.fieldLink RX9 99 (TX9 13).1 (TX9 13).2.1 (TX9 13).2.2.1 ∈ BIG := big_t 848 (by decide +kernel) rfl
theorem gf_X9_99 {Z : ZT} {X : XT} {cc : ByteArray} {nL fr lo pc n : Nat} {lv : List (Nat × Value)} {rest : List Value} {M : Mem} {k : Nat} (C : CX X cc RX9 nL fr lo) (E : EX Z (xs X)) (hk : AtO Z k 9) (d : decode cc pc = .ok (.getfield 99, 3)) (hn : pc + 3 = n) (kk : GS Z X n lv (.int (M k 13) :: rest) M) : GS Z X pc lv (.ref (zb Z + k) :: rest) M := g_get 13 C E rfl inB9 (by decide) wd_848 hk rfl d hn kk
theorem wd_849 : Cond.fieldLink RX9 102 (TX9 14).1 (TX9 14).2.1 (TX9 14).2.2.1 ∈ BIG := big_t 849 (by decide +kernel) rfl
theorem gf_X9_102 {Z : ZT} {X : XT} {cc : ByteArray} {nL fr lo pc n : Nat} {lv : List (Nat × Value)} {rest : List Value} {M : Mem} {k : Nat} (C : CX X cc RX9 nL fr lo) (E : EX Z (xs X)) (hk : AtO Z k 9) (d : decode cc pc = .ok (.getfield 102, 3)) (hn : pc + 3 = n) (kk : GS Z X n lv (.int (M k 14) :: rest) M) : GS Z X pc lv (.ref (zb Z + k) :: rest) M := g_get 14 C E rfl inB9 (by decide) wd_849 hk rfl d hn kk
theorem gp_X0_15 {Z : ZT} {X : XT} {cc : ByteArray} {nL fr lo pc n : Nat} {lv : List (Nat × Value)} {rest : List Value} {M : Mem} {k : Nat} {x : Int32} (C : CX X cc RX0 nL fr lo) (E : EX Z (xs X)) (hk : AtO Z k 0) (d : decode cc pc = .ok (.putfield 15, 3)) (hn : pc + 3 = n) (kk : ∀ M1 : Mem, M1 = mset M k 4 x → GS Z X n lv rest M1) : GS Z X pc lv (.int x :: .ref (zb Z + k) :: rest) M :=
  g_put 4 (ty := .int) C E rfl inB0 (by decide) wd_301 tyX0 tyX0_ok nmX0 rfl rfl rfl rfl (fun _ _ => rfl) (fun _ _ => Nat.le_of_ble_eq_true rfl) hk d hn kk
theorem gp_X0_19 {Z : ZT} {X : XT} {cc : ByteArray} {nL fr lo pc n : Nat} {lv : List (Nat × Value)} {rest : List Value} {M : Mem} {k : Nat} {x : Int32} (C : CX X cc RX0 nL fr lo) (E : EX Z (xs X)) (hk : AtO Z k 0) (d : decode cc pc = .ok (.putfield 19, 3)) (hn : pc + 3 = n) (kk : ∀ M1 : Mem, M1 = mset M k 5 x → GS Z X n lv rest M1) : GS Z X pc lv (.int x :: .ref (zb Z + k) :: rest) M :=
  g_put 5 (ty := .int) C E rfl inB0 (by decide) wd_302 tyX0 tyX0_ok nmX0 rfl rfl rfl rfl (fun _ _ => rfl) (fun _ _ => Nat.le_of_ble_eq_true rfl) hk d hn kk
theorem gp_X0_22 {Z : ZT} {X : XT} {cc : ByteArray} {nL fr lo pc n : Nat} {lv : List (Nat × Value)} {rest : List Value} {M : Mem} {k : Nat} {x : Int32} (C : CX X cc RX0 nL fr lo) (E : EX Z (xs X)) (hk : AtO Z k 0) (d : decode cc pc = .ok (.putfield 22, 3)) (hn : pc + 3 = n) (kk : ∀ M1 : Mem, M1 = mset M k 6 x → GS Z X n lv rest M1) : GS Z X pc lv (.int x :: .ref (zb Z + k) :: rest) M :=
  g_put 6 (ty := .int) C E rfl inB0 (by decide) wd_304 tyX0 tyX0_ok nmX0 rfl rfl rfl rfl (fun _ _ => rfl) (fun _ _ => Nat.le_of_ble_eq_true rfl) hk d hn kk
theorem gp_X1_21 {Z : ZT} {X : XT} {cc : ByteArray} {nL fr lo pc n : Nat} {lv : List (Nat × Value)} {rest : List Value} {M : Mem} {k : Nat} {x : Int32} (C : CX X cc RX1 nL fr lo) (E : EX Z (xs X)) (hk : AtO Z k 1) (d : decode cc pc = .ok (.putfield 21, 3)) (hn : pc + 3 = n) (kk : ∀ M1 : Mem, M1 = mset M k 6 x → GS Z X n lv rest M1) : GS Z X pc lv (.int x :: .ref (zb Z + k) :: rest) M :=
  g_put 6 (ty := .int) C E rfl inB1 (by decide) wd_222 tyX1 tyX1_ok nmX1 rfl rfl rfl rfl (fun _ _ => rfl) (fun _ _ => Nat.le_of_ble_eq_true rfl) hk d hn kk
theorem gp_X1_25 {Z : ZT} {X : XT} {cc : ByteArray} {nL fr lo pc n : Nat} {lv : List (Nat × Value)} {rest : List Value} {M : Mem} {k : Nat} {x : Int32} (C : CX X cc RX1 nL fr lo) (E : EX Z (xs X)) (hk : AtO Z k 1) (d : decode cc pc = .ok (.putfield 25, 3)) (hn : pc + 3 = n) (kk : ∀ M1 : Mem, M1 = mset M k 7 x → GS Z X n lv rest M1) : GS Z X pc lv (.int x :: .ref (zb Z + k) :: rest) M :=
  g_put 7 (ty := .int) C E rfl inB1 (by decide) wd_223 tyX1 tyX1_ok nmX1 rfl rfl rfl rfl (fun _ _ => rfl) (fun _ _ => Nat.le_of_ble_eq_true rfl) hk d hn kk
theorem gp_X1_28 {Z : ZT} {X : XT} {cc : ByteArray} {nL fr lo pc n : Nat} {lv : List (Nat × Value)} {rest : List Value} {M : Mem} {k : Nat} {x : Int32} (C : CX X cc RX1 nL fr lo) (E : EX Z (xs X)) (hk : AtO Z k 1) (d : decode cc pc = .ok (.putfield 28, 3)) (hn : pc + 3 = n) (kk : ∀ M1 : Mem, M1 = mset M k 8 x → GS Z X n lv rest M1) : GS Z X pc lv (.int x :: .ref (zb Z + k) :: rest) M :=
  g_put 8 (ty := .int) C E rfl inB1 (by decide) wd_224 tyX1 tyX1_ok nmX1 rfl rfl rfl rfl (fun _ _ => rfl) (fun _ _ => Nat.le_of_ble_eq_true rfl) hk d hn kk
theorem gp_X1_31 {Z : ZT} {X : XT} {cc : ByteArray} {nL fr lo pc n : Nat} {lv : List (Nat × Value)} {rest : List Value} {M : Mem} {k : Nat} {x : Int32} (C : CX X cc RX1 nL fr lo) (E : EX Z (xs X)) (hk : AtO Z k 1) (d : decode cc pc = .ok (.putfield 31, 3)) (hn : pc + 3 = n) (kk : ∀ M1 : Mem, M1 = mset M k 9 x → GS Z X n lv rest M1) : GS Z X pc lv (.int x :: .ref (zb Z + k) :: rest) M :=
  g_put 9 (ty := .int) C E rfl inB1 (by decide) wd_225 tyX1 tyX1_ok nmX1 rfl rfl rfl rfl (fun _ _ => rfl) (fun _ _ => Nat.le_of_ble_eq_true rfl) hk d hn kk
theorem gp_X1_34 {Z : ZT} {X : XT} {cc : ByteArray} {nL fr lo pc n : Nat} {lv : List (Nat × Value)} {rest : List Value} {M : Mem} {k : Nat} {x : Int32} (C : CX X cc RX1 nL fr lo) (E : EX Z (xs X)) (hk : AtO Z k 1) (hz : narrow .boolean (.int x) = .int x) (hz2 : fits .boolean (.int x) = true) (d : decode cc pc = .ok (.putfield 34, 3)) (hn : pc + 3 = n) (kk : ∀ M1 : Mem, M1 = mset M k 10 x → GS Z X n lv rest M1) : GS Z X pc lv (.int x :: .ref (zb Z + k) :: rest) M :=
  g_put 10 (ty := .boolean) C E rfl inB1 (by decide) wd_227 tyX1 tyX1_ok nmX1 rfl rfl hz hz2 (fun _ _ => rfl) (fun _ _ => Nat.le_of_ble_eq_true rfl) hk d hn kk
theorem gp_X2_33 {Z : ZT} {X : XT} {cc : ByteArray} {nL fr lo pc n : Nat} {lv : List (Nat × Value)} {rest : List Value} {M : Mem} {k : Nat} {x : Int32} (C : CX X cc RX2 nL fr lo) (E : EX Z (xs X)) (hk : AtO Z k 2) (d : decode cc pc = .ok (.putfield 33, 3)) (hn : pc + 3 = n) (kk : ∀ M1 : Mem, M1 = mset M k 8 x → GS Z X n lv rest M1) : GS Z X pc lv (.int x :: .ref (zb Z + k) :: rest) M :=
  g_put 8 (ty := .int) C E rfl inB2 (by decide) wd_120 tyX2 tyX2_ok nmX2 rfl rfl rfl rfl (fun _ _ => rfl) (fun _ _ => Nat.le_of_ble_eq_true rfl) hk d hn kk
theorem gp_X2_37 {Z : ZT} {X : XT} {cc : ByteArray} {nL fr lo pc n : Nat} {lv : List (Nat × Value)} {rest : List Value} {M : Mem} {k : Nat} {x : Int32} (C : CX X cc RX2 nL fr lo) (E : EX Z (xs X)) (hk : AtO Z k 2) (d : decode cc pc = .ok (.putfield 37, 3)) (hn : pc + 3 = n) (kk : ∀ M1 : Mem, M1 = mset M k 9 x → GS Z X n lv rest M1) : GS Z X pc lv (.int x :: .ref (zb Z + k) :: rest) M :=
  g_put 9 (ty := .int) C E rfl inB2 (by decide) wd_123 tyX2 tyX2_ok nmX2 rfl rfl rfl rfl (fun _ _ => rfl) (fun _ _ => Nat.le_of_ble_eq_true rfl) hk d hn kk
theorem gp_X3_27 {Z : ZT} {X : XT} {cc : ByteArray} {nL fr lo pc n : Nat} {lv : List (Nat × Value)} {rest : List Value} {M : Mem} {k : Nat} {x : Int32} (C : CX X cc RX3 nL fr lo) (E : EX Z (xs X)) (hk : AtO Z k 3) (d : decode cc pc = .ok (.putfield 27, 3)) (hn : pc + 3 = n) (kk : ∀ M1 : Mem, M1 = mset M k 6 x → GS Z X n lv rest M1) : GS Z X pc lv (.int x :: .ref (zb Z + k) :: rest) M :=
  g_put 6 (ty := .int) C E rfl inB3 (by decide) wd_162 tyX3 tyX3_ok nmX3 rfl rfl rfl rfl (fun _ _ => rfl) (fun _ _ => Nat.le_of_ble_eq_true rfl) hk d hn kk
theorem gp_X3_31 {Z : ZT} {X : XT} {cc : ByteArray} {nL fr lo pc n : Nat} {lv : List (Nat × Value)} {rest : List Value} {M : Mem} {k : Nat} {x : Int32} (C : CX X cc RX3 nL fr lo) (E : EX Z (xs X)) (hk : AtO Z k 3) (d : decode cc pc = .ok (.putfield 31, 3)) (hn : pc + 3 = n) (kk : ∀ M1 : Mem, M1 = mset M k 7 x → GS Z X n lv rest M1) : GS Z X pc lv (.int x :: .ref (zb Z + k) :: rest) M :=
  g_put 7 (ty := .int) C E rfl inB3 (by decide) wd_163 tyX3 tyX3_ok nmX3 rfl rfl rfl rfl (fun _ _ => rfl) (fun _ _ => Nat.le_of_ble_eq_true rfl) hk d hn kk
theorem gp_X3_34 {Z : ZT} {X : XT} {cc : ByteArray} {nL fr lo pc n : Nat} {lv : List (Nat × Value)} {rest : List Value} {M : Mem} {k : Nat} {x : Int32} (C : CX X cc RX3 nL fr lo) (E : EX Z (xs X)) (hk : AtO Z k 3) (d : decode cc pc = .ok (.putfield 34, 3)) (hn : pc + 3 = n) (kk : ∀ M1 : Mem, M1 = mset M k 8 x → GS Z X n lv rest M1) : GS Z X pc lv (.int x :: .ref (zb Z + k) :: rest) M :=
  g_put 8 (ty := .int) C E rfl inB3 (by decide) wd_164 tyX3 tyX3_ok nmX3 rfl rfl rfl rfl (fun _ _ => rfl) (fun _ _ => Nat.le_of_ble_eq_true rfl) hk d hn kk
theorem gp_X4_30 {Z : ZT} {X : XT} {cc : ByteArray} {nL fr lo pc n : Nat} {lv : List (Nat × Value)} {rest : List Value} {M : Mem} {k : Nat} {x : Int32} (C : CX X cc RX4 nL fr lo) (E : EX Z (xs X)) (hk : AtO Z k 4) (d : decode cc pc = .ok (.putfield 30, 3)) (hn : pc + 3 = n) (kk : ∀ M1 : Mem, M1 = mset M k 6 x → GS Z X n lv rest M1) : GS Z X pc lv (.int x :: .ref (zb Z + k) :: rest) M :=
  g_put 6 (ty := .int) C E rfl inB4 (by decide) wd_68 tyX4 tyX4_ok nmX4 rfl rfl rfl rfl (fun _ _ => rfl) (fun _ _ => Nat.le_of_ble_eq_true rfl) hk d hn kk
theorem gp_X4_34 {Z : ZT} {X : XT} {cc : ByteArray} {nL fr lo pc n : Nat} {lv : List (Nat × Value)} {rest : List Value} {M : Mem} {k : Nat} {x : Int32} (C : CX X cc RX4 nL fr lo) (E : EX Z (xs X)) (hk : AtO Z k 4) (d : decode cc pc = .ok (.putfield 34, 3)) (hn : pc + 3 = n) (kk : ∀ M1 : Mem, M1 = mset M k 7 x → GS Z X n lv rest M1) : GS Z X pc lv (.int x :: .ref (zb Z + k) :: rest) M :=
  g_put 7 (ty := .int) C E rfl inB4 (by decide) wd_75 tyX4 tyX4_ok nmX4 rfl rfl rfl rfl (fun _ _ => rfl) (fun _ _ => Nat.le_of_ble_eq_true rfl) hk d hn kk
theorem gp_X5_18 {Z : ZT} {X : XT} {cc : ByteArray} {nL fr lo pc n : Nat} {lv : List (Nat × Value)} {rest : List Value} {M : Mem} {k : Nat} {x : Int32} (C : CX X cc RX5 nL fr lo) (E : EX Z (xs X)) (hk : AtO Z k 5) (d : decode cc pc = .ok (.putfield 18, 3)) (hn : pc + 3 = n) (kk : ∀ M1 : Mem, M1 = mset M k 2 x → GS Z X n lv rest M1) : GS Z X pc lv (.int x :: .ref (zb Z + k) :: rest) M :=
  g_put 2 (ty := .int) C E rfl inB5 (by decide) wd_32 tyX5 tyX5_ok nmX5 rfl rfl rfl rfl (fun _ _ => rfl) (fun _ _ => Nat.le_of_ble_eq_true rfl) hk d hn kk
theorem gp_X6_7 {Z : ZT} {X : XT} {cc : ByteArray} {nL fr lo pc n : Nat} {lv : List (Nat × Value)} {rest : List Value} {M : Mem} {k : Nat} {x : Int32} (C : CX X cc RX6 nL fr lo) (E : EX Z (xs X)) (hk : AtO Z k 6) (d : decode cc pc = .ok (.putfield 7, 3)) (hn : pc + 3 = n) (kk : ∀ M1 : Mem, M1 = mset M k 1 x → GS Z X n lv rest M1) : GS Z X pc lv (.int x :: .ref (zb Z + k) :: rest) M :=
  g_put 1 (ty := .int) C E rfl inB6 (by decide) wd_199 tyX6 tyX6_ok nmX6 rfl rfl rfl rfl (fun _ _ => rfl) (fun _ _ => Nat.le_of_ble_eq_true rfl) hk d hn kk
theorem gp_X7_27 {Z : ZT} {X : XT} {cc : ByteArray} {nL fr lo pc n : Nat} {lv : List (Nat × Value)} {rest : List Value} {M : Mem} {k : Nat} {x : Int32} (C : CX X cc RX7 nL fr lo) (E : EX Z (xs X)) (hk : AtO Z k 7) (d : decode cc pc = .ok (.putfield 27, 3)) (hn : pc + 3 = n) (kk : ∀ M1 : Mem, M1 = mset M k 6 x → GS Z X n lv rest M1) : GS Z X pc lv (.int x :: .ref (zb Z + k) :: rest) M :=
  g_put 6 (ty := .int) C E rfl inB7 (by decide) wd_263 tyX7 tyX7_ok nmX7 rfl rfl rfl rfl (fun _ _ => rfl) (fun _ _ => Nat.le_of_ble_eq_true rfl) hk d hn kk
theorem gp_X7_31 {Z : ZT} {X : XT} {cc : ByteArray} {nL fr lo pc n : Nat} {lv : List (Nat × Value)} {rest : List Value} {M : Mem} {k : Nat} {x : Int32} (C : CX X cc RX7 nL fr lo) (E : EX Z (xs X)) (hk : AtO Z k 7) (d : decode cc pc = .ok (.putfield 31, 3)) (hn : pc + 3 = n) (kk : ∀ M1 : Mem, M1 = mset M k 7 x → GS Z X n lv rest M1) : GS Z X pc lv (.int x :: .ref (zb Z + k) :: rest) M :=
  g_put 7 (ty := .int) C E rfl inB7 (by decide) wd_265 tyX7 tyX7_ok nmX7 rfl rfl rfl rfl (fun _ _ => rfl) (fun _ _ => Nat.le_of_ble_eq_true rfl) hk d hn kk
theorem gp_X7_34 {Z : ZT} {X : XT} {cc : ByteArray} {nL fr lo pc n : Nat} {lv : List (Nat × Value)} {rest : List Value} {M : Mem} {k : Nat} {x : Int32} (C : CX X cc RX7 nL fr lo) (E : EX Z (xs X)) (hk : AtO Z k 7) (hz : narrow .boolean (.int x) = .int x) (hz2 : fits .boolean (.int x) = true) (d : decode cc pc = .ok (.putfield 34, 3)) (hn : pc + 3 = n) (kk : ∀ M1 : Mem, M1 = mset M k 8 x → GS Z X n lv rest M1) : GS Z X pc lv (.int x :: .ref (zb Z + k) :: rest) M :=
  g_put 8 (ty := .boolean) C E rfl inB7 (by decide) wd_267 tyX7 tyX7_ok nmX7 rfl rfl hz hz2 (fun _ _ => rfl) (fun _ _ => Nat.le_of_ble_eq_true rfl) hk d hn kk
theorem gp_X9_69 {Z : ZT} {X : XT} {cc : ByteArray} {nL fr lo pc n : Nat} {lv : List (Nat × Value)} {rest : List Value} {M : Mem} {k : Nat} {x : Int32} (C : CX X cc RX9 nL fr lo) (E : EX Z (xs X)) (hk : AtO Z k 9) (d : decode cc pc = .ok (.putfield 69, 3)) (hn : pc + 3 = n) (kk : ∀ M1 : Mem, M1 = mset M k 3 x → GS Z X n lv rest M1) : GS Z X pc lv (.int x :: .ref (zb Z + k) :: rest) M :=
  g_put 3 (ty := .int) C E rfl inB9 (by decide) wd_838 tyX9 tyX9_ok nmX9 rfl rfl rfl rfl (fun _ _ => rfl) (fun _ _ => Nat.le_of_ble_eq_true rfl) hk d hn kk
theorem gp_X9_77 {Z : ZT} {X : XT} {cc : ByteArray} {nL fr lo pc n : Nat} {lv : List (Nat × Value)} {rest : List Value} {M : Mem} {k : Nat} {x : Int32} (C : CX X cc RX9 nL fr lo) (E : EX Z (xs X)) (hk : AtO Z k 9) (d : decode cc pc = .ok (.putfield 77, 3)) (hn : pc + 3 = n) (kk : ∀ M1 : Mem, M1 = mset M k 15 x → GS Z X n lv rest M1) : GS Z X pc lv (.int x :: .ref (zb Z + k) :: rest) M :=
  g_put 15 (ty := .int) C E rfl inB9 (by decide) wd_850 tyX9 tyX9_ok nmX9 rfl rfl rfl rfl (fun _ _ => rfl) (fun _ _ => Nat.le_of_ble_eq_true rfl) hk d hn kk
theorem gp_X9_80 {Z : ZT} {X : XT} {cc : ByteArray} {nL fr lo pc n : Nat} {lv : List (Nat × Value)} {rest : List Value} {M : Mem} {k : Nat} {x : Int32} (C : CX X cc RX9 nL fr lo) (E : EX Z (xs X)) (hk : AtO Z k 9) (d : decode cc pc = .ok (.putfield 80, 3)) (hn : pc + 3 = n) (kk : ∀ M1 : Mem, M1 = mset M k 17 x → GS Z X n lv rest M1) : GS Z X pc lv (.int x :: .ref (zb Z + k) :: rest) M :=
  g_put 17 (ty := .int) C E rfl inB9 (by decide) wd_852 tyX9 tyX9_ok nmX9 rfl rfl rfl rfl (fun _ _ => rfl) (fun _ _ => Nat.le_of_ble_eq_true rfl) hk d hn kk
theorem gp_X9_83 {Z : ZT} {X : XT} {cc : ByteArray} {nL fr lo pc n : Nat} {lv : List (Nat × Value)} {rest : List Value} {M : Mem} {k : Nat} {x : Int32} (C : CX X cc RX9 nL fr lo) (E : EX Z (xs X)) (hk : AtO Z k 9) (d : decode cc pc = .ok (.putfield 83, 3)) (hn : pc + 3 = n) (kk : ∀ M1 : Mem, M1 = mset M k 1 x → GS Z X n lv rest M1) : GS Z X pc lv (.int x :: .ref (zb Z + k) :: rest) M :=
  g_put 1 (ty := .int) C E rfl inB9 (by decide) wd_836 tyX9 tyX9_ok nmX9 rfl rfl rfl rfl (fun _ _ => rfl) (fun _ _ => Nat.le_of_ble_eq_true rfl) hk d hn kk
theorem gp_X9_86 {Z : ZT} {X : XT} {cc : ByteArray} {nL fr lo pc n : Nat} {lv : List (Nat × Value)} {rest : List Value} {M : Mem} {k : Nat} {x : Int32} (C : CX X cc RX9 nL fr lo) (E : EX Z (xs X)) (hk : AtO Z k 9) (d : decode cc pc = .ok (.putfield 86, 3)) (hn : pc + 3 = n) (kk : ∀ M1 : Mem, M1 = mset M k 2 x → GS Z X n lv rest M1) : GS Z X pc lv (.int x :: .ref (zb Z + k) :: rest) M :=
  g_put 2 (ty := .int) C E rfl inB9 (by decide) wd_837 tyX9 tyX9_ok nmX9 rfl rfl rfl rfl (fun _ _ => rfl) (fun _ _ => Nat.le_of_ble_eq_true rfl) hk d hn kk
theorem gp_X9_89 {Z : ZT} {X : XT} {cc : ByteArray} {nL fr lo pc n : Nat} {lv : List (Nat × Value)} {rest : List Value} {M : Mem} {k : Nat} {x : Int32} (C : CX X cc RX9 nL fr lo) (E : EX Z (xs X)) (hk : AtO Z k 9) (d : decode cc pc = .ok (.putfield 89, 3)) (hn : pc + 3 = n) (kk : ∀ M1 : Mem, M1 = mset M k 8 x → GS Z X n lv rest M1) : GS Z X pc lv (.int x :: .ref (zb Z + k) :: rest) M :=
  g_put 8 (ty := .int) C E rfl inB9 (by decide) wd_843 tyX9 tyX9_ok nmX9 rfl rfl rfl rfl (fun _ _ => rfl) (fun _ _ => Nat.le_of_ble_eq_true rfl) hk d hn kk
theorem gp_X9_96 {Z : ZT} {X : XT} {cc : ByteArray} {nL fr lo pc n : Nat} {lv : List (Nat × Value)} {rest : List Value} {M : Mem} {k : Nat} {x : Int32} (C : CX X cc RX9 nL fr lo) (E : EX Z (xs X)) (hk : AtO Z k 9) (d : decode cc pc = .ok (.putfield 96, 3)) (hn : pc + 3 = n) (kk : ∀ M1 : Mem, M1 = mset M k 12 x → GS Z X n lv rest M1) : GS Z X pc lv (.int x :: .ref (zb Z + k) :: rest) M :=
  g_put 12 (ty := .int) C E rfl inB9 (by decide) wd_847 tyX9 tyX9_ok nmX9 rfl rfl rfl rfl (fun _ _ => rfl) (fun _ _ => Nat.le_of_ble_eq_true rfl) hk d hn kk
theorem gp_X9_99 {Z : ZT} {X : XT} {cc : ByteArray} {nL fr lo pc n : Nat} {lv : List (Nat × Value)} {rest : List Value} {M : Mem} {k : Nat} {x : Int32} (C : CX X cc RX9 nL fr lo) (E : EX Z (xs X)) (hk : AtO Z k 9) (d : decode cc pc = .ok (.putfield 99, 3)) (hn : pc + 3 = n) (kk : ∀ M1 : Mem, M1 = mset M k 13 x → GS Z X n lv rest M1) : GS Z X pc lv (.int x :: .ref (zb Z + k) :: rest) M :=
  g_put 13 (ty := .int) C E rfl inB9 (by decide) wd_848 tyX9 tyX9_ok nmX9 rfl rfl rfl rfl (fun _ _ => rfl) (fun _ _ => Nat.le_of_ble_eq_true rfl) hk d hn kk
theorem gp_X9_102 {Z : ZT} {X : XT} {cc : ByteArray} {nL fr lo pc n : Nat} {lv : List (Nat × Value)} {rest : List Value} {M : Mem} {k : Nat} {x : Int32} (C : CX X cc RX9 nL fr lo) (E : EX Z (xs X)) (hk : AtO Z k 9) (d : decode cc pc = .ok (.putfield 102, 3)) (hn : pc + 3 = n) (kk : ∀ M1 : Mem, M1 = mset M k 14 x → GS Z X n lv rest M1) : GS Z X pc lv (.int x :: .ref (zb Z + k) :: rest) M :=
  g_put 14 (ty := .int) C E rfl inB9 (by decide) wd_849 tyX9 tyX9_ok nmX9 rfl rfl rfl rfl (fun _ _ => rfl) (fun _ _ => Nat.le_of_ble_eq_true rfl) hk d hn kk
