/-! ===== where things lie ===== -/
theorem mx_olt {h ci : Nat} (hc : ci ≠ 99) (ho : mx_ocl LAY h = ci) : h < 139 := by
  have h1 := (List.getElem?_eq_some_iff.mp (mx_ocl_at hc ho)).1
  have h2 : LAY.length = 139 := by decide +kernel
  omega
theorem oc_0 : mx_ocl LAY 0 = 9 := by decide +kernel
theorem oc_1 : mx_ocl LAY 1 = 5 := by decide +kernel
theorem ln_2 : mx_len LAY false 2 = 8 := by decide +kernel
theorem ln_3 : mx_len LAY false 3 = 8 := by decide +kernel
theorem ln_4 : mx_len LAY false 4 = 320 := by decide +kernel
theorem oc_5 : mx_ocl LAY 5 = 8 := by decide +kernel
theorem ln_6 : mx_len LAY false 6 = 80 := by decide +kernel
theorem oc_7 : mx_ocl LAY 7 = 3 := by decide +kernel
theorem ln_8 : mx_len LAY false 8 = 8 := by decide +kernel
theorem ln_9 : mx_len LAY false 9 = 8 := by decide +kernel
theorem ln_10 : mx_len LAY false 10 = 8 := by decide +kernel
theorem oc_11 : mx_ocl LAY 11 = 3 := by decide +kernel
theorem ln_12 : mx_len LAY false 12 = 8 := by decide +kernel
theorem ln_13 : mx_len LAY false 13 = 8 := by decide +kernel
theorem ln_14 : mx_len LAY false 14 = 8 := by decide +kernel
theorem oc_15 : mx_ocl LAY 15 = 3 := by decide +kernel
theorem ln_16 : mx_len LAY false 16 = 8 := by decide +kernel
theorem ln_17 : mx_len LAY false 17 = 8 := by decide +kernel
theorem ln_18 : mx_len LAY false 18 = 8 := by decide +kernel
theorem oc_19 : mx_ocl LAY 19 = 3 := by decide +kernel
theorem ln_20 : mx_len LAY false 20 = 8 := by decide +kernel
theorem ln_21 : mx_len LAY false 21 = 8 := by decide +kernel
theorem ln_22 : mx_len LAY false 22 = 8 := by decide +kernel
theorem oc_23 : mx_ocl LAY 23 = 0 := by decide +kernel
theorem ln_24 : mx_len LAY false 24 = 24 := by decide +kernel
theorem ln_25 : mx_len LAY false 25 = 24 := by decide +kernel
theorem ln_26 : mx_len LAY false 26 = 24 := by decide +kernel
theorem ln_27 : mx_len LAY false 27 = 24 := by decide +kernel
theorem oc_28 : mx_ocl LAY 28 = 2 := by decide +kernel
theorem oc_29 : mx_ocl LAY 29 = 3 := by decide +kernel
theorem ln_30 : mx_len LAY false 30 = 8 := by decide +kernel
theorem ln_31 : mx_len LAY false 31 = 8 := by decide +kernel
theorem ln_32 : mx_len LAY false 32 = 8 := by decide +kernel
theorem oc_33 : mx_ocl LAY 33 = 6 := by decide +kernel
theorem ln_34 : mx_len LAY false 34 = 256 := by decide +kernel
theorem ln_35 : mx_len LAY false 35 = 256 := by decide +kernel
theorem oc_36 : mx_ocl LAY 36 = 7 := by decide +kernel
theorem ln_37 : mx_len LAY false 37 = 256 := by decide +kernel
theorem ln_38 : mx_len LAY false 38 = 256 := by decide +kernel
theorem oc_39 : mx_ocl LAY 39 = 6 := by decide +kernel
theorem ln_40 : mx_len LAY false 40 = 256 := by decide +kernel
theorem ln_41 : mx_len LAY false 41 = 256 := by decide +kernel
theorem oc_42 : mx_ocl LAY 42 = 6 := by decide +kernel
theorem ln_43 : mx_len LAY false 43 = 256 := by decide +kernel
theorem ln_44 : mx_len LAY false 44 = 256 := by decide +kernel
theorem oc_45 : mx_ocl LAY 45 = 7 := by decide +kernel
theorem ln_46 : mx_len LAY false 46 = 256 := by decide +kernel
theorem ln_47 : mx_len LAY false 47 = 256 := by decide +kernel
theorem oc_48 : mx_ocl LAY 48 = 6 := by decide +kernel
theorem ln_49 : mx_len LAY false 49 = 256 := by decide +kernel
theorem ln_50 : mx_len LAY false 50 = 256 := by decide +kernel
theorem oc_51 : mx_ocl LAY 51 = 6 := by decide +kernel
theorem ln_52 : mx_len LAY false 52 = 256 := by decide +kernel
theorem ln_53 : mx_len LAY false 53 = 256 := by decide +kernel
theorem oc_54 : mx_ocl LAY 54 = 6 := by decide +kernel
theorem ln_55 : mx_len LAY false 55 = 256 := by decide +kernel
theorem ln_56 : mx_len LAY false 56 = 256 := by decide +kernel
theorem oc_57 : mx_ocl LAY 57 = 6 := by decide +kernel
theorem ln_58 : mx_len LAY false 58 = 256 := by decide +kernel
theorem ln_59 : mx_len LAY false 59 = 256 := by decide +kernel
theorem ln_60 : mx_len LAY false 60 = 256 := by decide +kernel
theorem ln_61 : mx_len LAY false 61 = 256 := by decide +kernel
theorem ln_62 : mx_len LAY false 62 = 256 := by decide +kernel
theorem ln_63 : mx_len LAY false 63 = 8 := by decide +kernel
theorem ln_64 : mx_len LAY false 64 = 8 := by decide +kernel
theorem oc_65 : mx_ocl LAY 65 = 2 := by decide +kernel
theorem oc_66 : mx_ocl LAY 66 = 3 := by decide +kernel
theorem ln_67 : mx_len LAY false 67 = 8 := by decide +kernel
theorem ln_68 : mx_len LAY false 68 = 8 := by decide +kernel
theorem ln_69 : mx_len LAY false 69 = 8 := by decide +kernel
theorem oc_70 : mx_ocl LAY 70 = 6 := by decide +kernel
theorem ln_71 : mx_len LAY false 71 = 256 := by decide +kernel
theorem ln_72 : mx_len LAY false 72 = 256 := by decide +kernel
theorem oc_73 : mx_ocl LAY 73 = 7 := by decide +kernel
theorem ln_74 : mx_len LAY false 74 = 256 := by decide +kernel
theorem ln_75 : mx_len LAY false 75 = 256 := by decide +kernel
theorem oc_76 : mx_ocl LAY 76 = 6 := by decide +kernel
theorem ln_77 : mx_len LAY false 77 = 256 := by decide +kernel
theorem ln_78 : mx_len LAY false 78 = 256 := by decide +kernel
theorem oc_79 : mx_ocl LAY 79 = 6 := by decide +kernel
theorem ln_80 : mx_len LAY false 80 = 256 := by decide +kernel
theorem ln_81 : mx_len LAY false 81 = 256 := by decide +kernel
theorem oc_82 : mx_ocl LAY 82 = 7 := by decide +kernel
theorem ln_83 : mx_len LAY false 83 = 256 := by decide +kernel
theorem ln_84 : mx_len LAY false 84 = 256 := by decide +kernel
theorem oc_85 : mx_ocl LAY 85 = 6 := by decide +kernel
theorem ln_86 : mx_len LAY false 86 = 256 := by decide +kernel
theorem ln_87 : mx_len LAY false 87 = 256 := by decide +kernel
theorem oc_88 : mx_ocl LAY 88 = 6 := by decide +kernel
theorem ln_89 : mx_len LAY false 89 = 256 := by decide +kernel
theorem ln_90 : mx_len LAY false 90 = 256 := by decide +kernel
theorem oc_91 : mx_ocl LAY 91 = 6 := by decide +kernel
theorem ln_92 : mx_len LAY false 92 = 256 := by decide +kernel
theorem ln_93 : mx_len LAY false 93 = 256 := by decide +kernel
theorem oc_94 : mx_ocl LAY 94 = 6 := by decide +kernel
theorem ln_95 : mx_len LAY false 95 = 256 := by decide +kernel
theorem ln_96 : mx_len LAY false 96 = 256 := by decide +kernel
theorem ln_97 : mx_len LAY false 97 = 256 := by decide +kernel
theorem ln_98 : mx_len LAY false 98 = 256 := by decide +kernel
theorem ln_99 : mx_len LAY false 99 = 256 := by decide +kernel
theorem ln_100 : mx_len LAY false 100 = 8 := by decide +kernel
theorem ln_101 : mx_len LAY false 101 = 8 := by decide +kernel
theorem oc_102 : mx_ocl LAY 102 = 4 := by decide +kernel
theorem ln_103 : mx_len LAY false 103 = 32 := by decide +kernel
theorem ln_104 : mx_len LAY false 104 = 4 := by decide +kernel
theorem oc_105 : mx_ocl LAY 105 = 6 := by decide +kernel
theorem ln_106 : mx_len LAY false 106 = 256 := by decide +kernel
theorem ln_107 : mx_len LAY false 107 = 256 := by decide +kernel
theorem oc_108 : mx_ocl LAY 108 = 6 := by decide +kernel
theorem ln_109 : mx_len LAY false 109 = 256 := by decide +kernel
theorem ln_110 : mx_len LAY false 110 = 256 := by decide +kernel
theorem oc_111 : mx_ocl LAY 111 = 6 := by decide +kernel
theorem ln_112 : mx_len LAY false 112 = 256 := by decide +kernel
theorem ln_113 : mx_len LAY false 113 = 256 := by decide +kernel
theorem oc_114 : mx_ocl LAY 114 = 6 := by decide +kernel
theorem ln_115 : mx_len LAY false 115 = 256 := by decide +kernel
theorem ln_116 : mx_len LAY false 116 = 256 := by decide +kernel
theorem oc_117 : mx_ocl LAY 117 = 1 := by decide +kernel
theorem ln_118 : mx_len LAY false 118 = 16 := by decide +kernel
theorem oc_119 : mx_ocl LAY 119 = 10 := by decide +kernel
theorem ln_120 : mx_len LAY false 120 = 8 := by decide +kernel
theorem ln_121 : mx_len LAY false 121 = 8 := by decide +kernel
theorem ln_122 : mx_len LAY false 122 = 320 := by decide +kernel
theorem ln_123 : mx_len LAY false 123 = 26 := by decide +kernel
theorem ln_124 : mx_len LAY false 124 = 26 := by decide +kernel
theorem ln_125 : mx_len LAY false 125 = 26 := by decide +kernel
theorem ln_126 : mx_len LAY false 126 = 624 := by decide +kernel
theorem ln_127 : mx_len LAY false 127 = 80 := by decide +kernel
theorem ln_128 : mx_len LAY false 128 = 256 := by decide +kernel
theorem ln_129 : mx_len LAY false 129 = 256 := by decide +kernel
theorem ln_130 : mx_len LAY false 130 = 256 := by decide +kernel
theorem ln_131 : mx_len LAY true 131 = 512 := by decide +kernel
theorem ln_132 : mx_len LAY true 132 = 512 := by decide +kernel
theorem ln_133 : mx_len LAY false 133 = 26 := by decide +kernel
theorem ln_134 : mx_len LAY false 134 = 256 := by decide +kernel
theorem ln_135 : mx_len LAY false 135 = 256 := by decide +kernel
theorem ln_136 : mx_len LAY true 136 = 2 := by decide +kernel
theorem ln_137 : mx_len LAY false 137 = 52 := by decide +kernel
theorem ln_138 : mx_len LAY false 138 = 16 := by decide +kernel
theorem ln_Acts_types {h : Nat} (ho : mx_ocl LAY h = 0) : mx_len LAY false (h + 1) = 24 := (by decide +kernel : ∀ h, h < 139 → mx_ocl LAY h = 0 → mx_len LAY false (h + 1) = 24) h (mx_olt (by decide) ho) ho
theorem ln_Acts_sorts {h : Nat} (ho : mx_ocl LAY h = 0) : mx_len LAY false (h + 2) = 24 := (by decide +kernel : ∀ h, h < 139 → mx_ocl LAY h = 0 → mx_len LAY false (h + 2) = 24) h (mx_olt (by decide) ho) ho
theorem ln_Acts_firsts {h : Nat} (ho : mx_ocl LAY h = 0) : mx_len LAY false (h + 3) = 24 := (by decide +kernel : ∀ h, h < 139 → mx_ocl LAY h = 0 → mx_len LAY false (h + 3) = 24) h (mx_olt (by decide) ho) ho
theorem ln_Acts_seconds {h : Nat} (ho : mx_ocl LAY h = 0) : mx_len LAY false (h + 4) = 24 := (by decide +kernel : ∀ h, h < 139 → mx_ocl LAY h = 0 → mx_len LAY false (h + 4) = 24) h (mx_olt (by decide) ho) ho
theorem ln_Asks_numbers {h : Nat} (ho : mx_ocl LAY h = 1) : mx_len LAY false (h + 1) = 16 := (by decide +kernel : ∀ h, h < 139 → mx_ocl LAY h = 1 → mx_len LAY false (h + 1) = 16) h (mx_olt (by decide) ho) ho
theorem oc_Cells_house {h : Nat} (ho : mx_ocl LAY h = 2) : mx_ocl LAY (h + 1) = 3 := (by decide +kernel : ∀ h, h < 139 → mx_ocl LAY h = 2 → mx_ocl LAY (h + 1) = 3) h (mx_olt (by decide) ho) ho
theorem oc_Cells_found {h : Nat} (ho : mx_ocl LAY h = 2) : mx_ocl LAY (h + 5) = 6 := (by decide +kernel : ∀ h, h < 139 → mx_ocl LAY h = 2 → mx_ocl LAY (h + 5) = 6) h (mx_olt (by decide) ho) ho
theorem oc_Cells_ofPairs {h : Nat} (ho : mx_ocl LAY h = 2) : mx_ocl LAY (h + 8) = 7 := (by decide +kernel : ∀ h, h < 139 → mx_ocl LAY h = 2 → mx_ocl LAY (h + 8) = 7) h (mx_olt (by decide) ho) ho
theorem oc_Cells_ofCases {h : Nat} (ho : mx_ocl LAY h = 2) : mx_ocl LAY (h + 17) = 7 := (by decide +kernel : ∀ h, h < 139 → mx_ocl LAY h = 2 → mx_ocl LAY (h + 17) = 7) h (mx_olt (by decide) ho) ho
theorem oc_Cells_pairSets {h : Nat} (ho : mx_ocl LAY h = 2) : mx_ocl LAY (h + 26) = 6 := (by decide +kernel : ∀ h, h < 139 → mx_ocl LAY h = 2 → mx_ocl LAY (h + 26) = 6) h (mx_olt (by decide) ho) ho
theorem oc_Cells_missed {h : Nat} (ho : mx_ocl LAY h = 2) : mx_ocl LAY (h + 29) = 6 := (by decide +kernel : ∀ h, h < 139 → mx_ocl LAY h = 2 → mx_ocl LAY (h + 29) = 6) h (mx_olt (by decide) ho) ho
theorem ln_Cells_cellOfPair {h : Nat} (ho : mx_ocl LAY h = 2) : mx_len LAY false (h + 32) = 256 := (by decide +kernel : ∀ h, h < 139 → mx_ocl LAY h = 2 → mx_len LAY false (h + 32) = 256) h (mx_olt (by decide) ho) ho
theorem ln_Cells_cellMissing {h : Nat} (ho : mx_ocl LAY h = 2) : mx_len LAY false (h + 33) = 256 := (by decide +kernel : ∀ h, h < 139 → mx_ocl LAY h = 2 → mx_len LAY false (h + 33) = 256) h (mx_olt (by decide) ho) ho
theorem ln_Cells_open {h : Nat} (ho : mx_ocl LAY h = 2) : mx_len LAY false (h + 34) = 256 := (by decide +kernel : ∀ h, h < 139 → mx_ocl LAY h = 2 → mx_len LAY false (h + 34) = 256) h (mx_olt (by decide) ho) ho
theorem ln_Cells_supers {h : Nat} (ho : mx_ocl LAY h = 2) : mx_len LAY false (h + 35) = 8 := (by decide +kernel : ∀ h, h < 139 → mx_ocl LAY h = 2 → mx_len LAY false (h + 35) = 8) h (mx_olt (by decide) ho) ho
theorem ln_Cells_meets {h : Nat} (ho : mx_ocl LAY h = 2) : mx_len LAY false (h + 36) = 8 := (by decide +kernel : ∀ h, h < 139 → mx_ocl LAY h = 2 → mx_len LAY false (h + 36) = 8) h (mx_olt (by decide) ho) ho
theorem ln_House_sorts {h : Nat} (ho : mx_ocl LAY h = 3) : mx_len LAY false (h + 1) = 8 := (by decide +kernel : ∀ h, h < 139 → mx_ocl LAY h = 3 → mx_len LAY false (h + 1) = 8) h (mx_olt (by decide) ho) ho
theorem ln_House_firsts {h : Nat} (ho : mx_ocl LAY h = 3) : mx_len LAY false (h + 2) = 8 := (by decide +kernel : ∀ h, h < 139 → mx_ocl LAY h = 3 → mx_len LAY false (h + 2) = 8) h (mx_olt (by decide) ho) ho
theorem ln_House_seconds {h : Nat} (ho : mx_ocl LAY h = 3) : mx_len LAY false (h + 3) = 8 := (by decide +kernel : ∀ h, h < 139 → mx_ocl LAY h = 3 → mx_len LAY false (h + 3) = 8) h (mx_olt (by decide) ho) ho
theorem ln_Plain_ofType {h : Nat} (ho : mx_ocl LAY h = 4) : mx_len LAY false (h + 1) = 32 := (by decide +kernel : ∀ h, h < 139 → mx_ocl LAY h = 4 → mx_len LAY false (h + 1) = 32) h (mx_olt (by decide) ho) ho
theorem ln_Plain_total {h : Nat} (ho : mx_ocl LAY h = 4) : mx_len LAY false (h + 2) = 4 := (by decide +kernel : ∀ h, h < 139 → mx_ocl LAY h = 4 → mx_len LAY false (h + 2) = 4) h (mx_olt (by decide) ho) ho
theorem oc_Plain_byCell {h : Nat} (ho : mx_ocl LAY h = 4) : mx_ocl LAY (h + 3) = 6 := (by decide +kernel : ∀ h, h < 139 → mx_ocl LAY h = 4 → mx_ocl LAY (h + 3) = 6) h (mx_olt (by decide) ho) ho
theorem oc_Plain_byLeft {h : Nat} (ho : mx_ocl LAY h = 4) : mx_ocl LAY (h + 6) = 6 := (by decide +kernel : ∀ h, h < 139 → mx_ocl LAY h = 4 → mx_ocl LAY (h + 6) = 6) h (mx_olt (by decide) ho) ho
theorem oc_Plain_byRight {h : Nat} (ho : mx_ocl LAY h = 4) : mx_ocl LAY (h + 9) = 6 := (by decide +kernel : ∀ h, h < 139 → mx_ocl LAY h = 4 → mx_ocl LAY (h + 9) = 6) h (mx_olt (by decide) ho) ho
theorem oc_Plain_byPair {h : Nat} (ho : mx_ocl LAY h = 4) : mx_ocl LAY (h + 12) = 6 := (by decide +kernel : ∀ h, h < 139 → mx_ocl LAY h = 4 → mx_ocl LAY (h + 12) = 6) h (mx_olt (by decide) ho) ho
theorem ln_Rows_lanes {h : Nat} (ho : mx_ocl LAY h = 5) : mx_len LAY false (h + 1) = 8 := (by decide +kernel : ∀ h, h < 139 → mx_ocl LAY h = 5 → mx_len LAY false (h + 1) = 8) h (mx_olt (by decide) ho) ho
theorem ln_Rows_lengths {h : Nat} (ho : mx_ocl LAY h = 5) : mx_len LAY false (h + 2) = 8 := (by decide +kernel : ∀ h, h < 139 → mx_ocl LAY h = 5 → mx_len LAY false (h + 2) = 8) h (mx_olt (by decide) ho) ho
theorem ln_Rows_items {h : Nat} (ho : mx_ocl LAY h = 5) : mx_len LAY false (h + 3) = 320 := (by decide +kernel : ∀ h, h < 139 → mx_ocl LAY h = 5 → mx_len LAY false (h + 3) = 320) h (mx_olt (by decide) ho) ho
theorem ln_Sets_at {h : Nat} (ho : mx_ocl LAY h = 6) : mx_len LAY false (h + 1) = 256 := (by decide +kernel : ∀ h, h < 139 → mx_ocl LAY h = 6 → mx_len LAY false (h + 1) = 256) h (mx_olt (by decide) ho) ho
theorem ln_Sets_number {h : Nat} (ho : mx_ocl LAY h = 6) : mx_len LAY false (h + 2) = 256 := (by decide +kernel : ∀ h, h < 139 → mx_ocl LAY h = 6 → mx_len LAY false (h + 2) = 256) h (mx_olt (by decide) ho) ho
theorem ln_Sides_leftOf {h : Nat} (ho : mx_ocl LAY h = 7) : mx_len LAY false (h + 1) = 256 := (by decide +kernel : ∀ h, h < 139 → mx_ocl LAY h = 7 → mx_len LAY false (h + 1) = 256) h (mx_olt (by decide) ho) ho
theorem ln_Sides_rightOf {h : Nat} (ho : mx_ocl LAY h = 7) : mx_len LAY false (h + 2) = 256 := (by decide +kernel : ∀ h, h < 139 → mx_ocl LAY h = 7 → mx_len LAY false (h + 2) = 256) h (mx_olt (by decide) ho) ho
theorem oc_Sides_lefts {h : Nat} (ho : mx_ocl LAY h = 7) : mx_ocl LAY (h + 3) = 6 := (by decide +kernel : ∀ h, h < 139 → mx_ocl LAY h = 7 → mx_ocl LAY (h + 3) = 6) h (mx_olt (by decide) ho) ho
theorem oc_Sides_rights {h : Nat} (ho : mx_ocl LAY h = 7) : mx_ocl LAY (h + 6) = 6 := (by decide +kernel : ∀ h, h < 139 → mx_ocl LAY h = 7 → mx_ocl LAY (h + 6) = 6) h (mx_olt (by decide) ho) ho
theorem ln_Tape_bytes {h : Nat} (ho : mx_ocl LAY h = 8) : mx_len LAY false (h + 1) = 80 := (by decide +kernel : ∀ h, h < 139 → mx_ocl LAY h = 8 → mx_len LAY false (h + 1) = 80) h (mx_olt (by decide) ho) ho
/-! ===== small numbers ===== -/
theorem nI_z {a : Nat} (ha : a < 2 ^ 31) : nI a = 0 ↔ a = 0 := by
  rw [← nI_0]
  exact nI_eq ha (by decide)
theorem nx_and (a b : Nat) : nI a &&& nI b = nI (a &&& b) := by
  apply Int32.toBitVec_inj.mp
  rw [Int32.toBitVec_and]
  apply BitVec.eq_of_toNat_eq
  simp only [BitVec.toNat_and, nI, Int32.toBitVec_ofNat', BitVec.toNat_ofNat]
  rw [Nat.and_mod_two_pow]
theorem nx_or (a b : Nat) : nI a ||| nI b = nI (a ||| b) := by
  apply Int32.toBitVec_inj.mp
  rw [Int32.toBitVec_or]
  apply BitVec.eq_of_toNat_eq
  simp only [BitVec.toNat_or, nI, Int32.toBitVec_ofNat', BitVec.toNat_ofNat]
  rw [Nat.or_mod_two_pow]
