/-! a system's objects, by their places -/
def ok1 (S : List hs_S) (R : Nat → Nat → Nat) (t : Nat) : Prop := 2 ≤ t ∧ S[t]? = some (.inl 1) ∧ R t 0 = t + 1 ∧ S[t + 1]? = some (.inr (.int, 8)) ∧ R t 1 = t + 2 ∧ S[t + 2]? = some (.inr (.int, 8)) ∧ R t 2 = t + 3 ∧ S[t + 3]? = some (.inr (.int, 8)) ∧ R t 3 = t + 4 ∧ S[t + 4]? = some (.inr (.int, 8))
def ok3 (S : List hs_S) (R : Nat → Nat → Nat) (t : Nat) : Prop := 2 ≤ t ∧ S[t]? = some (.inl 3) ∧ R t 0 = t + 1 ∧ S[t + 1]? = some (.inr (.long, 31)) ∧ R t 1 = t + 2 ∧ S[t + 2]? = some (.inr (.int, 31)) ∧ R t 2 = t + 3 ∧ S[t + 3]? = some (.inr (.int, 31))
def ok5 (S : List hs_S) (R : Nat → Nat → Nat) (t : Nat) : Prop := 2 ≤ t ∧ S[t]? = some (.inl 5) ∧ R t 0 = t + 1 ∧ S[t + 1]? = some (.inr (.int, 60)) ∧ R t 1 = t + 2 ∧ S[t + 2]? = some (.inr (.int, 60)) ∧ R t 2 = t + 3 ∧ S[t + 3]? = some (.inr (.int, 60)) ∧ R t 3 = t + 4 ∧ S[t + 4]? = some (.inr (.int, 60)) ∧ R t 4 = t + 5 ∧ S[t + 5]? = some (.inr (.int, 60))
def ok9 (S : List hs_S) (R : Nat → Nat → Nat) (t : Nat) : Prop := 2 ≤ t ∧ S[t]? = some (.inl 9) ∧ R t 0 = t + 1 ∧ S[t + 1]? = some (.inr (.long, 60))
def ok4 (S : List hs_S) (R : Nat → Nat → Nat) (t : Nat) : Prop := 2 ≤ t ∧ S[t]? = some (.inl 4) ∧ R t 0 = t + 1 ∧ ok3 S R (t + 1) ∧ R t 1 = t + 5 ∧ ok1 S R (t + 5) ∧ R t 2 = t + 10 ∧ S[t + 10]? = some (.inr (.int, 5)) ∧ R t 3 = t + 11 ∧ S[t + 11]? = some (.inr (.int, 5)) ∧ R t 4 = t + 12 ∧ S[t + 12]? = some (.inr (.int, 6)) ∧ R t 5 = t + 13 ∧ S[t + 13]? = some (.inr (.int, 48)) ∧ R t 6 = t + 14 ∧ S[t + 14]? = some (.inr (.int, 10)) ∧ R t 7 = t + 15 ∧ S[t + 15]? = some (.inr (.int, 10))
def ok8 (S : List hs_S) (R : Nat → Nat → Nat) (t : Nat) : Prop := 2 ≤ t ∧ S[t]? = some (.inl 8) ∧ R t 0 = t + 1 ∧ S[t + 1]? = some (.inr (.byte, 900)) ∧ R t 1 = t + 2 ∧ S[t + 2]? = some (.inr (.long, 30)) ∧ R t 2 = t + 3 ∧ S[t + 3]? = some (.inr (.int, 901)) ∧ R t 3 = t + 4 ∧ S[t + 4]? = some (.inr (.int, 901)) ∧ R t 4 = t + 5 ∧ S[t + 5]? = some (.inr (.long, 901))
def ok6 (S : List hs_S) (R : Nat → Nat → Nat) (t : Nat) : Prop := 2 ≤ t ∧ S[t]? = some (.inl 6) ∧ R t 1 = t + 1 ∧ S[t + 1]? = some (.inr (.int, 3))
def ok7 (S : List hs_S) (R : Nat → Nat → Nat) (t : Nat) : Prop := 2 ≤ t ∧ S[t]? = some (.inl 7) ∧ True
def ok0 (S : List hs_S) (R : Nat → Nat → Nat) (t : Nat) : Prop := 2 ≤ t ∧ S[t]? = some (.inl 0) ∧ R t 0 = t + 1 ∧ S[t + 1]? = some (.inr (.int, 8))
def ok2 (S : List hs_S) (R : Nat → Nat → Nat) (t : Nat) : Prop := 2 ≤ t ∧ S[t]? = some (.inl 2) ∧ R t 9 = t + 1 ∧ S[t + 1]? = some (.inr (.int, 60))
def ok10 (S : List hs_S) (R : Nat → Nat → Nat) (t : Nat) : Prop := 2 ≤ t ∧ S[t]? = some (.inl 10) ∧ R t 0 = t + 1 ∧ S[t + 1]? = some (.inr (.object (hs_cn 9), 4)) ∧ R t 1 = t + 2 ∧ ok8 S R (t + 2) ∧ R t 2 = t + 8 ∧ ok7 S R (t + 8) ∧ R t 3 = t + 9 ∧ ok6 S R (t + 9) ∧ R t 4 = t + 11 ∧ S[t + 11]? = some (.inr (.object (hs_cn 4), 3)) ∧ R t 5 = t + 12 ∧ S[t + 12]? = some (.inr (.object (hs_cn 5), 3)) ∧ R t 6 = t + 13 ∧ ok0 S R (t + 13) ∧ R t 7 = t + 15 ∧ S[t + 15]? = some (.inr (.int, 1024)) ∧ R t 12 = t + 60 ∧ ok2 S R (t + 60) ∧ R t 13 = t + 62 ∧ ok2 S R (t + 62) ∧ (∀ i, i < 4 → R (t + 1) i = t + 64 + 2 * i ∧ ok9 S R (t + 64 + 2 * i)) ∧ (∀ i, i < 3 → R (t + 11) i = t + 72 + 22 * i ∧ ok4 S R (t + 72 + 22 * i)) ∧ (∀ i, i < 3 → R (t + 12) i = t + 88 + 22 * i ∧ ok5 S R (t + 88 + 22 * i))
def ok11 (S : List hs_S) (R : Nat → Nat → Nat) (t : Nat) : Prop := 2 ≤ t ∧ S[t]? = some (.inl 11) ∧ R t 4 = t + 1 ∧ S[t + 1]? = some (.inr (.int, 4)) ∧ R t 5 = t + 2 ∧ S[t + 2]? = some (.inr (.int, 4)) ∧ R t 6 = t + 3 ∧ S[t + 3]? = some (.inr (.long, 240)) ∧ R t 7 = t + 4 ∧ S[t + 4]? = some (.inr (.byte, 900)) ∧ R t 20 = t + 5 ∧ S[t + 5]? = some (.inr (.int, 1995)) ∧ R t 21 = t + 6 ∧ S[t + 6]? = some (.inr (.int, 127)) ∧ R t 22 = t + 7 ∧ S[t + 7]? = some (.inr (.int, 127)) ∧ R t 23 = t + 8 ∧ S[t + 8]? = some (.inr (.long, 155)) ∧ R t 27 = t + 9 ∧ S[t + 9]? = some (.inr (.int, 508)) ∧ R t 29 = t + 10 ∧ S[t + 10]? = some (.inr (.long, 9)) ∧ R t 30 = t + 11 ∧ S[t + 11]? = some (.inr (.int, 5))
theorem tn_0 : (0 : Int32).toNatClampNeg = 0 := by decide
theorem tn_1 : (1 : Int32).toNatClampNeg = 1 := by decide
theorem tn_127 : (127 : Int32).toNatClampNeg = 127 := by decide
theorem tn_128 : (128 : Int32).toNatClampNeg = 128 := by decide
theorem tn_1596 : (1596 : Int32).toNatClampNeg = 1596 := by decide
theorem tn_1597 : (1597 : Int32).toNatClampNeg = 1597 := by decide
theorem tn_1598 : (1598 : Int32).toNatClampNeg = 1598 := by decide
theorem tn_1599 : (1599 : Int32).toNatClampNeg = 1599 := by decide
theorem tn_1600 : (1600 : Int32).toNatClampNeg = 1600 := by decide
theorem tn_1601 : (1601 : Int32).toNatClampNeg = 1601 := by decide
theorem tn_2 : (2 : Int32).toNatClampNeg = 2 := by decide
theorem tn_26 : (26 : Int32).toNatClampNeg = 26 := by decide
theorem tn_3 : (3 : Int32).toNatClampNeg = 3 := by decide
theorem tn_4 : (4 : Int32).toNatClampNeg = 4 := by decide
theorem tn_5 : (5 : Int32).toNatClampNeg = 5 := by decide
theorem tn_58 : (58 : Int32).toNatClampNeg = 58 := by decide
theorem tn_6 : (6 : Int32).toNatClampNeg = 6 := by decide
theorem tn_7 : (7 : Int32).toNatClampNeg = 7 := by decide
theorem tn_8 : (8 : Int32).toNatClampNeg = 8 := by decide
theorem tn_9 : (9 : Int32).toNatClampNeg = 9 := by decide
theorem ib_0_1024 : hs_ib 0 1024 = true := by decide +kernel
theorem ib_0_1995 : hs_ib 0 1995 = true := by decide +kernel
theorem ib_0_5 : hs_ib 0 5 = true := by decide +kernel
theorem ib_0_9 : hs_ib 0 9 = true := by decide +kernel
theorem ib_1_1995 : hs_ib 1 1995 = true := by decide +kernel
theorem ib_1_5 : hs_ib 1 5 = true := by decide +kernel
theorem ib_127_1995 : hs_ib 127 1995 = true := by decide +kernel
theorem ib_128_1995 : hs_ib 128 1995 = true := by decide +kernel
theorem ib_1596_1995 : hs_ib 1596 1995 = true := by decide +kernel
theorem ib_1597_1995 : hs_ib 1597 1995 = true := by decide +kernel
theorem ib_1598_1995 : hs_ib 1598 1995 = true := by decide +kernel
theorem ib_1599_1995 : hs_ib 1599 1995 = true := by decide +kernel
theorem ib_1600_1995 : hs_ib 1600 1995 = true := by decide +kernel
theorem ib_1601_1995 : hs_ib 1601 1995 = true := by decide +kernel
theorem ib_2_1995 : hs_ib 2 1995 = true := by decide +kernel
theorem ib_2_5 : hs_ib 2 5 = true := by decide +kernel
theorem ib_26_1995 : hs_ib 26 1995 = true := by decide +kernel
theorem ib_3_1995 : hs_ib 3 1995 = true := by decide +kernel
theorem ib_3_5 : hs_ib 3 5 = true := by decide +kernel
theorem ib_4_1995 : hs_ib 4 1995 = true := by decide +kernel
theorem ib_4_5 : hs_ib 4 5 = true := by decide +kernel
theorem ib_5_1995 : hs_ib 5 1995 = true := by decide +kernel
theorem ib_58_1995 : hs_ib 58 1995 = true := by decide +kernel
theorem ib_6_1995 : hs_ib 6 1995 = true := by decide +kernel
theorem ib_7_1995 : hs_ib 7 1995 = true := by decide +kernel
theorem ib_8_1995 : hs_ib 8 1995 = true := by decide +kernel
theorem ib_9_1995 : hs_ib 9 1995 = true := by decide +kernel
theorem kB_10 : (Int8.ofInt 10).toInt32 = 10 := by decide
theorem kB_100 : (Int8.ofInt 100).toInt32 = 100 := by decide
theorem kB_101 : (Int8.ofInt 101).toInt32 = 101 := by decide
theorem kB_102 : (Int8.ofInt 102).toInt32 = 102 := by decide
theorem kB_103 : (Int8.ofInt 103).toInt32 = 103 := by decide
theorem kB_104 : (Int8.ofInt 104).toInt32 = 104 := by decide
theorem kB_105 : (Int8.ofInt 105).toInt32 = 105 := by decide
theorem kB_107 : (Int8.ofInt 107).toInt32 = 107 := by decide
theorem kB_108 : (Int8.ofInt 108).toInt32 = 108 := by decide
theorem kB_109 : (Int8.ofInt 109).toInt32 = 109 := by decide
theorem kB_11 : (Int8.ofInt 11).toInt32 = 11 := by decide
theorem kB_110 : (Int8.ofInt 110).toInt32 = 110 := by decide
theorem kB_111 : (Int8.ofInt 111).toInt32 = 111 := by decide
theorem kB_112 : (Int8.ofInt 112).toInt32 = 112 := by decide
theorem kB_114 : (Int8.ofInt 114).toInt32 = 114 := by decide
theorem kB_115 : (Int8.ofInt 115).toInt32 = 115 := by decide
theorem kB_116 : (Int8.ofInt 116).toInt32 = 116 := by decide
theorem kB_117 : (Int8.ofInt 117).toInt32 = 117 := by decide
theorem kB_118 : (Int8.ofInt 118).toInt32 = 118 := by decide
theorem kB_119 : (Int8.ofInt 119).toInt32 = 119 := by decide
theorem kB_12 : (Int8.ofInt 12).toInt32 = 12 := by decide
theorem kB_120 : (Int8.ofInt 120).toInt32 = 120 := by decide
theorem kB_121 : (Int8.ofInt 121).toInt32 = 121 := by decide
theorem kB_122 : (Int8.ofInt 122).toInt32 = 122 := by decide
theorem kB_124 : (Int8.ofInt 124).toInt32 = 124 := by decide
theorem kB_127 : (Int8.ofInt 127).toInt32 = 127 := by decide
theorem kB_13 : (Int8.ofInt 13).toInt32 = 13 := by decide
theorem kB_14 : (Int8.ofInt 14).toInt32 = 14 := by decide
theorem kB_15 : (Int8.ofInt 15).toInt32 = 15 := by decide
theorem kB_16 : (Int8.ofInt 16).toInt32 = 16 := by decide
theorem kB_17 : (Int8.ofInt 17).toInt32 = 17 := by decide
theorem kB_18 : (Int8.ofInt 18).toInt32 = 18 := by decide
theorem kB_20 : (Int8.ofInt 20).toInt32 = 20 := by decide
theorem kB_24 : (Int8.ofInt 24).toInt32 = 24 := by decide
theorem kB_25 : (Int8.ofInt 25).toInt32 = 25 := by decide
theorem kB_26 : (Int8.ofInt 26).toInt32 = 26 := by decide
theorem kB_27 : (Int8.ofInt 27).toInt32 = 27 := by decide
theorem kB_28 : (Int8.ofInt 28).toInt32 = 28 := by decide
theorem kB_29 : (Int8.ofInt 29).toInt32 = 29 := by decide
theorem kB_30 : (Int8.ofInt 30).toInt32 = 30 := by decide
theorem kB_31 : (Int8.ofInt 31).toInt32 = 31 := by decide
theorem kB_32 : (Int8.ofInt 32).toInt32 = 32 := by decide
theorem kB_33 : (Int8.ofInt 33).toInt32 = 33 := by decide
theorem kB_34 : (Int8.ofInt 34).toInt32 = 34 := by decide
theorem kB_35 : (Int8.ofInt 35).toInt32 = 35 := by decide
theorem kB_36 : (Int8.ofInt 36).toInt32 = 36 := by decide
theorem kB_37 : (Int8.ofInt 37).toInt32 = 37 := by decide
theorem kB_38 : (Int8.ofInt 38).toInt32 = 38 := by decide
theorem kB_42 : (Int8.ofInt 42).toInt32 = 42 := by decide
theorem kB_47 : (Int8.ofInt 47).toInt32 = 47 := by decide
theorem kB_48 : (Int8.ofInt 48).toInt32 = 48 := by decide
theorem kB_52 : (Int8.ofInt 52).toInt32 = 52 := by decide
theorem kB_57 : (Int8.ofInt 57).toInt32 = 57 := by decide
theorem kB_58 : (Int8.ofInt 58).toInt32 = 58 := by decide
theorem kB_59 : (Int8.ofInt 59).toInt32 = 59 := by decide
theorem kB_6 : (Int8.ofInt 6).toInt32 = 6 := by decide
theorem kB_60 : (Int8.ofInt 60).toInt32 = 60 := by decide
theorem kB_61 : (Int8.ofInt 61).toInt32 = 61 := by decide
theorem kB_62 : (Int8.ofInt 62).toInt32 = 62 := by decide
theorem kB_63 : (Int8.ofInt 63).toInt32 = 63 := by decide
theorem kB_7 : (Int8.ofInt 7).toInt32 = 7 := by decide
theorem kB_8 : (Int8.ofInt 8).toInt32 = 8 := by decide
theorem kB_9 : (Int8.ofInt 9).toInt32 = 9 := by decide
theorem kB_97 : (Int8.ofInt 97).toInt32 = 97 := by decide
theorem kB_98 : (Int8.ofInt 98).toInt32 = 98 := by decide
theorem kB_99 : (Int8.ofInt 99).toInt32 = 99 := by decide
theorem kI_m1 : Int32.ofInt (-1) = (-1) := by decide
theorem kI_m8 : Int32.ofInt (-8) = (-8) := by decide
theorem kI_0 : Int32.ofInt 0 = 0 := by decide
theorem kI_1 : Int32.ofInt 1 = 1 := by decide
theorem kI_2 : Int32.ofInt 2 = 2 := by decide
theorem kI_3 : Int32.ofInt 3 = 3 := by decide
theorem kI_4 : Int32.ofInt 4 = 4 := by decide
theorem kI_5 : Int32.ofInt 5 = 5 := by decide
theorem kL_0 : Int64.ofNat (0 : Fin 2).val = 0 := by decide
theorem kL_1 : Int64.ofNat (1 : Fin 2).val = 1 := by decide
theorem kS_10000 : (Int16.ofInt 10000).toInt32 = 10000 := by decide
theorem kS_10837 : (Int16.ofInt 10837).toInt32 = 10837 := by decide
theorem kS_128 : (Int16.ofInt 128).toInt32 = 128 := by decide
theorem kS_129 : (Int16.ofInt 129).toInt32 = 129 := by decide
theorem kS_1596 : (Int16.ofInt 1596).toInt32 = 1596 := by decide
theorem kS_1597 : (Int16.ofInt 1597).toInt32 = 1597 := by decide
theorem kS_1598 : (Int16.ofInt 1598).toInt32 = 1598 := by decide
theorem kS_1599 : (Int16.ofInt 1599).toInt32 = 1599 := by decide
theorem kS_1600 : (Int16.ofInt 1600).toInt32 = 1600 := by decide
theorem kS_1601 : (Int16.ofInt 1601).toInt32 = 1601 := by decide
theorem kS_1606 : (Int16.ofInt 1606).toInt32 = 1606 := by decide
theorem kS_1614 : (Int16.ofInt 1614).toInt32 = 1614 := by decide
theorem kS_1622 : (Int16.ofInt 1622).toInt32 = 1622 := by decide
theorem kS_1638 : (Int16.ofInt 1638).toInt32 = 1638 := by decide
theorem kS_1643 : (Int16.ofInt 1643).toInt32 = 1643 := by decide
theorem kS_1648 : (Int16.ofInt 1648).toInt32 = 1648 := by decide
theorem kS_1655 : (Int16.ofInt 1655).toInt32 = 1655 := by decide
theorem kS_1703 : (Int16.ofInt 1703).toInt32 = 1703 := by decide
theorem kS_1713 : (Int16.ofInt 1713).toInt32 = 1713 := by decide
theorem kS_1725 : (Int16.ofInt 1725).toInt32 = 1725 := by decide
theorem kS_200 : (Int16.ofInt 200).toInt32 = 200 := by decide
theorem kS_255 : (Int16.ofInt 255).toInt32 = 255 := by decide
theorem kS_2971 : (Int16.ofInt 2971).toInt32 = 2971 := by decide
theorem kS_300 : (Int16.ofInt 300).toInt32 = 300 := by decide
theorem kS_399 : (Int16.ofInt 399).toInt32 = 399 := by decide
theorem kS_900 : (Int16.ofInt 900).toInt32 = 900 := by decide
theorem kS_999 : (Int16.ofInt 999).toInt32 = 999 := by decide
theorem kS_9999 : (Int16.ofInt 9999).toInt32 = 9999 := by decide
theorem mL100 : hs_mL 100 = 2 := by decide +kernel
theorem mL101 : hs_mL 101 = 1 := by decide +kernel
theorem mL102 : hs_mL 102 = 5 := by decide +kernel
theorem mL103 : hs_mL 103 = 5 := by decide +kernel
theorem mL104 : hs_mL 104 = 2 := by decide +kernel
theorem mL105 : hs_mL 105 = 3 := by decide +kernel
theorem mL106 : hs_mL 106 = 5 := by decide +kernel
theorem mL107 : hs_mL 107 = 5 := by decide +kernel
theorem mL108 : hs_mL 108 = 4 := by decide +kernel
theorem mL109 : hs_mL 109 = 4 := by decide +kernel
theorem mL110 : hs_mL 110 = 4 := by decide +kernel
theorem mL111 : hs_mL 111 = 4 := by decide +kernel
theorem mL112 : hs_mL 112 = 7 := by decide +kernel
theorem mL113 : hs_mL 113 = 1 := by decide +kernel
theorem mL114 : hs_mL 114 = 1 := by decide +kernel
theorem mL115 : hs_mL 115 = 4 := by decide +kernel
theorem mL116 : hs_mL 116 = 3 := by decide +kernel
theorem mL117 : hs_mL 117 = 3 := by decide +kernel
theorem mL118 : hs_mL 118 = 4 := by decide +kernel
theorem mL119 : hs_mL 119 = 3 := by decide +kernel
theorem mL120 : hs_mL 120 = 2 := by decide +kernel
theorem mL121 : hs_mL 121 = 5 := by decide +kernel
theorem mL122 : hs_mL 122 = 2 := by decide +kernel
theorem mL123 : hs_mL 123 = 5 := by decide +kernel
theorem mL124 : hs_mL 124 = 3 := by decide +kernel
theorem mL125 : hs_mL 125 = 2 := by decide +kernel
theorem mL126 : hs_mL 126 = 6 := by decide +kernel
theorem mL127 : hs_mL 127 = 2 := by decide +kernel
theorem mL128 : hs_mL 128 = 4 := by decide +kernel
theorem mL129 : hs_mL 129 = 7 := by decide +kernel
theorem mL13 : hs_mL 13 = 1 := by decide +kernel
theorem mL130 : hs_mL 130 = 6 := by decide +kernel
theorem mL131 : hs_mL 131 = 4 := by decide +kernel
theorem mL132 : hs_mL 132 = 3 := by decide +kernel
theorem mL133 : hs_mL 133 = 2 := by decide +kernel
theorem mL134 : hs_mL 134 = 4 := by decide +kernel
theorem mL135 : hs_mL 135 = 5 := by decide +kernel
theorem mL136 : hs_mL 136 = 2 := by decide +kernel
theorem mL137 : hs_mL 137 = 4 := by decide +kernel
theorem mL138 : hs_mL 138 = 2 := by decide +kernel
theorem mL139 : hs_mL 139 = 1 := by decide +kernel
theorem mL14 : hs_mL 14 = 1 := by decide +kernel
theorem mL140 : hs_mL 140 = 4 := by decide +kernel
theorem mL141 : hs_mL 141 = 3 := by decide +kernel
theorem mL142 : hs_mL 142 = 2 := by decide +kernel
theorem mL143 : hs_mL 143 = 6 := by decide +kernel
theorem mL144 : hs_mL 144 = 6 := by decide +kernel
theorem mL145 : hs_mL 145 = 2 := by decide +kernel
theorem mL146 : hs_mL 146 = 1 := by decide +kernel
theorem mL147 : hs_mL 147 = 5 := by decide +kernel
theorem mL148 : hs_mL 148 = 2 := by decide +kernel
theorem mL149 : hs_mL 149 = 6 := by decide +kernel
theorem mL15 : hs_mL 15 = 1 := by decide +kernel
theorem mL150 : hs_mL 150 = 7 := by decide +kernel
theorem mL151 : hs_mL 151 = 6 := by decide +kernel
theorem mL152 : hs_mL 152 = 2 := by decide +kernel
theorem mL153 : hs_mL 153 = 7 := by decide +kernel
theorem mL154 : hs_mL 154 = 2 := by decide +kernel
theorem mL155 : hs_mL 155 = 4 := by decide +kernel
theorem mL156 : hs_mL 156 = 2 := by decide +kernel
theorem mL157 : hs_mL 157 = 4 := by decide +kernel
theorem mL158 : hs_mL 158 = 1 := by decide +kernel
theorem mL159 : hs_mL 159 = 3 := by decide +kernel
theorem mL16 : hs_mL 16 = 4 := by decide +kernel
theorem mL160 : hs_mL 160 = 2 := by decide +kernel
theorem mL161 : hs_mL 161 = 6 := by decide +kernel
theorem mL162 : hs_mL 162 = 6 := by decide +kernel
theorem mL163 : hs_mL 163 = 3 := by decide +kernel
theorem mL164 : hs_mL 164 = 4 := by decide +kernel
theorem mL165 : hs_mL 165 = 9 := by decide +kernel
theorem mL166 : hs_mL 166 = 4 := by decide +kernel
theorem mL167 : hs_mL 167 = 5 := by decide +kernel
theorem mL168 : hs_mL 168 = 7 := by decide +kernel
theorem mL169 : hs_mL 169 = 11 := by decide +kernel
theorem mL17 : hs_mL 17 = 1 := by decide +kernel
theorem mL170 : hs_mL 170 = 2 := by decide +kernel
theorem mL171 : hs_mL 171 = 2 := by decide +kernel
theorem mL172 : hs_mL 172 = 6 := by decide +kernel
theorem mL173 : hs_mL 173 = 3 := by decide +kernel
theorem mL174 : hs_mL 174 = 4 := by decide +kernel
theorem mL175 : hs_mL 175 = 2 := by decide +kernel
theorem mL176 : hs_mL 176 = 3 := by decide +kernel
theorem mL177 : hs_mL 177 = 3 := by decide +kernel
theorem mL178 : hs_mL 178 = 3 := by decide +kernel
theorem mL179 : hs_mL 179 = 2 := by decide +kernel
theorem mL18 : hs_mL 18 = 2 := by decide +kernel
theorem mL180 : hs_mL 180 = 2 := by decide +kernel
theorem mL181 : hs_mL 181 = 4 := by decide +kernel
theorem mL182 : hs_mL 182 = 2 := by decide +kernel
theorem mL183 : hs_mL 183 = 2 := by decide +kernel
theorem mL184 : hs_mL 184 = 6 := by decide +kernel
theorem mL185 : hs_mL 185 = 2 := by decide +kernel
theorem mL186 : hs_mL 186 = 2 := by decide +kernel
theorem mL187 : hs_mL 187 = 2 := by decide +kernel
theorem mL188 : hs_mL 188 = 1 := by decide +kernel
theorem mL189 : hs_mL 189 = 2 := by decide +kernel
theorem mL19 : hs_mL 19 = 4 := by decide +kernel
theorem mL190 : hs_mL 190 = 1 := by decide +kernel
theorem mL192 : hs_mL 192 = 4 := by decide +kernel
theorem mL193 : hs_mL 193 = 1 := by decide +kernel
theorem mL194 : hs_mL 194 = 1 := by decide +kernel
theorem mL195 : hs_mL 195 = 1 := by decide +kernel
theorem mL196 : hs_mL 196 = 5 := by decide +kernel
theorem mL197 : hs_mL 197 = 2 := by decide +kernel
theorem mL198 : hs_mL 198 = 5 := by decide +kernel
theorem mL199 : hs_mL 199 = 4 := by decide +kernel
theorem mL2 : hs_mL 2 = 3 := by decide +kernel
theorem mL20 : hs_mL 20 = 1 := by decide +kernel
theorem mL200 : hs_mL 200 = 2 := by decide +kernel
theorem mL201 : hs_mL 201 = 3 := by decide +kernel
theorem mL202 : hs_mL 202 = 3 := by decide +kernel
theorem mL203 : hs_mL 203 = 9 := by decide +kernel
theorem mL204 : hs_mL 204 = 6 := by decide +kernel
theorem mL205 : hs_mL 205 = 3 := by decide +kernel
theorem mL206 : hs_mL 206 = 2 := by decide +kernel
theorem mL207 : hs_mL 207 = 2 := by decide +kernel
theorem mL208 : hs_mL 208 = 3 := by decide +kernel
theorem mL209 : hs_mL 209 = 2 := by decide +kernel
theorem mL21 : hs_mL 21 = 6 := by decide +kernel
theorem mL210 : hs_mL 210 = 2 := by decide +kernel
theorem mL211 : hs_mL 211 = 1 := by decide +kernel
theorem mL212 : hs_mL 212 = 1 := by decide +kernel
theorem mL213 : hs_mL 213 = 2 := by decide +kernel
theorem mL214 : hs_mL 214 = 1 := by decide +kernel
theorem mL215 : hs_mL 215 = 1 := by decide +kernel
theorem mL216 : hs_mL 216 = 8 := by decide +kernel
theorem mL217 : hs_mL 217 = 3 := by decide +kernel
theorem mL218 : hs_mL 218 = 4 := by decide +kernel
theorem mL219 : hs_mL 219 = 2 := by decide +kernel
theorem mL22 : hs_mL 22 = 3 := by decide +kernel
theorem mL220 : hs_mL 220 = 3 := by decide +kernel
theorem mL221 : hs_mL 221 = 4 := by decide +kernel
theorem mL222 : hs_mL 222 = 1 := by decide +kernel
theorem mL223 : hs_mL 223 = 6 := by decide +kernel
theorem mL224 : hs_mL 224 = 1 := by decide +kernel
theorem mL225 : hs_mL 225 = 1 := by decide +kernel
theorem mL226 : hs_mL 226 = 6 := by decide +kernel
theorem mL227 : hs_mL 227 = 4 := by decide +kernel
theorem mL228 : hs_mL 228 = 1 := by decide +kernel
theorem mL229 : hs_mL 229 = 1 := by decide +kernel
theorem mL23 : hs_mL 23 = 1 := by decide +kernel
theorem mL230 : hs_mL 230 = 1 := by decide +kernel
theorem mL231 : hs_mL 231 = 1 := by decide +kernel
theorem mL232 : hs_mL 232 = 1 := by decide +kernel
theorem mL233 : hs_mL 233 = 1 := by decide +kernel
theorem mL234 : hs_mL 234 = 1 := by decide +kernel
theorem mL235 : hs_mL 235 = 1 := by decide +kernel
theorem mL236 : hs_mL 236 = 1 := by decide +kernel
theorem mL237 : hs_mL 237 = 1 := by decide +kernel
theorem mL238 : hs_mL 238 = 1 := by decide +kernel
theorem mL239 : hs_mL 239 = 1 := by decide +kernel
theorem mL24 : hs_mL 24 = 2 := by decide +kernel
theorem mL240 : hs_mL 240 = 1 := by decide +kernel
theorem mL241 : hs_mL 241 = 1 := by decide +kernel
theorem mL242 : hs_mL 242 = 1 := by decide +kernel
theorem mL243 : hs_mL 243 = 1 := by decide +kernel
theorem mL244 : hs_mL 244 = 2 := by decide +kernel
theorem mL245 : hs_mL 245 = 4 := by decide +kernel
theorem mL246 : hs_mL 246 = 1 := by decide +kernel
theorem mL247 : hs_mL 247 = 4 := by decide +kernel
theorem mL248 : hs_mL 248 = 2 := by decide +kernel
theorem mL249 : hs_mL 249 = 2 := by decide +kernel
theorem mL25 : hs_mL 25 = 4 := by decide +kernel
theorem mL250 : hs_mL 250 = 4 := by decide +kernel
theorem mL251 : hs_mL 251 = 3 := by decide +kernel
theorem mL252 : hs_mL 252 = 3 := by decide +kernel
theorem mL253 : hs_mL 253 = 1 := by decide +kernel
theorem mL254 : hs_mL 254 = 4 := by decide +kernel
theorem mL255 : hs_mL 255 = 4 := by decide +kernel
theorem mL256 : hs_mL 256 = 4 := by decide +kernel
theorem mL257 : hs_mL 257 = 2 := by decide +kernel
theorem mL258 : hs_mL 258 = 1 := by decide +kernel
theorem mL259 : hs_mL 259 = 4 := by decide +kernel
theorem mL26 : hs_mL 26 = 3 := by decide +kernel
theorem mL260 : hs_mL 260 = 3 := by decide +kernel
theorem mL261 : hs_mL 261 = 5 := by decide +kernel
theorem mL262 : hs_mL 262 = 3 := by decide +kernel
theorem mL263 : hs_mL 263 = 3 := by decide +kernel
theorem mL264 : hs_mL 264 = 2 := by decide +kernel
theorem mL265 : hs_mL 265 = 2 := by decide +kernel
theorem mL266 : hs_mL 266 = 3 := by decide +kernel
theorem mL267 : hs_mL 267 = 5 := by decide +kernel
theorem mL268 : hs_mL 268 = 4 := by decide +kernel
theorem mL269 : hs_mL 269 = 5 := by decide +kernel
theorem mL27 : hs_mL 27 = 4 := by decide +kernel
theorem mL270 : hs_mL 270 = 3 := by decide +kernel
theorem mL271 : hs_mL 271 = 3 := by decide +kernel
theorem mL272 : hs_mL 272 = 2 := by decide +kernel
theorem mL273 : hs_mL 273 = 3 := by decide +kernel
theorem mL274 : hs_mL 274 = 2 := by decide +kernel
theorem mL275 : hs_mL 275 = 1 := by decide +kernel
theorem mL276 : hs_mL 276 = 2 := by decide +kernel
theorem mL277 : hs_mL 277 = 3 := by decide +kernel
theorem mL278 : hs_mL 278 = 2 := by decide +kernel
theorem mL279 : hs_mL 279 = 3 := by decide +kernel
theorem mL28 : hs_mL 28 = 2 := by decide +kernel
theorem mL280 : hs_mL 280 = 3 := by decide +kernel
theorem mL281 : hs_mL 281 = 3 := by decide +kernel
theorem mL282 : hs_mL 282 = 2 := by decide +kernel
theorem mL283 : hs_mL 283 = 3 := by decide +kernel
theorem mL284 : hs_mL 284 = 3 := by decide +kernel
theorem mL285 : hs_mL 285 = 2 := by decide +kernel
theorem mL286 : hs_mL 286 = 3 := by decide +kernel
theorem mL287 : hs_mL 287 = 4 := by decide +kernel
theorem mL288 : hs_mL 288 = 3 := by decide +kernel
theorem mL289 : hs_mL 289 = 3 := by decide +kernel
theorem mL29 : hs_mL 29 = 8 := by decide +kernel
theorem mL290 : hs_mL 290 = 4 := by decide +kernel
theorem mL291 : hs_mL 291 = 3 := by decide +kernel
theorem mL292 : hs_mL 292 = 7 := by decide +kernel
theorem mL293 : hs_mL 293 = 1 := by decide +kernel
theorem mL294 : hs_mL 294 = 1 := by decide +kernel
theorem mL295 : hs_mL 295 = 3 := by decide +kernel
theorem mL296 : hs_mL 296 = 3 := by decide +kernel
theorem mL297 : hs_mL 297 = 3 := by decide +kernel
theorem mL298 : hs_mL 298 = 4 := by decide +kernel
theorem mL299 : hs_mL 299 = 5 := by decide +kernel
theorem mL30 : hs_mL 30 = 3 := by decide +kernel
theorem mL300 : hs_mL 300 = 2 := by decide +kernel
theorem mL301 : hs_mL 301 = 4 := by decide +kernel
theorem mL302 : hs_mL 302 = 3 := by decide +kernel
theorem mL303 : hs_mL 303 = 2 := by decide +kernel
theorem mL304 : hs_mL 304 = 2 := by decide +kernel
theorem mL305 : hs_mL 305 = 4 := by decide +kernel
theorem mL306 : hs_mL 306 = 2 := by decide +kernel
theorem mL307 : hs_mL 307 = 2 := by decide +kernel
theorem mL308 : hs_mL 308 = 5 := by decide +kernel
theorem mL309 : hs_mL 309 = 5 := by decide +kernel
theorem mL31 : hs_mL 31 = 6 := by decide +kernel
theorem mL310 : hs_mL 310 = 4 := by decide +kernel
theorem mL311 : hs_mL 311 = 5 := by decide +kernel
theorem mL312 : hs_mL 312 = 4 := by decide +kernel
theorem mL313 : hs_mL 313 = 3 := by decide +kernel
theorem mL314 : hs_mL 314 = 1 := by decide +kernel
theorem mL315 : hs_mL 315 = 4 := by decide +kernel
theorem mL316 : hs_mL 316 = 3 := by decide +kernel
theorem mL317 : hs_mL 317 = 5 := by decide +kernel
theorem mL318 : hs_mL 318 = 3 := by decide +kernel
theorem mL319 : hs_mL 319 = 2 := by decide +kernel
theorem mL32 : hs_mL 32 = 2 := by decide +kernel
theorem mL320 : hs_mL 320 = 2 := by decide +kernel
theorem mL321 : hs_mL 321 = 3 := by decide +kernel
theorem mL322 : hs_mL 322 = 3 := by decide +kernel
theorem mL323 : hs_mL 323 = 3 := by decide +kernel
theorem mL324 : hs_mL 324 = 2 := by decide +kernel
theorem mL325 : hs_mL 325 = 5 := by decide +kernel
theorem mL326 : hs_mL 326 = 4 := by decide +kernel
theorem mL327 : hs_mL 327 = 2 := by decide +kernel
theorem mL328 : hs_mL 328 = 1 := by decide +kernel
theorem mL329 : hs_mL 329 = 3 := by decide +kernel
theorem mL33 : hs_mL 33 = 3 := by decide +kernel
theorem mL330 : hs_mL 330 = 2 := by decide +kernel
theorem mL331 : hs_mL 331 = 1 := by decide +kernel
theorem mL332 : hs_mL 332 = 6 := by decide +kernel
theorem mL333 : hs_mL 333 = 3 := by decide +kernel
theorem mL334 : hs_mL 334 = 4 := by decide +kernel
theorem mL335 : hs_mL 335 = 2 := by decide +kernel
theorem mL336 : hs_mL 336 = 6 := by decide +kernel
theorem mL337 : hs_mL 337 = 2 := by decide +kernel
theorem mL338 : hs_mL 338 = 4 := by decide +kernel
theorem mL339 : hs_mL 339 = 2 := by decide +kernel
theorem mL34 : hs_mL 34 = 3 := by decide +kernel
theorem mL340 : hs_mL 340 = 2 := by decide +kernel
theorem mL341 : hs_mL 341 = 9 := by decide +kernel
theorem mL342 : hs_mL 342 = 2 := by decide +kernel
theorem mL343 : hs_mL 343 = 8 := by decide +kernel
theorem mL344 : hs_mL 344 = 11 := by decide +kernel
theorem mL345 : hs_mL 345 = 2 := by decide +kernel
theorem mL346 : hs_mL 346 = 2 := by decide +kernel
theorem mL347 : hs_mL 347 = 2 := by decide +kernel
theorem mL348 : hs_mL 348 = 4 := by decide +kernel
theorem mL349 : hs_mL 349 = 5 := by decide +kernel
theorem mL35 : hs_mL 35 = 6 := by decide +kernel
theorem mL350 : hs_mL 350 = 3 := by decide +kernel
theorem mL351 : hs_mL 351 = 3 := by decide +kernel
theorem mL352 : hs_mL 352 = 4 := by decide +kernel
theorem mL353 : hs_mL 353 = 2 := by decide +kernel
theorem mL354 : hs_mL 354 = 2 := by decide +kernel
theorem mL355 : hs_mL 355 = 4 := by decide +kernel
theorem mL356 : hs_mL 356 = 2 := by decide +kernel
theorem mL357 : hs_mL 357 = 7 := by decide +kernel
theorem mL358 : hs_mL 358 = 1 := by decide +kernel
theorem mL359 : hs_mL 359 = 1 := by decide +kernel
theorem mL36 : hs_mL 36 = 1 := by decide +kernel
theorem mL37 : hs_mL 37 = 6 := by decide +kernel
theorem mL38 : hs_mL 38 = 4 := by decide +kernel
theorem mL39 : hs_mL 39 = 5 := by decide +kernel
theorem mL40 : hs_mL 40 = 1 := by decide +kernel
theorem mL41 : hs_mL 41 = 6 := by decide +kernel
theorem mL42 : hs_mL 42 = 1 := by decide +kernel
theorem mL43 : hs_mL 43 = 4 := by decide +kernel
theorem mL44 : hs_mL 44 = 1 := by decide +kernel
theorem mL45 : hs_mL 45 = 1 := by decide +kernel
theorem mL46 : hs_mL 46 = 1 := by decide +kernel
theorem mL47 : hs_mL 47 = 2 := by decide +kernel
theorem mL48 : hs_mL 48 = 3 := by decide +kernel
theorem mL49 : hs_mL 49 = 2 := by decide +kernel
theorem mL50 : hs_mL 50 = 1 := by decide +kernel
theorem mL51 : hs_mL 51 = 1 := by decide +kernel
theorem mL52 : hs_mL 52 = 5 := by decide +kernel
theorem mL53 : hs_mL 53 = 3 := by decide +kernel
theorem mL54 : hs_mL 54 = 4 := by decide +kernel
theorem mL55 : hs_mL 55 = 5 := by decide +kernel
theorem mL56 : hs_mL 56 = 4 := by decide +kernel
theorem mL57 : hs_mL 57 = 1 := by decide +kernel
theorem mL58 : hs_mL 58 = 4 := by decide +kernel
theorem mL59 : hs_mL 59 = 2 := by decide +kernel
theorem mL60 : hs_mL 60 = 2 := by decide +kernel
theorem mL61 : hs_mL 61 = 4 := by decide +kernel
theorem mL62 : hs_mL 62 = 4 := by decide +kernel
theorem mL63 : hs_mL 63 = 1 := by decide +kernel
theorem mL64 : hs_mL 64 = 4 := by decide +kernel
theorem mL65 : hs_mL 65 = 4 := by decide +kernel
theorem mL66 : hs_mL 66 = 5 := by decide +kernel
theorem mL67 : hs_mL 67 = 1 := by decide +kernel
theorem mL68 : hs_mL 68 = 2 := by decide +kernel
theorem mL69 : hs_mL 69 = 3 := by decide +kernel
theorem mL70 : hs_mL 70 = 5 := by decide +kernel
theorem mL71 : hs_mL 71 = 2 := by decide +kernel
theorem mL72 : hs_mL 72 = 2 := by decide +kernel
theorem mL73 : hs_mL 73 = 1 := by decide +kernel
theorem mL74 : hs_mL 74 = 4 := by decide +kernel
theorem mL75 : hs_mL 75 = 4 := by decide +kernel
theorem mL76 : hs_mL 76 = 2 := by decide +kernel
theorem mL77 : hs_mL 77 = 2 := by decide +kernel
theorem mL78 : hs_mL 78 = 2 := by decide +kernel
theorem mL79 : hs_mL 79 = 2 := by decide +kernel
theorem mL80 : hs_mL 80 = 2 := by decide +kernel
theorem mL81 : hs_mL 81 = 2 := by decide +kernel
theorem mL82 : hs_mL 82 = 2 := by decide +kernel
theorem mL83 : hs_mL 83 = 3 := by decide +kernel
theorem mL84 : hs_mL 84 = 5 := by decide +kernel
theorem mL85 : hs_mL 85 = 4 := by decide +kernel
theorem mL86 : hs_mL 86 = 3 := by decide +kernel
theorem mL87 : hs_mL 87 = 3 := by decide +kernel
theorem mL88 : hs_mL 88 = 4 := by decide +kernel
theorem mL89 : hs_mL 89 = 2 := by decide +kernel
theorem mL9 : hs_mL 9 = 2 := by decide +kernel
theorem mL90 : hs_mL 90 = 3 := by decide +kernel
theorem mL91 : hs_mL 91 = 2 := by decide +kernel
theorem mL92 : hs_mL 92 = 1 := by decide +kernel
theorem mL93 : hs_mL 93 = 2 := by decide +kernel
theorem mL94 : hs_mL 94 = 3 := by decide +kernel
theorem mL95 : hs_mL 95 = 2 := by decide +kernel
theorem mL96 : hs_mL 96 = 3 := by decide +kernel
theorem mL97 : hs_mL 97 = 3 := by decide +kernel
theorem mL98 : hs_mL 98 = 5 := by decide +kernel
theorem mL99 : hs_mL 99 = 2 := by decide +kernel
theorem np100 : hs_np 100 = 1 := by decide +kernel
theorem np101 : hs_np 101 = 0 := by decide +kernel
theorem np102 : hs_np 102 = 3 := by decide +kernel
theorem np103 : hs_np 103 = 3 := by decide +kernel
theorem np105 : hs_np 105 = 1 := by decide +kernel
theorem np107 : hs_np 107 = 4 := by decide +kernel
theorem np109 : hs_np 109 = 2 := by decide +kernel
theorem np110 : hs_np 110 = 2 := by decide +kernel
theorem np112 : hs_np 112 = 2 := by decide +kernel
theorem np114 : hs_np 114 = 0 := by decide +kernel
theorem np121 : hs_np 121 = 2 := by decide +kernel
theorem np126 : hs_np 126 = 1 := by decide +kernel
theorem np128 : hs_np 128 = 1 := by decide +kernel
theorem np129 : hs_np 129 = 2 := by decide +kernel
theorem np132 : hs_np 132 = 2 := by decide +kernel
theorem np133 : hs_np 133 = 1 := by decide +kernel
theorem np137 : hs_np 137 = 2 := by decide +kernel
theorem np139 : hs_np 139 = 1 := by decide +kernel
theorem np143 : hs_np 143 = 1 := by decide +kernel
theorem np144 : hs_np 144 = 0 := by decide +kernel
theorem np147 : hs_np 147 = 0 := by decide +kernel
theorem np150 : hs_np 150 = 1 := by decide +kernel
theorem np151 : hs_np 151 = 3 := by decide +kernel
theorem np153 : hs_np 153 = 0 := by decide +kernel
theorem np157 : hs_np 157 = 2 := by decide +kernel
theorem np158 : hs_np 158 = 0 := by decide +kernel
theorem np159 : hs_np 159 = 0 := by decide +kernel
theorem np160 : hs_np 160 = 1 := by decide +kernel
theorem np161 : hs_np 161 = 2 := by decide +kernel
theorem np162 : hs_np 162 = 3 := by decide +kernel
theorem np164 : hs_np 164 = 0 := by decide +kernel
theorem np166 : hs_np 166 = 1 := by decide +kernel
theorem np167 : hs_np 167 = 2 := by decide +kernel
theorem np168 : hs_np 168 = 2 := by decide +kernel
theorem np169 : hs_np 169 = 2 := by decide +kernel
theorem np17 : hs_np 17 = 1 := by decide +kernel
theorem np172 : hs_np 172 = 3 := by decide +kernel
theorem np173 : hs_np 173 = 1 := by decide +kernel
theorem np174 : hs_np 174 = 1 := by decide +kernel
theorem np175 : hs_np 175 = 1 := by decide +kernel
theorem np176 : hs_np 176 = 2 := by decide +kernel
theorem np177 : hs_np 177 = 2 := by decide +kernel
theorem np178 : hs_np 178 = 0 := by decide +kernel
theorem np179 : hs_np 179 = 1 := by decide +kernel
theorem np18 : hs_np 18 = 1 := by decide +kernel
theorem np180 : hs_np 180 = 1 := by decide +kernel
theorem np181 : hs_np 181 = 1 := by decide +kernel
theorem np183 : hs_np 183 = 1 := by decide +kernel
theorem np185 : hs_np 185 = 1 := by decide +kernel
theorem np186 : hs_np 186 = 1 := by decide +kernel
theorem np187 : hs_np 187 = 1 := by decide +kernel
theorem np189 : hs_np 189 = 1 := by decide +kernel
theorem np19 : hs_np 19 = 2 := by decide +kernel
theorem np192 : hs_np 192 = 1 := by decide +kernel
theorem np197 : hs_np 197 = 1 := by decide +kernel
theorem np198 : hs_np 198 = 3 := by decide +kernel
theorem np199 : hs_np 199 = 2 := by decide +kernel
theorem np2 : hs_np 2 = 2 := by decide +kernel
theorem np20 : hs_np 20 = 0 := by decide +kernel
theorem np200 : hs_np 200 = 1 := by decide +kernel
theorem np201 : hs_np 201 = 2 := by decide +kernel
theorem np205 : hs_np 205 = 1 := by decide +kernel
theorem np208 : hs_np 208 = 2 := by decide +kernel
theorem np209 : hs_np 209 = 0 := by decide +kernel
theorem np210 : hs_np 210 = 1 := by decide +kernel
theorem np211 : hs_np 211 = 1 := by decide +kernel
theorem np212 : hs_np 212 = 1 := by decide +kernel
theorem np213 : hs_np 213 = 1 := by decide +kernel
theorem np214 : hs_np 214 = 0 := by decide +kernel
theorem np215 : hs_np 215 = 0 := by decide +kernel
theorem np216 : hs_np 216 = 6 := by decide +kernel
theorem np217 : hs_np 217 = 1 := by decide +kernel
theorem np218 : hs_np 218 = 3 := by decide +kernel
theorem np219 : hs_np 219 = 2 := by decide +kernel
theorem np22 : hs_np 22 = 2 := by decide +kernel
theorem np220 : hs_np 220 = 2 := by decide +kernel
theorem np221 : hs_np 221 = 2 := by decide +kernel
theorem np222 : hs_np 222 = 0 := by decide +kernel
theorem np223 : hs_np 223 = 3 := by decide +kernel
theorem np224 : hs_np 224 = 0 := by decide +kernel
theorem np225 : hs_np 225 = 0 := by decide +kernel
theorem np226 : hs_np 226 = 0 := by decide +kernel
theorem np227 : hs_np 227 = 2 := by decide +kernel
theorem np228 : hs_np 228 = 0 := by decide +kernel
theorem np229 : hs_np 229 = 0 := by decide +kernel
theorem np23 : hs_np 23 = 0 := by decide +kernel
theorem np230 : hs_np 230 = 0 := by decide +kernel
theorem np231 : hs_np 231 = 0 := by decide +kernel
theorem np232 : hs_np 232 = 0 := by decide +kernel
theorem np233 : hs_np 233 = 0 := by decide +kernel
theorem np234 : hs_np 234 = 0 := by decide +kernel
theorem np235 : hs_np 235 = 0 := by decide +kernel
theorem np236 : hs_np 236 = 0 := by decide +kernel
theorem np237 : hs_np 237 = 0 := by decide +kernel
theorem np238 : hs_np 238 = 0 := by decide +kernel
theorem np239 : hs_np 239 = 0 := by decide +kernel
theorem np24 : hs_np 24 = 1 := by decide +kernel
theorem np240 : hs_np 240 = 0 := by decide +kernel
theorem np241 : hs_np 241 = 0 := by decide +kernel
theorem np242 : hs_np 242 = 0 := by decide +kernel
theorem np243 : hs_np 243 = 0 := by decide +kernel
theorem np244 : hs_np 244 = 0 := by decide +kernel
theorem np245 : hs_np 245 = 2 := by decide +kernel
theorem np246 : hs_np 246 = 1 := by decide +kernel
theorem np247 : hs_np 247 = 3 := by decide +kernel
theorem np248 : hs_np 248 = 1 := by decide +kernel
theorem np249 : hs_np 249 = 1 := by decide +kernel
theorem np25 : hs_np 25 = 2 := by decide +kernel
theorem np250 : hs_np 250 = 0 := by decide +kernel
theorem np251 : hs_np 251 = 0 := by decide +kernel
theorem np252 : hs_np 252 = 0 := by decide +kernel
theorem np253 : hs_np 253 = 0 := by decide +kernel
theorem np254 : hs_np 254 = 0 := by decide +kernel
theorem np255 : hs_np 255 = 2 := by decide +kernel
theorem np256 : hs_np 256 = 2 := by decide +kernel
theorem np257 : hs_np 257 = 1 := by decide +kernel
theorem np258 : hs_np 258 = 0 := by decide +kernel
theorem np259 : hs_np 259 = 2 := by decide +kernel
theorem np26 : hs_np 26 = 1 := by decide +kernel
theorem np261 : hs_np 261 = 1 := by decide +kernel
theorem np262 : hs_np 262 = 1 := by decide +kernel
theorem np263 : hs_np 263 = 1 := by decide +kernel
theorem np265 : hs_np 265 = 1 := by decide +kernel
theorem np266 : hs_np 266 = 0 := by decide +kernel
theorem np267 : hs_np 267 = 1 := by decide +kernel
theorem np268 : hs_np 268 = 1 := by decide +kernel
theorem np269 : hs_np 269 = 2 := by decide +kernel
theorem np270 : hs_np 270 = 0 := by decide +kernel
theorem np272 : hs_np 272 = 1 := by decide +kernel
theorem np274 : hs_np 274 = 1 := by decide +kernel
theorem np278 : hs_np 278 = 1 := by decide +kernel
theorem np279 : hs_np 279 = 2 := by decide +kernel
theorem np28 : hs_np 28 = 1 := by decide +kernel
theorem np282 : hs_np 282 = 1 := by decide +kernel
theorem np284 : hs_np 284 = 0 := by decide +kernel
theorem np286 : hs_np 286 = 2 := by decide +kernel
theorem np289 : hs_np 289 = 2 := by decide +kernel
theorem np290 : hs_np 290 = 2 := by decide +kernel
theorem np292 : hs_np 292 = 2 := by decide +kernel
theorem np294 : hs_np 294 = 0 := by decide +kernel
theorem np30 : hs_np 30 = 2 := by decide +kernel
theorem np301 : hs_np 301 = 1 := by decide +kernel
theorem np302 : hs_np 302 = 2 := by decide +kernel
theorem np306 : hs_np 306 = 0 := by decide +kernel
theorem np307 : hs_np 307 = 0 := by decide +kernel
theorem np310 : hs_np 310 = 2 := by decide +kernel
theorem np311 : hs_np 311 = 2 := by decide +kernel
theorem np314 : hs_np 314 = 1 := by decide +kernel
theorem np315 : hs_np 315 = 2 := by decide +kernel
theorem np319 : hs_np 319 = 0 := by decide +kernel
theorem np32 : hs_np 32 = 1 := by decide +kernel
theorem np321 : hs_np 321 = 1 := by decide +kernel
theorem np325 : hs_np 325 = 1 := by decide +kernel
theorem np326 : hs_np 326 = 1 := by decide +kernel
theorem np329 : hs_np 329 = 0 := by decide +kernel
theorem np33 : hs_np 33 = 1 := by decide +kernel
theorem np330 : hs_np 330 = 1 := by decide +kernel
theorem np333 : hs_np 333 = 2 := by decide +kernel
theorem np334 : hs_np 334 = 1 := by decide +kernel
theorem np336 : hs_np 336 = 0 := by decide +kernel
theorem np339 : hs_np 339 = 1 := by decide +kernel
theorem np341 : hs_np 341 = 2 := by decide +kernel
theorem np344 : hs_np 344 = 2 := by decide +kernel
theorem np347 : hs_np 347 = 1 := by decide +kernel
theorem np348 : hs_np 348 = 2 := by decide +kernel
theorem np349 : hs_np 349 = 1 := by decide +kernel
theorem np35 : hs_np 35 = 1 := by decide +kernel
theorem np350 : hs_np 350 = 1 := by decide +kernel
theorem np351 : hs_np 351 = 1 := by decide +kernel
theorem np352 : hs_np 352 = 3 := by decide +kernel
theorem np353 : hs_np 353 = 0 := by decide +kernel
theorem np354 : hs_np 354 = 1 := by decide +kernel
theorem np355 : hs_np 355 = 1 := by decide +kernel
theorem np36 : hs_np 36 = 1 := by decide +kernel
theorem np37 : hs_np 37 = 2 := by decide +kernel
theorem np38 : hs_np 38 = 1 := by decide +kernel
theorem np39 : hs_np 39 = 3 := by decide +kernel
theorem np40 : hs_np 40 = 1 := by decide +kernel
theorem np41 : hs_np 41 = 2 := by decide +kernel
theorem np42 : hs_np 42 = 1 := by decide +kernel
theorem np43 : hs_np 43 = 2 := by decide +kernel
theorem np44 : hs_np 44 = 0 := by decide +kernel
theorem np45 : hs_np 45 = 0 := by decide +kernel
theorem np46 : hs_np 46 = 0 := by decide +kernel
theorem np47 : hs_np 47 = 1 := by decide +kernel
theorem np48 : hs_np 48 = 2 := by decide +kernel
theorem np49 : hs_np 49 = 1 := by decide +kernel
theorem np50 : hs_np 50 = 0 := by decide +kernel
theorem np51 : hs_np 51 = 0 := by decide +kernel
theorem np52 : hs_np 52 = 0 := by decide +kernel
theorem np53 : hs_np 53 = 2 := by decide +kernel
theorem np54 : hs_np 54 = 1 := by decide +kernel
theorem np55 : hs_np 55 = 3 := by decide +kernel
theorem np56 : hs_np 56 = 3 := by decide +kernel
theorem np57 : hs_np 57 = 1 := by decide +kernel
theorem np58 : hs_np 58 = 3 := by decide +kernel
theorem np59 : hs_np 59 = 0 := by decide +kernel
theorem np60 : hs_np 60 = 0 := by decide +kernel
theorem np61 : hs_np 61 = 0 := by decide +kernel
theorem np62 : hs_np 62 = 3 := by decide +kernel
theorem np63 : hs_np 63 = 0 := by decide +kernel
theorem np64 : hs_np 64 = 0 := by decide +kernel
theorem np65 : hs_np 65 = 2 := by decide +kernel
theorem np66 : hs_np 66 = 2 := by decide +kernel
theorem np67 : hs_np 67 = 0 := by decide +kernel
theorem np68 : hs_np 68 = 1 := by decide +kernel
theorem np70 : hs_np 70 = 3 := by decide +kernel
theorem np71 : hs_np 71 = 0 := by decide +kernel
theorem np72 : hs_np 72 = 0 := by decide +kernel
theorem np73 : hs_np 73 = 1 := by decide +kernel
theorem np74 : hs_np 74 = 3 := by decide +kernel
theorem np75 : hs_np 75 = 2 := by decide +kernel
theorem np76 : hs_np 76 = 1 := by decide +kernel
theorem np77 : hs_np 77 = 1 := by decide +kernel
theorem np78 : hs_np 78 = 1 := by decide +kernel
theorem np81 : hs_np 81 = 1 := by decide +kernel
theorem np82 : hs_np 82 = 1 := by decide +kernel
theorem np83 : hs_np 83 = 0 := by decide +kernel
theorem np84 : hs_np 84 = 1 := by decide +kernel
theorem np85 : hs_np 85 = 1 := by decide +kernel
theorem np86 : hs_np 86 = 0 := by decide +kernel
theorem np87 : hs_np 87 = 0 := by decide +kernel
theorem np89 : hs_np 89 = 1 := by decide +kernel
theorem np9 : hs_np 9 = 0 := by decide +kernel
theorem np91 : hs_np 91 = 1 := by decide +kernel
theorem np95 : hs_np 95 = 1 := by decide +kernel
theorem np96 : hs_np 96 = 2 := by decide +kernel
theorem nzI_2 : ¬ (2 : Int32) = 0 := by decide
theorem nzI_65536 : ¬ (65536 : Int32) = 0 := by decide
theorem nzI_8 : ¬ (8 : Int32) = 0 := by decide
theorem on_48 : Int32.ofNat 48 = 48 := by decide
theorem ow100 : hs_own 100 = 4 := by decide +kernel
theorem ow101 : hs_own 101 = 4 := by decide +kernel
theorem ow102 : hs_own 102 = 1 := by decide +kernel
theorem ow103 : hs_own 103 = 1 := by decide +kernel
theorem ow105 : hs_own 105 = 4 := by decide +kernel
theorem ow107 : hs_own 107 = 10 := by decide +kernel
theorem ow109 : hs_own 109 = 10 := by decide +kernel
theorem ow110 : hs_own 110 = 1 := by decide +kernel
theorem ow112 : hs_own 112 = 4 := by decide +kernel
theorem ow114 : hs_own 114 = 4 := by decide +kernel
theorem ow121 : hs_own 121 = 4 := by decide +kernel
theorem ow126 : hs_own 126 = 4 := by decide +kernel
theorem ow128 : hs_own 128 = 1 := by decide +kernel
theorem ow129 : hs_own 129 = 1 := by decide +kernel
theorem ow132 : hs_own 132 = 4 := by decide +kernel
theorem ow133 : hs_own 133 = 4 := by decide +kernel
theorem ow137 : hs_own 137 = 1 := by decide +kernel
theorem ow143 : hs_own 143 = 10 := by decide +kernel
theorem ow144 : hs_own 144 = 10 := by decide +kernel
theorem ow147 : hs_own 147 = 10 := by decide +kernel
theorem ow150 : hs_own 150 = 9 := by decide +kernel
theorem ow151 : hs_own 151 = 10 := by decide +kernel
theorem ow153 : hs_own 153 = 10 := by decide +kernel
theorem ow157 : hs_own 157 = 0 := by decide +kernel
theorem ow158 : hs_own 158 = 0 := by decide +kernel
theorem ow159 : hs_own 159 = 0 := by decide +kernel
theorem ow160 : hs_own 160 = 0 := by decide +kernel
theorem ow161 : hs_own 161 = 0 := by decide +kernel
theorem ow162 : hs_own 162 = 0 := by decide +kernel
theorem ow164 : hs_own 164 = 0 := by decide +kernel
theorem ow166 : hs_own 166 = 4 := by decide +kernel
theorem ow168 : hs_own 168 = 10 := by decide +kernel
theorem ow172 : hs_own 172 = 2 := by decide +kernel
theorem ow173 : hs_own 173 = 2 := by decide +kernel
theorem ow174 : hs_own 174 = 2 := by decide +kernel
theorem ow175 : hs_own 175 = 2 := by decide +kernel
theorem ow176 : hs_own 176 = 2 := by decide +kernel
theorem ow177 : hs_own 177 = 2 := by decide +kernel
theorem ow178 : hs_own 178 = 2 := by decide +kernel
theorem ow179 : hs_own 179 = 2 := by decide +kernel
theorem ow18 : hs_own 18 = 10 := by decide +kernel
theorem ow180 : hs_own 180 = 2 := by decide +kernel
theorem ow181 : hs_own 181 = 2 := by decide +kernel
theorem ow183 : hs_own 183 = 2 := by decide +kernel
theorem ow185 : hs_own 185 = 4 := by decide +kernel
theorem ow186 : hs_own 186 = 3 := by decide +kernel
theorem ow187 : hs_own 187 = 1 := by decide +kernel
theorem ow189 : hs_own 189 = 5 := by decide +kernel
theorem ow19 : hs_own 19 = 9 := by decide +kernel
theorem ow192 : hs_own 192 = 11 := by decide +kernel
theorem ow197 : hs_own 197 = 11 := by decide +kernel
theorem ow198 : hs_own 198 = 11 := by decide +kernel
theorem ow199 : hs_own 199 = 11 := by decide +kernel
theorem ow20 : hs_own 20 = 10 := by decide +kernel
theorem ow200 : hs_own 200 = 11 := by decide +kernel
theorem ow205 : hs_own 205 = 11 := by decide +kernel
theorem ow208 : hs_own 208 = 11 := by decide +kernel
theorem ow209 : hs_own 209 = 11 := by decide +kernel
theorem ow210 : hs_own 210 = 11 := by decide +kernel
theorem ow213 : hs_own 213 = 11 := by decide +kernel
theorem ow214 : hs_own 214 = 11 := by decide +kernel
theorem ow215 : hs_own 215 = 11 := by decide +kernel
theorem ow217 : hs_own 217 = 11 := by decide +kernel
theorem ow218 : hs_own 218 = 11 := by decide +kernel
theorem ow22 : hs_own 22 = 10 := by decide +kernel
theorem ow220 : hs_own 220 = 11 := by decide +kernel
theorem ow221 : hs_own 221 = 11 := by decide +kernel
theorem ow222 : hs_own 222 = 11 := by decide +kernel
theorem ow224 : hs_own 224 = 11 := by decide +kernel
theorem ow225 : hs_own 225 = 11 := by decide +kernel
theorem ow226 : hs_own 226 = 11 := by decide +kernel
theorem ow227 : hs_own 227 = 11 := by decide +kernel
theorem ow228 : hs_own 228 = 11 := by decide +kernel
theorem ow229 : hs_own 229 = 11 := by decide +kernel
theorem ow23 : hs_own 23 = 9 := by decide +kernel
theorem ow230 : hs_own 230 = 11 := by decide +kernel
theorem ow231 : hs_own 231 = 11 := by decide +kernel
theorem ow232 : hs_own 232 = 11 := by decide +kernel
theorem ow233 : hs_own 233 = 11 := by decide +kernel
theorem ow234 : hs_own 234 = 11 := by decide +kernel
theorem ow235 : hs_own 235 = 11 := by decide +kernel
theorem ow236 : hs_own 236 = 11 := by decide +kernel
theorem ow237 : hs_own 237 = 11 := by decide +kernel
theorem ow238 : hs_own 238 = 11 := by decide +kernel
theorem ow239 : hs_own 239 = 11 := by decide +kernel
theorem ow24 : hs_own 24 = 9 := by decide +kernel
theorem ow240 : hs_own 240 = 11 := by decide +kernel
theorem ow241 : hs_own 241 = 11 := by decide +kernel
theorem ow242 : hs_own 242 = 11 := by decide +kernel
theorem ow243 : hs_own 243 = 11 := by decide +kernel
theorem ow244 : hs_own 244 = 11 := by decide +kernel
theorem ow245 : hs_own 245 = 11 := by decide +kernel
theorem ow247 : hs_own 247 = 11 := by decide +kernel
theorem ow248 : hs_own 248 = 11 := by decide +kernel
theorem ow249 : hs_own 249 = 11 := by decide +kernel
theorem ow25 : hs_own 25 = 9 := by decide +kernel
theorem ow250 : hs_own 250 = 11 := by decide +kernel
theorem ow251 : hs_own 251 = 11 := by decide +kernel
theorem ow252 : hs_own 252 = 11 := by decide +kernel
theorem ow253 : hs_own 253 = 11 := by decide +kernel
theorem ow254 : hs_own 254 = 11 := by decide +kernel
theorem ow255 : hs_own 255 = 11 := by decide +kernel
theorem ow256 : hs_own 256 = 11 := by decide +kernel
theorem ow257 : hs_own 257 = 11 := by decide +kernel
theorem ow258 : hs_own 258 = 11 := by decide +kernel
theorem ow259 : hs_own 259 = 11 := by decide +kernel
theorem ow26 : hs_own 26 = 9 := by decide +kernel
theorem ow261 : hs_own 261 = 11 := by decide +kernel
theorem ow262 : hs_own 262 = 11 := by decide +kernel
theorem ow263 : hs_own 263 = 11 := by decide +kernel
theorem ow265 : hs_own 265 = 11 := by decide +kernel
theorem ow266 : hs_own 266 = 11 := by decide +kernel
theorem ow267 : hs_own 267 = 11 := by decide +kernel
theorem ow268 : hs_own 268 = 11 := by decide +kernel
theorem ow269 : hs_own 269 = 11 := by decide +kernel
theorem ow270 : hs_own 270 = 11 := by decide +kernel
theorem ow272 : hs_own 272 = 11 := by decide +kernel
theorem ow274 : hs_own 274 = 11 := by decide +kernel
theorem ow278 : hs_own 278 = 11 := by decide +kernel
theorem ow279 : hs_own 279 = 11 := by decide +kernel
theorem ow28 : hs_own 28 = 10 := by decide +kernel
theorem ow282 : hs_own 282 = 11 := by decide +kernel
theorem ow284 : hs_own 284 = 11 := by decide +kernel
theorem ow286 : hs_own 286 = 11 := by decide +kernel
theorem ow289 : hs_own 289 = 11 := by decide +kernel
theorem ow290 : hs_own 290 = 11 := by decide +kernel
theorem ow292 : hs_own 292 = 11 := by decide +kernel
theorem ow294 : hs_own 294 = 11 := by decide +kernel
theorem ow30 : hs_own 30 = 9 := by decide +kernel
theorem ow301 : hs_own 301 = 11 := by decide +kernel
theorem ow302 : hs_own 302 = 11 := by decide +kernel
theorem ow306 : hs_own 306 = 11 := by decide +kernel
theorem ow307 : hs_own 307 = 11 := by decide +kernel
theorem ow310 : hs_own 310 = 11 := by decide +kernel
theorem ow311 : hs_own 311 = 11 := by decide +kernel
theorem ow315 : hs_own 315 = 11 := by decide +kernel
theorem ow319 : hs_own 319 = 11 := by decide +kernel
theorem ow32 : hs_own 32 = 8 := by decide +kernel
theorem ow325 : hs_own 325 = 11 := by decide +kernel
theorem ow326 : hs_own 326 = 11 := by decide +kernel
theorem ow329 : hs_own 329 = 11 := by decide +kernel
theorem ow33 : hs_own 33 = 8 := by decide +kernel
theorem ow330 : hs_own 330 = 11 := by decide +kernel
theorem ow333 : hs_own 333 = 11 := by decide +kernel
theorem ow334 : hs_own 334 = 11 := by decide +kernel
theorem ow336 : hs_own 336 = 11 := by decide +kernel
theorem ow339 : hs_own 339 = 11 := by decide +kernel
theorem ow341 : hs_own 341 = 11 := by decide +kernel
theorem ow344 : hs_own 344 = 11 := by decide +kernel
theorem ow347 : hs_own 347 = 11 := by decide +kernel
theorem ow348 : hs_own 348 = 11 := by decide +kernel
theorem ow349 : hs_own 349 = 11 := by decide +kernel
theorem ow35 : hs_own 35 = 8 := by decide +kernel
theorem ow350 : hs_own 350 = 11 := by decide +kernel
theorem ow351 : hs_own 351 = 11 := by decide +kernel
theorem ow352 : hs_own 352 = 11 := by decide +kernel
theorem ow353 : hs_own 353 = 11 := by decide +kernel
theorem ow354 : hs_own 354 = 11 := by decide +kernel
theorem ow355 : hs_own 355 = 11 := by decide +kernel
theorem ow37 : hs_own 37 = 8 := by decide +kernel
theorem ow38 : hs_own 38 = 8 := by decide +kernel
theorem ow39 : hs_own 39 = 8 := by decide +kernel
theorem ow41 : hs_own 41 = 8 := by decide +kernel
theorem ow43 : hs_own 43 = 7 := by decide +kernel
theorem ow44 : hs_own 44 = 8 := by decide +kernel
theorem ow45 : hs_own 45 = 7 := by decide +kernel
theorem ow46 : hs_own 46 = 7 := by decide +kernel
theorem ow47 : hs_own 47 = 8 := by decide +kernel
theorem ow48 : hs_own 48 = 8 := by decide +kernel
theorem ow49 : hs_own 49 = 8 := by decide +kernel
theorem ow50 : hs_own 50 = 8 := by decide +kernel
theorem ow51 : hs_own 51 = 7 := by decide +kernel
theorem ow52 : hs_own 52 = 7 := by decide +kernel
theorem ow53 : hs_own 53 = 7 := by decide +kernel
theorem ow54 : hs_own 54 = 3 := by decide +kernel
theorem ow55 : hs_own 55 = 3 := by decide +kernel
theorem ow56 : hs_own 56 = 7 := by decide +kernel
theorem ow58 : hs_own 58 = 1 := by decide +kernel
theorem ow59 : hs_own 59 = 7 := by decide +kernel
theorem ow60 : hs_own 60 = 7 := by decide +kernel
theorem ow61 : hs_own 61 = 7 := by decide +kernel
theorem ow62 : hs_own 62 = 4 := by decide +kernel
theorem ow63 : hs_own 63 = 7 := by decide +kernel
theorem ow64 : hs_own 64 = 7 := by decide +kernel
theorem ow65 : hs_own 65 = 8 := by decide +kernel
theorem ow66 : hs_own 66 = 3 := by decide +kernel
theorem ow67 : hs_own 67 = 5 := by decide +kernel
theorem ow68 : hs_own 68 = 10 := by decide +kernel
theorem ow70 : hs_own 70 = 6 := by decide +kernel
theorem ow71 : hs_own 71 = 6 := by decide +kernel
theorem ow72 : hs_own 72 = 6 := by decide +kernel
theorem ow74 : hs_own 74 = 6 := by decide +kernel
theorem ow75 : hs_own 75 = 6 := by decide +kernel
theorem ow76 : hs_own 76 = 6 := by decide +kernel
theorem ow77 : hs_own 77 = 6 := by decide +kernel
theorem ow78 : hs_own 78 = 6 := by decide +kernel
theorem ow81 : hs_own 81 = 4 := by decide +kernel
theorem ow82 : hs_own 82 = 4 := by decide +kernel
theorem ow83 : hs_own 83 = 1 := by decide +kernel
theorem ow84 : hs_own 84 = 4 := by decide +kernel
theorem ow85 : hs_own 85 = 1 := by decide +kernel
theorem ow86 : hs_own 86 = 1 := by decide +kernel
theorem ow87 : hs_own 87 = 4 := by decide +kernel
theorem ow89 : hs_own 89 = 10 := by decide +kernel
theorem ow9 : hs_own 9 = 4 := by decide +kernel
theorem ow91 : hs_own 91 = 10 := by decide +kernel
theorem ow95 : hs_own 95 = 10 := by decide +kernel
theorem ow96 : hs_own 96 = 4 := by decide +kernel
