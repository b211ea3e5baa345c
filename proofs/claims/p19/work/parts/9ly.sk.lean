/-! ===== the skeleton of a world that the contracts leave (printed by lay4.py) ===== -/
set_option maxRecDepth 1000000 in
set_option maxHeartbeats 8000000 in
theorem SK_cd {f g : Nat → Int32} {A B : Nat → List Int32} {R : Nat → Value} (hI : CI f A R) (hM : MI g B) : SK (cd f A R (em g B)) := by
  obtain ⟨⟨l, h5⟩, hr⟩ := hI.2.2.2
  obtain ⟨b0, h0⟩ := hr 0 (by decide)
  obtain ⟨b1, h1⟩ := hr 1 (by decide)
  obtain ⟨b2, h2⟩ := hr 2 (by decide)
  obtain ⟨b3, h3⟩ := hr 3 (by decide)
  obtain ⟨b4, h4⟩ := hr 4 (by decide)
  show (
.inr (11, [.ref 1, .ref 21, .ref 22, .ref 23, .ref 33, .ref 42, .ref 55, .ref 68, .ref 83, .ref 85, .ref 86]) ::
    .inr (8, [.ref 2, .ref 3, .int 0, .int 0, .ref 4, .int 0, .int 0, .int 0]) ::
    .inl (3, .inr (.inr [some 5, some 10])) ::
    .inl (4, .inr (.inr [some 15, some 17, some 19])) ::
    .inl (1, .inl (List.replicate (A 4).length 0)) ::
    .inr (9, [.int 0, .int 0, .int 0, .ref 6, .ref 7, .ref 8, .ref 9]) ::
    .inl (0, .inl (List.replicate (A 6).length 0)) ::
    .inl (0, .inl (List.replicate (A 7).length 0)) ::
    .inl (0, .inl (List.replicate (A 8).length 0)) ::
    .inl (0, .inl (List.replicate (A 9).length 0)) ::
    .inr (9, [.int 0, .int 0, .int 0, .ref 11, .ref 12, .ref 13, .ref 14]) ::
    .inl (0, .inl (List.replicate (A 11).length 0)) ::
    .inl (0, .inl (List.replicate (A 12).length 0)) ::
    .inl (0, .inl (List.replicate (A 13).length 0)) ::
    .inl (0, .inl (List.replicate (A 14).length 0)) ::
    .inr (5, [.int 0, .ref 16]) ::
    .inl (0, .inl (List.replicate (A 16).length 0)) ::
    .inr (5, [.int 0, .ref 18]) ::
    .inl (0, .inl (List.replicate (A 18).length 0)) ::
    .inr (5, [.int 0, .ref 20]) ::
    .inl (0, .inl (List.replicate (A 20).length 0)) ::
    .inl (5, .inr (.inr [some 87, some 107, some 127])) ::
    .inl (2, .inl (List.replicate (A 22).length 0)) ::
    .inr (4, [.ref 24, .ref 29, .ref 31, sk_v 4 3 (R 4), .int 0, .int 0, .int 0, .int 0, .int 0, .int 0, .int 0, .int 0]) ::
    .inr (9, [.int 0, .int 0, .int 0, .ref 25, .ref 26, .ref 27, .ref 28]) ::
    .inl (0, .inl (List.replicate (A 25).length 0)) ::
    .inl (0, .inl (List.replicate (A 26).length 0)) ::
    .inl (0, .inl (List.replicate (A 27).length 0)) ::
    .inl (0, .inl (List.replicate (A 28).length 0)) ::
    .inr (5, [.int 0, .ref 30]) ::
    .inl (0, .inl (List.replicate (A 30).length 0)) ::
    .inl (0, .inl (List.replicate (A 31).length 0)) ::
    .inl (1, .inl (List.replicate (A 32).length 0)) ::
    .inr (7, [sk_v 7 0 (R 0), .int 0, .int 0, .ref 39, .ref 40, .ref 41]) ::
    .inr (9, [.int 0, .int 0, .int 0, .ref 35, .ref 36, .ref 37, .ref 38]) ::
    .inl (0, .inl (List.replicate (A 35).length 0)) ::
    .inl (0, .inl (List.replicate (A 36).length 0)) ::
    .inl (0, .inl (List.replicate (A 37).length 0)) ::
    .inl (0, .inl (List.replicate (A 38).length 0)) ::
    .inl (0, .inl (List.replicate (A 39).length 0)) ::
    .inl (0, .inl (List.replicate (A 40).length 0)) ::
    .inl (0, .inl (List.replicate (A 41).length 0)) ::
    .inr (1, [.ref 43, .ref 44, .ref 45, .ref 46]) ::
    .inl (0, .inl (List.replicate (A 43).length 0)) ::
    .inl (0, .inl (List.replicate (A 44).length 0)) ::
    .inl (0, .inl (List.replicate (A 45).length 0)) ::
    .inr (7, [sk_v 7 0 (R 1), .int 0, .int 0, .ref 52, .ref 53, .ref 54]) ::
    .inr (9, [.int 0, .int 0, .int 0, .ref 48, .ref 49, .ref 50, .ref 51]) ::
    .inl (0, .inl (List.replicate (A 48).length 0)) ::
    .inl (0, .inl (List.replicate (A 49).length 0)) ::
    .inl (0, .inl (List.replicate (A 50).length 0)) ::
    .inl (0, .inl (List.replicate (A 51).length 0)) ::
    .inl (0, .inl (List.replicate (A 52).length 0)) ::
    .inl (0, .inl (List.replicate (A 53).length 0)) ::
    .inl (0, .inl (List.replicate (A 54).length 0)) ::
    .inr (6, [sk_v 6 0 (R 2), .int 0, .int 0, .ref 65, .ref 66, .ref 67, .int 0, .int 0, sk_v 6 8 (R 5)]) ::
    .inr (7, [.ref 0, .int 0, .int 0, .ref 62, .ref 63, .ref 64]) ::
    .inr (9, [.int 0, .int 0, .int 0, .ref 58, .ref 59, .ref 60, .ref 61]) ::
    .inl (0, .inl (List.replicate (A 58).length 0)) ::
    .inl (0, .inl (List.replicate (A 59).length 0)) ::
    .inl (0, .inl (List.replicate (A 60).length 0)) ::
    .inl (0, .inl (List.replicate (A 61).length 0)) ::
    .inl (0, .inl (List.replicate (A 62).length 0)) ::
    .inl (0, .inl (List.replicate (A 63).length 0)) ::
    .inl (0, .inl (List.replicate (A 64).length 0)) ::
    .inl (0, .inl (List.replicate (A 65).length 0)) ::
    .inl (0, .inl (List.replicate (A 66).length 0)) ::
    .inl (0, .inl (List.replicate (A 67).length 0)) ::
    .inr (10, [sk_v 10 0 (R 3), .ref 74, .ref 75, .ref 76, .ref 77, .ref 78, .ref 79, .int 0, .int 0]) ::
    .inr (9, [.int 0, .int 0, .int 0, .ref 70, .ref 71, .ref 72, .ref 73]) ::
    .inl (0, .inl (List.replicate (A 70).length 0)) ::
    .inl (0, .inl (List.replicate (A 71).length 0)) ::
    .inl (0, .inl (List.replicate (A 72).length 0)) ::
    .inl (0, .inl (List.replicate (A 73).length 0)) ::
    .inl (0, .inl (List.replicate (A 74).length 0)) ::
    .inl (0, .inl (List.replicate (A 75).length 0)) ::
    .inl (0, .inl (List.replicate (A 76).length 0)) ::
    .inl (0, .inl (List.replicate (A 77).length 0)) ::
    .inl (2, .inl (List.replicate (A 78).length 0)) ::
    .inr (0, [.ref 80, .ref 81, .ref 82]) ::
    .inl (0, .inl (List.replicate (A 80).length 0)) ::
    .inl (0, .inl (List.replicate (A 81).length 0)) ::
    .inl (0, .inl (List.replicate (A 82).length 0)) ::
    .inr (3, [.int 0, .int 0, .ref 84]) ::
    .inl (0, .inl (List.replicate (A 84).length 0)) ::
    .inr (2, [.int 0, .int 0, .int 0]) ::
    .inl (0, .inl (List.replicate (A 86).length 0)) ::
    .inr (8, [.ref 88, .ref 89, .int 0, .int 0, .ref 90, .int 0, .int 0, .int 0]) ::
    .inl (3, .inr (.inr [some 91, some 96])) ::
    .inl (4, .inr (.inr [some 101, some 103, some 105])) ::
    .inl (1, .inl (List.replicate (A 90).length 0)) ::
    .inr (9, [.int 0, .int 0, .int 0, .ref 92, .ref 93, .ref 94, .ref 95]) ::
    .inl (0, .inl (List.replicate (A 92).length 0)) ::
    .inl (0, .inl (List.replicate (A 93).length 0)) ::
    .inl (0, .inl (List.replicate (A 94).length 0)) ::
    .inl (0, .inl (List.replicate (A 95).length 0)) ::
    .inr (9, [.int 0, .int 0, .int 0, .ref 97, .ref 98, .ref 99, .ref 100]) ::
    .inl (0, .inl (List.replicate (A 97).length 0)) ::
    .inl (0, .inl (List.replicate (A 98).length 0)) ::
    .inl (0, .inl (List.replicate (A 99).length 0)) ::
    .inl (0, .inl (List.replicate (A 100).length 0)) ::
    .inr (5, [.int 0, .ref 102]) ::
    .inl (0, .inl (List.replicate (A 102).length 0)) ::
    .inr (5, [.int 0, .ref 104]) ::
    .inl (0, .inl (List.replicate (A 104).length 0)) ::
    .inr (5, [.int 0, .ref 106]) ::
    .inl (0, .inl (List.replicate (A 106).length 0)) ::
    .inr (8, [.ref 108, .ref 109, .int 0, .int 0, .ref 110, .int 0, .int 0, .int 0]) ::
    .inl (3, .inr (.inr [some 111, some 116])) ::
    .inl (4, .inr (.inr [some 121, some 123, some 125])) ::
    .inl (1, .inl (List.replicate (A 110).length 0)) ::
    .inr (9, [.int 0, .int 0, .int 0, .ref 112, .ref 113, .ref 114, .ref 115]) ::
    .inl (0, .inl (List.replicate (A 112).length 0)) ::
    .inl (0, .inl (List.replicate (A 113).length 0)) ::
    .inl (0, .inl (List.replicate (A 114).length 0)) ::
    .inl (0, .inl (List.replicate (A 115).length 0)) ::
    .inr (9, [.int 0, .int 0, .int 0, .ref 117, .ref 118, .ref 119, .ref 120]) ::
    .inl (0, .inl (List.replicate (A 117).length 0)) ::
    .inl (0, .inl (List.replicate (A 118).length 0)) ::
    .inl (0, .inl (List.replicate (A 119).length 0)) ::
    .inl (0, .inl (List.replicate (A 120).length 0)) ::
    .inr (5, [.int 0, .ref 122]) ::
    .inl (0, .inl (List.replicate (A 122).length 0)) ::
    .inr (5, [.int 0, .ref 124]) ::
    .inl (0, .inl (List.replicate (A 124).length 0)) ::
    .inr (5, [.int 0, .ref 126]) ::
    .inl (0, .inl (List.replicate (A 126).length 0)) ::
    .inr (8, [.ref 128, .ref 129, .int 0, .int 0, .ref 130, .int 0, .int 0, .int 0]) ::
    .inl (3, .inr (.inr [some 131, some 136])) ::
    .inl (4, .inr (.inr [some 141, some 143, some 145])) ::
    .inl (1, .inl (List.replicate (A 130).length 0)) ::
    .inr (9, [.int 0, .int 0, .int 0, .ref 132, .ref 133, .ref 134, .ref 135]) ::
    .inl (0, .inl (List.replicate (A 132).length 0)) ::
    .inl (0, .inl (List.replicate (A 133).length 0)) ::
    .inl (0, .inl (List.replicate (A 134).length 0)) ::
    .inl (0, .inl (List.replicate (A 135).length 0)) ::
    .inr (9, [.int 0, .int 0, .int 0, .ref 137, .ref 138, .ref 139, .ref 140]) ::
    .inl (0, .inl (List.replicate (A 137).length 0)) ::
    .inl (0, .inl (List.replicate (A 138).length 0)) ::
    .inl (0, .inl (List.replicate (A 139).length 0)) ::
    .inl (0, .inl (List.replicate (A 140).length 0)) ::
    .inr (5, [.int 0, .ref 142]) ::
    .inl (0, .inl (List.replicate (A 142).length 0)) ::
    .inr (5, [.int 0, .ref 144]) ::
    .inl (0, .inl (List.replicate (A 144).length 0)) ::
    .inr (5, [.int 0, .ref 146]) ::
    .inl (0, .inl (List.replicate (A 146).length 0)) ::
    .inr (12, [.ref 148, .ref 149, .int 0, .int 0, .int 0, .int 0, .int 0, .int 0, .int 0, .int 0, .ref 150, .ref 151, .ref 152, .ref 153, .int 0, .int 0, .int 0, .ref 154, .ref 155, .ref 156, .ref 157, .ref 158, .ref 159, .int 0, .int 0, .ref 160, .ref 161, .ref 162, .ref 163, .ref 164, .ref 165, .int 0, .int 0, .int 0, .ref 166, .int 0]) ::
    .inl (0, .inl (List.replicate (B 148).length 0)) ::
    .inl (2, .inl (List.replicate (B 149).length 0)) ::
    .inl (0, .inl (List.replicate (B 150).length 0)) ::
    .inl (0, .inl (List.replicate (B 151).length 0)) ::
    .inl (0, .inl (List.replicate (B 152).length 0)) ::
    .inl (0, .inl (List.replicate (B 153).length 0)) ::
    .inl (0, .inl (List.replicate (B 154).length 0)) ::
    .inl (0, .inl (List.replicate (B 155).length 0)) ::
    .inl (0, .inl (List.replicate (B 156).length 0)) ::
    .inl (0, .inl (List.replicate (B 157).length 0)) ::
    .inl (0, .inl (List.replicate (B 158).length 0)) ::
    .inl (0, .inl (List.replicate (B 159).length 0)) ::
    .inl (0, .inl (List.replicate (B 160).length 0)) ::
    .inl (0, .inl (List.replicate (B 161).length 0)) ::
    .inl (0, .inl (List.replicate (B 162).length 0)) ::
    .inl (0, .inl (List.replicate (B 163).length 0)) ::
    .inl (0, .inl (List.replicate (B 164).length 0)) ::
    .inl (0, .inl (List.replicate (B 165).length 0)) ::
    .inl (0, .inl (List.replicate (B 166).length 0)) :: ([] : List pm_E)) = sk0
  rw [cl_4 hI, cl_6 hI, cl_7 hI, cl_8 hI, cl_9 hI, cl_11 hI, cl_12 hI, cl_13 hI, cl_14 hI, cl_16 hI, cl_18 hI, cl_20 hI, cl_22 hI, cl_25 hI, cl_26 hI, cl_27 hI, cl_28 hI, cl_30 hI, cl_31 hI, cl_32 hI, cl_35 hI, cl_36 hI, cl_37 hI, cl_38 hI, cl_39 hI, cl_40 hI, cl_41 hI, cl_43 hI, cl_44 hI, cl_45 hI, cl_48 hI, cl_49 hI, cl_50 hI, cl_51 hI, cl_52 hI, cl_53 hI, cl_54 hI, cl_58 hI, cl_59 hI, cl_60 hI, cl_61 hI, cl_62 hI, cl_63 hI, cl_64 hI, cl_65 hI, cl_66 hI, cl_67 hI, cl_70 hI, cl_71 hI, cl_72 hI, cl_73 hI, cl_74 hI, cl_75 hI, cl_76 hI, cl_77 hI, cl_78 hI, cl_80 hI, cl_81 hI, cl_82 hI, cl_84 hI, cl_86 hI, cl_90 hI, cl_92 hI, cl_93 hI, cl_94 hI, cl_95 hI, cl_97 hI, cl_98 hI, cl_99 hI, cl_100 hI, cl_102 hI, cl_104 hI, cl_106 hI, cl_110 hI, cl_112 hI, cl_113 hI, cl_114 hI, cl_115 hI, cl_117 hI, cl_118 hI, cl_119 hI, cl_120 hI, cl_122 hI, cl_124 hI, cl_126 hI, cl_130 hI, cl_132 hI, cl_133 hI, cl_134 hI, cl_135 hI, cl_137 hI, cl_138 hI, cl_139 hI, cl_140 hI, cl_142 hI, cl_144 hI, cl_146 hI, h0, h1, h2, h3, h4, h5, hM.2.1 148 (by decide) (by decide), hM.2.1 149 (by decide) (by decide), hM.2.1 150 (by decide) (by decide), hM.2.1 151 (by decide) (by decide), hM.2.1 152 (by decide) (by decide), hM.2.1 153 (by decide) (by decide), hM.2.1 154 (by decide) (by decide), hM.2.1 155 (by decide) (by decide), hM.2.1 156 (by decide) (by decide), hM.2.1 157 (by decide) (by decide), hM.2.1 158 (by decide) (by decide), hM.2.1 159 (by decide) (by decide), hM.2.1 160 (by decide) (by decide), hM.2.1 161 (by decide) (by decide), hM.2.1 162 (by decide) (by decide), hM.2.1 163 (by decide) (by decide), hM.2.1 164 (by decide) (by decide), hM.2.1 165 (by decide) (by decide), hM.2.1 166 (by decide) (by decide)]
  rfl
