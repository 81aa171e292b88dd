theorem e_X5_init {p0 : Option Nat} {h : AH} : E mX5_init [aR p0] h = X mX5_init 0 [aR p0] [] h := rfl
theorem x_X5_init_0 {z : Option Nat} {st : List AV} {h : AH} : X mX5_init 0 [aR z] st h = X mX5_init 1 [aR z] (aR z :: st) h := X_of dX5_init_0 rfl
theorem x_X5_init_1 {a : Nat} {al : List AV} {h : AH} : X mX5_init 1 al [aR (some a)] h = X mX5_init 4 al [] h := X_of dX5_init_1 rfl
theorem x_X5_init_4 {z : Option Nat} {st : List AV} {h : AH} : X mX5_init 4 [aR z] st h = X mX5_init 5 [aR z] (aR z :: st) h := X_of dX5_init_4 rfl
theorem x_X5_init_5 {al st : List AV} {h : AH} : X mX5_init 5 al st h = X mX5_init 7 al (aI 7 :: st) h := X_of dX5_init_5 rfl
theorem x_X5_init_7 {n : Int} {al st : List AV} {h : AH} : X mX5_init 7 al (aI n :: st) h = if 0 ≤ n ∧ n ≤ 1000 then X mX5_init 9 al (aR (some h.length) :: st) (h ++ [(10, List.replicate n.toNat (aI 0))]) else none := x_nwa dX5_init_7 rfl
theorem x_X5_init_9 {a : Nat} {z : Option Nat} {al st : List AV} {h : AH} : X mX5_init 9 al (aR z :: aR (some a) :: st) h = pK (rd h 5 a 1) (X mX5_init 12 al st (wr h 5 a 1 (aR z))) := x_put dX5_init_9 fT_5_7 rfl rfl
theorem x_X5_init_12 {z : Option Nat} {st : List AV} {h : AH} : X mX5_init 12 [aR z] st h = X mX5_init 13 [aR z] (aR z :: st) h := X_of dX5_init_12 rfl
theorem x_X5_init_13 {al st : List AV} {h : AH} : X mX5_init 13 al st h = X mX5_init 15 al (aI 12 :: st) h := X_of dX5_init_13 rfl
theorem x_X5_init_15 {n : Int} {al st : List AV} {h : AH} : X mX5_init 15 al (aI n :: st) h = if 0 ≤ n ∧ n ≤ 1000 then X mX5_init 17 al (aR (some h.length) :: st) (h ++ [(10, List.replicate n.toNat (aI 0))]) else none := x_nwa dX5_init_15 rfl
theorem x_X5_init_17 {a : Nat} {z : Option Nat} {al st : List AV} {h : AH} : X mX5_init 17 al (aR z :: aR (some a) :: st) h = pK (rd h 5 a 5) (X mX5_init 20 al st (wr h 5 a 5 (aR z))) := x_put dX5_init_17 fT_5_13 rfl rfl
theorem x_X5_init_20 {z : Option Nat} {st : List AV} {h : AH} : X mX5_init 20 [aR z] st h = X mX5_init 21 [aR z] (aR z :: st) h := X_of dX5_init_20 rfl
theorem x_X5_init_21 {al st : List AV} {h : AH} : X mX5_init 21 al st h = X mX5_init 23 al (aI 12 :: st) h := X_of dX5_init_21 rfl
theorem x_X5_init_23 {n : Int} {al st : List AV} {h : AH} : X mX5_init 23 al (aI n :: st) h = if 0 ≤ n ∧ n ≤ 1000 then X mX5_init 25 al (aR (some h.length) :: st) (h ++ [(10, List.replicate n.toNat (aI 0))]) else none := x_nwa dX5_init_23 rfl
theorem x_X5_init_25 {a : Nat} {z : Option Nat} {al st : List AV} {h : AH} : X mX5_init 25 al (aR z :: aR (some a) :: st) h = pK (rd h 5 a 6) (X mX5_init 28 al st (wr h 5 a 6 (aR z))) := x_put dX5_init_25 fT_5_16 rfl rfl
theorem x_X5_init_28 {z : Option Nat} {st : List AV} {h : AH} : X mX5_init 28 [aR z] st h = X mX5_init 29 [aR z] (aR z :: st) h := X_of dX5_init_28 rfl
theorem x_X5_init_29 {al st : List AV} {h : AH} : X mX5_init 29 al st h = X mX5_init 32 al (aI 288 :: st) h := X_of dX5_init_29 rfl
theorem x_X5_init_32 {n : Int} {al st : List AV} {h : AH} : X mX5_init 32 al (aI n :: st) h = if 0 ≤ n ∧ n ≤ 1000 then X mX5_init 34 al (aR (some h.length) :: st) (h ++ [(11, List.replicate n.toNat (aJ 0))]) else none := x_nwa dX5_init_32 rfl
theorem x_X5_init_34 {a : Nat} {z : Option Nat} {al st : List AV} {h : AH} : X mX5_init 34 al (aR z :: aR (some a) :: st) h = pK (rd h 5 a 7) (X mX5_init 37 al st (wr h 5 a 7 (aR z))) := x_put dX5_init_34 fT_5_19 rfl rfl
theorem x_X5_init_37 {z : Option Nat} {st : List AV} {h : AH} : X mX5_init 37 [aR z] st h = X mX5_init 38 [aR z] (aR z :: st) h := X_of dX5_init_37 rfl
theorem x_X5_init_38 {al st : List AV} {h : AH} : X mX5_init 38 al st h = X mX5_init 40 al (aI 24 :: st) h := X_of dX5_init_38 rfl
theorem x_X5_init_40 {n : Int} {al st : List AV} {h : AH} : X mX5_init 40 al (aI n :: st) h = if 0 ≤ n ∧ n ≤ 1000 then X mX5_init 42 al (aR (some h.length) :: st) (h ++ [(11, List.replicate n.toNat (aJ 0))]) else none := x_nwa dX5_init_40 rfl
theorem x_X5_init_42 {a : Nat} {z : Option Nat} {al st : List AV} {h : AH} : X mX5_init 42 al (aR z :: aR (some a) :: st) h = pK (rd h 5 a 9) (X mX5_init 45 al st (wr h 5 a 9 (aR z))) := x_put dX5_init_42 fT_5_23 rfl rfl
theorem x_X5_init_45 {z : Option Nat} {st : List AV} {h : AH} : X mX5_init 45 [aR z] st h = X mX5_init 46 [aR z] (aR z :: st) h := X_of dX5_init_45 rfl
theorem x_X5_init_46 {al st : List AV} {h : AH} : X mX5_init 46 al st h = X mX5_init 48 al (aI 16 :: st) h := X_of dX5_init_46 rfl
theorem x_X5_init_48 {n : Int} {al st : List AV} {h : AH} : X mX5_init 48 al (aI n :: st) h = if 0 ≤ n ∧ n ≤ 1000 then X mX5_init 50 al (aR (some h.length) :: st) (h ++ [(10, List.replicate n.toNat (aI 0))]) else none := x_nwa dX5_init_48 rfl
theorem x_X5_init_50 {a : Nat} {z : Option Nat} {al st : List AV} {h : AH} : X mX5_init 50 al (aR z :: aR (some a) :: st) h = pK (rd h 5 a 11) (X mX5_init 53 al st (wr h 5 a 11 (aR z))) := x_put dX5_init_50 fT_5_26 rfl rfl
theorem x_X5_init_53 {z : Option Nat} {st : List AV} {h : AH} : X mX5_init 53 [aR z] st h = X mX5_init 54 [aR z] (aR z :: st) h := X_of dX5_init_53 rfl
theorem x_X5_init_54 {al st : List AV} {h : AH} : X mX5_init 54 al st h = X mX5_init 56 al (aI 16 :: st) h := X_of dX5_init_54 rfl
theorem x_X5_init_56 {n : Int} {al st : List AV} {h : AH} : X mX5_init 56 al (aI n :: st) h = if 0 ≤ n ∧ n ≤ 1000 then X mX5_init 58 al (aR (some h.length) :: st) (h ++ [(10, List.replicate n.toNat (aI 0))]) else none := x_nwa dX5_init_56 rfl
theorem x_X5_init_58 {a : Nat} {z : Option Nat} {al st : List AV} {h : AH} : X mX5_init 58 al (aR z :: aR (some a) :: st) h = pK (rd h 5 a 12) (X mX5_init 61 al st (wr h 5 a 12 (aR z))) := x_put dX5_init_58 fT_5_29 rfl rfl
theorem x_X5_init_61 {z : Option Nat} {st : List AV} {h : AH} : X mX5_init 61 [aR z] st h = X mX5_init 62 [aR z] (aR z :: st) h := X_of dX5_init_61 rfl
theorem x_X5_init_62 {al st : List AV} {h : AH} : X mX5_init 62 al st h = X mX5_init 64 al (aI 16 :: st) h := X_of dX5_init_62 rfl
theorem x_X5_init_64 {n : Int} {al st : List AV} {h : AH} : X mX5_init 64 al (aI n :: st) h = if 0 ≤ n ∧ n ≤ 1000 then X mX5_init 66 al (aR (some h.length) :: st) (h ++ [(10, List.replicate n.toNat (aI 0))]) else none := x_nwa dX5_init_64 rfl
theorem x_X5_init_66 {a : Nat} {z : Option Nat} {al st : List AV} {h : AH} : X mX5_init 66 al (aR z :: aR (some a) :: st) h = pK (rd h 5 a 13) (X mX5_init 69 al st (wr h 5 a 13 (aR z))) := x_put dX5_init_66 fT_5_32 rfl rfl
theorem x_X5_init_69 {z : Option Nat} {st : List AV} {h : AH} : X mX5_init 69 [aR z] st h = X mX5_init 70 [aR z] (aR z :: st) h := X_of dX5_init_69 rfl
theorem x_X5_init_70 {al st : List AV} {h : AH} : X mX5_init 70 al st h = X mX5_init 72 al (aI 80 :: st) h := X_of dX5_init_70 rfl
theorem x_X5_init_72 {n : Int} {al st : List AV} {h : AH} : X mX5_init 72 al (aI n :: st) h = if 0 ≤ n ∧ n ≤ 1000 then X mX5_init 74 al (aR (some h.length) :: st) (h ++ [(10, List.replicate n.toNat (aI 0))]) else none := x_nwa dX5_init_72 rfl
theorem x_X5_init_74 {a : Nat} {z : Option Nat} {al st : List AV} {h : AH} : X mX5_init 74 al (aR z :: aR (some a) :: st) h = pK (rd h 5 a 14) (X mX5_init 77 al st (wr h 5 a 14 (aR z))) := x_put dX5_init_74 fT_5_35 rfl rfl
theorem x_X5_init_77 {z : Option Nat} {st : List AV} {h : AH} : X mX5_init 77 [aR z] st h = X mX5_init 78 [aR z] (aR z :: st) h := X_of dX5_init_77 rfl
theorem x_X5_init_78 {al st : List AV} {h : AH} : X mX5_init 78 al st h = X mX5_init 81 al (aI 400 :: st) h := X_of dX5_init_78 rfl
theorem x_X5_init_81 {n : Int} {al st : List AV} {h : AH} : X mX5_init 81 al (aI n :: st) h = if 0 ≤ n ∧ n ≤ 1000 then X mX5_init 83 al (aR (some h.length) :: st) (h ++ [(10, List.replicate n.toNat (aI 0))]) else none := x_nwa dX5_init_81 rfl
theorem x_X5_init_83 {a : Nat} {z : Option Nat} {al st : List AV} {h : AH} : X mX5_init 83 al (aR z :: aR (some a) :: st) h = pK (rd h 5 a 15) (X mX5_init 86 al st (wr h 5 a 15 (aR z))) := x_put dX5_init_83 fT_5_38 rfl rfl
theorem x_X5_init_86 {z : Option Nat} {st : List AV} {h : AH} : X mX5_init 86 [aR z] st h = X mX5_init 87 [aR z] (aR z :: st) h := X_of dX5_init_86 rfl
theorem x_X5_init_87 {al st : List AV} {h : AH} : X mX5_init 87 al st h = X mX5_init 89 al (aI 16 :: st) h := X_of dX5_init_87 rfl
theorem x_X5_init_89 {n : Int} {al st : List AV} {h : AH} : X mX5_init 89 al (aI n :: st) h = if 0 ≤ n ∧ n ≤ 1000 then X mX5_init 91 al (aR (some h.length) :: st) (h ++ [(10, List.replicate n.toNat (aI 0))]) else none := x_nwa dX5_init_89 rfl
theorem x_X5_init_91 {a : Nat} {z : Option Nat} {al st : List AV} {h : AH} : X mX5_init 91 al (aR z :: aR (some a) :: st) h = pK (rd h 5 a 16) (X mX5_init 94 al st (wr h 5 a 16 (aR z))) := x_put dX5_init_91 fT_5_41 rfl rfl
theorem x_X5_init_94 {z : Option Nat} {st : List AV} {h : AH} : X mX5_init 94 [aR z] st h = X mX5_init 95 [aR z] (aR z :: st) h := X_of dX5_init_94 rfl
theorem x_X5_init_95 {al st : List AV} {h : AH} : X mX5_init 95 al st h = X mX5_init 97 al (aI 25 :: st) h := X_of dX5_init_95 rfl
theorem x_X5_init_97 {n : Int} {al st : List AV} {h : AH} : X mX5_init 97 al (aI n :: st) h = if 0 ≤ n ∧ n ≤ 1000 then X mX5_init 99 al (aR (some h.length) :: st) (h ++ [(11, List.replicate n.toNat (aJ 0))]) else none := x_nwa dX5_init_97 rfl
theorem x_X5_init_99 {a : Nat} {z : Option Nat} {al st : List AV} {h : AH} : X mX5_init 99 al (aR z :: aR (some a) :: st) h = pK (rd h 5 a 21) (X mX5_init 102 al st (wr h 5 a 21 (aR z))) := x_put dX5_init_99 fT_5_44 rfl rfl
theorem x_X5_init_102 {z : Option Nat} {st : List AV} {h : AH} : X mX5_init 102 [aR z] st h = X mX5_init 103 [aR z] (aR z :: st) h := X_of dX5_init_102 rfl
theorem x_X5_init_103 {al st : List AV} {h : AH} : X mX5_init 103 al st h = X mX5_init 105 al (aI 32 :: st) h := X_of dX5_init_103 rfl
theorem x_X5_init_105 {n : Int} {al st : List AV} {h : AH} : X mX5_init 105 al (aI n :: st) h = if 0 ≤ n ∧ n ≤ 1000 then X mX5_init 107 al (aR (some h.length) :: st) (h ++ [(11, List.replicate n.toNat (aJ 0))]) else none := x_nwa dX5_init_105 rfl
theorem x_X5_init_107 {a : Nat} {z : Option Nat} {al st : List AV} {h : AH} : X mX5_init 107 al (aR z :: aR (some a) :: st) h = pK (rd h 5 a 22) (X mX5_init 110 al st (wr h 5 a 22 (aR z))) := x_put dX5_init_107 fT_5_47 rfl rfl
theorem x_X5_init_110 {z : Option Nat} {st : List AV} {h : AH} : X mX5_init 110 [aR z] st h = X mX5_init 111 [aR z] (aR z :: st) h := X_of dX5_init_110 rfl
theorem x_X5_init_111 {al st : List AV} {h : AH} : X mX5_init 111 al st h = X mX5_init 112 al (aI 5 :: st) h := X_of dX5_init_111 rfl
theorem x_X5_init_112 {n : Int} {al st : List AV} {h : AH} : X mX5_init 112 al (aI n :: st) h = if 0 ≤ n ∧ n ≤ 1000 then X mX5_init 114 al (aR (some h.length) :: st) (h ++ [(11, List.replicate n.toNat (aJ 0))]) else none := x_nwa dX5_init_112 rfl
theorem x_X5_init_114 {a : Nat} {z : Option Nat} {al st : List AV} {h : AH} : X mX5_init 114 al (aR z :: aR (some a) :: st) h = pK (rd h 5 a 23) (X mX5_init 117 al st (wr h 5 a 23 (aR z))) := x_put dX5_init_114 fT_5_50 rfl rfl
theorem x_X5_init_117 {z : Option Nat} {st : List AV} {h : AH} : X mX5_init 117 [aR z] st h = X mX5_init 118 [aR z] (aR z :: st) h := X_of dX5_init_117 rfl
theorem x_X5_init_118 {al st : List AV} {h : AH} : X mX5_init 118 al st h = X mX5_init 119 al (aI 5 :: st) h := X_of dX5_init_118 rfl
theorem x_X5_init_119 {n : Int} {al st : List AV} {h : AH} : X mX5_init 119 al (aI n :: st) h = if 0 ≤ n ∧ n ≤ 1000 then X mX5_init 121 al (aR (some h.length) :: st) (h ++ [(11, List.replicate n.toNat (aJ 0))]) else none := x_nwa dX5_init_119 rfl
theorem x_X5_init_121 {a : Nat} {z : Option Nat} {al st : List AV} {h : AH} : X mX5_init 121 al (aR z :: aR (some a) :: st) h = pK (rd h 5 a 24) (X mX5_init 124 al st (wr h 5 a 24 (aR z))) := x_put dX5_init_121 fT_5_53 rfl rfl
theorem x_X5_init_124 {z : Option Nat} {st : List AV} {h : AH} : X mX5_init 124 [aR z] st h = X mX5_init 125 [aR z] (aR z :: st) h := X_of dX5_init_124 rfl
theorem x_X5_init_125 {al st : List AV} {h : AH} : X mX5_init 125 al st h = X mX5_init 126 al (aI 5 :: st) h := X_of dX5_init_125 rfl
theorem x_X5_init_126 {n : Int} {al st : List AV} {h : AH} : X mX5_init 126 al (aI n :: st) h = if 0 ≤ n ∧ n ≤ 1000 then X mX5_init 128 al (aR (some h.length) :: st) (h ++ [(10, List.replicate n.toNat (aI 0))]) else none := x_nwa dX5_init_126 rfl
theorem x_X5_init_128 {a : Nat} {z : Option Nat} {al st : List AV} {h : AH} : X mX5_init 128 al (aR z :: aR (some a) :: st) h = pK (rd h 5 a 25) (X mX5_init 131 al st (wr h 5 a 25 (aR z))) := x_put dX5_init_128 fT_5_56 rfl rfl
theorem x_X5_init_131 {z : Option Nat} {st : List AV} {h : AH} : X mX5_init 131 [aR z] st h = X mX5_init 132 [aR z] (aR z :: st) h := X_of dX5_init_131 rfl
theorem x_X5_init_132 {al st : List AV} {h : AH} : X mX5_init 132 al st h = X mX5_init 135 al (aI 200 :: st) h := X_of dX5_init_132 rfl
theorem x_X5_init_135 {n : Int} {al st : List AV} {h : AH} : X mX5_init 135 al (aI n :: st) h = if 0 ≤ n ∧ n ≤ 1000 then X mX5_init 137 al (aR (some h.length) :: st) (h ++ [(10, List.replicate n.toNat (aI 0))]) else none := x_nwa dX5_init_135 rfl
theorem x_X5_init_137 {a : Nat} {z : Option Nat} {al st : List AV} {h : AH} : X mX5_init 137 al (aR z :: aR (some a) :: st) h = pK (rd h 5 a 29) (X mX5_init 140 al st (wr h 5 a 29 (aR z))) := x_put dX5_init_137 fT_5_59 rfl rfl
theorem x_X5_init_140 {z : Option Nat} {st : List AV} {h : AH} : X mX5_init 140 [aR z] st h = X mX5_init 141 [aR z] (aR z :: st) h := X_of dX5_init_140 rfl
theorem x_X5_init_141 {al st : List AV} {h : AH} : X mX5_init 141 al st h = X mX5_init 142 al (aI 1 :: st) h := X_of dX5_init_141 rfl
theorem x_X5_init_142 {a : Nat} {z : Int} {al st : List AV} {h : AH} : X mX5_init 142 al (aI z :: aR (some a) :: st) h = pK (rd h 5 a 2) (X mX5_init 145 al st (wr h 5 a 2 (aI z))) := x_put dX5_init_142 fT_5_62 rfl rfl
theorem x_X5_init_145 {z : Option Nat} {st : List AV} {h : AH} : X mX5_init 145 [aR z] st h = X mX5_init 146 [aR z] (aR z :: st) h := X_of dX5_init_145 rfl
theorem x_X5_init_146 {al st : List AV} {h : AH} : X mX5_init 146 al st h = X mX5_init 147 al (aI 2 :: st) h := X_of dX5_init_146 rfl
theorem x_X5_init_147 {a : Nat} {z : Int} {al st : List AV} {h : AH} : X mX5_init 147 al (aI z :: aR (some a) :: st) h = pK (rd h 5 a 3) (X mX5_init 150 al st (wr h 5 a 3 (aI z))) := x_put dX5_init_147 fT_5_66 rfl rfl
theorem x_X5_init_150 {z : Option Nat} {st : List AV} {h : AH} : X mX5_init 150 [aR z] st h = X mX5_init 151 [aR z] (aR z :: st) h := X_of dX5_init_150 rfl
theorem x_X5_init_151 {al st : List AV} {h : AH} : X mX5_init 151 al st h = X mX5_init 152 al (aI 1 :: st) h := X_of dX5_init_151 rfl
theorem x_X5_init_152 {a : Nat} {z : Int} {al st : List AV} {h : AH} : X mX5_init 152 al (aI z :: aR (some a) :: st) h = pK (rd h 5 a 26) (X mX5_init 155 al st (wr h 5 a 26 (aI z))) := x_put dX5_init_152 fT_5_69 rfl rfl
theorem x_X5_init_155 {z : Option Nat} {st : List AV} {h : AH} : X mX5_init 155 [aR z] st h = X mX5_init 156 [aR z] (aR z :: st) h := X_of dX5_init_155 rfl
theorem x_X5_init_156 {al st : List AV} {h : AH} : X mX5_init 156 al st h = X mX5_init 157 al (aJ 1 :: st) h := X_of dX5_init_156 rfl
theorem x_X5_init_157 {a : Nat} {z : Int} {al st : List AV} {h : AH} : X mX5_init 157 al (aJ z :: aR (some a) :: st) h = pK (rd h 5 a 20) (X mX5_init 160 al st (wr h 5 a 20 (aJ z))) := x_put dX5_init_157 fT_5_72 rfl rfl
theorem x_X5_init_160 {al : List AV} {h : AH} : X mX5_init 160 al [] h = some (none, h) := X_ofR dX5_init_160 rfl
theorem e_X5_in {p0 : Int} {p1 : Int} {p2 : Int} {h : AH} : E mX5_in [aJ p0, aJ p1, aJ p2] h = X mX5_in 0 [aJ p0, aU, aJ p1, aU, aJ p2, aU] [] h := rfl
theorem x_X5_in_0 {v1 v2 v3 v4 v5 : AV} {z : Int} {st : List AV} {h : AH} : X mX5_in 0 [aJ z, v1, v2, v3, v4, v5] st h = X mX5_in 1 [aJ z, v1, v2, v3, v4, v5] (aJ z :: st) h := X_of dX5_in_0 rfl
theorem x_X5_in_1 {v0 v1 v3 v4 v5 : AV} {z : Int} {st : List AV} {h : AH} : X mX5_in 1 [v0, v1, aJ z, v3, v4, v5] st h = X mX5_in 2 [v0, v1, aJ z, v3, v4, v5] (aJ z :: st) h := X_of dX5_in_1 rfl
theorem x_X5_in_2 {a b : Int} {al st : List AV} {h : AH} : X mX5_in 2 al (aJ b :: aJ a :: st) h = X mX5_in 3 al (aI (fCmp a b) :: st) h := X_of dX5_in_2 rfl
theorem x_X5_in_3 {a : Int} {al st : List AV} {h : AH} : X mX5_in 3 al (aI a :: st) h = if a < 0 then X mX5_in 17 al st h else X mX5_in 6 al st h := x_lt0 dX5_in_3 rfl
theorem x_X5_in_6 {v1 v2 v3 v4 v5 : AV} {z : Int} {st : List AV} {h : AH} : X mX5_in 6 [aJ z, v1, v2, v3, v4, v5] st h = X mX5_in 7 [aJ z, v1, v2, v3, v4, v5] (aJ z :: st) h := X_of dX5_in_6 rfl
theorem x_X5_in_7 {v0 v1 v2 v3 v5 : AV} {z : Int} {st : List AV} {h : AH} : X mX5_in 7 [v0, v1, v2, v3, aJ z, v5] st h = X mX5_in 9 [v0, v1, v2, v3, aJ z, v5] (aJ z :: st) h := X_of dX5_in_7 rfl
theorem x_X5_in_9 {a b : Int} {al st : List AV} {h : AH} : X mX5_in 9 al (aJ b :: aJ a :: st) h = X mX5_in 10 al (aI (fCmp a b) :: st) h := X_of dX5_in_9 rfl
theorem x_X5_in_10 {a : Int} {al st : List AV} {h : AH} : X mX5_in 10 al (aI a :: st) h = if 0 < a then X mX5_in 17 al st h else X mX5_in 13 al st h := x_gt0 dX5_in_10 rfl
theorem x_X5_in_13 {al st : List AV} {h : AH} : X mX5_in 13 al st h = X mX5_in 14 al (aI 1 :: st) h := X_of dX5_in_13 rfl
theorem x_X5_in_14 {al st : List AV} {h : AH} : X mX5_in 14 al st h = X mX5_in 18 al st h := X_of dX5_in_14 rfl
theorem x_X5_in_17 {al st : List AV} {h : AH} : X mX5_in 17 al st h = X mX5_in 18 al (aI 0 :: st) h := X_of dX5_in_17 rfl
theorem x_X5_in_18_0 {al : List AV} {h : AH} : X mX5_in 18 al [aI 0] h = some (some (aI 0), h) := X_ofR dX5_in_18 rfl
theorem x_X5_in_18_1 {al : List AV} {h : AH} : X mX5_in 18 al [aI 1] h = some (some (aI 1), h) := X_ofR dX5_in_18 rfl
theorem x_X5_in_18 {z : Int} {al : List AV} {h : AH} (hz : z = 0 ∨ z = 1) : X mX5_in 18 al [aI z] h = some (some (aI z), h) := by
  rcases hz with rfl | rfl
  · exact x_X5_in_18_0
  · exact x_X5_in_18_1
theorem e_X5_meets {p0 : Option Nat} {p1 : Int} {h : AH} : E mX5_meets [aR p0, aI p1] h = X mX5_meets 0 [aR p0, aI p1] [] h := rfl
theorem x_X5_meets_0 {v1 : AV} {z : Option Nat} {st : List AV} {h : AH} : X mX5_meets 0 [aR z, v1] st h = X mX5_meets 1 [aR z, v1] (aR z :: st) h := X_of dX5_meets_0 rfl
theorem x_X5_meets_1 {v0 : AV} {z : Int} {st : List AV} {h : AH} : X mX5_meets 1 [v0, aI z] st h = X mX5_meets 2 [v0, aI z] (aI z :: st) h := X_of dX5_meets_1 rfl
theorem x_X5_meets_2 {a : Nat} {z : Int} {al st : List AV} {h : AH} : X mX5_meets 2 al (aI z :: aR (some a) :: st) h = pK (rd h 5 a 0) (X mX5_meets 5 al st (wr h 5 a 0 (aI z))) := x_put dX5_meets_2 fT_5_76 rfl rfl
theorem x_X5_meets_5 {v1 : AV} {z : Option Nat} {st : List AV} {h : AH} : X mX5_meets 5 [aR z, v1] st h = X mX5_meets 6 [aR z, v1] (aR z :: st) h := X_of dX5_meets_5 rfl
theorem x_X5_meets_6 {a : Nat} {al st : List AV} {h : AH} : X mX5_meets 6 al (aR (some a) :: st) h = gK (rd h 5 a 1) fun v => X mX5_meets 9 al (v :: st) h := x_get dX5_meets_6 fT_5_7
theorem x_X5_meets_9 {v0 : AV} {z : Int} {st : List AV} {h : AH} : X mX5_meets 9 [v0, aI z] st h = X mX5_meets 10 [v0, aI z] (aI z :: st) h := X_of dX5_meets_9 rfl
theorem x_X5_meets_10 {z : Int} {r : Option Nat} {al st : List AV} {h : AH} : X mX5_meets 10 al (aI z :: aR r :: st) h = X mX5_meets 11 al (aI z :: aR r :: aI z :: aR r :: st) h := X_of dX5_meets_10 rfl
theorem x_X5_meets_11 {a : Nat} {i : Int} {al st : List AV} {h : AH} : X mX5_meets 11 al (aI i :: aR (some a) :: st) h = if 0 ≤ i then gK (rd h 10 a i.toNat) (fun v => X mX5_meets 12 al (v :: st) h) else none := x_aldI dX5_meets_11
theorem x_X5_meets_12 {al st : List AV} {h : AH} : X mX5_meets 12 al st h = X mX5_meets 13 al (aI 1 :: st) h := X_of dX5_meets_12 rfl
theorem x_X5_meets_13 {a b : Int} {al st : List AV} {h : AH} : X mX5_meets 13 al (aI b :: aI a :: st) h = X mX5_meets 14 al (aI (w32 (a + b)) :: st) h := X_of dX5_meets_13 rfl
theorem x_X5_meets_14 {a : Nat} {i z : Int} {al st : List AV} {h : AH} : X mX5_meets 14 al (aI z :: aI i :: aR (some a) :: st) h = if 0 ≤ i then pK (rd h 10 a i.toNat) (X mX5_meets 15 al st (wr h 10 a i.toNat (aI z))) else none := x_astI dX5_meets_14
theorem x_X5_meets_15 {al st : List AV} {h : AH} : X mX5_meets 15 al st h = X mX5_meets 17 al (aI (-3) :: st) h := X_of dX5_meets_15 rfl
theorem x_X5_meets_17 {z : Int} {al : List AV} {h : AH} : X mX5_meets 17 al [aI z] h = some (some (aI z), h) := X_ofR dX5_meets_17 rfl
theorem e_X5_finding {p0 : Option Nat} {h : AH} : E mX5_finding [aR p0] h = X mX5_finding 0 [aR p0] [] h := rfl
theorem x_X5_finding_0 {z : Option Nat} {st : List AV} {h : AH} : X mX5_finding 0 [aR z] st h = X mX5_finding 1 [aR z] (aR z :: st) h := X_of dX5_finding_0 rfl
theorem x_X5_finding_1 {a : Nat} {al st : List AV} {h : AH} : X mX5_finding 1 al (aR (some a) :: st) h = gK (rd h 5 a 0) fun v => X mX5_finding 4 al (v :: st) h := x_get dX5_finding_1 fT_5_76
theorem x_X5_finding_4 {z : Int} {al : List AV} {h : AH} : X mX5_finding 4 al [aI z] h = some (some (aI z), h) := X_ofR dX5_finding_4 rfl
theorem e_X5_findings {p0 : Option Nat} {p1 : Int} {h : AH} : E mX5_findings [aR p0, aI p1] h = X mX5_findings 0 [aR p0, aI p1] [] h := rfl
theorem x_X5_findings_0 {v0 : AV} {z : Int} {st : List AV} {h : AH} : X mX5_findings 0 [v0, aI z] st h = X mX5_findings 1 [v0, aI z] (aI z :: st) h := X_of dX5_findings_0 rfl
theorem x_X5_findings_1 {a : Int} {al st : List AV} {h : AH} : X mX5_findings 1 al (aI a :: st) h = X mX5_findings 2 al (aJ a :: st) h := X_of dX5_findings_1 rfl
theorem x_X5_findings_2 {al st : List AV} {h : AH} : X mX5_findings 2 al st h = X mX5_findings 3 al (aJ 1 :: st) h := X_of dX5_findings_2 rfl
theorem x_X5_findings_3 {al st : List AV} {h : AH} : X mX5_findings 3 al st h = X mX5_findings 6 al (aJ 6 :: st) h := X_of dX5_findings_3 rfl
theorem x_X5_findings_6 {a0 : Int} {a1 : Int} {a2 : Int} {al : List AV} {h : AH} : X mX5_findings 6 al [aJ a2, aJ a1, aJ a0] h = cK (E mX5_in [aJ a0, aJ a1, aJ a2] h) fun v h2 => X mX5_findings 9 al (v.toList ++ []) h2 := x_cal (as := [aJ a0, aJ a1, aJ a2]) (rest := []) dX5_findings_6 (fun _ => rfl) cT_5_81 rfl rfl rfl
theorem x_X5_findings_9 {a : Int} {al st : List AV} {h : AH} : X mX5_findings 9 al (aI a :: st) h = if a = 0 then X mX5_findings 21 al st h else X mX5_findings 12 al st h := x_eq0 dX5_findings_9 rfl
theorem x_X5_findings_12 {v1 : AV} {z : Option Nat} {st : List AV} {h : AH} : X mX5_findings 12 [aR z, v1] st h = X mX5_findings 13 [aR z, v1] (aR z :: st) h := X_of dX5_findings_12 rfl
theorem x_X5_findings_13 {a : Nat} {al st : List AV} {h : AH} : X mX5_findings 13 al (aR (some a) :: st) h = gK (rd h 5 a 1) fun v => X mX5_findings 16 al (v :: st) h := x_get dX5_findings_13 fT_5_7
theorem x_X5_findings_16 {v0 : AV} {z : Int} {st : List AV} {h : AH} : X mX5_findings 16 [v0, aI z] st h = X mX5_findings 17 [v0, aI z] (aI z :: st) h := X_of dX5_findings_16 rfl
theorem x_X5_findings_17 {a : Nat} {i : Int} {al st : List AV} {h : AH} : X mX5_findings 17 al (aI i :: aR (some a) :: st) h = if 0 ≤ i then gK (rd h 10 a i.toNat) (fun v => X mX5_findings 18 al (v :: st) h) else none := x_aldI dX5_findings_17
theorem x_X5_findings_18 {al st : List AV} {h : AH} : X mX5_findings 18 al st h = X mX5_findings 22 al st h := X_of dX5_findings_18 rfl
theorem x_X5_findings_21 {al st : List AV} {h : AH} : X mX5_findings 21 al st h = X mX5_findings 22 al (aI (-1) :: st) h := X_of dX5_findings_21 rfl
theorem x_X5_findings_22 {z : Int} {al : List AV} {h : AH} : X mX5_findings 22 al [aI z] h = some (some (aI z), h) := X_ofR dX5_findings_22 rfl
theorem e_X5_share {p0 : Option Nat} {p1 : Int} {p2 : Int} {h : AH} : E mX5_share [aR p0, aI p1, aI p2] h = X mX5_share 0 [aR p0, aI p1, aI p2] [] h := rfl
theorem x_X5_share_0 {v0 v2 : AV} {z : Int} {st : List AV} {h : AH} : X mX5_share 0 [v0, aI z, v2] st h = X mX5_share 1 [v0, aI z, v2] (aI z :: st) h := X_of dX5_share_0 rfl
theorem x_X5_share_1 {a : Int} {al st : List AV} {h : AH} : X mX5_share 1 al (aI a :: st) h = X mX5_share 2 al (aJ a :: st) h := X_of dX5_share_1 rfl
theorem x_X5_share_2 {al st : List AV} {h : AH} : X mX5_share 2 al st h = X mX5_share 3 al (aJ 1 :: st) h := X_of dX5_share_2 rfl
theorem x_X5_share_3 {al st : List AV} {h : AH} : X mX5_share 3 al st h = X mX5_share 6 al (aJ 7 :: st) h := X_of dX5_share_3 rfl
theorem x_X5_share_6 {a0 : Int} {a1 : Int} {a2 : Int} {al : List AV} {h : AH} : X mX5_share 6 al [aJ a2, aJ a1, aJ a0] h = cK (E mX5_in [aJ a0, aJ a1, aJ a2] h) fun v h2 => X mX5_share 9 al (v.toList ++ []) h2 := x_cal (as := [aJ a0, aJ a1, aJ a2]) (rest := []) dX5_share_6 (fun _ => rfl) cT_5_81 rfl rfl rfl
theorem x_X5_share_9 {a : Int} {al st : List AV} {h : AH} : X mX5_share 9 al (aI a :: st) h = if a = 0 then X mX5_share 31 al st h else X mX5_share 12 al st h := x_eq0 dX5_share_9 rfl
theorem x_X5_share_12 {v0 v1 : AV} {z : Int} {st : List AV} {h : AH} : X mX5_share 12 [v0, v1, aI z] st h = X mX5_share 13 [v0, v1, aI z] (aI z :: st) h := X_of dX5_share_12 rfl
theorem x_X5_share_13 {a : Int} {al st : List AV} {h : AH} : X mX5_share 13 al (aI a :: st) h = X mX5_share 14 al (aJ a :: st) h := X_of dX5_share_13 rfl
theorem x_X5_share_14 {al st : List AV} {h : AH} : X mX5_share 14 al st h = X mX5_share 17 al (aJ 2 :: st) h := X_of dX5_share_14 rfl
theorem x_X5_share_17 {al st : List AV} {h : AH} : X mX5_share 17 al st h = X mX5_share 20 al (aJ 8 :: st) h := X_of dX5_share_17 rfl
theorem x_X5_share_20 {a0 : Int} {a1 : Int} {a2 : Int} {al : List AV} {h : AH} : X mX5_share 20 al [aJ a2, aJ a1, aJ a0] h = cK (E mX5_in [aJ a0, aJ a1, aJ a2] h) fun v h2 => X mX5_share 23 al (v.toList ++ []) h2 := x_cal (as := [aJ a0, aJ a1, aJ a2]) (rest := []) dX5_share_20 (fun _ => rfl) cT_5_81 rfl rfl rfl
theorem x_X5_share_23 {a : Int} {al st : List AV} {h : AH} : X mX5_share 23 al (aI a :: st) h = if a = 0 then X mX5_share 31 al st h else X mX5_share 26 al st h := x_eq0 dX5_share_23 rfl
theorem x_X5_share_26 {v0 v2 : AV} {z : Int} {st : List AV} {h : AH} : X mX5_share 26 [v0, aI z, v2] st h = X mX5_share 27 [v0, aI z, v2] (aI z :: st) h := X_of dX5_share_26 rfl
theorem x_X5_share_27 {v0 v1 : AV} {z : Int} {st : List AV} {h : AH} : X mX5_share 27 [v0, v1, aI z] st h = X mX5_share 28 [v0, v1, aI z] (aI z :: st) h := X_of dX5_share_27 rfl
theorem x_X5_share_28 {a b : Int} {al st : List AV} {h : AH} : X mX5_share 28 al (aI b :: aI a :: st) h = if a < b then X mX5_share 33 al st h else X mX5_share 31 al st h := x_ltC dX5_share_28 rfl
theorem x_X5_share_31 {al st : List AV} {h : AH} : X mX5_share 31 al st h = X mX5_share 32 al (aI (-1) :: st) h := X_of dX5_share_31 rfl
theorem x_X5_share_32 {z : Int} {al : List AV} {h : AH} : X mX5_share 32 al [aI z] h = some (some (aI z), h) := X_ofR dX5_share_32 rfl
theorem x_X5_share_33 {v1 v2 : AV} {z : Option Nat} {st : List AV} {h : AH} : X mX5_share 33 [aR z, v1, v2] st h = X mX5_share 34 [aR z, v1, v2] (aR z :: st) h := X_of dX5_share_33 rfl
theorem x_X5_share_34 {v0 v2 : AV} {z : Int} {st : List AV} {h : AH} : X mX5_share 34 [v0, aI z, v2] st h = X mX5_share 35 [v0, aI z, v2] (aI z :: st) h := X_of dX5_share_34 rfl
theorem x_X5_share_35 {a : Nat} {z : Int} {al st : List AV} {h : AH} : X mX5_share 35 al (aI z :: aR (some a) :: st) h = pK (rd h 5 a 2) (X mX5_share 38 al st (wr h 5 a 2 (aI z))) := x_put dX5_share_35 fT_5_62 rfl rfl
theorem x_X5_share_38 {v1 v2 : AV} {z : Option Nat} {st : List AV} {h : AH} : X mX5_share 38 [aR z, v1, v2] st h = X mX5_share 39 [aR z, v1, v2] (aR z :: st) h := X_of dX5_share_38 rfl
theorem x_X5_share_39 {v0 v1 : AV} {z : Int} {st : List AV} {h : AH} : X mX5_share 39 [v0, v1, aI z] st h = X mX5_share 40 [v0, v1, aI z] (aI z :: st) h := X_of dX5_share_39 rfl
theorem x_X5_share_40 {a : Nat} {z : Int} {al st : List AV} {h : AH} : X mX5_share 40 al (aI z :: aR (some a) :: st) h = pK (rd h 5 a 3) (X mX5_share 43 al st (wr h 5 a 3 (aI z))) := x_put dX5_share_40 fT_5_66 rfl rfl
theorem x_X5_share_43 {al st : List AV} {h : AH} : X mX5_share 43 al st h = X mX5_share 44 al (aI 1 :: st) h := X_of dX5_share_43 rfl
theorem x_X5_share_44 {z : Int} {al : List AV} {h : AH} : X mX5_share 44 al [aI z] h = some (some (aI z), h) := X_ofR dX5_share_44 rfl
theorem e_X5_isSheet {p0 : Option Nat} {p1 : Int} {h : AH} : E mX5_isSheet [aR p0, aI p1] h = X mX5_isSheet 0 [aR p0, aI p1] [] h := rfl
theorem x_X5_isSheet_0 {v0 : AV} {z : Int} {st : List AV} {h : AH} : X mX5_isSheet 0 [v0, aI z] st h = X mX5_isSheet 1 [v0, aI z] (aI z :: st) h := X_of dX5_isSheet_0 rfl
theorem x_X5_isSheet_1 {a : Int} {al st : List AV} {h : AH} : X mX5_isSheet 1 al (aI a :: st) h = X mX5_isSheet 2 al (aJ a :: st) h := X_of dX5_isSheet_1 rfl
theorem x_X5_isSheet_2 {al st : List AV} {h : AH} : X mX5_isSheet 2 al st h = X mX5_isSheet 3 al (aJ 0 :: st) h := X_of dX5_isSheet_2 rfl
theorem x_X5_isSheet_3 {v1 : AV} {z : Option Nat} {st : List AV} {h : AH} : X mX5_isSheet 3 [aR z, v1] st h = X mX5_isSheet 4 [aR z, v1] (aR z :: st) h := X_of dX5_isSheet_3 rfl
theorem x_X5_isSheet_4 {a : Nat} {al st : List AV} {h : AH} : X mX5_isSheet 4 al (aR (some a) :: st) h = gK (rd h 5 a 4) fun v => X mX5_isSheet 7 al (v :: st) h := x_get dX5_isSheet_4 fT_5_91
theorem x_X5_isSheet_7 {al st : List AV} {h : AH} : X mX5_isSheet 7 al st h = X mX5_isSheet 8 al (aI 1 :: st) h := X_of dX5_isSheet_7 rfl
theorem x_X5_isSheet_8 {a b : Int} {al st : List AV} {h : AH} : X mX5_isSheet 8 al (aI b :: aI a :: st) h = X mX5_isSheet 9 al (aI (w32 (a - b)) :: st) h := X_of dX5_isSheet_8 rfl
theorem x_X5_isSheet_9 {a : Int} {al st : List AV} {h : AH} : X mX5_isSheet 9 al (aI a :: st) h = X mX5_isSheet 10 al (aJ a :: st) h := X_of dX5_isSheet_9 rfl
theorem x_X5_isSheet_10 {a0 : Int} {a1 : Int} {a2 : Int} {al : List AV} {h : AH} : X mX5_isSheet 10 al [aJ a2, aJ a1, aJ a0] h = cK (E mX5_in [aJ a0, aJ a1, aJ a2] h) fun v h2 => X mX5_isSheet 13 al (v.toList ++ []) h2 := x_cal (as := [aJ a0, aJ a1, aJ a2]) (rest := []) dX5_isSheet_10 (fun _ => rfl) cT_5_81 rfl rfl rfl
theorem x_X5_isSheet_13_0 {al : List AV} {h : AH} : X mX5_isSheet 13 al [aI 0] h = some (some (aI 0), h) := X_ofR dX5_isSheet_13 rfl
theorem x_X5_isSheet_13_1 {al : List AV} {h : AH} : X mX5_isSheet 13 al [aI 1] h = some (some (aI 1), h) := X_ofR dX5_isSheet_13 rfl
theorem x_X5_isSheet_13 {z : Int} {al : List AV} {h : AH} (hz : z = 0 ∨ z = 1) : X mX5_isSheet 13 al [aI z] h = some (some (aI z), h) := by
  rcases hz with rfl | rfl
  · exact x_X5_isSheet_13_0
  · exact x_X5_isSheet_13_1
theorem e_X5_sheet {p0 : Option Nat} {p1 : Int} {p2 : Int} {h : AH} : E mX5_sheet [aR p0, aI p1, aI p2] h = X mX5_sheet 0 [aR p0, aI p1, aI p2, aU] [] h := rfl
theorem x_X5_sheet_0 {v0 v2 v3 : AV} {z : Int} {st : List AV} {h : AH} : X mX5_sheet 0 [v0, aI z, v2, v3] st h = X mX5_sheet 1 [v0, aI z, v2, v3] (aI z :: st) h := X_of dX5_sheet_0 rfl
theorem x_X5_sheet_1 {a : Int} {al st : List AV} {h : AH} : X mX5_sheet 1 al (aI a :: st) h = X mX5_sheet 2 al (aJ a :: st) h := X_of dX5_sheet_1 rfl
theorem x_X5_sheet_2 {al st : List AV} {h : AH} : X mX5_sheet 2 al st h = X mX5_sheet 3 al (aJ 0 :: st) h := X_of dX5_sheet_2 rfl
theorem x_X5_sheet_3 {al st : List AV} {h : AH} : X mX5_sheet 3 al st h = X mX5_sheet 6 al (aJ 3 :: st) h := X_of dX5_sheet_3 rfl
theorem x_X5_sheet_6 {a0 : Int} {a1 : Int} {a2 : Int} {al : List AV} {h : AH} : X mX5_sheet 6 al [aJ a2, aJ a1, aJ a0] h = cK (E mX5_in [aJ a0, aJ a1, aJ a2] h) fun v h2 => X mX5_sheet 9 al (v.toList ++ []) h2 := x_cal (as := [aJ a0, aJ a1, aJ a2]) (rest := []) dX5_sheet_6 (fun _ => rfl) cT_5_81 rfl rfl rfl
theorem x_X5_sheet_9 {a : Int} {al st : List AV} {h : AH} : X mX5_sheet 9 al (aI a :: st) h = if a = 0 then X mX5_sheet 18 al st h else X mX5_sheet 12 al st h := x_eq0 dX5_sheet_9 rfl
theorem x_X5_sheet_12 {v0 v1 v3 : AV} {z : Int} {st : List AV} {h : AH} : X mX5_sheet 12 [v0, v1, aI z, v3] st h = X mX5_sheet 13 [v0, v1, aI z, v3] (aI z :: st) h := X_of dX5_sheet_12 rfl
theorem x_X5_sheet_13 {al st : List AV} {h : AH} : X mX5_sheet 13 al st h = X mX5_sheet 15 al (aI 24 :: st) h := X_of dX5_sheet_13 rfl
theorem x_X5_sheet_15 {a b : Int} {al st : List AV} {h : AH} : X mX5_sheet 15 al (aI b :: aI a :: st) h = if a ≤ b then X mX5_sheet 20 al st h else X mX5_sheet 18 al st h := x_leC dX5_sheet_15 rfl
theorem x_X5_sheet_18 {al st : List AV} {h : AH} : X mX5_sheet 18 al st h = X mX5_sheet 19 al (aI (-1) :: st) h := X_of dX5_sheet_18 rfl
theorem x_X5_sheet_19 {z : Int} {al : List AV} {h : AH} : X mX5_sheet 19 al [aI z] h = some (some (aI z), h) := X_ofR dX5_sheet_19 rfl
theorem x_X5_sheet_20 {v1 v2 v3 : AV} {z : Option Nat} {st : List AV} {h : AH} : X mX5_sheet 20 [aR z, v1, v2, v3] st h = X mX5_sheet 21 [aR z, v1, v2, v3] (aR z :: st) h := X_of dX5_sheet_20 rfl
theorem x_X5_sheet_21 {a : Nat} {al st : List AV} {h : AH} : X mX5_sheet 21 al (aR (some a) :: st) h = gK (rd h 5 a 4) fun v => X mX5_sheet 24 al (v :: st) h := x_get dX5_sheet_21 fT_5_91
theorem x_X5_sheet_24 {al st : List AV} {h : AH} : X mX5_sheet 24 al st h = X mX5_sheet 26 al (aI 12 :: st) h := X_of dX5_sheet_24 rfl
theorem x_X5_sheet_26 {a b : Int} {al st : List AV} {h : AH} : X mX5_sheet 26 al (aI b :: aI a :: st) h = if ¬ a = b then X mX5_sheet 32 al st h else X mX5_sheet 29 al st h := x_neC dX5_sheet_26 rfl
theorem x_X5_sheet_29 {al st : List AV} {h : AH} : X mX5_sheet 29 al st h = X mX5_sheet 31 al (aI (-2) :: st) h := X_of dX5_sheet_29 rfl
theorem x_X5_sheet_31 {z : Int} {al : List AV} {h : AH} : X mX5_sheet 31 al [aI z] h = some (some (aI z), h) := X_ofR dX5_sheet_31 rfl
theorem x_X5_sheet_32 {v0 v1 v3 : AV} {z : Int} {st : List AV} {h : AH} : X mX5_sheet 32 [v0, v1, aI z, v3] st h = X mX5_sheet 33 [v0, v1, aI z, v3] (aI z :: st) h := X_of dX5_sheet_32 rfl
theorem x_X5_sheet_33 {a : Int} {al st : List AV} {h : AH} : X mX5_sheet 33 al (aI a :: st) h = if 0 ≤ a then X mX5_sheet 42 al st h else X mX5_sheet 36 al st h := x_ge0 dX5_sheet_33 rfl
theorem x_X5_sheet_36 {v1 v2 v3 : AV} {z : Option Nat} {st : List AV} {h : AH} : X mX5_sheet 36 [aR z, v1, v2, v3] st h = X mX5_sheet 37 [aR z, v1, v2, v3] (aR z :: st) h := X_of dX5_sheet_36 rfl
theorem x_X5_sheet_37 {al st : List AV} {h : AH} : X mX5_sheet 37 al st h = X mX5_sheet 38 al (aI 5 :: st) h := X_of dX5_sheet_37 rfl
theorem x_X5_sheet_38 {a0 : Nat} {a1 : Int} {al : List AV} {h : AH} (ho : isO h 5 a0 = true) : X mX5_sheet 38 al [aI a1, aR (some a0)] h = cK (E mX5_meets [aR (some a0), aI a1] h) fun v h2 => X mX5_sheet 41 al (v.toList ++ []) h2 := x_cal (as := [aR (some a0), aI a1]) (rest := []) dX5_sheet_38 (fun _ => rfl) cT_5_96 rfl rfl ho
theorem x_X5_sheet_41 {z : Int} {al : List AV} {h : AH} : X mX5_sheet 41 al [aI z] h = some (some (aI z), h) := X_ofR dX5_sheet_41 rfl
theorem x_X5_sheet_42 {v1 v2 v3 : AV} {z : Option Nat} {st : List AV} {h : AH} : X mX5_sheet 42 [aR z, v1, v2, v3] st h = X mX5_sheet 43 [aR z, v1, v2, v3] (aR z :: st) h := X_of dX5_sheet_42 rfl
theorem x_X5_sheet_43 {a : Nat} {al st : List AV} {h : AH} : X mX5_sheet 43 al (aR (some a) :: st) h = gK (rd h 5 a 5) fun v => X mX5_sheet 46 al (v :: st) h := x_get dX5_sheet_43 fT_5_13
theorem x_X5_sheet_46 {v1 v2 v3 : AV} {z : Option Nat} {st : List AV} {h : AH} : X mX5_sheet 46 [aR z, v1, v2, v3] st h = X mX5_sheet 47 [aR z, v1, v2, v3] (aR z :: st) h := X_of dX5_sheet_46 rfl
theorem x_X5_sheet_47 {a : Nat} {al st : List AV} {h : AH} : X mX5_sheet 47 al (aR (some a) :: st) h = gK (rd h 5 a 4) fun v => X mX5_sheet 50 al (v :: st) h := x_get dX5_sheet_47 fT_5_91
theorem x_X5_sheet_50 {v0 v2 v3 : AV} {z : Int} {st : List AV} {h : AH} : X mX5_sheet 50 [v0, aI z, v2, v3] st h = X mX5_sheet 51 [v0, aI z, v2, v3] (aI z :: st) h := X_of dX5_sheet_50 rfl
theorem x_X5_sheet_51 {a : Nat} {i z : Int} {al st : List AV} {h : AH} : X mX5_sheet 51 al (aI z :: aI i :: aR (some a) :: st) h = if 0 ≤ i then pK (rd h 10 a i.toNat) (X mX5_sheet 52 al st (wr h 10 a i.toNat (aI z))) else none := x_astI dX5_sheet_51
theorem x_X5_sheet_52 {v1 v2 v3 : AV} {z : Option Nat} {st : List AV} {h : AH} : X mX5_sheet 52 [aR z, v1, v2, v3] st h = X mX5_sheet 53 [aR z, v1, v2, v3] (aR z :: st) h := X_of dX5_sheet_52 rfl
theorem x_X5_sheet_53 {a : Nat} {al st : List AV} {h : AH} : X mX5_sheet 53 al (aR (some a) :: st) h = gK (rd h 5 a 6) fun v => X mX5_sheet 56 al (v :: st) h := x_get dX5_sheet_53 fT_5_16
theorem x_X5_sheet_56 {v1 v2 v3 : AV} {z : Option Nat} {st : List AV} {h : AH} : X mX5_sheet 56 [aR z, v1, v2, v3] st h = X mX5_sheet 57 [aR z, v1, v2, v3] (aR z :: st) h := X_of dX5_sheet_56 rfl
theorem x_X5_sheet_57 {a : Nat} {al st : List AV} {h : AH} : X mX5_sheet 57 al (aR (some a) :: st) h = gK (rd h 5 a 4) fun v => X mX5_sheet 60 al (v :: st) h := x_get dX5_sheet_57 fT_5_91
theorem x_X5_sheet_60 {v0 v1 v3 : AV} {z : Int} {st : List AV} {h : AH} : X mX5_sheet 60 [v0, v1, aI z, v3] st h = X mX5_sheet 61 [v0, v1, aI z, v3] (aI z :: st) h := X_of dX5_sheet_60 rfl
theorem x_X5_sheet_61 {a : Nat} {i z : Int} {al st : List AV} {h : AH} : X mX5_sheet 61 al (aI z :: aI i :: aR (some a) :: st) h = if 0 ≤ i then pK (rd h 10 a i.toNat) (X mX5_sheet 62 al st (wr h 10 a i.toNat (aI z))) else none := x_astI dX5_sheet_61
theorem x_X5_sheet_62 {al st : List AV} {h : AH} : X mX5_sheet 62 al st h = X mX5_sheet 63 al (aI 0 :: st) h := X_of dX5_sheet_62 rfl
theorem x_X5_sheet_63 {v0 v1 v3 : AV} {y : Int} {z : Int} {st : List AV} {h : AH} : X mX5_sheet 63 [v0, v1, aI y, v3] (aI z :: st) h = X mX5_sheet 64 [v0, v1, aI y, aI z] st h := X_of dX5_sheet_63 rfl
theorem x_X5_sheet_64 {v0 v1 v2 : AV} {z : Int} {st : List AV} {h : AH} : X mX5_sheet 64 [v0, v1, v2, aI z] st h = X mX5_sheet 65 [v0, v1, v2, aI z] (aI z :: st) h := X_of dX5_sheet_64 rfl
theorem x_X5_sheet_65 {al st : List AV} {h : AH} : X mX5_sheet 65 al st h = X mX5_sheet 67 al (aI 24 :: st) h := X_of dX5_sheet_65 rfl
theorem x_X5_sheet_67 {a b : Int} {al st : List AV} {h : AH} : X mX5_sheet 67 al (aI b :: aI a :: st) h = if b ≤ a then X mX5_sheet 91 al st h else X mX5_sheet 70 al st h := x_geC dX5_sheet_67 rfl
theorem x_X5_sheet_70 {v1 v2 v3 : AV} {z : Option Nat} {st : List AV} {h : AH} : X mX5_sheet 70 [aR z, v1, v2, v3] st h = X mX5_sheet 71 [aR z, v1, v2, v3] (aR z :: st) h := X_of dX5_sheet_70 rfl
theorem x_X5_sheet_71 {a : Nat} {al st : List AV} {h : AH} : X mX5_sheet 71 al (aR (some a) :: st) h = gK (rd h 5 a 7) fun v => X mX5_sheet 74 al (v :: st) h := x_get dX5_sheet_71 fT_5_19
theorem x_X5_sheet_74 {al st : List AV} {h : AH} : X mX5_sheet 74 al st h = X mX5_sheet 76 al (aI 24 :: st) h := X_of dX5_sheet_74 rfl
theorem x_X5_sheet_76 {v1 v2 v3 : AV} {z : Option Nat} {st : List AV} {h : AH} : X mX5_sheet 76 [aR z, v1, v2, v3] st h = X mX5_sheet 77 [aR z, v1, v2, v3] (aR z :: st) h := X_of dX5_sheet_76 rfl
theorem x_X5_sheet_77 {a : Nat} {al st : List AV} {h : AH} : X mX5_sheet 77 al (aR (some a) :: st) h = gK (rd h 5 a 4) fun v => X mX5_sheet 80 al (v :: st) h := x_get dX5_sheet_77 fT_5_91
theorem x_X5_sheet_80 {a b : Int} {al st : List AV} {h : AH} : X mX5_sheet 80 al (aI b :: aI a :: st) h = X mX5_sheet 81 al (aI (w32 (a * b)) :: st) h := X_of dX5_sheet_80 rfl
theorem x_X5_sheet_81 {v0 v1 v2 : AV} {z : Int} {st : List AV} {h : AH} : X mX5_sheet 81 [v0, v1, v2, aI z] st h = X mX5_sheet 82 [v0, v1, v2, aI z] (aI z :: st) h := X_of dX5_sheet_81 rfl
theorem x_X5_sheet_82 {a b : Int} {al st : List AV} {h : AH} : X mX5_sheet 82 al (aI b :: aI a :: st) h = X mX5_sheet 83 al (aI (w32 (a + b)) :: st) h := X_of dX5_sheet_82 rfl
theorem x_X5_sheet_83 {al st : List AV} {h : AH} : X mX5_sheet 83 al st h = X mX5_sheet 84 al (aJ 0 :: st) h := X_of dX5_sheet_83 rfl
theorem x_X5_sheet_84 {a : Nat} {i z : Int} {al st : List AV} {h : AH} : X mX5_sheet 84 al (aJ z :: aI i :: aR (some a) :: st) h = if 0 ≤ i then pK (rd h 11 a i.toNat) (X mX5_sheet 85 al st (wr h 11 a i.toNat (aJ z))) else none := x_astJ dX5_sheet_84
theorem x_X5_sheet_85 {v0 v1 : AV} {y : Int} {z : Int} {st : List AV} {h : AH} : X mX5_sheet 85 [v0, v1, aI y, aI z] st h = X mX5_sheet 88 [v0, v1, aI y, aI (w32 (z + 1))] st h := X_of dX5_sheet_85 rfl
theorem x_X5_sheet_88 {al st : List AV} {h : AH} : X mX5_sheet 88 al st h = X mX5_sheet 64 al st h := X_of dX5_sheet_88 rfl
theorem x_X5_sheet_91 {v1 v2 v3 : AV} {z : Option Nat} {st : List AV} {h : AH} : X mX5_sheet 91 [aR z, v1, v2, v3] st h = X mX5_sheet 92 [aR z, v1, v2, v3] (aR z :: st) h := X_of dX5_sheet_91 rfl
theorem x_X5_sheet_92 {z : Option Nat} {al st : List AV} {h : AH} : X mX5_sheet 92 al (aR z :: st) h = X mX5_sheet 93 al (aR z :: aR z :: st) h := X_of dX5_sheet_92 rfl
theorem x_X5_sheet_93 {a : Nat} {al st : List AV} {h : AH} : X mX5_sheet 93 al (aR (some a) :: st) h = gK (rd h 5 a 4) fun v => X mX5_sheet 96 al (v :: st) h := x_get dX5_sheet_93 fT_5_91
theorem x_X5_sheet_96 {al st : List AV} {h : AH} : X mX5_sheet 96 al st h = X mX5_sheet 97 al (aI 1 :: st) h := X_of dX5_sheet_96 rfl
theorem x_X5_sheet_97 {a b : Int} {al st : List AV} {h : AH} : X mX5_sheet 97 al (aI b :: aI a :: st) h = X mX5_sheet 98 al (aI (w32 (a + b)) :: st) h := X_of dX5_sheet_97 rfl
theorem x_X5_sheet_98 {a : Nat} {z : Int} {al st : List AV} {h : AH} : X mX5_sheet 98 al (aI z :: aR (some a) :: st) h = pK (rd h 5 a 4) (X mX5_sheet 101 al st (wr h 5 a 4 (aI z))) := x_put dX5_sheet_98 fT_5_91 rfl rfl
theorem x_X5_sheet_101 {v1 v2 v3 : AV} {z : Option Nat} {st : List AV} {h : AH} : X mX5_sheet 101 [aR z, v1, v2, v3] st h = X mX5_sheet 102 [aR z, v1, v2, v3] (aR z :: st) h := X_of dX5_sheet_101 rfl
theorem x_X5_sheet_102 {a : Nat} {al st : List AV} {h : AH} : X mX5_sheet 102 al (aR (some a) :: st) h = gK (rd h 5 a 4) fun v => X mX5_sheet 105 al (v :: st) h := x_get dX5_sheet_102 fT_5_91
theorem x_X5_sheet_105 {al st : List AV} {h : AH} : X mX5_sheet 105 al st h = X mX5_sheet 106 al (aI 1 :: st) h := X_of dX5_sheet_105 rfl
theorem x_X5_sheet_106 {a b : Int} {al st : List AV} {h : AH} : X mX5_sheet 106 al (aI b :: aI a :: st) h = X mX5_sheet 107 al (aI (w32 (a - b)) :: st) h := X_of dX5_sheet_106 rfl
theorem x_X5_sheet_107 {z : Int} {al : List AV} {h : AH} : X mX5_sheet 107 al [aI z] h = some (some (aI z), h) := X_ofR dX5_sheet_107 rfl
theorem e_X5_tear {p0 : Option Nat} {p1 : Int} {h : AH} : E mX5_tear [aR p0, aI p1] h = X mX5_tear 0 [aR p0, aI p1] [] h := rfl
theorem x_X5_tear_0 {v1 : AV} {z : Option Nat} {st : List AV} {h : AH} : X mX5_tear 0 [aR z, v1] st h = X mX5_tear 1 [aR z, v1] (aR z :: st) h := X_of dX5_tear_0 rfl
theorem x_X5_tear_1 {v0 : AV} {z : Int} {st : List AV} {h : AH} : X mX5_tear 1 [v0, aI z] st h = X mX5_tear 2 [v0, aI z] (aI z :: st) h := X_of dX5_tear_1 rfl
theorem x_X5_tear_2 {a0 : Nat} {a1 : Int} {al : List AV} {h : AH} (ho : isO h 5 a0 = true) : X mX5_tear 2 al [aI a1, aR (some a0)] h = cK (E mX5_isSheet [aR (some a0), aI a1] h) fun v h2 => X mX5_tear 5 al (v.toList ++ []) h2 := x_cal (as := [aR (some a0), aI a1]) (rest := []) dX5_tear_2 (fun _ => rfl) cT_5_100 rfl rfl ho
theorem x_X5_tear_5 {a : Int} {al st : List AV} {h : AH} : X mX5_tear 5 al (aI a :: st) h = if ¬ a = 0 then X mX5_tear 10 al st h else X mX5_tear 8 al st h := x_ne0 dX5_tear_5 rfl
theorem x_X5_tear_8 {al st : List AV} {h : AH} : X mX5_tear 8 al st h = X mX5_tear 9 al (aI (-1) :: st) h := X_of dX5_tear_8 rfl
theorem x_X5_tear_9 {z : Int} {al : List AV} {h : AH} : X mX5_tear 9 al [aI z] h = some (some (aI z), h) := X_ofR dX5_tear_9 rfl
theorem x_X5_tear_10 {v1 : AV} {z : Option Nat} {st : List AV} {h : AH} : X mX5_tear 10 [aR z, v1] st h = X mX5_tear 11 [aR z, v1] (aR z :: st) h := X_of dX5_tear_10 rfl
theorem x_X5_tear_11 {a : Nat} {al st : List AV} {h : AH} : X mX5_tear 11 al (aR (some a) :: st) h = gK (rd h 5 a 6) fun v => X mX5_tear 14 al (v :: st) h := x_get dX5_tear_11 fT_5_16
theorem x_X5_tear_14 {v0 : AV} {z : Int} {st : List AV} {h : AH} : X mX5_tear 14 [v0, aI z] st h = X mX5_tear 15 [v0, aI z] (aI z :: st) h := X_of dX5_tear_14 rfl
theorem x_X5_tear_15 {a : Nat} {i : Int} {al st : List AV} {h : AH} : X mX5_tear 15 al (aI i :: aR (some a) :: st) h = if 0 ≤ i then gK (rd h 10 a i.toNat) (fun v => X mX5_tear 16 al (v :: st) h) else none := x_aldI dX5_tear_15
theorem x_X5_tear_16 {a : Int} {al st : List AV} {h : AH} : X mX5_tear 16 al (aI a :: st) h = if 0 ≤ a then X mX5_tear 25 al st h else X mX5_tear 19 al st h := x_ge0 dX5_tear_16 rfl
theorem x_X5_tear_19 {v1 : AV} {z : Option Nat} {st : List AV} {h : AH} : X mX5_tear 19 [aR z, v1] st h = X mX5_tear 20 [aR z, v1] (aR z :: st) h := X_of dX5_tear_19 rfl
theorem x_X5_tear_20 {al st : List AV} {h : AH} : X mX5_tear 20 al st h = X mX5_tear 21 al (aI 1 :: st) h := X_of dX5_tear_20 rfl
theorem x_X5_tear_21 {a0 : Nat} {a1 : Int} {al : List AV} {h : AH} (ho : isO h 5 a0 = true) : X mX5_tear 21 al [aI a1, aR (some a0)] h = cK (E mX5_meets [aR (some a0), aI a1] h) fun v h2 => X mX5_tear 24 al (v.toList ++ []) h2 := x_cal (as := [aR (some a0), aI a1]) (rest := []) dX5_tear_21 (fun _ => rfl) cT_5_96 rfl rfl ho
theorem x_X5_tear_24 {z : Int} {al : List AV} {h : AH} : X mX5_tear 24 al [aI z] h = some (some (aI z), h) := X_ofR dX5_tear_24 rfl
theorem x_X5_tear_25 {v1 : AV} {z : Option Nat} {st : List AV} {h : AH} : X mX5_tear 25 [aR z, v1] st h = X mX5_tear 26 [aR z, v1] (aR z :: st) h := X_of dX5_tear_25 rfl
theorem x_X5_tear_26 {a : Nat} {al st : List AV} {h : AH} : X mX5_tear 26 al (aR (some a) :: st) h = gK (rd h 5 a 6) fun v => X mX5_tear 29 al (v :: st) h := x_get dX5_tear_26 fT_5_16
theorem x_X5_tear_29 {v0 : AV} {z : Int} {st : List AV} {h : AH} : X mX5_tear 29 [v0, aI z] st h = X mX5_tear 30 [v0, aI z] (aI z :: st) h := X_of dX5_tear_29 rfl
theorem x_X5_tear_30 {al st : List AV} {h : AH} : X mX5_tear 30 al st h = X mX5_tear 31 al (aI (-1) :: st) h := X_of dX5_tear_30 rfl
theorem x_X5_tear_31 {a : Nat} {i z : Int} {al st : List AV} {h : AH} : X mX5_tear 31 al (aI z :: aI i :: aR (some a) :: st) h = if 0 ≤ i then pK (rd h 10 a i.toNat) (X mX5_tear 32 al st (wr h 10 a i.toNat (aI z))) else none := x_astI dX5_tear_31
theorem x_X5_tear_32 {al st : List AV} {h : AH} : X mX5_tear 32 al st h = X mX5_tear 33 al (aI 1 :: st) h := X_of dX5_tear_32 rfl
theorem x_X5_tear_33 {z : Int} {al : List AV} {h : AH} : X mX5_tear 33 al [aI z] h = some (some (aI z), h) := X_ofR dX5_tear_33 rfl
theorem e_X5_lacks {p0 : Option Nat} {p1 : Int} {p2 : Int} {h : AH} : E mX5_lacks [aR p0, aI p1, aI p2] h = X mX5_lacks 0 [aR p0, aI p1, aI p2] [] h := rfl
theorem x_X5_lacks_0 {v1 v2 : AV} {z : Option Nat} {st : List AV} {h : AH} : X mX5_lacks 0 [aR z, v1, v2] st h = X mX5_lacks 1 [aR z, v1, v2] (aR z :: st) h := X_of dX5_lacks_0 rfl
theorem x_X5_lacks_1 {a : Nat} {al st : List AV} {h : AH} : X mX5_lacks 1 al (aR (some a) :: st) h = gK (rd h 5 a 6) fun v => X mX5_lacks 4 al (v :: st) h := x_get dX5_lacks_1 fT_5_16
theorem x_X5_lacks_4 {v0 v2 : AV} {z : Int} {st : List AV} {h : AH} : X mX5_lacks 4 [v0, aI z, v2] st h = X mX5_lacks 5 [v0, aI z, v2] (aI z :: st) h := X_of dX5_lacks_4 rfl
theorem x_X5_lacks_5 {a : Nat} {i : Int} {al st : List AV} {h : AH} : X mX5_lacks 5 al (aI i :: aR (some a) :: st) h = if 0 ≤ i then gK (rd h 10 a i.toNat) (fun v => X mX5_lacks 6 al (v :: st) h) else none := x_aldI dX5_lacks_5
theorem x_X5_lacks_6 {a : Int} {al st : List AV} {h : AH} : X mX5_lacks 6 al (aI a :: st) h = if 0 ≤ a then X mX5_lacks 13 al st h else X mX5_lacks 9 al st h := x_ge0 dX5_lacks_6 rfl
theorem x_X5_lacks_9 {al st : List AV} {h : AH} : X mX5_lacks 9 al st h = X mX5_lacks 10 al (aI 1 :: st) h := X_of dX5_lacks_9 rfl
theorem x_X5_lacks_10 {al st : List AV} {h : AH} : X mX5_lacks 10 al st h = X mX5_lacks 36 al st h := X_of dX5_lacks_10 rfl
theorem x_X5_lacks_13 {v0 v1 : AV} {z : Int} {st : List AV} {h : AH} : X mX5_lacks 13 [v0, v1, aI z] st h = X mX5_lacks 14 [v0, v1, aI z] (aI z :: st) h := X_of dX5_lacks_13 rfl
theorem x_X5_lacks_14 {a : Int} {al st : List AV} {h : AH} : X mX5_lacks 14 al (aI a :: st) h = X mX5_lacks 15 al (aJ a :: st) h := X_of dX5_lacks_14 rfl
theorem x_X5_lacks_15 {al st : List AV} {h : AH} : X mX5_lacks 15 al st h = X mX5_lacks 16 al (aJ 0 :: st) h := X_of dX5_lacks_15 rfl
theorem x_X5_lacks_16 {v1 v2 : AV} {z : Option Nat} {st : List AV} {h : AH} : X mX5_lacks 16 [aR z, v1, v2] st h = X mX5_lacks 17 [aR z, v1, v2] (aR z :: st) h := X_of dX5_lacks_16 rfl
theorem x_X5_lacks_17 {a : Nat} {al st : List AV} {h : AH} : X mX5_lacks 17 al (aR (some a) :: st) h = gK (rd h 5 a 6) fun v => X mX5_lacks 20 al (v :: st) h := x_get dX5_lacks_17 fT_5_16
theorem x_X5_lacks_20 {v0 v2 : AV} {z : Int} {st : List AV} {h : AH} : X mX5_lacks 20 [v0, aI z, v2] st h = X mX5_lacks 21 [v0, aI z, v2] (aI z :: st) h := X_of dX5_lacks_20 rfl
theorem x_X5_lacks_21 {a : Nat} {i : Int} {al st : List AV} {h : AH} : X mX5_lacks 21 al (aI i :: aR (some a) :: st) h = if 0 ≤ i then gK (rd h 10 a i.toNat) (fun v => X mX5_lacks 22 al (v :: st) h) else none := x_aldI dX5_lacks_21
theorem x_X5_lacks_22 {al st : List AV} {h : AH} : X mX5_lacks 22 al st h = X mX5_lacks 23 al (aI 1 :: st) h := X_of dX5_lacks_22 rfl
theorem x_X5_lacks_23 {a b : Int} {al st : List AV} {h : AH} : X mX5_lacks 23 al (aI b :: aI a :: st) h = X mX5_lacks 24 al (aI (w32 (a - b)) :: st) h := X_of dX5_lacks_23 rfl
theorem x_X5_lacks_24 {a : Int} {al st : List AV} {h : AH} : X mX5_lacks 24 al (aI a :: st) h = X mX5_lacks 25 al (aJ a :: st) h := X_of dX5_lacks_24 rfl
theorem x_X5_lacks_25 {a0 : Int} {a1 : Int} {a2 : Int} {al : List AV} {h : AH} : X mX5_lacks 25 al [aJ a2, aJ a1, aJ a0] h = cK (E mX5_in [aJ a0, aJ a1, aJ a2] h) fun v h2 => X mX5_lacks 28 al (v.toList ++ []) h2 := x_cal (as := [aJ a0, aJ a1, aJ a2]) (rest := []) dX5_lacks_25 (fun _ => rfl) cT_5_81 rfl rfl rfl
theorem x_X5_lacks_28 {a : Int} {al st : List AV} {h : AH} : X mX5_lacks 28 al (aI a :: st) h = if a = 0 then X mX5_lacks 35 al st h else X mX5_lacks 31 al st h := x_eq0 dX5_lacks_28 rfl
theorem x_X5_lacks_31 {al st : List AV} {h : AH} : X mX5_lacks 31 al st h = X mX5_lacks 32 al (aI 0 :: st) h := X_of dX5_lacks_31 rfl
theorem x_X5_lacks_32 {al st : List AV} {h : AH} : X mX5_lacks 32 al st h = X mX5_lacks 36 al st h := X_of dX5_lacks_32 rfl
theorem x_X5_lacks_35 {al st : List AV} {h : AH} : X mX5_lacks 35 al st h = X mX5_lacks 36 al (aI 2 :: st) h := X_of dX5_lacks_35 rfl
theorem x_X5_lacks_36 {z : Int} {al : List AV} {h : AH} : X mX5_lacks 36 al [aI z] h = some (some (aI z), h) := X_ofR dX5_lacks_36 rfl
theorem e_X5_lay {p0 : Option Nat} {p1 : Int} {p2 : Int} {p3 : Int} {h : AH} : E mX5_lay [aR p0, aI p1, aI p2, aJ p3] h = X mX5_lay 0 [aR p0, aI p1, aI p2, aJ p3, aU, aU, aU] [] h := rfl
theorem x_X5_lay_0 {v1 v2 v3 v4 v5 v6 : AV} {z : Option Nat} {st : List AV} {h : AH} : X mX5_lay 0 [aR z, v1, v2, v3, v4, v5, v6] st h = X mX5_lay 1 [aR z, v1, v2, v3, v4, v5, v6] (aR z :: st) h := X_of dX5_lay_0 rfl
theorem x_X5_lay_1 {v0 v2 v3 v4 v5 v6 : AV} {z : Int} {st : List AV} {h : AH} : X mX5_lay 1 [v0, aI z, v2, v3, v4, v5, v6] st h = X mX5_lay 2 [v0, aI z, v2, v3, v4, v5, v6] (aI z :: st) h := X_of dX5_lay_1 rfl
theorem x_X5_lay_2 {a0 : Nat} {a1 : Int} {al : List AV} {h : AH} (ho : isO h 5 a0 = true) : X mX5_lay 2 al [aI a1, aR (some a0)] h = cK (E mX5_isSheet [aR (some a0), aI a1] h) fun v h2 => X mX5_lay 5 al (v.toList ++ []) h2 := x_cal (as := [aR (some a0), aI a1]) (rest := []) dX5_lay_2 (fun _ => rfl) cT_5_100 rfl rfl ho
theorem x_X5_lay_5 {a : Int} {al st : List AV} {h : AH} : X mX5_lay 5 al (aI a :: st) h = if ¬ a = 0 then X mX5_lay 10 al st h else X mX5_lay 8 al st h := x_ne0 dX5_lay_5 rfl
theorem x_X5_lay_8 {al st : List AV} {h : AH} : X mX5_lay 8 al st h = X mX5_lay 9 al (aI (-1) :: st) h := X_of dX5_lay_8 rfl
theorem x_X5_lay_9 {z : Int} {al : List AV} {h : AH} : X mX5_lay 9 al [aI z] h = some (some (aI z), h) := X_ofR dX5_lay_9 rfl
theorem x_X5_lay_10 {v1 v2 v3 v4 v5 v6 : AV} {z : Option Nat} {st : List AV} {h : AH} : X mX5_lay 10 [aR z, v1, v2, v3, v4, v5, v6] st h = X mX5_lay 11 [aR z, v1, v2, v3, v4, v5, v6] (aR z :: st) h := X_of dX5_lay_10 rfl
theorem x_X5_lay_11 {v0 v2 v3 v4 v5 v6 : AV} {z : Int} {st : List AV} {h : AH} : X mX5_lay 11 [v0, aI z, v2, v3, v4, v5, v6] st h = X mX5_lay 12 [v0, aI z, v2, v3, v4, v5, v6] (aI z :: st) h := X_of dX5_lay_11 rfl
theorem x_X5_lay_12 {v0 v1 v3 v4 v5 v6 : AV} {z : Int} {st : List AV} {h : AH} : X mX5_lay 12 [v0, v1, aI z, v3, v4, v5, v6] st h = X mX5_lay 13 [v0, v1, aI z, v3, v4, v5, v6] (aI z :: st) h := X_of dX5_lay_12 rfl
theorem x_X5_lay_13 {a0 : Nat} {a1 : Int} {a2 : Int} {al : List AV} {h : AH} (ho : isO h 5 a0 = true) : X mX5_lay 13 al [aI a2, aI a1, aR (some a0)] h = cK (E mX5_lacks [aR (some a0), aI a1, aI a2] h) fun v h2 => X mX5_lay 16 al (v.toList ++ []) h2 := x_cal (as := [aR (some a0), aI a1, aI a2]) (rest := []) dX5_lay_13 (fun _ => rfl) cT_5_104 rfl rfl ho
theorem x_X5_lay_16 {v0 v1 v2 v3 v5 v6 : AV} {z : Int} {st : List AV} {h : AH} : X mX5_lay 16 [v0, v1, v2, v3, aU, v5, v6] (aI z :: st) h = X mX5_lay 18 [v0, v1, v2, v3, aU, aI z, v6] st h := X_of dX5_lay_16 rfl
theorem x_X5_lay_18 {v0 v1 v2 v3 v4 v6 : AV} {z : Int} {st : List AV} {h : AH} : X mX5_lay 18 [v0, v1, v2, v3, v4, aI z, v6] st h = X mX5_lay 20 [v0, v1, v2, v3, v4, aI z, v6] (aI z :: st) h := X_of dX5_lay_18 rfl
theorem x_X5_lay_20 {a : Int} {al st : List AV} {h : AH} : X mX5_lay 20 al (aI a :: st) h = if a ≤ 0 then X mX5_lay 30 al st h else X mX5_lay 23 al st h := x_le0 dX5_lay_20 rfl
theorem x_X5_lay_23 {v1 v2 v3 v4 v5 v6 : AV} {z : Option Nat} {st : List AV} {h : AH} : X mX5_lay 23 [aR z, v1, v2, v3, v4, v5, v6] st h = X mX5_lay 24 [aR z, v1, v2, v3, v4, v5, v6] (aR z :: st) h := X_of dX5_lay_23 rfl
theorem x_X5_lay_24 {v0 v1 v2 v3 v4 v6 : AV} {z : Int} {st : List AV} {h : AH} : X mX5_lay 24 [v0, v1, v2, v3, v4, aI z, v6] st h = X mX5_lay 26 [v0, v1, v2, v3, v4, aI z, v6] (aI z :: st) h := X_of dX5_lay_24 rfl
theorem x_X5_lay_26 {a0 : Nat} {a1 : Int} {al : List AV} {h : AH} (ho : isO h 5 a0 = true) : X mX5_lay 26 al [aI a1, aR (some a0)] h = cK (E mX5_meets [aR (some a0), aI a1] h) fun v h2 => X mX5_lay 29 al (v.toList ++ []) h2 := x_cal (as := [aR (some a0), aI a1]) (rest := []) dX5_lay_26 (fun _ => rfl) cT_5_96 rfl rfl ho
theorem x_X5_lay_29 {z : Int} {al : List AV} {h : AH} : X mX5_lay 29 al [aI z] h = some (some (aI z), h) := X_ofR dX5_lay_29 rfl
theorem x_X5_lay_30 {v1 v2 v3 v4 v5 v6 : AV} {z : Option Nat} {st : List AV} {h : AH} : X mX5_lay 30 [aR z, v1, v2, v3, v4, v5, v6] st h = X mX5_lay 31 [aR z, v1, v2, v3, v4, v5, v6] (aR z :: st) h := X_of dX5_lay_30 rfl
theorem x_X5_lay_31 {a : Nat} {al st : List AV} {h : AH} : X mX5_lay 31 al (aR (some a) :: st) h = gK (rd h 5 a 5) fun v => X mX5_lay 34 al (v :: st) h := x_get dX5_lay_31 fT_5_13
theorem x_X5_lay_34 {v0 v2 v3 v4 v5 v6 : AV} {z : Int} {st : List AV} {h : AH} : X mX5_lay 34 [v0, aI z, v2, v3, v4, v5, v6] st h = X mX5_lay 35 [v0, aI z, v2, v3, v4, v5, v6] (aI z :: st) h := X_of dX5_lay_34 rfl
theorem x_X5_lay_35 {a : Nat} {i : Int} {al st : List AV} {h : AH} : X mX5_lay 35 al (aI i :: aR (some a) :: st) h = if 0 ≤ i then gK (rd h 10 a i.toNat) (fun v => X mX5_lay 36 al (v :: st) h) else none := x_aldI dX5_lay_35
theorem x_X5_lay_36 {v0 v1 v2 v3 v4 v6 : AV} {y : Int} {z : Int} {st : List AV} {h : AH} : X mX5_lay 36 [v0, v1, v2, v3, v4, aI y, v6] (aI z :: st) h = X mX5_lay 38 [v0, v1, v2, v3, v4, aI y, aI z] st h := X_of dX5_lay_36 rfl
theorem x_X5_lay_38 {v1 v2 v3 v4 v5 v6 : AV} {z : Option Nat} {st : List AV} {h : AH} : X mX5_lay 38 [aR z, v1, v2, v3, v4, v5, v6] st h = X mX5_lay 39 [aR z, v1, v2, v3, v4, v5, v6] (aR z :: st) h := X_of dX5_lay_38 rfl
theorem x_X5_lay_39 {a : Nat} {al st : List AV} {h : AH} : X mX5_lay 39 al (aR (some a) :: st) h = gK (rd h 5 a 7) fun v => X mX5_lay 42 al (v :: st) h := x_get dX5_lay_39 fT_5_19
theorem x_X5_lay_42 {al st : List AV} {h : AH} : X mX5_lay 42 al st h = X mX5_lay 44 al (aI 24 :: st) h := X_of dX5_lay_42 rfl
theorem x_X5_lay_44 {v0 v2 v3 v4 v5 v6 : AV} {z : Int} {st : List AV} {h : AH} : X mX5_lay 44 [v0, aI z, v2, v3, v4, v5, v6] st h = X mX5_lay 45 [v0, aI z, v2, v3, v4, v5, v6] (aI z :: st) h := X_of dX5_lay_44 rfl
theorem x_X5_lay_45 {a b : Int} {al st : List AV} {h : AH} : X mX5_lay 45 al (aI b :: aI a :: st) h = X mX5_lay 46 al (aI (w32 (a * b)) :: st) h := X_of dX5_lay_45 rfl
theorem x_X5_lay_46 {v0 v1 v3 v4 v5 v6 : AV} {z : Int} {st : List AV} {h : AH} : X mX5_lay 46 [v0, v1, aI z, v3, v4, v5, v6] st h = X mX5_lay 47 [v0, v1, aI z, v3, v4, v5, v6] (aI z :: st) h := X_of dX5_lay_46 rfl
theorem x_X5_lay_47 {a b : Int} {al st : List AV} {h : AH} : X mX5_lay 47 al (aI b :: aI a :: st) h = X mX5_lay 48 al (aI (w32 (a + b)) :: st) h := X_of dX5_lay_47 rfl
theorem x_X5_lay_48 {v0 v1 v2 v3 v4 v5 : AV} {z : Int} {st : List AV} {h : AH} : X mX5_lay 48 [v0, v1, v2, v3, v4, v5, aI z] st h = X mX5_lay 50 [v0, v1, v2, v3, v4, v5, aI z] (aI z :: st) h := X_of dX5_lay_48 rfl
theorem x_X5_lay_50 {a : Int} {al st : List AV} {h : AH} : X mX5_lay 50 al (aI a :: st) h = if ¬ a = 0 then X mX5_lay 60 al st h else X mX5_lay 53 al st h := x_ne0 dX5_lay_50 rfl
theorem x_X5_lay_53 {v0 v1 v2 v4 v5 v6 : AV} {z : Int} {st : List AV} {h : AH} : X mX5_lay 53 [v0, v1, v2, aJ z, v4, v5, v6] st h = X mX5_lay 54 [v0, v1, v2, aJ z, v4, v5, v6] (aJ z :: st) h := X_of dX5_lay_53 rfl
theorem x_X5_lay_54 {a : Int} {al st : List AV} {h : AH} : X mX5_lay 54 al (aJ a :: st) h = X mX5_lay 55 al (aI (w32 a) :: st) h := X_of dX5_lay_54 rfl
theorem x_X5_lay_55 {a : Int} {al st : List AV} {h : AH} : X mX5_lay 55 al (aI a :: st) h = X mX5_lay 56 al (aI (w8 a) :: st) h := X_of dX5_lay_55 rfl
theorem x_X5_lay_56 {a : Int} {al st : List AV} {h : AH} : X mX5_lay 56 al (aI a :: st) h = X mX5_lay 57 al (aJ a :: st) h := X_of dX5_lay_56 rfl
theorem x_X5_lay_57 {al st : List AV} {h : AH} : X mX5_lay 57 al st h = X mX5_lay 86 al st h := X_of dX5_lay_57 rfl
theorem x_X5_lay_60 {v0 v1 v2 v3 v4 v5 : AV} {z : Int} {st : List AV} {h : AH} : X mX5_lay 60 [v0, v1, v2, v3, v4, v5, aI z] st h = X mX5_lay 62 [v0, v1, v2, v3, v4, v5, aI z] (aI z :: st) h := X_of dX5_lay_60 rfl
theorem x_X5_lay_62 {al st : List AV} {h : AH} : X mX5_lay 62 al st h = X mX5_lay 63 al (aI 1 :: st) h := X_of dX5_lay_62 rfl
theorem x_X5_lay_63 {a b : Int} {al st : List AV} {h : AH} : X mX5_lay 63 al (aI b :: aI a :: st) h = if ¬ a = b then X mX5_lay 73 al st h else X mX5_lay 66 al st h := x_neC dX5_lay_63 rfl
theorem x_X5_lay_66 {v0 v1 v2 v4 v5 v6 : AV} {z : Int} {st : List AV} {h : AH} : X mX5_lay 66 [v0, v1, v2, aJ z, v4, v5, v6] st h = X mX5_lay 67 [v0, v1, v2, aJ z, v4, v5, v6] (aJ z :: st) h := X_of dX5_lay_66 rfl
theorem x_X5_lay_67 {a : Int} {al st : List AV} {h : AH} : X mX5_lay 67 al (aJ a :: st) h = X mX5_lay 68 al (aI (w32 a) :: st) h := X_of dX5_lay_67 rfl
theorem x_X5_lay_68 {a : Int} {al st : List AV} {h : AH} : X mX5_lay 68 al (aI a :: st) h = X mX5_lay 69 al (aI (w16 a) :: st) h := X_of dX5_lay_68 rfl
theorem x_X5_lay_69 {a : Int} {al st : List AV} {h : AH} : X mX5_lay 69 al (aI a :: st) h = X mX5_lay 70 al (aJ a :: st) h := X_of dX5_lay_69 rfl
theorem x_X5_lay_70 {al st : List AV} {h : AH} : X mX5_lay 70 al st h = X mX5_lay 86 al st h := X_of dX5_lay_70 rfl
theorem x_X5_lay_73 {v0 v1 v2 v3 v4 v5 : AV} {z : Int} {st : List AV} {h : AH} : X mX5_lay 73 [v0, v1, v2, v3, v4, v5, aI z] st h = X mX5_lay 75 [v0, v1, v2, v3, v4, v5, aI z] (aI z :: st) h := X_of dX5_lay_73 rfl
theorem x_X5_lay_75 {al st : List AV} {h : AH} : X mX5_lay 75 al st h = X mX5_lay 76 al (aI 2 :: st) h := X_of dX5_lay_75 rfl
theorem x_X5_lay_76 {a b : Int} {al st : List AV} {h : AH} : X mX5_lay 76 al (aI b :: aI a :: st) h = if ¬ a = b then X mX5_lay 85 al st h else X mX5_lay 79 al st h := x_neC dX5_lay_76 rfl
theorem x_X5_lay_79 {v0 v1 v2 v4 v5 v6 : AV} {z : Int} {st : List AV} {h : AH} : X mX5_lay 79 [v0, v1, v2, aJ z, v4, v5, v6] st h = X mX5_lay 80 [v0, v1, v2, aJ z, v4, v5, v6] (aJ z :: st) h := X_of dX5_lay_79 rfl
theorem x_X5_lay_80 {a : Int} {al st : List AV} {h : AH} : X mX5_lay 80 al (aJ a :: st) h = X mX5_lay 81 al (aI (w32 a) :: st) h := X_of dX5_lay_80 rfl
theorem x_X5_lay_81 {a : Int} {al st : List AV} {h : AH} : X mX5_lay 81 al (aI a :: st) h = X mX5_lay 82 al (aJ a :: st) h := X_of dX5_lay_81 rfl
theorem x_X5_lay_82 {al st : List AV} {h : AH} : X mX5_lay 82 al st h = X mX5_lay 86 al st h := X_of dX5_lay_82 rfl
theorem x_X5_lay_85 {v0 v1 v2 v4 v5 v6 : AV} {z : Int} {st : List AV} {h : AH} : X mX5_lay 85 [v0, v1, v2, aJ z, v4, v5, v6] st h = X mX5_lay 86 [v0, v1, v2, aJ z, v4, v5, v6] (aJ z :: st) h := X_of dX5_lay_85 rfl
theorem x_X5_lay_86 {a : Nat} {i z : Int} {al st : List AV} {h : AH} : X mX5_lay 86 al (aJ z :: aI i :: aR (some a) :: st) h = if 0 ≤ i then pK (rd h 11 a i.toNat) (X mX5_lay 87 al st (wr h 11 a i.toNat (aJ z))) else none := x_astJ dX5_lay_86
theorem x_X5_lay_87 {al st : List AV} {h : AH} : X mX5_lay 87 al st h = X mX5_lay 88 al (aI 1 :: st) h := X_of dX5_lay_87 rfl
theorem x_X5_lay_88 {z : Int} {al : List AV} {h : AH} : X mX5_lay 88 al [aI z] h = some (some (aI z), h) := X_ofR dX5_lay_88 rfl
theorem e_X5_get {p0 : Option Nat} {p1 : Int} {p2 : Int} {h : AH} : E mX5_get [aR p0, aI p1, aI p2] h = X mX5_get 0 [aR p0, aI p1, aI p2, aU] [] h := rfl
theorem x_X5_get_0 {v1 v2 v3 : AV} {z : Option Nat} {st : List AV} {h : AH} : X mX5_get 0 [aR z, v1, v2, v3] st h = X mX5_get 1 [aR z, v1, v2, v3] (aR z :: st) h := X_of dX5_get_0 rfl
theorem x_X5_get_1 {v0 v2 v3 : AV} {z : Int} {st : List AV} {h : AH} : X mX5_get 1 [v0, aI z, v2, v3] st h = X mX5_get 2 [v0, aI z, v2, v3] (aI z :: st) h := X_of dX5_get_1 rfl
theorem x_X5_get_2 {a0 : Nat} {a1 : Int} {al : List AV} {h : AH} (ho : isO h 5 a0 = true) : X mX5_get 2 al [aI a1, aR (some a0)] h = cK (E mX5_isSheet [aR (some a0), aI a1] h) fun v h2 => X mX5_get 5 al (v.toList ++ []) h2 := x_cal (as := [aR (some a0), aI a1]) (rest := []) dX5_get_2 (fun _ => rfl) cT_5_100 rfl rfl ho
theorem x_X5_get_5 {a : Int} {al st : List AV} {h : AH} : X mX5_get 5 al (aI a :: st) h = if ¬ a = 0 then X mX5_get 10 al st h else X mX5_get 8 al st h := x_ne0 dX5_get_5 rfl
theorem x_X5_get_8 {al st : List AV} {h : AH} : X mX5_get 8 al st h = X mX5_get 9 al (aI (-1) :: st) h := X_of dX5_get_8 rfl
theorem x_X5_get_9 {z : Int} {al : List AV} {h : AH} : X mX5_get 9 al [aI z] h = some (some (aI z), h) := X_ofR dX5_get_9 rfl
theorem x_X5_get_10 {v1 v2 v3 : AV} {z : Option Nat} {st : List AV} {h : AH} : X mX5_get 10 [aR z, v1, v2, v3] st h = X mX5_get 11 [aR z, v1, v2, v3] (aR z :: st) h := X_of dX5_get_10 rfl
theorem x_X5_get_11 {v0 v2 v3 : AV} {z : Int} {st : List AV} {h : AH} : X mX5_get 11 [v0, aI z, v2, v3] st h = X mX5_get 12 [v0, aI z, v2, v3] (aI z :: st) h := X_of dX5_get_11 rfl
theorem x_X5_get_12 {v0 v1 v3 : AV} {z : Int} {st : List AV} {h : AH} : X mX5_get 12 [v0, v1, aI z, v3] st h = X mX5_get 13 [v0, v1, aI z, v3] (aI z :: st) h := X_of dX5_get_12 rfl
theorem x_X5_get_13 {a0 : Nat} {a1 : Int} {a2 : Int} {al : List AV} {h : AH} (ho : isO h 5 a0 = true) : X mX5_get 13 al [aI a2, aI a1, aR (some a0)] h = cK (E mX5_lacks [aR (some a0), aI a1, aI a2] h) fun v h2 => X mX5_get 16 al (v.toList ++ []) h2 := x_cal (as := [aR (some a0), aI a1, aI a2]) (rest := []) dX5_get_13 (fun _ => rfl) cT_5_104 rfl rfl ho
theorem x_X5_get_16 {v0 v1 v3 : AV} {y : Int} {z : Int} {st : List AV} {h : AH} : X mX5_get 16 [v0, v1, aI y, v3] (aI z :: st) h = X mX5_get 17 [v0, v1, aI y, aI z] st h := X_of dX5_get_16 rfl
theorem x_X5_get_17 {v0 v1 v2 : AV} {z : Int} {st : List AV} {h : AH} : X mX5_get 17 [v0, v1, v2, aI z] st h = X mX5_get 18 [v0, v1, v2, aI z] (aI z :: st) h := X_of dX5_get_17 rfl
theorem x_X5_get_18 {a : Int} {al st : List AV} {h : AH} : X mX5_get 18 al (aI a :: st) h = if a ≤ 0 then X mX5_get 27 al st h else X mX5_get 21 al st h := x_le0 dX5_get_18 rfl
theorem x_X5_get_21 {v1 v2 v3 : AV} {z : Option Nat} {st : List AV} {h : AH} : X mX5_get 21 [aR z, v1, v2, v3] st h = X mX5_get 22 [aR z, v1, v2, v3] (aR z :: st) h := X_of dX5_get_21 rfl
theorem x_X5_get_22 {v0 v1 v2 : AV} {z : Int} {st : List AV} {h : AH} : X mX5_get 22 [v0, v1, v2, aI z] st h = X mX5_get 23 [v0, v1, v2, aI z] (aI z :: st) h := X_of dX5_get_22 rfl
theorem x_X5_get_23 {a0 : Nat} {a1 : Int} {al : List AV} {h : AH} (ho : isO h 5 a0 = true) : X mX5_get 23 al [aI a1, aR (some a0)] h = cK (E mX5_meets [aR (some a0), aI a1] h) fun v h2 => X mX5_get 26 al (v.toList ++ []) h2 := x_cal (as := [aR (some a0), aI a1]) (rest := []) dX5_get_23 (fun _ => rfl) cT_5_96 rfl rfl ho
theorem x_X5_get_26 {z : Int} {al : List AV} {h : AH} : X mX5_get 26 al [aI z] h = some (some (aI z), h) := X_ofR dX5_get_26 rfl
theorem x_X5_get_27 {v1 v2 v3 : AV} {z : Option Nat} {st : List AV} {h : AH} : X mX5_get 27 [aR z, v1, v2, v3] st h = X mX5_get 28 [aR z, v1, v2, v3] (aR z :: st) h := X_of dX5_get_27 rfl
theorem x_X5_get_28 {v1 v2 v3 : AV} {z : Option Nat} {st : List AV} {h : AH} : X mX5_get 28 [aR z, v1, v2, v3] st h = X mX5_get 29 [aR z, v1, v2, v3] (aR z :: st) h := X_of dX5_get_28 rfl
theorem x_X5_get_29 {a : Nat} {al st : List AV} {h : AH} : X mX5_get 29 al (aR (some a) :: st) h = gK (rd h 5 a 7) fun v => X mX5_get 32 al (v :: st) h := x_get dX5_get_29 fT_5_19
theorem x_X5_get_32 {al st : List AV} {h : AH} : X mX5_get 32 al st h = X mX5_get 34 al (aI 24 :: st) h := X_of dX5_get_32 rfl
theorem x_X5_get_34 {v0 v2 v3 : AV} {z : Int} {st : List AV} {h : AH} : X mX5_get 34 [v0, aI z, v2, v3] st h = X mX5_get 35 [v0, aI z, v2, v3] (aI z :: st) h := X_of dX5_get_34 rfl
theorem x_X5_get_35 {a b : Int} {al st : List AV} {h : AH} : X mX5_get 35 al (aI b :: aI a :: st) h = X mX5_get 36 al (aI (w32 (a * b)) :: st) h := X_of dX5_get_35 rfl
theorem x_X5_get_36 {v0 v1 v3 : AV} {z : Int} {st : List AV} {h : AH} : X mX5_get 36 [v0, v1, aI z, v3] st h = X mX5_get 37 [v0, v1, aI z, v3] (aI z :: st) h := X_of dX5_get_36 rfl
theorem x_X5_get_37 {a b : Int} {al st : List AV} {h : AH} : X mX5_get 37 al (aI b :: aI a :: st) h = X mX5_get 38 al (aI (w32 (a + b)) :: st) h := X_of dX5_get_37 rfl
theorem x_X5_get_38 {a : Nat} {i : Int} {al st : List AV} {h : AH} : X mX5_get 38 al (aI i :: aR (some a) :: st) h = if 0 ≤ i then gK (rd h 11 a i.toNat) (fun v => X mX5_get 39 al (v :: st) h) else none := x_aldJ dX5_get_38
theorem x_X5_get_39 {a : Nat} {z : Int} {al st : List AV} {h : AH} : X mX5_get 39 al (aJ z :: aR (some a) :: st) h = pK (rd h 5 a 8) (X mX5_get 42 al st (wr h 5 a 8 (aJ z))) := x_put dX5_get_39 fT_5_108 rfl rfl
theorem x_X5_get_42 {al st : List AV} {h : AH} : X mX5_get 42 al st h = X mX5_get 43 al (aI 1 :: st) h := X_of dX5_get_42 rfl
theorem x_X5_get_43 {z : Int} {al : List AV} {h : AH} : X mX5_get 43 al [aI z] h = some (some (aI z), h) := X_ofR dX5_get_43 rfl
theorem e_X5_copy {p0 : Option Nat} {p1 : Int} {p2 : Int} {p3 : Int} {p4 : Int} {p5 : Int} {h : AH} : E mX5_copy [aR p0, aI p1, aI p2, aI p3, aI p4, aI p5] h = X mX5_copy 0 [aR p0, aI p1, aI p2, aI p3, aI p4, aI p5, aU] [] h := rfl
theorem x_X5_copy_0 {v1 v2 v3 v4 v5 v6 : AV} {z : Option Nat} {st : List AV} {h : AH} : X mX5_copy 0 [aR z, v1, v2, v3, v4, v5, v6] st h = X mX5_copy 1 [aR z, v1, v2, v3, v4, v5, v6] (aR z :: st) h := X_of dX5_copy_0 rfl
theorem x_X5_copy_1 {v0 v2 v3 v4 v5 v6 : AV} {z : Int} {st : List AV} {h : AH} : X mX5_copy 1 [v0, aI z, v2, v3, v4, v5, v6] st h = X mX5_copy 2 [v0, aI z, v2, v3, v4, v5, v6] (aI z :: st) h := X_of dX5_copy_1 rfl
theorem x_X5_copy_2 {a0 : Nat} {a1 : Int} {al : List AV} {h : AH} (ho : isO h 5 a0 = true) : X mX5_copy 2 al [aI a1, aR (some a0)] h = cK (E mX5_isSheet [aR (some a0), aI a1] h) fun v h2 => X mX5_copy 5 al (v.toList ++ []) h2 := x_cal (as := [aR (some a0), aI a1]) (rest := []) dX5_copy_2 (fun _ => rfl) cT_5_100 rfl rfl ho
theorem x_X5_copy_5 {a : Int} {al st : List AV} {h : AH} : X mX5_copy 5 al (aI a :: st) h = if a = 0 then X mX5_copy 16 al st h else X mX5_copy 8 al st h := x_eq0 dX5_copy_5 rfl
theorem x_X5_copy_8 {v1 v2 v3 v4 v5 v6 : AV} {z : Option Nat} {st : List AV} {h : AH} : X mX5_copy 8 [aR z, v1, v2, v3, v4, v5, v6] st h = X mX5_copy 9 [aR z, v1, v2, v3, v4, v5, v6] (aR z :: st) h := X_of dX5_copy_8 rfl
theorem x_X5_copy_9 {v0 v1 v2 v4 v5 v6 : AV} {z : Int} {st : List AV} {h : AH} : X mX5_copy 9 [v0, v1, v2, aI z, v4, v5, v6] st h = X mX5_copy 10 [v0, v1, v2, aI z, v4, v5, v6] (aI z :: st) h := X_of dX5_copy_9 rfl
theorem x_X5_copy_10 {a0 : Nat} {a1 : Int} {al : List AV} {h : AH} (ho : isO h 5 a0 = true) : X mX5_copy 10 al [aI a1, aR (some a0)] h = cK (E mX5_isSheet [aR (some a0), aI a1] h) fun v h2 => X mX5_copy 13 al (v.toList ++ []) h2 := x_cal (as := [aR (some a0), aI a1]) (rest := []) dX5_copy_10 (fun _ => rfl) cT_5_100 rfl rfl ho
theorem x_X5_copy_13 {a : Int} {al st : List AV} {h : AH} : X mX5_copy 13 al (aI a :: st) h = if ¬ a = 0 then X mX5_copy 18 al st h else X mX5_copy 16 al st h := x_ne0 dX5_copy_13 rfl
theorem x_X5_copy_16 {al st : List AV} {h : AH} : X mX5_copy 16 al st h = X mX5_copy 17 al (aI (-1) :: st) h := X_of dX5_copy_16 rfl
theorem x_X5_copy_17 {z : Int} {al : List AV} {h : AH} : X mX5_copy 17 al [aI z] h = some (some (aI z), h) := X_ofR dX5_copy_17 rfl
theorem x_X5_copy_18 {v1 v2 v3 v4 v5 v6 : AV} {z : Option Nat} {st : List AV} {h : AH} : X mX5_copy 18 [aR z, v1, v2, v3, v4, v5, v6] st h = X mX5_copy 19 [aR z, v1, v2, v3, v4, v5, v6] (aR z :: st) h := X_of dX5_copy_18 rfl
theorem x_X5_copy_19 {a : Nat} {al st : List AV} {h : AH} : X mX5_copy 19 al (aR (some a) :: st) h = gK (rd h 5 a 6) fun v => X mX5_copy 22 al (v :: st) h := x_get dX5_copy_19 fT_5_16
theorem x_X5_copy_22 {v0 v2 v3 v4 v5 v6 : AV} {z : Int} {st : List AV} {h : AH} : X mX5_copy 22 [v0, aI z, v2, v3, v4, v5, v6] st h = X mX5_copy 23 [v0, aI z, v2, v3, v4, v5, v6] (aI z :: st) h := X_of dX5_copy_22 rfl
theorem x_X5_copy_23 {a : Nat} {i : Int} {al st : List AV} {h : AH} : X mX5_copy 23 al (aI i :: aR (some a) :: st) h = if 0 ≤ i then gK (rd h 10 a i.toNat) (fun v => X mX5_copy 24 al (v :: st) h) else none := x_aldI dX5_copy_23
theorem x_X5_copy_24 {a : Int} {al st : List AV} {h : AH} : X mX5_copy 24 al (aI a :: st) h = if a < 0 then X mX5_copy 36 al st h else X mX5_copy 27 al st h := x_lt0 dX5_copy_24 rfl
theorem x_X5_copy_27 {v1 v2 v3 v4 v5 v6 : AV} {z : Option Nat} {st : List AV} {h : AH} : X mX5_copy 27 [aR z, v1, v2, v3, v4, v5, v6] st h = X mX5_copy 28 [aR z, v1, v2, v3, v4, v5, v6] (aR z :: st) h := X_of dX5_copy_27 rfl
theorem x_X5_copy_28 {a : Nat} {al st : List AV} {h : AH} : X mX5_copy 28 al (aR (some a) :: st) h = gK (rd h 5 a 6) fun v => X mX5_copy 31 al (v :: st) h := x_get dX5_copy_28 fT_5_16
theorem x_X5_copy_31 {v0 v1 v2 v4 v5 v6 : AV} {z : Int} {st : List AV} {h : AH} : X mX5_copy 31 [v0, v1, v2, aI z, v4, v5, v6] st h = X mX5_copy 32 [v0, v1, v2, aI z, v4, v5, v6] (aI z :: st) h := X_of dX5_copy_31 rfl
theorem x_X5_copy_32 {a : Nat} {i : Int} {al st : List AV} {h : AH} : X mX5_copy 32 al (aI i :: aR (some a) :: st) h = if 0 ≤ i then gK (rd h 10 a i.toNat) (fun v => X mX5_copy 33 al (v :: st) h) else none := x_aldI dX5_copy_32
theorem x_X5_copy_33 {a : Int} {al st : List AV} {h : AH} : X mX5_copy 33 al (aI a :: st) h = if 0 ≤ a then X mX5_copy 42 al st h else X mX5_copy 36 al st h := x_ge0 dX5_copy_33 rfl
theorem x_X5_copy_36 {v1 v2 v3 v4 v5 v6 : AV} {z : Option Nat} {st : List AV} {h : AH} : X mX5_copy 36 [aR z, v1, v2, v3, v4, v5, v6] st h = X mX5_copy 37 [aR z, v1, v2, v3, v4, v5, v6] (aR z :: st) h := X_of dX5_copy_36 rfl
theorem x_X5_copy_37 {al st : List AV} {h : AH} : X mX5_copy 37 al st h = X mX5_copy 38 al (aI 1 :: st) h := X_of dX5_copy_37 rfl
theorem x_X5_copy_38 {a0 : Nat} {a1 : Int} {al : List AV} {h : AH} (ho : isO h 5 a0 = true) : X mX5_copy 38 al [aI a1, aR (some a0)] h = cK (E mX5_meets [aR (some a0), aI a1] h) fun v h2 => X mX5_copy 41 al (v.toList ++ []) h2 := x_cal (as := [aR (some a0), aI a1]) (rest := []) dX5_copy_38 (fun _ => rfl) cT_5_96 rfl rfl ho
theorem x_X5_copy_41 {z : Int} {al : List AV} {h : AH} : X mX5_copy 41 al [aI z] h = some (some (aI z), h) := X_ofR dX5_copy_41 rfl
theorem x_X5_copy_42 {v1 v2 v3 v4 v5 v6 : AV} {z : Option Nat} {st : List AV} {h : AH} : X mX5_copy 42 [aR z, v1, v2, v3, v4, v5, v6] st h = X mX5_copy 43 [aR z, v1, v2, v3, v4, v5, v6] (aR z :: st) h := X_of dX5_copy_42 rfl
theorem x_X5_copy_43 {a : Nat} {al st : List AV} {h : AH} : X mX5_copy 43 al (aR (some a) :: st) h = gK (rd h 5 a 5) fun v => X mX5_copy 46 al (v :: st) h := x_get dX5_copy_43 fT_5_13
theorem x_X5_copy_46 {v0 v2 v3 v4 v5 v6 : AV} {z : Int} {st : List AV} {h : AH} : X mX5_copy 46 [v0, aI z, v2, v3, v4, v5, v6] st h = X mX5_copy 47 [v0, aI z, v2, v3, v4, v5, v6] (aI z :: st) h := X_of dX5_copy_46 rfl
theorem x_X5_copy_47 {a : Nat} {i : Int} {al st : List AV} {h : AH} : X mX5_copy 47 al (aI i :: aR (some a) :: st) h = if 0 ≤ i then gK (rd h 10 a i.toNat) (fun v => X mX5_copy 48 al (v :: st) h) else none := x_aldI dX5_copy_47
theorem x_X5_copy_48 {v1 v2 v3 v4 v5 v6 : AV} {z : Option Nat} {st : List AV} {h : AH} : X mX5_copy 48 [aR z, v1, v2, v3, v4, v5, v6] st h = X mX5_copy 49 [aR z, v1, v2, v3, v4, v5, v6] (aR z :: st) h := X_of dX5_copy_48 rfl
theorem x_X5_copy_49 {a : Nat} {al st : List AV} {h : AH} : X mX5_copy 49 al (aR (some a) :: st) h = gK (rd h 5 a 5) fun v => X mX5_copy 52 al (v :: st) h := x_get dX5_copy_49 fT_5_13
theorem x_X5_copy_52 {v0 v1 v2 v4 v5 v6 : AV} {z : Int} {st : List AV} {h : AH} : X mX5_copy 52 [v0, v1, v2, aI z, v4, v5, v6] st h = X mX5_copy 53 [v0, v1, v2, aI z, v4, v5, v6] (aI z :: st) h := X_of dX5_copy_52 rfl
theorem x_X5_copy_53 {a : Nat} {i : Int} {al st : List AV} {h : AH} : X mX5_copy 53 al (aI i :: aR (some a) :: st) h = if 0 ≤ i then gK (rd h 10 a i.toNat) (fun v => X mX5_copy 54 al (v :: st) h) else none := x_aldI dX5_copy_53
theorem x_X5_copy_54 {a b : Int} {al st : List AV} {h : AH} : X mX5_copy 54 al (aI b :: aI a :: st) h = if a = b then X mX5_copy 63 al st h else X mX5_copy 57 al st h := x_eqC dX5_copy_54 rfl
theorem x_X5_copy_57 {v1 v2 v3 v4 v5 v6 : AV} {z : Option Nat} {st : List AV} {h : AH} : X mX5_copy 57 [aR z, v1, v2, v3, v4, v5, v6] st h = X mX5_copy 58 [aR z, v1, v2, v3, v4, v5, v6] (aR z :: st) h := X_of dX5_copy_57 rfl
theorem x_X5_copy_58 {al st : List AV} {h : AH} : X mX5_copy 58 al st h = X mX5_copy 59 al (aI 3 :: st) h := X_of dX5_copy_58 rfl
theorem x_X5_copy_59 {a0 : Nat} {a1 : Int} {al : List AV} {h : AH} (ho : isO h 5 a0 = true) : X mX5_copy 59 al [aI a1, aR (some a0)] h = cK (E mX5_meets [aR (some a0), aI a1] h) fun v h2 => X mX5_copy 62 al (v.toList ++ []) h2 := x_cal (as := [aR (some a0), aI a1]) (rest := []) dX5_copy_59 (fun _ => rfl) cT_5_96 rfl rfl ho
theorem x_X5_copy_62 {z : Int} {al : List AV} {h : AH} : X mX5_copy 62 al [aI z] h = some (some (aI z), h) := X_ofR dX5_copy_62 rfl
theorem x_X5_copy_63 {v0 v1 v3 v4 v5 v6 : AV} {z : Int} {st : List AV} {h : AH} : X mX5_copy 63 [v0, v1, aI z, v3, v4, v5, v6] st h = X mX5_copy 64 [v0, v1, aI z, v3, v4, v5, v6] (aI z :: st) h := X_of dX5_copy_63 rfl
theorem x_X5_copy_64 {a : Int} {al st : List AV} {h : AH} : X mX5_copy 64 al (aI a :: st) h = if a < 0 then X mX5_copy 112 al st h else X mX5_copy 67 al st h := x_lt0 dX5_copy_64 rfl
theorem x_X5_copy_67 {v0 v1 v2 v3 v5 v6 : AV} {z : Int} {st : List AV} {h : AH} : X mX5_copy 67 [v0, v1, v2, v3, aI z, v5, v6] st h = X mX5_copy 69 [v0, v1, v2, v3, aI z, v5, v6] (aI z :: st) h := X_of dX5_copy_67 rfl
theorem x_X5_copy_69 {a : Int} {al st : List AV} {h : AH} : X mX5_copy 69 al (aI a :: st) h = if a < 0 then X mX5_copy 112 al st h else X mX5_copy 72 al st h := x_lt0 dX5_copy_69 rfl
theorem x_X5_copy_72 {v0 v1 v2 v3 v4 v6 : AV} {z : Int} {st : List AV} {h : AH} : X mX5_copy 72 [v0, v1, v2, v3, v4, aI z, v6] st h = X mX5_copy 74 [v0, v1, v2, v3, v4, aI z, v6] (aI z :: st) h := X_of dX5_copy_72 rfl
theorem x_X5_copy_74 {a : Int} {al st : List AV} {h : AH} : X mX5_copy 74 al (aI a :: st) h = if a < 0 then X mX5_copy 112 al st h else X mX5_copy 77 al st h := x_lt0 dX5_copy_74 rfl
theorem x_X5_copy_77 {v0 v1 v3 v4 v5 v6 : AV} {z : Int} {st : List AV} {h : AH} : X mX5_copy 77 [v0, v1, aI z, v3, v4, v5, v6] st h = X mX5_copy 78 [v0, v1, aI z, v3, v4, v5, v6] (aI z :: st) h := X_of dX5_copy_77 rfl
theorem x_X5_copy_78 {a : Int} {al st : List AV} {h : AH} : X mX5_copy 78 al (aI a :: st) h = X mX5_copy 79 al (aJ a :: st) h := X_of dX5_copy_78 rfl
theorem x_X5_copy_79 {v0 v1 v2 v3 v4 v6 : AV} {z : Int} {st : List AV} {h : AH} : X mX5_copy 79 [v0, v1, v2, v3, v4, aI z, v6] st h = X mX5_copy 81 [v0, v1, v2, v3, v4, aI z, v6] (aI z :: st) h := X_of dX5_copy_79 rfl
theorem x_X5_copy_81 {a : Int} {al st : List AV} {h : AH} : X mX5_copy 81 al (aI a :: st) h = X mX5_copy 82 al (aJ a :: st) h := X_of dX5_copy_81 rfl
theorem x_X5_copy_82 {a b : Int} {al st : List AV} {h : AH} : X mX5_copy 82 al (aJ b :: aJ a :: st) h = X mX5_copy 83 al (aJ (w64 (a + b)) :: st) h := X_of dX5_copy_82 rfl
theorem x_X5_copy_83 {v1 v2 v3 v4 v5 v6 : AV} {z : Option Nat} {st : List AV} {h : AH} : X mX5_copy 83 [aR z, v1, v2, v3, v4, v5, v6] st h = X mX5_copy 84 [aR z, v1, v2, v3, v4, v5, v6] (aR z :: st) h := X_of dX5_copy_83 rfl
theorem x_X5_copy_84 {a : Nat} {al st : List AV} {h : AH} : X mX5_copy 84 al (aR (some a) :: st) h = gK (rd h 5 a 6) fun v => X mX5_copy 87 al (v :: st) h := x_get dX5_copy_84 fT_5_16
theorem x_X5_copy_87 {v0 v2 v3 v4 v5 v6 : AV} {z : Int} {st : List AV} {h : AH} : X mX5_copy 87 [v0, aI z, v2, v3, v4, v5, v6] st h = X mX5_copy 88 [v0, aI z, v2, v3, v4, v5, v6] (aI z :: st) h := X_of dX5_copy_87 rfl
theorem x_X5_copy_88 {a : Nat} {i : Int} {al st : List AV} {h : AH} : X mX5_copy 88 al (aI i :: aR (some a) :: st) h = if 0 ≤ i then gK (rd h 10 a i.toNat) (fun v => X mX5_copy 89 al (v :: st) h) else none := x_aldI dX5_copy_88
theorem x_X5_copy_89 {a : Int} {al st : List AV} {h : AH} : X mX5_copy 89 al (aI a :: st) h = X mX5_copy 90 al (aJ a :: st) h := X_of dX5_copy_89 rfl
theorem x_X5_copy_90 {a b : Int} {al st : List AV} {h : AH} : X mX5_copy 90 al (aJ b :: aJ a :: st) h = X mX5_copy 91 al (aI (fCmp a b) :: st) h := X_of dX5_copy_90 rfl
theorem x_X5_copy_91 {a : Int} {al st : List AV} {h : AH} : X mX5_copy 91 al (aI a :: st) h = if 0 < a then X mX5_copy 112 al st h else X mX5_copy 94 al st h := x_gt0 dX5_copy_91 rfl
theorem x_X5_copy_94 {v0 v1 v2 v3 v5 v6 : AV} {z : Int} {st : List AV} {h : AH} : X mX5_copy 94 [v0, v1, v2, v3, aI z, v5, v6] st h = X mX5_copy 96 [v0, v1, v2, v3, aI z, v5, v6] (aI z :: st) h := X_of dX5_copy_94 rfl
theorem x_X5_copy_96 {a : Int} {al st : List AV} {h : AH} : X mX5_copy 96 al (aI a :: st) h = X mX5_copy 97 al (aJ a :: st) h := X_of dX5_copy_96 rfl
theorem x_X5_copy_97 {v0 v1 v2 v3 v4 v6 : AV} {z : Int} {st : List AV} {h : AH} : X mX5_copy 97 [v0, v1, v2, v3, v4, aI z, v6] st h = X mX5_copy 99 [v0, v1, v2, v3, v4, aI z, v6] (aI z :: st) h := X_of dX5_copy_97 rfl
theorem x_X5_copy_99 {a : Int} {al st : List AV} {h : AH} : X mX5_copy 99 al (aI a :: st) h = X mX5_copy 100 al (aJ a :: st) h := X_of dX5_copy_99 rfl
theorem x_X5_copy_100 {a b : Int} {al st : List AV} {h : AH} : X mX5_copy 100 al (aJ b :: aJ a :: st) h = X mX5_copy 101 al (aJ (w64 (a + b)) :: st) h := X_of dX5_copy_100 rfl
theorem x_X5_copy_101 {v1 v2 v3 v4 v5 v6 : AV} {z : Option Nat} {st : List AV} {h : AH} : X mX5_copy 101 [aR z, v1, v2, v3, v4, v5, v6] st h = X mX5_copy 102 [aR z, v1, v2, v3, v4, v5, v6] (aR z :: st) h := X_of dX5_copy_101 rfl
theorem x_X5_copy_102 {a : Nat} {al st : List AV} {h : AH} : X mX5_copy 102 al (aR (some a) :: st) h = gK (rd h 5 a 6) fun v => X mX5_copy 105 al (v :: st) h := x_get dX5_copy_102 fT_5_16
theorem x_X5_copy_105 {v0 v1 v2 v4 v5 v6 : AV} {z : Int} {st : List AV} {h : AH} : X mX5_copy 105 [v0, v1, v2, aI z, v4, v5, v6] st h = X mX5_copy 106 [v0, v1, v2, aI z, v4, v5, v6] (aI z :: st) h := X_of dX5_copy_105 rfl
theorem x_X5_copy_106 {a : Nat} {i : Int} {al st : List AV} {h : AH} : X mX5_copy 106 al (aI i :: aR (some a) :: st) h = if 0 ≤ i then gK (rd h 10 a i.toNat) (fun v => X mX5_copy 107 al (v :: st) h) else none := x_aldI dX5_copy_106
theorem x_X5_copy_107 {a : Int} {al st : List AV} {h : AH} : X mX5_copy 107 al (aI a :: st) h = X mX5_copy 108 al (aJ a :: st) h := X_of dX5_copy_107 rfl
theorem x_X5_copy_108 {a b : Int} {al st : List AV} {h : AH} : X mX5_copy 108 al (aJ b :: aJ a :: st) h = X mX5_copy 109 al (aI (fCmp a b) :: st) h := X_of dX5_copy_108 rfl
theorem x_X5_copy_109 {a : Int} {al st : List AV} {h : AH} : X mX5_copy 109 al (aI a :: st) h = if a ≤ 0 then X mX5_copy 118 al st h else X mX5_copy 112 al st h := x_le0 dX5_copy_109 rfl
theorem x_X5_copy_112 {v1 v2 v3 v4 v5 v6 : AV} {z : Option Nat} {st : List AV} {h : AH} : X mX5_copy 112 [aR z, v1, v2, v3, v4, v5, v6] st h = X mX5_copy 113 [aR z, v1, v2, v3, v4, v5, v6] (aR z :: st) h := X_of dX5_copy_112 rfl
theorem x_X5_copy_113 {al st : List AV} {h : AH} : X mX5_copy 113 al st h = X mX5_copy 114 al (aI 2 :: st) h := X_of dX5_copy_113 rfl
theorem x_X5_copy_114 {a0 : Nat} {a1 : Int} {al : List AV} {h : AH} (ho : isO h 5 a0 = true) : X mX5_copy 114 al [aI a1, aR (some a0)] h = cK (E mX5_meets [aR (some a0), aI a1] h) fun v h2 => X mX5_copy 117 al (v.toList ++ []) h2 := x_cal (as := [aR (some a0), aI a1]) (rest := []) dX5_copy_114 (fun _ => rfl) cT_5_96 rfl rfl ho
theorem x_X5_copy_117 {z : Int} {al : List AV} {h : AH} : X mX5_copy 117 al [aI z] h = some (some (aI z), h) := X_ofR dX5_copy_117 rfl
theorem x_X5_copy_118 {al st : List AV} {h : AH} : X mX5_copy 118 al st h = X mX5_copy 119 al (aI 0 :: st) h := X_of dX5_copy_118 rfl
theorem x_X5_copy_119 {v0 v1 v2 v3 v4 v6 : AV} {y : Int} {z : Int} {st : List AV} {h : AH} : X mX5_copy 119 [v0, v1, v2, v3, v4, aI y, v6] (aI z :: st) h = X mX5_copy 121 [v0, v1, v2, v3, v4, aI y, aI z] st h := X_of dX5_copy_119 rfl
theorem x_X5_copy_121 {v0 v1 v2 v3 v4 v5 : AV} {z : Int} {st : List AV} {h : AH} : X mX5_copy 121 [v0, v1, v2, v3, v4, v5, aI z] st h = X mX5_copy 123 [v0, v1, v2, v3, v4, v5, aI z] (aI z :: st) h := X_of dX5_copy_121 rfl
theorem x_X5_copy_123 {v0 v1 v2 v3 v4 v6 : AV} {z : Int} {st : List AV} {h : AH} : X mX5_copy 123 [v0, v1, v2, v3, v4, aI z, v6] st h = X mX5_copy 125 [v0, v1, v2, v3, v4, aI z, v6] (aI z :: st) h := X_of dX5_copy_123 rfl
theorem x_X5_copy_125 {a b : Int} {al st : List AV} {h : AH} : X mX5_copy 125 al (aI b :: aI a :: st) h = if b ≤ a then X mX5_copy 155 al st h else X mX5_copy 128 al st h := x_geC dX5_copy_125 rfl
theorem x_X5_copy_128 {v1 v2 v3 v4 v5 v6 : AV} {z : Option Nat} {st : List AV} {h : AH} : X mX5_copy 128 [aR z, v1, v2, v3, v4, v5, v6] st h = X mX5_copy 129 [aR z, v1, v2, v3, v4, v5, v6] (aR z :: st) h := X_of dX5_copy_128 rfl
theorem x_X5_copy_129 {a : Nat} {al st : List AV} {h : AH} : X mX5_copy 129 al (aR (some a) :: st) h = gK (rd h 5 a 9) fun v => X mX5_copy 132 al (v :: st) h := x_get dX5_copy_129 fT_5_23
theorem x_X5_copy_132 {v0 v1 v2 v3 v4 v5 : AV} {z : Int} {st : List AV} {h : AH} : X mX5_copy 132 [v0, v1, v2, v3, v4, v5, aI z] st h = X mX5_copy 134 [v0, v1, v2, v3, v4, v5, aI z] (aI z :: st) h := X_of dX5_copy_132 rfl
theorem x_X5_copy_134 {v1 v2 v3 v4 v5 v6 : AV} {z : Option Nat} {st : List AV} {h : AH} : X mX5_copy 134 [aR z, v1, v2, v3, v4, v5, v6] st h = X mX5_copy 135 [aR z, v1, v2, v3, v4, v5, v6] (aR z :: st) h := X_of dX5_copy_134 rfl
theorem x_X5_copy_135 {a : Nat} {al st : List AV} {h : AH} : X mX5_copy 135 al (aR (some a) :: st) h = gK (rd h 5 a 7) fun v => X mX5_copy 138 al (v :: st) h := x_get dX5_copy_135 fT_5_19
theorem x_X5_copy_138 {al st : List AV} {h : AH} : X mX5_copy 138 al st h = X mX5_copy 140 al (aI 24 :: st) h := X_of dX5_copy_138 rfl
theorem x_X5_copy_140 {v0 v2 v3 v4 v5 v6 : AV} {z : Int} {st : List AV} {h : AH} : X mX5_copy 140 [v0, aI z, v2, v3, v4, v5, v6] st h = X mX5_copy 141 [v0, aI z, v2, v3, v4, v5, v6] (aI z :: st) h := X_of dX5_copy_140 rfl
theorem x_X5_copy_141 {a b : Int} {al st : List AV} {h : AH} : X mX5_copy 141 al (aI b :: aI a :: st) h = X mX5_copy 142 al (aI (w32 (a * b)) :: st) h := X_of dX5_copy_141 rfl
theorem x_X5_copy_142 {v0 v1 v3 v4 v5 v6 : AV} {z : Int} {st : List AV} {h : AH} : X mX5_copy 142 [v0, v1, aI z, v3, v4, v5, v6] st h = X mX5_copy 143 [v0, v1, aI z, v3, v4, v5, v6] (aI z :: st) h := X_of dX5_copy_142 rfl
theorem x_X5_copy_143 {a b : Int} {al st : List AV} {h : AH} : X mX5_copy 143 al (aI b :: aI a :: st) h = X mX5_copy 144 al (aI (w32 (a + b)) :: st) h := X_of dX5_copy_143 rfl
theorem x_X5_copy_144 {v0 v1 v2 v3 v4 v5 : AV} {z : Int} {st : List AV} {h : AH} : X mX5_copy 144 [v0, v1, v2, v3, v4, v5, aI z] st h = X mX5_copy 146 [v0, v1, v2, v3, v4, v5, aI z] (aI z :: st) h := X_of dX5_copy_144 rfl
theorem x_X5_copy_146 {a b : Int} {al st : List AV} {h : AH} : X mX5_copy 146 al (aI b :: aI a :: st) h = X mX5_copy 147 al (aI (w32 (a + b)) :: st) h := X_of dX5_copy_146 rfl
theorem x_X5_copy_147 {a : Nat} {i : Int} {al st : List AV} {h : AH} : X mX5_copy 147 al (aI i :: aR (some a) :: st) h = if 0 ≤ i then gK (rd h 11 a i.toNat) (fun v => X mX5_copy 148 al (v :: st) h) else none := x_aldJ dX5_copy_147
theorem x_X5_copy_148 {a : Nat} {i z : Int} {al st : List AV} {h : AH} : X mX5_copy 148 al (aJ z :: aI i :: aR (some a) :: st) h = if 0 ≤ i then pK (rd h 11 a i.toNat) (X mX5_copy 149 al st (wr h 11 a i.toNat (aJ z))) else none := x_astJ dX5_copy_148
theorem x_X5_copy_149 {v0 v1 v2 v3 v4 : AV} {y : Int} {z : Int} {st : List AV} {h : AH} : X mX5_copy 149 [v0, v1, v2, v3, v4, aI y, aI z] st h = X mX5_copy 152 [v0, v1, v2, v3, v4, aI y, aI (w32 (z + 1))] st h := X_of dX5_copy_149 rfl
theorem x_X5_copy_152 {al st : List AV} {h : AH} : X mX5_copy 152 al st h = X mX5_copy 121 al st h := X_of dX5_copy_152 rfl
theorem x_X5_copy_155 {al st : List AV} {h : AH} : X mX5_copy 155 al st h = X mX5_copy 156 al (aI 0 :: st) h := X_of dX5_copy_155 rfl
theorem x_X5_copy_156 {v0 v1 v2 v3 v4 v6 : AV} {y : Int} {z : Int} {st : List AV} {h : AH} : X mX5_copy 156 [v0, v1, v2, v3, v4, aI y, v6] (aI z :: st) h = X mX5_copy 158 [v0, v1, v2, v3, v4, aI y, aI z] st h := X_of dX5_copy_156 rfl
theorem x_X5_copy_158 {v0 v1 v2 v3 v4 v5 : AV} {z : Int} {st : List AV} {h : AH} : X mX5_copy 158 [v0, v1, v2, v3, v4, v5, aI z] st h = X mX5_copy 160 [v0, v1, v2, v3, v4, v5, aI z] (aI z :: st) h := X_of dX5_copy_158 rfl
theorem x_X5_copy_160 {v0 v1 v2 v3 v4 v6 : AV} {z : Int} {st : List AV} {h : AH} : X mX5_copy 160 [v0, v1, v2, v3, v4, aI z, v6] st h = X mX5_copy 162 [v0, v1, v2, v3, v4, aI z, v6] (aI z :: st) h := X_of dX5_copy_160 rfl
theorem x_X5_copy_162 {a b : Int} {al st : List AV} {h : AH} : X mX5_copy 162 al (aI b :: aI a :: st) h = if b ≤ a then X mX5_copy 193 al st h else X mX5_copy 165 al st h := x_geC dX5_copy_162 rfl
theorem x_X5_copy_165 {v1 v2 v3 v4 v5 v6 : AV} {z : Option Nat} {st : List AV} {h : AH} : X mX5_copy 165 [aR z, v1, v2, v3, v4, v5, v6] st h = X mX5_copy 166 [aR z, v1, v2, v3, v4, v5, v6] (aR z :: st) h := X_of dX5_copy_165 rfl
theorem x_X5_copy_166 {a : Nat} {al st : List AV} {h : AH} : X mX5_copy 166 al (aR (some a) :: st) h = gK (rd h 5 a 7) fun v => X mX5_copy 169 al (v :: st) h := x_get dX5_copy_166 fT_5_19
theorem x_X5_copy_169 {al st : List AV} {h : AH} : X mX5_copy 169 al st h = X mX5_copy 171 al (aI 24 :: st) h := X_of dX5_copy_169 rfl
theorem x_X5_copy_171 {v0 v1 v2 v4 v5 v6 : AV} {z : Int} {st : List AV} {h : AH} : X mX5_copy 171 [v0, v1, v2, aI z, v4, v5, v6] st h = X mX5_copy 172 [v0, v1, v2, aI z, v4, v5, v6] (aI z :: st) h := X_of dX5_copy_171 rfl
theorem x_X5_copy_172 {a b : Int} {al st : List AV} {h : AH} : X mX5_copy 172 al (aI b :: aI a :: st) h = X mX5_copy 173 al (aI (w32 (a * b)) :: st) h := X_of dX5_copy_172 rfl
theorem x_X5_copy_173 {v0 v1 v2 v3 v5 v6 : AV} {z : Int} {st : List AV} {h : AH} : X mX5_copy 173 [v0, v1, v2, v3, aI z, v5, v6] st h = X mX5_copy 175 [v0, v1, v2, v3, aI z, v5, v6] (aI z :: st) h := X_of dX5_copy_173 rfl
theorem x_X5_copy_175 {a b : Int} {al st : List AV} {h : AH} : X mX5_copy 175 al (aI b :: aI a :: st) h = X mX5_copy 176 al (aI (w32 (a + b)) :: st) h := X_of dX5_copy_175 rfl
theorem x_X5_copy_176 {v0 v1 v2 v3 v4 v5 : AV} {z : Int} {st : List AV} {h : AH} : X mX5_copy 176 [v0, v1, v2, v3, v4, v5, aI z] st h = X mX5_copy 178 [v0, v1, v2, v3, v4, v5, aI z] (aI z :: st) h := X_of dX5_copy_176 rfl
theorem x_X5_copy_178 {a b : Int} {al st : List AV} {h : AH} : X mX5_copy 178 al (aI b :: aI a :: st) h = X mX5_copy 179 al (aI (w32 (a + b)) :: st) h := X_of dX5_copy_178 rfl
theorem x_X5_copy_179 {v1 v2 v3 v4 v5 v6 : AV} {z : Option Nat} {st : List AV} {h : AH} : X mX5_copy 179 [aR z, v1, v2, v3, v4, v5, v6] st h = X mX5_copy 180 [aR z, v1, v2, v3, v4, v5, v6] (aR z :: st) h := X_of dX5_copy_179 rfl
theorem x_X5_copy_180 {a : Nat} {al st : List AV} {h : AH} : X mX5_copy 180 al (aR (some a) :: st) h = gK (rd h 5 a 9) fun v => X mX5_copy 183 al (v :: st) h := x_get dX5_copy_180 fT_5_23
theorem x_X5_copy_183 {v0 v1 v2 v3 v4 v5 : AV} {z : Int} {st : List AV} {h : AH} : X mX5_copy 183 [v0, v1, v2, v3, v4, v5, aI z] st h = X mX5_copy 185 [v0, v1, v2, v3, v4, v5, aI z] (aI z :: st) h := X_of dX5_copy_183 rfl
theorem x_X5_copy_185 {a : Nat} {i : Int} {al st : List AV} {h : AH} : X mX5_copy 185 al (aI i :: aR (some a) :: st) h = if 0 ≤ i then gK (rd h 11 a i.toNat) (fun v => X mX5_copy 186 al (v :: st) h) else none := x_aldJ dX5_copy_185
theorem x_X5_copy_186 {a : Nat} {i z : Int} {al st : List AV} {h : AH} : X mX5_copy 186 al (aJ z :: aI i :: aR (some a) :: st) h = if 0 ≤ i then pK (rd h 11 a i.toNat) (X mX5_copy 187 al st (wr h 11 a i.toNat (aJ z))) else none := x_astJ dX5_copy_186
theorem x_X5_copy_187 {v0 v1 v2 v3 v4 : AV} {y : Int} {z : Int} {st : List AV} {h : AH} : X mX5_copy 187 [v0, v1, v2, v3, v4, aI y, aI z] st h = X mX5_copy 190 [v0, v1, v2, v3, v4, aI y, aI (w32 (z + 1))] st h := X_of dX5_copy_187 rfl
theorem x_X5_copy_190 {al st : List AV} {h : AH} : X mX5_copy 190 al st h = X mX5_copy 158 al st h := X_of dX5_copy_190 rfl
theorem x_X5_copy_193 {al st : List AV} {h : AH} : X mX5_copy 193 al st h = X mX5_copy 194 al (aI 1 :: st) h := X_of dX5_copy_193 rfl
theorem x_X5_copy_194 {z : Int} {al : List AV} {h : AH} : X mX5_copy 194 al [aI z] h = some (some (aI z), h) := X_ofR dX5_copy_194 rfl
theorem e_X5_isMachine {p0 : Option Nat} {p1 : Int} {h : AH} : E mX5_isMachine [aR p0, aI p1] h = X mX5_isMachine 0 [aR p0, aI p1] [] h := rfl
theorem x_X5_isMachine_0 {v0 : AV} {z : Int} {st : List AV} {h : AH} : X mX5_isMachine 0 [v0, aI z] st h = X mX5_isMachine 1 [v0, aI z] (aI z :: st) h := X_of dX5_isMachine_0 rfl
theorem x_X5_isMachine_1 {a : Int} {al st : List AV} {h : AH} : X mX5_isMachine 1 al (aI a :: st) h = X mX5_isMachine 2 al (aJ a :: st) h := X_of dX5_isMachine_1 rfl
theorem x_X5_isMachine_2 {al st : List AV} {h : AH} : X mX5_isMachine 2 al st h = X mX5_isMachine 3 al (aJ 0 :: st) h := X_of dX5_isMachine_2 rfl
theorem x_X5_isMachine_3 {v1 : AV} {z : Option Nat} {st : List AV} {h : AH} : X mX5_isMachine 3 [aR z, v1] st h = X mX5_isMachine 4 [aR z, v1] (aR z :: st) h := X_of dX5_isMachine_3 rfl
theorem x_X5_isMachine_4 {a : Nat} {al st : List AV} {h : AH} : X mX5_isMachine 4 al (aR (some a) :: st) h = gK (rd h 5 a 10) fun v => X mX5_isMachine 7 al (v :: st) h := x_get dX5_isMachine_4 fT_5_111
theorem x_X5_isMachine_7 {al st : List AV} {h : AH} : X mX5_isMachine 7 al st h = X mX5_isMachine 8 al (aI 1 :: st) h := X_of dX5_isMachine_7 rfl
theorem x_X5_isMachine_8 {a b : Int} {al st : List AV} {h : AH} : X mX5_isMachine 8 al (aI b :: aI a :: st) h = X mX5_isMachine 9 al (aI (w32 (a - b)) :: st) h := X_of dX5_isMachine_8 rfl
theorem x_X5_isMachine_9 {a : Int} {al st : List AV} {h : AH} : X mX5_isMachine 9 al (aI a :: st) h = X mX5_isMachine 10 al (aJ a :: st) h := X_of dX5_isMachine_9 rfl
theorem x_X5_isMachine_10 {a0 : Int} {a1 : Int} {a2 : Int} {al : List AV} {h : AH} : X mX5_isMachine 10 al [aJ a2, aJ a1, aJ a0] h = cK (E mX5_in [aJ a0, aJ a1, aJ a2] h) fun v h2 => X mX5_isMachine 13 al (v.toList ++ []) h2 := x_cal (as := [aJ a0, aJ a1, aJ a2]) (rest := []) dX5_isMachine_10 (fun _ => rfl) cT_5_81 rfl rfl rfl
theorem x_X5_isMachine_13_0 {al : List AV} {h : AH} : X mX5_isMachine 13 al [aI 0] h = some (some (aI 0), h) := X_ofR dX5_isMachine_13 rfl
theorem x_X5_isMachine_13_1 {al : List AV} {h : AH} : X mX5_isMachine 13 al [aI 1] h = some (some (aI 1), h) := X_ofR dX5_isMachine_13 rfl
theorem x_X5_isMachine_13 {z : Int} {al : List AV} {h : AH} (hz : z = 0 ∨ z = 1) : X mX5_isMachine 13 al [aI z] h = some (some (aI z), h) := by
  rcases hz with rfl | rfl
  · exact x_X5_isMachine_13_0
  · exact x_X5_isMachine_13_1
theorem e_X5_isAgeing {p0 : Option Nat} {p1 : Int} {h : AH} : E mX5_isAgeing [aR p0, aI p1] h = X mX5_isAgeing 0 [aR p0, aI p1] [] h := rfl
theorem x_X5_isAgeing_0 {v1 : AV} {z : Option Nat} {st : List AV} {h : AH} : X mX5_isAgeing 0 [aR z, v1] st h = X mX5_isAgeing 1 [aR z, v1] (aR z :: st) h := X_of dX5_isAgeing_0 rfl
theorem x_X5_isAgeing_1 {a : Nat} {al st : List AV} {h : AH} : X mX5_isAgeing 1 al (aR (some a) :: st) h = gK (rd h 5 a 11) fun v => X mX5_isAgeing 4 al (v :: st) h := x_get dX5_isAgeing_1 fT_5_26
theorem x_X5_isAgeing_4 {v0 : AV} {z : Int} {st : List AV} {h : AH} : X mX5_isAgeing 4 [v0, aI z] st h = X mX5_isAgeing 5 [v0, aI z] (aI z :: st) h := X_of dX5_isAgeing_4 rfl
theorem x_X5_isAgeing_5 {a : Nat} {i : Int} {al st : List AV} {h : AH} : X mX5_isAgeing 5 al (aI i :: aR (some a) :: st) h = if 0 ≤ i then gK (rd h 10 a i.toNat) (fun v => X mX5_isAgeing 6 al (v :: st) h) else none := x_aldI dX5_isAgeing_5
theorem x_X5_isAgeing_6 {al st : List AV} {h : AH} : X mX5_isAgeing 6 al st h = X mX5_isAgeing 7 al (aI 2 :: st) h := X_of dX5_isAgeing_6 rfl
theorem x_X5_isAgeing_7 {a b : Int} {al st : List AV} {h : AH} : X mX5_isAgeing 7 al (aI b :: aI a :: st) h = if a < b then X mX5_isAgeing 14 al st h else X mX5_isAgeing 10 al st h := x_ltC dX5_isAgeing_7 rfl
theorem x_X5_isAgeing_10 {al st : List AV} {h : AH} : X mX5_isAgeing 10 al st h = X mX5_isAgeing 11 al (aI 1 :: st) h := X_of dX5_isAgeing_10 rfl
theorem x_X5_isAgeing_11 {al st : List AV} {h : AH} : X mX5_isAgeing 11 al st h = X mX5_isAgeing 15 al st h := X_of dX5_isAgeing_11 rfl
theorem x_X5_isAgeing_14 {al st : List AV} {h : AH} : X mX5_isAgeing 14 al st h = X mX5_isAgeing 15 al (aI 0 :: st) h := X_of dX5_isAgeing_14 rfl
theorem x_X5_isAgeing_15_0 {al : List AV} {h : AH} : X mX5_isAgeing 15 al [aI 0] h = some (some (aI 0), h) := X_ofR dX5_isAgeing_15 rfl
theorem x_X5_isAgeing_15_1 {al : List AV} {h : AH} : X mX5_isAgeing 15 al [aI 1] h = some (some (aI 1), h) := X_ofR dX5_isAgeing_15 rfl
theorem x_X5_isAgeing_15 {z : Int} {al : List AV} {h : AH} (hz : z = 0 ∨ z = 1) : X mX5_isAgeing 15 al [aI z] h = some (some (aI z), h) := by
  rcases hz with rfl | rfl
  · exact x_X5_isAgeing_15_0
  · exact x_X5_isAgeing_15_1
theorem e_X5_isState {p0 : Option Nat} {p1 : Int} {p2 : Int} {h : AH} : E mX5_isState [aR p0, aI p1, aI p2] h = X mX5_isState 0 [aR p0, aI p1, aI p2] [] h := rfl
theorem x_X5_isState_0 {v0 v1 : AV} {z : Int} {st : List AV} {h : AH} : X mX5_isState 0 [v0, v1, aI z] st h = X mX5_isState 1 [v0, v1, aI z] (aI z :: st) h := X_of dX5_isState_0 rfl
theorem x_X5_isState_1 {a : Int} {al st : List AV} {h : AH} : X mX5_isState 1 al (aI a :: st) h = X mX5_isState 2 al (aJ a :: st) h := X_of dX5_isState_1 rfl
theorem x_X5_isState_2 {al st : List AV} {h : AH} : X mX5_isState 2 al st h = X mX5_isState 3 al (aJ 0 :: st) h := X_of dX5_isState_2 rfl
theorem x_X5_isState_3 {v1 v2 : AV} {z : Option Nat} {st : List AV} {h : AH} : X mX5_isState 3 [aR z, v1, v2] st h = X mX5_isState 4 [aR z, v1, v2] (aR z :: st) h := X_of dX5_isState_3 rfl
theorem x_X5_isState_4 {a : Nat} {al st : List AV} {h : AH} : X mX5_isState 4 al (aR (some a) :: st) h = gK (rd h 5 a 12) fun v => X mX5_isState 7 al (v :: st) h := x_get dX5_isState_4 fT_5_29
theorem x_X5_isState_7 {v0 v2 : AV} {z : Int} {st : List AV} {h : AH} : X mX5_isState 7 [v0, aI z, v2] st h = X mX5_isState 8 [v0, aI z, v2] (aI z :: st) h := X_of dX5_isState_7 rfl
theorem x_X5_isState_8 {a : Nat} {i : Int} {al st : List AV} {h : AH} : X mX5_isState 8 al (aI i :: aR (some a) :: st) h = if 0 ≤ i then gK (rd h 10 a i.toNat) (fun v => X mX5_isState 9 al (v :: st) h) else none := x_aldI dX5_isState_8
theorem x_X5_isState_9 {al st : List AV} {h : AH} : X mX5_isState 9 al st h = X mX5_isState 10 al (aI 1 :: st) h := X_of dX5_isState_9 rfl
theorem x_X5_isState_10 {a b : Int} {al st : List AV} {h : AH} : X mX5_isState 10 al (aI b :: aI a :: st) h = X mX5_isState 11 al (aI (w32 (a - b)) :: st) h := X_of dX5_isState_10 rfl
theorem x_X5_isState_11 {a : Int} {al st : List AV} {h : AH} : X mX5_isState 11 al (aI a :: st) h = X mX5_isState 12 al (aJ a :: st) h := X_of dX5_isState_11 rfl
theorem x_X5_isState_12 {a0 : Int} {a1 : Int} {a2 : Int} {al : List AV} {h : AH} : X mX5_isState 12 al [aJ a2, aJ a1, aJ a0] h = cK (E mX5_in [aJ a0, aJ a1, aJ a2] h) fun v h2 => X mX5_isState 15 al (v.toList ++ []) h2 := x_cal (as := [aJ a0, aJ a1, aJ a2]) (rest := []) dX5_isState_12 (fun _ => rfl) cT_5_81 rfl rfl rfl
theorem x_X5_isState_15_0 {al : List AV} {h : AH} : X mX5_isState 15 al [aI 0] h = some (some (aI 0), h) := X_ofR dX5_isState_15 rfl
theorem x_X5_isState_15_1 {al : List AV} {h : AH} : X mX5_isState 15 al [aI 1] h = some (some (aI 1), h) := X_ofR dX5_isState_15 rfl
theorem x_X5_isState_15 {z : Int} {al : List AV} {h : AH} (hz : z = 0 ∨ z = 1) : X mX5_isState 15 al [aI z] h = some (some (aI z), h) := by
  rcases hz with rfl | rfl
  · exact x_X5_isState_15_0
  · exact x_X5_isState_15_1
theorem e_X5_machine {p0 : Option Nat} {p1 : Int} {p2 : Int} {h : AH} : E mX5_machine [aR p0, aI p1, aI p2] h = X mX5_machine 0 [aR p0, aI p1, aI p2, aU, aU, aU, aU] [] h := rfl
theorem x_X5_machine_0 {v0 v2 v3 v4 v5 v6 : AV} {z : Int} {st : List AV} {h : AH} : X mX5_machine 0 [v0, aI z, v2, v3, v4, v5, v6] st h = X mX5_machine 1 [v0, aI z, v2, v3, v4, v5, v6] (aI z :: st) h := X_of dX5_machine_0 rfl
theorem x_X5_machine_1 {a : Int} {al st : List AV} {h : AH} : X mX5_machine 1 al (aI a :: st) h = X mX5_machine 2 al (aJ a :: st) h := X_of dX5_machine_1 rfl
theorem x_X5_machine_2 {al st : List AV} {h : AH} : X mX5_machine 2 al st h = X mX5_machine 3 al (aJ 0 :: st) h := X_of dX5_machine_2 rfl
theorem x_X5_machine_3 {al st : List AV} {h : AH} : X mX5_machine 3 al st h = X mX5_machine 6 al (aJ 3 :: st) h := X_of dX5_machine_3 rfl
theorem x_X5_machine_6 {a0 : Int} {a1 : Int} {a2 : Int} {al : List AV} {h : AH} : X mX5_machine 6 al [aJ a2, aJ a1, aJ a0] h = cK (E mX5_in [aJ a0, aJ a1, aJ a2] h) fun v h2 => X mX5_machine 9 al (v.toList ++ []) h2 := x_cal (as := [aJ a0, aJ a1, aJ a2]) (rest := []) dX5_machine_6 (fun _ => rfl) cT_5_81 rfl rfl rfl
theorem x_X5_machine_9 {a : Int} {al st : List AV} {h : AH} : X mX5_machine 9 al (aI a :: st) h = if a = 0 then X mX5_machine 45 al st h else X mX5_machine 12 al st h := x_eq0 dX5_machine_9 rfl
theorem x_X5_machine_12 {v0 v1 v3 v4 v5 v6 : AV} {z : Int} {st : List AV} {h : AH} : X mX5_machine 12 [v0, v1, aI z, v3, v4, v5, v6] st h = X mX5_machine 13 [v0, v1, aI z, v3, v4, v5, v6] (aI z :: st) h := X_of dX5_machine_12 rfl
theorem x_X5_machine_13 {al st : List AV} {h : AH} : X mX5_machine 13 al st h = X mX5_machine 14 al (aI 5 :: st) h := X_of dX5_machine_13 rfl
theorem x_X5_machine_14 {a b : Int} {al st : List AV} {h : AH} : X mX5_machine 14 al (aI b :: aI a :: st) h = if b < a then X mX5_machine 45 al st h else X mX5_machine 17 al st h := x_gtC dX5_machine_14 rfl
theorem x_X5_machine_17 {v0 v1 v3 v4 v5 v6 : AV} {z : Int} {st : List AV} {h : AH} : X mX5_machine 17 [v0, v1, aI z, v3, v4, v5, v6] st h = X mX5_machine 18 [v0, v1, aI z, v3, v4, v5, v6] (aI z :: st) h := X_of dX5_machine_17 rfl
theorem x_X5_machine_18 {a : Int} {al st : List AV} {h : AH} : X mX5_machine 18 al (aI a :: st) h = if a < 0 then X mX5_machine 47 al st h else X mX5_machine 21 al st h := x_lt0 dX5_machine_18 rfl
theorem x_X5_machine_21 {v0 v1 v3 v4 v5 v6 : AV} {z : Int} {st : List AV} {h : AH} : X mX5_machine 21 [v0, v1, aI z, v3, v4, v5, v6] st h = X mX5_machine 22 [v0, v1, aI z, v3, v4, v5, v6] (aI z :: st) h := X_of dX5_machine_21 rfl
theorem x_X5_machine_22 {v0 v2 v3 v4 v5 v6 : AV} {z : Int} {st : List AV} {h : AH} : X mX5_machine 22 [v0, aI z, v2, v3, v4, v5, v6] st h = X mX5_machine 23 [v0, aI z, v2, v3, v4, v5, v6] (aI z :: st) h := X_of dX5_machine_22 rfl
theorem x_X5_machine_23 {al st : List AV} {h : AH} : X mX5_machine 23 al st h = X mX5_machine 24 al (aI 3 :: st) h := X_of dX5_machine_23 rfl
theorem x_X5_machine_24 {a b : Int} {al st : List AV} {h : AH} : X mX5_machine 24 al (aI b :: aI a :: st) h = if ¬ a = b then X mX5_machine 31 al st h else X mX5_machine 27 al st h := x_neC dX5_machine_24 rfl
theorem x_X5_machine_27 {al st : List AV} {h : AH} : X mX5_machine 27 al st h = X mX5_machine 28 al (aI 2 :: st) h := X_of dX5_machine_27 rfl
theorem x_X5_machine_28 {al st : List AV} {h : AH} : X mX5_machine 28 al st h = X mX5_machine 32 al st h := X_of dX5_machine_28 rfl
theorem x_X5_machine_31 {al st : List AV} {h : AH} : X mX5_machine 31 al st h = X mX5_machine 32 al (aI 1 :: st) h := X_of dX5_machine_31 rfl
theorem x_X5_machine_32 {a b : Int} {al st : List AV} {h : AH} : X mX5_machine 32 al (aI b :: aI a :: st) h = if a < b then X mX5_machine 45 al st h else X mX5_machine 35 al st h := x_ltC dX5_machine_32 rfl
theorem x_X5_machine_35 {v0 v2 v3 v4 v5 v6 : AV} {z : Int} {st : List AV} {h : AH} : X mX5_machine 35 [v0, aI z, v2, v3, v4, v5, v6] st h = X mX5_machine 36 [v0, aI z, v2, v3, v4, v5, v6] (aI z :: st) h := X_of dX5_machine_35 rfl
theorem x_X5_machine_36 {al st : List AV} {h : AH} : X mX5_machine 36 al st h = X mX5_machine 37 al (aI 1 :: st) h := X_of dX5_machine_36 rfl
theorem x_X5_machine_37 {a b : Int} {al st : List AV} {h : AH} : X mX5_machine 37 al (aI b :: aI a :: st) h = if ¬ a = b then X mX5_machine 47 al st h else X mX5_machine 40 al st h := x_neC dX5_machine_37 rfl
theorem x_X5_machine_40 {v0 v1 v3 v4 v5 v6 : AV} {z : Int} {st : List AV} {h : AH} : X mX5_machine 40 [v0, v1, aI z, v3, v4, v5, v6] st h = X mX5_machine 41 [v0, v1, aI z, v3, v4, v5, v6] (aI z :: st) h := X_of dX5_machine_40 rfl
theorem x_X5_machine_41 {al st : List AV} {h : AH} : X mX5_machine 41 al st h = X mX5_machine 42 al (aI 1 :: st) h := X_of dX5_machine_41 rfl
theorem x_X5_machine_42 {a b : Int} {al st : List AV} {h : AH} : X mX5_machine 42 al (aI b :: aI a :: st) h = if a = b then X mX5_machine 47 al st h else X mX5_machine 45 al st h := x_eqC dX5_machine_42 rfl
theorem x_X5_machine_45 {al st : List AV} {h : AH} : X mX5_machine 45 al st h = X mX5_machine 46 al (aI (-1) :: st) h := X_of dX5_machine_45 rfl
theorem x_X5_machine_46 {z : Int} {al : List AV} {h : AH} : X mX5_machine 46 al [aI z] h = some (some (aI z), h) := X_ofR dX5_machine_46 rfl
theorem x_X5_machine_47 {v1 v2 v3 v4 v5 v6 : AV} {z : Option Nat} {st : List AV} {h : AH} : X mX5_machine 47 [aR z, v1, v2, v3, v4, v5, v6] st h = X mX5_machine 48 [aR z, v1, v2, v3, v4, v5, v6] (aR z :: st) h := X_of dX5_machine_47 rfl
theorem x_X5_machine_48 {a : Nat} {al st : List AV} {h : AH} : X mX5_machine 48 al (aR (some a) :: st) h = gK (rd h 5 a 10) fun v => X mX5_machine 51 al (v :: st) h := x_get dX5_machine_48 fT_5_111
theorem x_X5_machine_51 {al st : List AV} {h : AH} : X mX5_machine 51 al st h = X mX5_machine 53 al (aI 16 :: st) h := X_of dX5_machine_51 rfl
theorem x_X5_machine_53 {a b : Int} {al st : List AV} {h : AH} : X mX5_machine 53 al (aI b :: aI a :: st) h = if ¬ a = b then X mX5_machine 59 al st h else X mX5_machine 56 al st h := x_neC dX5_machine_53 rfl
theorem x_X5_machine_56 {al st : List AV} {h : AH} : X mX5_machine 56 al st h = X mX5_machine 58 al (aI (-2) :: st) h := X_of dX5_machine_56 rfl
theorem x_X5_machine_58 {z : Int} {al : List AV} {h : AH} : X mX5_machine 58 al [aI z] h = some (some (aI z), h) := X_ofR dX5_machine_58 rfl
theorem x_X5_machine_59 {v0 v1 v3 v4 v5 v6 : AV} {z : Int} {st : List AV} {h : AH} : X mX5_machine 59 [v0, v1, aI z, v3, v4, v5, v6] st h = X mX5_machine 60 [v0, v1, aI z, v3, v4, v5, v6] (aI z :: st) h := X_of dX5_machine_59 rfl
theorem x_X5_machine_60 {a : Int} {al st : List AV} {h : AH} : X mX5_machine 60 al (aI a :: st) h = if 0 ≤ a then X mX5_machine 69 al st h else X mX5_machine 63 al st h := x_ge0 dX5_machine_60 rfl
theorem x_X5_machine_63 {v1 v2 v3 v4 v5 v6 : AV} {z : Option Nat} {st : List AV} {h : AH} : X mX5_machine 63 [aR z, v1, v2, v3, v4, v5, v6] st h = X mX5_machine 64 [aR z, v1, v2, v3, v4, v5, v6] (aR z :: st) h := X_of dX5_machine_63 rfl
theorem x_X5_machine_64 {al st : List AV} {h : AH} : X mX5_machine 64 al st h = X mX5_machine 65 al (aI 5 :: st) h := X_of dX5_machine_64 rfl
theorem x_X5_machine_65 {a0 : Nat} {a1 : Int} {al : List AV} {h : AH} (ho : isO h 5 a0 = true) : X mX5_machine 65 al [aI a1, aR (some a0)] h = cK (E mX5_meets [aR (some a0), aI a1] h) fun v h2 => X mX5_machine 68 al (v.toList ++ []) h2 := x_cal (as := [aR (some a0), aI a1]) (rest := []) dX5_machine_65 (fun _ => rfl) cT_5_96 rfl rfl ho
theorem x_X5_machine_68 {z : Int} {al : List AV} {h : AH} : X mX5_machine 68 al [aI z] h = some (some (aI z), h) := X_ofR dX5_machine_68 rfl
theorem x_X5_machine_69 {v1 v2 v3 v4 v5 v6 : AV} {z : Option Nat} {st : List AV} {h : AH} : X mX5_machine 69 [aR z, v1, v2, v3, v4, v5, v6] st h = X mX5_machine 70 [aR z, v1, v2, v3, v4, v5, v6] (aR z :: st) h := X_of dX5_machine_69 rfl
theorem x_X5_machine_70 {a : Nat} {al st : List AV} {h : AH} : X mX5_machine 70 al (aR (some a) :: st) h = gK (rd h 5 a 10) fun v => X mX5_machine 73 al (v :: st) h := x_get dX5_machine_70 fT_5_111
theorem x_X5_machine_73 {v0 v1 v3 v4 v5 v6 : AV} {y : Int} {z : Int} {st : List AV} {h : AH} : X mX5_machine 73 [v0, v1, aI y, v3, v4, v5, v6] (aI z :: st) h = X mX5_machine 74 [v0, v1, aI y, aI z, v4, v5, v6] st h := X_of dX5_machine_73 rfl
theorem x_X5_machine_74 {v1 v2 v3 v4 v5 v6 : AV} {z : Option Nat} {st : List AV} {h : AH} : X mX5_machine 74 [aR z, v1, v2, v3, v4, v5, v6] st h = X mX5_machine 75 [aR z, v1, v2, v3, v4, v5, v6] (aR z :: st) h := X_of dX5_machine_74 rfl
theorem x_X5_machine_75 {a : Nat} {al st : List AV} {h : AH} : X mX5_machine 75 al (aR (some a) :: st) h = gK (rd h 5 a 11) fun v => X mX5_machine 78 al (v :: st) h := x_get dX5_machine_75 fT_5_26
theorem x_X5_machine_78 {v0 v1 v2 v4 v5 v6 : AV} {z : Int} {st : List AV} {h : AH} : X mX5_machine 78 [v0, v1, v2, aI z, v4, v5, v6] st h = X mX5_machine 79 [v0, v1, v2, aI z, v4, v5, v6] (aI z :: st) h := X_of dX5_machine_78 rfl
theorem x_X5_machine_79 {v0 v2 v3 v4 v5 v6 : AV} {z : Int} {st : List AV} {h : AH} : X mX5_machine 79 [v0, aI z, v2, v3, v4, v5, v6] st h = X mX5_machine 80 [v0, aI z, v2, v3, v4, v5, v6] (aI z :: st) h := X_of dX5_machine_79 rfl
theorem x_X5_machine_80 {a : Nat} {i z : Int} {al st : List AV} {h : AH} : X mX5_machine 80 al (aI z :: aI i :: aR (some a) :: st) h = if 0 ≤ i then pK (rd h 10 a i.toNat) (X mX5_machine 81 al st (wr h 10 a i.toNat (aI z))) else none := x_astI dX5_machine_80
theorem x_X5_machine_81 {v1 v2 v3 v4 v5 v6 : AV} {z : Option Nat} {st : List AV} {h : AH} : X mX5_machine 81 [aR z, v1, v2, v3, v4, v5, v6] st h = X mX5_machine 82 [aR z, v1, v2, v3, v4, v5, v6] (aR z :: st) h := X_of dX5_machine_81 rfl
theorem x_X5_machine_82 {a : Nat} {al st : List AV} {h : AH} : X mX5_machine 82 al (aR (some a) :: st) h = gK (rd h 5 a 12) fun v => X mX5_machine 85 al (v :: st) h := x_get dX5_machine_82 fT_5_29
theorem x_X5_machine_85 {v0 v1 v2 v4 v5 v6 : AV} {z : Int} {st : List AV} {h : AH} : X mX5_machine 85 [v0, v1, v2, aI z, v4, v5, v6] st h = X mX5_machine 86 [v0, v1, v2, aI z, v4, v5, v6] (aI z :: st) h := X_of dX5_machine_85 rfl
theorem x_X5_machine_86 {v0 v1 v3 v4 v5 v6 : AV} {z : Int} {st : List AV} {h : AH} : X mX5_machine 86 [v0, v1, aI z, v3, v4, v5, v6] st h = X mX5_machine 87 [v0, v1, aI z, v3, v4, v5, v6] (aI z :: st) h := X_of dX5_machine_86 rfl
theorem x_X5_machine_87 {a : Nat} {i z : Int} {al st : List AV} {h : AH} : X mX5_machine 87 al (aI z :: aI i :: aR (some a) :: st) h = if 0 ≤ i then pK (rd h 10 a i.toNat) (X mX5_machine 88 al st (wr h 10 a i.toNat (aI z))) else none := x_astI dX5_machine_87
theorem x_X5_machine_88 {v1 v2 v3 v4 v5 v6 : AV} {z : Option Nat} {st : List AV} {h : AH} : X mX5_machine 88 [aR z, v1, v2, v3, v4, v5, v6] st h = X mX5_machine 89 [aR z, v1, v2, v3, v4, v5, v6] (aR z :: st) h := X_of dX5_machine_88 rfl
theorem x_X5_machine_89 {a : Nat} {al st : List AV} {h : AH} : X mX5_machine 89 al (aR (some a) :: st) h = gK (rd h 5 a 13) fun v => X mX5_machine 92 al (v :: st) h := x_get dX5_machine_89 fT_5_32
theorem x_X5_machine_92 {v0 v1 v2 v4 v5 v6 : AV} {z : Int} {st : List AV} {h : AH} : X mX5_machine 92 [v0, v1, v2, aI z, v4, v5, v6] st h = X mX5_machine 93 [v0, v1, v2, aI z, v4, v5, v6] (aI z :: st) h := X_of dX5_machine_92 rfl
theorem x_X5_machine_93 {al st : List AV} {h : AH} : X mX5_machine 93 al st h = X mX5_machine 94 al (aI 0 :: st) h := X_of dX5_machine_93 rfl
theorem x_X5_machine_94 {a : Nat} {i z : Int} {al st : List AV} {h : AH} : X mX5_machine 94 al (aI z :: aI i :: aR (some a) :: st) h = if 0 ≤ i then pK (rd h 10 a i.toNat) (X mX5_machine 95 al st (wr h 10 a i.toNat (aI z))) else none := x_astI dX5_machine_94
theorem x_X5_machine_95 {v1 v2 v3 v4 v5 v6 : AV} {z : Option Nat} {st : List AV} {h : AH} : X mX5_machine 95 [aR z, v1, v2, v3, v4, v5, v6] st h = X mX5_machine 96 [aR z, v1, v2, v3, v4, v5, v6] (aR z :: st) h := X_of dX5_machine_95 rfl
theorem x_X5_machine_96 {a : Nat} {al st : List AV} {h : AH} : X mX5_machine 96 al (aR (some a) :: st) h = gK (rd h 5 a 16) fun v => X mX5_machine 99 al (v :: st) h := x_get dX5_machine_96 fT_5_41
theorem x_X5_machine_99 {v0 v1 v2 v4 v5 v6 : AV} {z : Int} {st : List AV} {h : AH} : X mX5_machine 99 [v0, v1, v2, aI z, v4, v5, v6] st h = X mX5_machine 100 [v0, v1, v2, aI z, v4, v5, v6] (aI z :: st) h := X_of dX5_machine_99 rfl
theorem x_X5_machine_100 {al st : List AV} {h : AH} : X mX5_machine 100 al st h = X mX5_machine 101 al (aI 0 :: st) h := X_of dX5_machine_100 rfl
theorem x_X5_machine_101 {a : Nat} {i z : Int} {al st : List AV} {h : AH} : X mX5_machine 101 al (aI z :: aI i :: aR (some a) :: st) h = if 0 ≤ i then pK (rd h 10 a i.toNat) (X mX5_machine 102 al st (wr h 10 a i.toNat (aI z))) else none := x_astI dX5_machine_101
theorem x_X5_machine_102 {al st : List AV} {h : AH} : X mX5_machine 102 al st h = X mX5_machine 103 al (aI 0 :: st) h := X_of dX5_machine_102 rfl
theorem x_X5_machine_103 {v0 v1 v2 v4 v5 v6 : AV} {y : Int} {z : Int} {st : List AV} {h : AH} : X mX5_machine 103 [v0, v1, v2, aI y, v4, v5, v6] (aI z :: st) h = X mX5_machine 105 [v0, v1, v2, aI y, aI z, v5, v6] st h := X_of dX5_machine_103 rfl
theorem x_X5_machine_105 {v0 v1 v2 v3 v5 v6 : AV} {z : Int} {st : List AV} {h : AH} : X mX5_machine 105 [v0, v1, v2, v3, aI z, v5, v6] st h = X mX5_machine 107 [v0, v1, v2, v3, aI z, v5, v6] (aI z :: st) h := X_of dX5_machine_105 rfl
theorem x_X5_machine_107 {al st : List AV} {h : AH} : X mX5_machine 107 al st h = X mX5_machine 108 al (aI 5 :: st) h := X_of dX5_machine_107 rfl
theorem x_X5_machine_108 {a b : Int} {al st : List AV} {h : AH} : X mX5_machine 108 al (aI b :: aI a :: st) h = if b ≤ a then X mX5_machine 197 al st h else X mX5_machine 111 al st h := x_geC dX5_machine_108 rfl
theorem x_X5_machine_111 {v1 v2 v3 v4 v5 v6 : AV} {z : Option Nat} {st : List AV} {h : AH} : X mX5_machine 111 [aR z, v1, v2, v3, v4, v5, v6] st h = X mX5_machine 112 [aR z, v1, v2, v3, v4, v5, v6] (aR z :: st) h := X_of dX5_machine_111 rfl
theorem x_X5_machine_112 {a : Nat} {al st : List AV} {h : AH} : X mX5_machine 112 al (aR (some a) :: st) h = gK (rd h 5 a 14) fun v => X mX5_machine 115 al (v :: st) h := x_get dX5_machine_112 fT_5_35
theorem x_X5_machine_115 {al st : List AV} {h : AH} : X mX5_machine 115 al st h = X mX5_machine 116 al (aI 5 :: st) h := X_of dX5_machine_115 rfl
theorem x_X5_machine_116 {v0 v1 v2 v4 v5 v6 : AV} {z : Int} {st : List AV} {h : AH} : X mX5_machine 116 [v0, v1, v2, aI z, v4, v5, v6] st h = X mX5_machine 117 [v0, v1, v2, aI z, v4, v5, v6] (aI z :: st) h := X_of dX5_machine_116 rfl
theorem x_X5_machine_117 {a b : Int} {al st : List AV} {h : AH} : X mX5_machine 117 al (aI b :: aI a :: st) h = X mX5_machine 118 al (aI (w32 (a * b)) :: st) h := X_of dX5_machine_117 rfl
theorem x_X5_machine_118 {v0 v1 v2 v3 v5 v6 : AV} {z : Int} {st : List AV} {h : AH} : X mX5_machine 118 [v0, v1, v2, v3, aI z, v5, v6] st h = X mX5_machine 120 [v0, v1, v2, v3, aI z, v5, v6] (aI z :: st) h := X_of dX5_machine_118 rfl
theorem x_X5_machine_120 {a b : Int} {al st : List AV} {h : AH} : X mX5_machine 120 al (aI b :: aI a :: st) h = X mX5_machine 121 al (aI (w32 (a + b)) :: st) h := X_of dX5_machine_120 rfl
theorem x_X5_machine_121 {al st : List AV} {h : AH} : X mX5_machine 121 al st h = X mX5_machine 122 al (aI 0 :: st) h := X_of dX5_machine_121 rfl
theorem x_X5_machine_122 {a : Nat} {i z : Int} {al st : List AV} {h : AH} : X mX5_machine 122 al (aI z :: aI i :: aR (some a) :: st) h = if 0 ≤ i then pK (rd h 10 a i.toNat) (X mX5_machine 123 al st (wr h 10 a i.toNat (aI z))) else none := x_astI dX5_machine_122
theorem x_X5_machine_123 {al st : List AV} {h : AH} : X mX5_machine 123 al st h = X mX5_machine 124 al (aI 0 :: st) h := X_of dX5_machine_123 rfl
theorem x_X5_machine_124 {v0 v1 v2 v3 v5 v6 : AV} {y : Int} {z : Int} {st : List AV} {h : AH} : X mX5_machine 124 [v0, v1, v2, v3, aI y, v5, v6] (aI z :: st) h = X mX5_machine 126 [v0, v1, v2, v3, aI y, aI z, v6] st h := X_of dX5_machine_124 rfl
theorem x_X5_machine_126 {v0 v1 v2 v3 v4 v6 : AV} {z : Int} {st : List AV} {h : AH} : X mX5_machine 126 [v0, v1, v2, v3, v4, aI z, v6] st h = X mX5_machine 128 [v0, v1, v2, v3, v4, aI z, v6] (aI z :: st) h := X_of dX5_machine_126 rfl
theorem x_X5_machine_128 {al st : List AV} {h : AH} : X mX5_machine 128 al st h = X mX5_machine 129 al (aI 5 :: st) h := X_of dX5_machine_128 rfl
theorem x_X5_machine_129 {a b : Int} {al st : List AV} {h : AH} : X mX5_machine 129 al (aI b :: aI a :: st) h = if b ≤ a then X mX5_machine 191 al st h else X mX5_machine 132 al st h := x_geC dX5_machine_129 rfl
theorem x_X5_machine_132 {v0 v2 v3 v4 v5 v6 : AV} {z : Int} {st : List AV} {h : AH} : X mX5_machine 132 [v0, aI z, v2, v3, v4, v5, v6] st h = X mX5_machine 133 [v0, aI z, v2, v3, v4, v5, v6] (aI z :: st) h := X_of dX5_machine_132 rfl
theorem x_X5_machine_133 {al st : List AV} {h : AH} : X mX5_machine 133 al st h = X mX5_machine 134 al (aI 2 :: st) h := X_of dX5_machine_133 rfl
theorem x_X5_machine_134 {a b : Int} {al st : List AV} {h : AH} : X mX5_machine 134 al (aI b :: aI a :: st) h = if a < b then X mX5_machine 152 al st h else X mX5_machine 137 al st h := x_ltC dX5_machine_134 rfl
theorem x_X5_machine_137 {v0 v1 v2 v3 v5 v6 : AV} {z : Int} {st : List AV} {h : AH} : X mX5_machine 137 [v0, v1, v2, v3, aI z, v5, v6] st h = X mX5_machine 139 [v0, v1, v2, v3, aI z, v5, v6] (aI z :: st) h := X_of dX5_machine_137 rfl
theorem x_X5_machine_139 {al st : List AV} {h : AH} : X mX5_machine 139 al st h = X mX5_machine 140 al (aI 1 :: st) h := X_of dX5_machine_139 rfl
theorem x_X5_machine_140 {a b : Int} {al st : List AV} {h : AH} : X mX5_machine 140 al (aI b :: aI a :: st) h = X mX5_machine 141 al (aI (w32 (a + b)) :: st) h := X_of dX5_machine_140 rfl
theorem x_X5_machine_141 {v0 v1 v3 v4 v5 v6 : AV} {z : Int} {st : List AV} {h : AH} : X mX5_machine 141 [v0, v1, aI z, v3, v4, v5, v6] st h = X mX5_machine 142 [v0, v1, aI z, v3, v4, v5, v6] (aI z :: st) h := X_of dX5_machine_141 rfl
theorem x_X5_machine_142 {a b : Int} {al st : List AV} {h : AH} : X mX5_machine 142 al (aI b :: aI a :: st) h = if b ≤ a then X mX5_machine 152 al st h else X mX5_machine 145 al st h := x_geC dX5_machine_142 rfl
theorem x_X5_machine_145 {v0 v1 v2 v3 v5 v6 : AV} {z : Int} {st : List AV} {h : AH} : X mX5_machine 145 [v0, v1, v2, v3, aI z, v5, v6] st h = X mX5_machine 147 [v0, v1, v2, v3, aI z, v5, v6] (aI z :: st) h := X_of dX5_machine_145 rfl
theorem x_X5_machine_147 {al st : List AV} {h : AH} : X mX5_machine 147 al st h = X mX5_machine 148 al (aI 1 :: st) h := X_of dX5_machine_147 rfl
theorem x_X5_machine_148 {a b : Int} {al st : List AV} {h : AH} : X mX5_machine 148 al (aI b :: aI a :: st) h = X mX5_machine 149 al (aI (w32 (a + b)) :: st) h := X_of dX5_machine_148 rfl
theorem x_X5_machine_149 {al st : List AV} {h : AH} : X mX5_machine 149 al st h = X mX5_machine 154 al st h := X_of dX5_machine_149 rfl
theorem x_X5_machine_152 {v0 v1 v2 v3 v5 v6 : AV} {z : Int} {st : List AV} {h : AH} : X mX5_machine 152 [v0, v1, v2, v3, aI z, v5, v6] st h = X mX5_machine 154 [v0, v1, v2, v3, aI z, v5, v6] (aI z :: st) h := X_of dX5_machine_152 rfl
theorem x_X5_machine_154 {v0 v1 v2 v3 v4 v6 : AV} {y : Int} {z : Int} {st : List AV} {h : AH} : X mX5_machine 154 [v0, v1, v2, v3, v4, aI y, v6] (aI z :: st) h = X mX5_machine 156 [v0, v1, v2, v3, v4, aI y, aI z] st h := X_of dX5_machine_154 rfl
theorem x_X5_machine_156 {v1 v2 v3 v4 v5 v6 : AV} {z : Option Nat} {st : List AV} {h : AH} : X mX5_machine 156 [aR z, v1, v2, v3, v4, v5, v6] st h = X mX5_machine 157 [aR z, v1, v2, v3, v4, v5, v6] (aR z :: st) h := X_of dX5_machine_156 rfl
theorem x_X5_machine_157 {a : Nat} {al st : List AV} {h : AH} : X mX5_machine 157 al (aR (some a) :: st) h = gK (rd h 5 a 15) fun v => X mX5_machine 160 al (v :: st) h := x_get dX5_machine_157 fT_5_38
theorem x_X5_machine_160 {al st : List AV} {h : AH} : X mX5_machine 160 al st h = X mX5_machine 162 al (aI 25 :: st) h := X_of dX5_machine_160 rfl
theorem x_X5_machine_162 {v0 v1 v2 v4 v5 v6 : AV} {z : Int} {st : List AV} {h : AH} : X mX5_machine 162 [v0, v1, v2, aI z, v4, v5, v6] st h = X mX5_machine 163 [v0, v1, v2, aI z, v4, v5, v6] (aI z :: st) h := X_of dX5_machine_162 rfl
theorem x_X5_machine_163 {a b : Int} {al st : List AV} {h : AH} : X mX5_machine 163 al (aI b :: aI a :: st) h = X mX5_machine 164 al (aI (w32 (a * b)) :: st) h := X_of dX5_machine_163 rfl
theorem x_X5_machine_164 {al st : List AV} {h : AH} : X mX5_machine 164 al st h = X mX5_machine 165 al (aI 5 :: st) h := X_of dX5_machine_164 rfl
theorem x_X5_machine_165 {v0 v1 v2 v3 v5 v6 : AV} {z : Int} {st : List AV} {h : AH} : X mX5_machine 165 [v0, v1, v2, v3, aI z, v5, v6] st h = X mX5_machine 167 [v0, v1, v2, v3, aI z, v5, v6] (aI z :: st) h := X_of dX5_machine_165 rfl
theorem x_X5_machine_167 {a b : Int} {al st : List AV} {h : AH} : X mX5_machine 167 al (aI b :: aI a :: st) h = X mX5_machine 168 al (aI (w32 (a * b)) :: st) h := X_of dX5_machine_167 rfl
theorem x_X5_machine_168 {a b : Int} {al st : List AV} {h : AH} : X mX5_machine 168 al (aI b :: aI a :: st) h = X mX5_machine 169 al (aI (w32 (a + b)) :: st) h := X_of dX5_machine_168 rfl
theorem x_X5_machine_169 {v0 v1 v2 v3 v4 v6 : AV} {z : Int} {st : List AV} {h : AH} : X mX5_machine 169 [v0, v1, v2, v3, v4, aI z, v6] st h = X mX5_machine 171 [v0, v1, v2, v3, v4, aI z, v6] (aI z :: st) h := X_of dX5_machine_169 rfl
theorem x_X5_machine_171 {a b : Int} {al st : List AV} {h : AH} : X mX5_machine 171 al (aI b :: aI a :: st) h = X mX5_machine 172 al (aI (w32 (a + b)) :: st) h := X_of dX5_machine_171 rfl
theorem x_X5_machine_172 {v0 v1 v2 v3 v4 v6 : AV} {z : Int} {st : List AV} {h : AH} : X mX5_machine 172 [v0, v1, v2, v3, v4, aI z, v6] st h = X mX5_machine 174 [v0, v1, v2, v3, v4, aI z, v6] (aI z :: st) h := X_of dX5_machine_172 rfl
theorem x_X5_machine_174 {v0 v1 v2 v3 v4 v5 : AV} {z : Int} {st : List AV} {h : AH} : X mX5_machine 174 [v0, v1, v2, v3, v4, v5, aI z] st h = X mX5_machine 176 [v0, v1, v2, v3, v4, v5, aI z] (aI z :: st) h := X_of dX5_machine_174 rfl
theorem x_X5_machine_176 {a b : Int} {al st : List AV} {h : AH} : X mX5_machine 176 al (aI b :: aI a :: st) h = if ¬ a = b then X mX5_machine 183 al st h else X mX5_machine 179 al st h := x_neC dX5_machine_176 rfl
theorem x_X5_machine_179 {al st : List AV} {h : AH} : X mX5_machine 179 al st h = X mX5_machine 180 al (aI 1 :: st) h := X_of dX5_machine_179 rfl
theorem x_X5_machine_180 {al st : List AV} {h : AH} : X mX5_machine 180 al st h = X mX5_machine 184 al st h := X_of dX5_machine_180 rfl
theorem x_X5_machine_183 {al st : List AV} {h : AH} : X mX5_machine 183 al st h = X mX5_machine 184 al (aI 0 :: st) h := X_of dX5_machine_183 rfl
theorem x_X5_machine_184 {a : Nat} {i z : Int} {al st : List AV} {h : AH} : X mX5_machine 184 al (aI z :: aI i :: aR (some a) :: st) h = if 0 ≤ i then pK (rd h 10 a i.toNat) (X mX5_machine 185 al st (wr h 10 a i.toNat (aI z))) else none := x_astI dX5_machine_184
theorem x_X5_machine_185 {v0 v1 v2 v3 v6 : AV} {y : Int} {z : Int} {st : List AV} {h : AH} : X mX5_machine 185 [v0, v1, v2, v3, aI y, aI z, v6] st h = X mX5_machine 188 [v0, v1, v2, v3, aI y, aI (w32 (z + 1)), v6] st h := X_of dX5_machine_185 rfl
theorem x_X5_machine_188 {al st : List AV} {h : AH} : X mX5_machine 188 al st h = X mX5_machine 126 al st h := X_of dX5_machine_188 rfl
theorem x_X5_machine_191 {v0 v1 v2 v5 v6 : AV} {y : Int} {z : Int} {st : List AV} {h : AH} : X mX5_machine 191 [v0, v1, v2, aI y, aI z, v5, v6] st h = X mX5_machine 194 [v0, v1, v2, aI y, aI (w32 (z + 1)), v5, v6] st h := X_of dX5_machine_191 rfl
theorem x_X5_machine_194 {al st : List AV} {h : AH} : X mX5_machine 194 al st h = X mX5_machine 105 al st h := X_of dX5_machine_194 rfl
theorem x_X5_machine_197 {v1 v2 v3 v4 v5 v6 : AV} {z : Option Nat} {st : List AV} {h : AH} : X mX5_machine 197 [aR z, v1, v2, v3, v4, v5, v6] st h = X mX5_machine 198 [aR z, v1, v2, v3, v4, v5, v6] (aR z :: st) h := X_of dX5_machine_197 rfl
theorem x_X5_machine_198 {z : Option Nat} {al st : List AV} {h : AH} : X mX5_machine 198 al (aR z :: st) h = X mX5_machine 199 al (aR z :: aR z :: st) h := X_of dX5_machine_198 rfl
theorem x_X5_machine_199 {a : Nat} {al st : List AV} {h : AH} : X mX5_machine 199 al (aR (some a) :: st) h = gK (rd h 5 a 10) fun v => X mX5_machine 202 al (v :: st) h := x_get dX5_machine_199 fT_5_111
theorem x_X5_machine_202 {al st : List AV} {h : AH} : X mX5_machine 202 al st h = X mX5_machine 203 al (aI 1 :: st) h := X_of dX5_machine_202 rfl
theorem x_X5_machine_203 {a b : Int} {al st : List AV} {h : AH} : X mX5_machine 203 al (aI b :: aI a :: st) h = X mX5_machine 204 al (aI (w32 (a + b)) :: st) h := X_of dX5_machine_203 rfl
theorem x_X5_machine_204 {a : Nat} {z : Int} {al st : List AV} {h : AH} : X mX5_machine 204 al (aI z :: aR (some a) :: st) h = pK (rd h 5 a 10) (X mX5_machine 207 al st (wr h 5 a 10 (aI z))) := x_put dX5_machine_204 fT_5_111 rfl rfl
theorem x_X5_machine_207 {v0 v1 v2 v4 v5 v6 : AV} {z : Int} {st : List AV} {h : AH} : X mX5_machine 207 [v0, v1, v2, aI z, v4, v5, v6] st h = X mX5_machine 208 [v0, v1, v2, aI z, v4, v5, v6] (aI z :: st) h := X_of dX5_machine_207 rfl
theorem x_X5_machine_208 {z : Int} {al : List AV} {h : AH} : X mX5_machine 208 al [aI z] h = some (some (aI z), h) := X_ofR dX5_machine_208 rfl
theorem e_X5_is {p0 : Option Nat} {p1 : Int} {p2 : Int} {h : AH} : E mX5_is [aR p0, aI p1, aI p2] h = X mX5_is 0 [aR p0, aI p1, aI p2, aU] [] h := rfl
theorem x_X5_is_0 {v1 v2 v3 : AV} {z : Option Nat} {st : List AV} {h : AH} : X mX5_is 0 [aR z, v1, v2, v3] st h = X mX5_is 1 [aR z, v1, v2, v3] (aR z :: st) h := X_of dX5_is_0 rfl
theorem x_X5_is_1 {v0 v2 v3 : AV} {z : Int} {st : List AV} {h : AH} : X mX5_is 1 [v0, aI z, v2, v3] st h = X mX5_is 2 [v0, aI z, v2, v3] (aI z :: st) h := X_of dX5_is_1 rfl
theorem x_X5_is_2 {a0 : Nat} {a1 : Int} {al : List AV} {h : AH} (ho : isO h 5 a0 = true) : X mX5_is 2 al [aI a1, aR (some a0)] h = cK (E mX5_isMachine [aR (some a0), aI a1] h) fun v h2 => X mX5_is 5 al (v.toList ++ []) h2 := x_cal (as := [aR (some a0), aI a1]) (rest := []) dX5_is_2 (fun _ => rfl) cT_5_114 rfl rfl ho
theorem x_X5_is_5 {a : Int} {al st : List AV} {h : AH} : X mX5_is 5 al (aI a :: st) h = if a = 0 then X mX5_is 20 al st h else X mX5_is 8 al st h := x_eq0 dX5_is_5 rfl
theorem x_X5_is_8 {v0 v1 v3 : AV} {z : Int} {st : List AV} {h : AH} : X mX5_is 8 [v0, v1, aI z, v3] st h = X mX5_is 9 [v0, v1, aI z, v3] (aI z :: st) h := X_of dX5_is_8 rfl
theorem x_X5_is_9 {a : Int} {al st : List AV} {h : AH} : X mX5_is 9 al (aI a :: st) h = X mX5_is 10 al (aJ a :: st) h := X_of dX5_is_9 rfl
theorem x_X5_is_10 {al st : List AV} {h : AH} : X mX5_is 10 al st h = X mX5_is 11 al (aJ 0 :: st) h := X_of dX5_is_10 rfl
theorem x_X5_is_11 {al st : List AV} {h : AH} : X mX5_is 11 al st h = X mX5_is 14 al (aJ 3 :: st) h := X_of dX5_is_11 rfl
theorem x_X5_is_14 {a0 : Int} {a1 : Int} {a2 : Int} {al : List AV} {h : AH} : X mX5_is 14 al [aJ a2, aJ a1, aJ a0] h = cK (E mX5_in [aJ a0, aJ a1, aJ a2] h) fun v h2 => X mX5_is 17 al (v.toList ++ []) h2 := x_cal (as := [aJ a0, aJ a1, aJ a2]) (rest := []) dX5_is_14 (fun _ => rfl) cT_5_81 rfl rfl rfl
theorem x_X5_is_17 {a : Int} {al st : List AV} {h : AH} : X mX5_is 17 al (aI a :: st) h = if ¬ a = 0 then X mX5_is 22 al st h else X mX5_is 20 al st h := x_ne0 dX5_is_17 rfl
theorem x_X5_is_20 {al st : List AV} {h : AH} : X mX5_is 20 al st h = X mX5_is 21 al (aI (-1) :: st) h := X_of dX5_is_20 rfl
theorem x_X5_is_21 {z : Int} {al : List AV} {h : AH} : X mX5_is 21 al [aI z] h = some (some (aI z), h) := X_ofR dX5_is_21 rfl
theorem x_X5_is_22 {v1 v2 v3 : AV} {z : Option Nat} {st : List AV} {h : AH} : X mX5_is 22 [aR z, v1, v2, v3] st h = X mX5_is 23 [aR z, v1, v2, v3] (aR z :: st) h := X_of dX5_is_22 rfl
theorem x_X5_is_23 {a : Nat} {al st : List AV} {h : AH} : X mX5_is 23 al (aR (some a) :: st) h = gK (rd h 5 a 11) fun v => X mX5_is 26 al (v :: st) h := x_get dX5_is_23 fT_5_26
theorem x_X5_is_26 {v0 v2 v3 : AV} {z : Int} {st : List AV} {h : AH} : X mX5_is 26 [v0, aI z, v2, v3] st h = X mX5_is 27 [v0, aI z, v2, v3] (aI z :: st) h := X_of dX5_is_26 rfl
theorem x_X5_is_27 {a : Nat} {i : Int} {al st : List AV} {h : AH} : X mX5_is 27 al (aI i :: aR (some a) :: st) h = if 0 ≤ i then gK (rd h 10 a i.toNat) (fun v => X mX5_is 28 al (v :: st) h) else none := x_aldI dX5_is_27
theorem x_X5_is_28 {v0 v1 v3 : AV} {y : Int} {z : Int} {st : List AV} {h : AH} : X mX5_is 28 [v0, v1, aI y, v3] (aI z :: st) h = X mX5_is 29 [v0, v1, aI y, aI z] st h := X_of dX5_is_28 rfl
theorem x_X5_is_29 {v0 v1 v3 : AV} {z : Int} {st : List AV} {h : AH} : X mX5_is 29 [v0, v1, aI z, v3] st h = X mX5_is 30 [v0, v1, aI z, v3] (aI z :: st) h := X_of dX5_is_29 rfl
theorem x_X5_is_30 {a : Int} {al st : List AV} {h : AH} : X mX5_is 30 al (aI a :: st) h = if a = 0 then X mX5_is 48 al st h else X mX5_is 33 al st h := x_eq0 dX5_is_30 rfl
theorem x_X5_is_33 {v0 v1 v2 : AV} {z : Int} {st : List AV} {h : AH} : X mX5_is 33 [v0, v1, v2, aI z] st h = X mX5_is 34 [v0, v1, v2, aI z] (aI z :: st) h := X_of dX5_is_33 rfl
theorem x_X5_is_34 {v0 v1 v3 : AV} {z : Int} {st : List AV} {h : AH} : X mX5_is 34 [v0, v1, aI z, v3] st h = X mX5_is 35 [v0, v1, aI z, v3] (aI z :: st) h := X_of dX5_is_34 rfl
theorem x_X5_is_35 {a b : Int} {al st : List AV} {h : AH} : X mX5_is 35 al (aI b :: aI a :: st) h = if a = b then X mX5_is 48 al st h else X mX5_is 38 al st h := x_eqC dX5_is_35 rfl
theorem x_X5_is_38 {v0 v1 v3 : AV} {z : Int} {st : List AV} {h : AH} : X mX5_is 38 [v0, v1, aI z, v3] st h = X mX5_is 39 [v0, v1, aI z, v3] (aI z :: st) h := X_of dX5_is_38 rfl
theorem x_X5_is_39 {al st : List AV} {h : AH} : X mX5_is 39 al st h = X mX5_is 40 al (aI 2 :: st) h := X_of dX5_is_39 rfl
theorem x_X5_is_40 {a b : Int} {al st : List AV} {h : AH} : X mX5_is 40 al (aI b :: aI a :: st) h = if ¬ a = b then X mX5_is 52 al st h else X mX5_is 43 al st h := x_neC dX5_is_40 rfl
theorem x_X5_is_43 {v0 v1 v2 : AV} {z : Int} {st : List AV} {h : AH} : X mX5_is 43 [v0, v1, v2, aI z] st h = X mX5_is 44 [v0, v1, v2, aI z] (aI z :: st) h := X_of dX5_is_43 rfl
theorem x_X5_is_44 {al st : List AV} {h : AH} : X mX5_is 44 al st h = X mX5_is 45 al (aI 3 :: st) h := X_of dX5_is_44 rfl
theorem x_X5_is_45 {a b : Int} {al st : List AV} {h : AH} : X mX5_is 45 al (aI b :: aI a :: st) h = if ¬ a = b then X mX5_is 52 al st h else X mX5_is 48 al st h := x_neC dX5_is_45 rfl
theorem x_X5_is_48 {al st : List AV} {h : AH} : X mX5_is 48 al st h = X mX5_is 49 al (aI 1 :: st) h := X_of dX5_is_48 rfl
theorem x_X5_is_49 {al st : List AV} {h : AH} : X mX5_is 49 al st h = X mX5_is 53 al st h := X_of dX5_is_49 rfl
theorem x_X5_is_52 {al st : List AV} {h : AH} : X mX5_is 52 al st h = X mX5_is 53 al (aI 0 :: st) h := X_of dX5_is_52 rfl
theorem x_X5_is_53 {z : Int} {al : List AV} {h : AH} : X mX5_is 53 al [aI z] h = some (some (aI z), h) := X_ofR dX5_is_53 rfl
theorem e_X5_told {p0 : Option Nat} {p1 : Int} {p2 : Int} {h : AH} : E mX5_told [aR p0, aI p1, aI p2] h = X mX5_told 0 [aR p0, aI p1, aI p2] [] h := rfl
theorem x_X5_told_0 {v1 v2 : AV} {z : Option Nat} {st : List AV} {h : AH} : X mX5_told 0 [aR z, v1, v2] st h = X mX5_told 1 [aR z, v1, v2] (aR z :: st) h := X_of dX5_told_0 rfl
theorem x_X5_told_1 {v0 v2 : AV} {z : Int} {st : List AV} {h : AH} : X mX5_told 1 [v0, aI z, v2] st h = X mX5_told 2 [v0, aI z, v2] (aI z :: st) h := X_of dX5_told_1 rfl
theorem x_X5_told_2 {a0 : Nat} {a1 : Int} {al : List AV} {h : AH} (ho : isO h 5 a0 = true) : X mX5_told 2 al [aI a1, aR (some a0)] h = cK (E mX5_isMachine [aR (some a0), aI a1] h) fun v h2 => X mX5_told 5 al (v.toList ++ []) h2 := x_cal (as := [aR (some a0), aI a1]) (rest := []) dX5_told_2 (fun _ => rfl) cT_5_114 rfl rfl ho
theorem x_X5_told_5 {a : Int} {al st : List AV} {h : AH} : X mX5_told 5 al (aI a :: st) h = if a = 0 then X mX5_told 20 al st h else X mX5_told 8 al st h := x_eq0 dX5_told_5 rfl
theorem x_X5_told_8 {v0 v1 : AV} {z : Int} {st : List AV} {h : AH} : X mX5_told 8 [v0, v1, aI z] st h = X mX5_told 9 [v0, v1, aI z] (aI z :: st) h := X_of dX5_told_8 rfl
theorem x_X5_told_9 {a : Int} {al st : List AV} {h : AH} : X mX5_told 9 al (aI a :: st) h = X mX5_told 10 al (aJ a :: st) h := X_of dX5_told_9 rfl
theorem x_X5_told_10 {al st : List AV} {h : AH} : X mX5_told 10 al st h = X mX5_told 11 al (aJ 0 :: st) h := X_of dX5_told_10 rfl
theorem x_X5_told_11 {al st : List AV} {h : AH} : X mX5_told 11 al st h = X mX5_told 14 al (aJ 2 :: st) h := X_of dX5_told_11 rfl
theorem x_X5_told_14 {a0 : Int} {a1 : Int} {a2 : Int} {al : List AV} {h : AH} : X mX5_told 14 al [aJ a2, aJ a1, aJ a0] h = cK (E mX5_in [aJ a0, aJ a1, aJ a2] h) fun v h2 => X mX5_told 17 al (v.toList ++ []) h2 := x_cal (as := [aJ a0, aJ a1, aJ a2]) (rest := []) dX5_told_14 (fun _ => rfl) cT_5_81 rfl rfl rfl
theorem x_X5_told_17 {a : Int} {al st : List AV} {h : AH} : X mX5_told 17 al (aI a :: st) h = if ¬ a = 0 then X mX5_told 24 al st h else X mX5_told 20 al st h := x_ne0 dX5_told_17 rfl
theorem x_X5_told_20 {al st : List AV} {h : AH} : X mX5_told 20 al st h = X mX5_told 21 al (aI (-1) :: st) h := X_of dX5_told_20 rfl
theorem x_X5_told_21 {al st : List AV} {h : AH} : X mX5_told 21 al st h = X mX5_told 57 al st h := X_of dX5_told_21 rfl
theorem x_X5_told_24 {v0 v1 : AV} {z : Int} {st : List AV} {h : AH} : X mX5_told 24 [v0, v1, aI z] st h = X mX5_told 25 [v0, v1, aI z] (aI z :: st) h := X_of dX5_told_24 rfl
theorem x_X5_told_25 {a : Int} {al st : List AV} {h : AH} : X mX5_told 25 al (aI a :: st) h = if ¬ a = 0 then X mX5_told 37 al st h else X mX5_told 28 al st h := x_ne0 dX5_told_25 rfl
theorem x_X5_told_28 {v1 v2 : AV} {z : Option Nat} {st : List AV} {h : AH} : X mX5_told 28 [aR z, v1, v2] st h = X mX5_told 29 [aR z, v1, v2] (aR z :: st) h := X_of dX5_told_28 rfl
theorem x_X5_told_29 {a : Nat} {al st : List AV} {h : AH} : X mX5_told 29 al (aR (some a) :: st) h = gK (rd h 5 a 11) fun v => X mX5_told 32 al (v :: st) h := x_get dX5_told_29 fT_5_26
theorem x_X5_told_32 {v0 v2 : AV} {z : Int} {st : List AV} {h : AH} : X mX5_told 32 [v0, aI z, v2] st h = X mX5_told 33 [v0, aI z, v2] (aI z :: st) h := X_of dX5_told_32 rfl
theorem x_X5_told_33 {a : Nat} {i : Int} {al st : List AV} {h : AH} : X mX5_told 33 al (aI i :: aR (some a) :: st) h = if 0 ≤ i then gK (rd h 10 a i.toNat) (fun v => X mX5_told 34 al (v :: st) h) else none := x_aldI dX5_told_33
theorem x_X5_told_34 {al st : List AV} {h : AH} : X mX5_told 34 al st h = X mX5_told 57 al st h := X_of dX5_told_34 rfl
theorem x_X5_told_37 {v0 v1 : AV} {z : Int} {st : List AV} {h : AH} : X mX5_told 37 [v0, v1, aI z] st h = X mX5_told 38 [v0, v1, aI z] (aI z :: st) h := X_of dX5_told_37 rfl
theorem x_X5_told_38 {al st : List AV} {h : AH} : X mX5_told 38 al st h = X mX5_told 39 al (aI 1 :: st) h := X_of dX5_told_38 rfl
theorem x_X5_told_39 {a b : Int} {al st : List AV} {h : AH} : X mX5_told 39 al (aI b :: aI a :: st) h = if ¬ a = b then X mX5_told 51 al st h else X mX5_told 42 al st h := x_neC dX5_told_39 rfl
theorem x_X5_told_42 {v1 v2 : AV} {z : Option Nat} {st : List AV} {h : AH} : X mX5_told 42 [aR z, v1, v2] st h = X mX5_told 43 [aR z, v1, v2] (aR z :: st) h := X_of dX5_told_42 rfl
theorem x_X5_told_43 {a : Nat} {al st : List AV} {h : AH} : X mX5_told 43 al (aR (some a) :: st) h = gK (rd h 5 a 12) fun v => X mX5_told 46 al (v :: st) h := x_get dX5_told_43 fT_5_29
theorem x_X5_told_46 {v0 v2 : AV} {z : Int} {st : List AV} {h : AH} : X mX5_told 46 [v0, aI z, v2] st h = X mX5_told 47 [v0, aI z, v2] (aI z :: st) h := X_of dX5_told_46 rfl
theorem x_X5_told_47 {a : Nat} {i : Int} {al st : List AV} {h : AH} : X mX5_told 47 al (aI i :: aR (some a) :: st) h = if 0 ≤ i then gK (rd h 10 a i.toNat) (fun v => X mX5_told 48 al (v :: st) h) else none := x_aldI dX5_told_47
theorem x_X5_told_48 {al st : List AV} {h : AH} : X mX5_told 48 al st h = X mX5_told 57 al st h := X_of dX5_told_48 rfl
theorem x_X5_told_51 {v1 v2 : AV} {z : Option Nat} {st : List AV} {h : AH} : X mX5_told 51 [aR z, v1, v2] st h = X mX5_told 52 [aR z, v1, v2] (aR z :: st) h := X_of dX5_told_51 rfl
theorem x_X5_told_52 {a : Nat} {al st : List AV} {h : AH} : X mX5_told 52 al (aR (some a) :: st) h = gK (rd h 5 a 13) fun v => X mX5_told 55 al (v :: st) h := x_get dX5_told_52 fT_5_32
theorem x_X5_told_55 {v0 v2 : AV} {z : Int} {st : List AV} {h : AH} : X mX5_told 55 [v0, aI z, v2] st h = X mX5_told 56 [v0, aI z, v2] (aI z :: st) h := X_of dX5_told_55 rfl
theorem x_X5_told_56 {a : Nat} {i : Int} {al st : List AV} {h : AH} : X mX5_told 56 al (aI i :: aR (some a) :: st) h = if 0 ≤ i then gK (rd h 10 a i.toNat) (fun v => X mX5_told 57 al (v :: st) h) else none := x_aldI dX5_told_56
theorem x_X5_told_57 {z : Int} {al : List AV} {h : AH} : X mX5_told 57 al [aI z] h = some (some (aI z), h) := X_ofR dX5_told_57 rfl
theorem e_X5_mayPay {p0 : Option Nat} {p1 : Int} {p2 : Int} {h : AH} : E mX5_mayPay [aR p0, aI p1, aI p2] h = X mX5_mayPay 0 [aR p0, aI p1, aI p2] [] h := rfl
theorem x_X5_mayPay_0 {v1 v2 : AV} {z : Option Nat} {st : List AV} {h : AH} : X mX5_mayPay 0 [aR z, v1, v2] st h = X mX5_mayPay 1 [aR z, v1, v2] (aR z :: st) h := X_of dX5_mayPay_0 rfl
theorem x_X5_mayPay_1 {a : Nat} {al st : List AV} {h : AH} : X mX5_mayPay 1 al (aR (some a) :: st) h = gK (rd h 5 a 11) fun v => X mX5_mayPay 4 al (v :: st) h := x_get dX5_mayPay_1 fT_5_26
theorem x_X5_mayPay_4 {v0 v2 : AV} {z : Int} {st : List AV} {h : AH} : X mX5_mayPay 4 [v0, aI z, v2] st h = X mX5_mayPay 5 [v0, aI z, v2] (aI z :: st) h := X_of dX5_mayPay_4 rfl
theorem x_X5_mayPay_5 {a : Nat} {i : Int} {al st : List AV} {h : AH} : X mX5_mayPay 5 al (aI i :: aR (some a) :: st) h = if 0 ≤ i then gK (rd h 10 a i.toNat) (fun v => X mX5_mayPay 6 al (v :: st) h) else none := x_aldI dX5_mayPay_5
theorem x_X5_mayPay_6 {al st : List AV} {h : AH} : X mX5_mayPay 6 al st h = X mX5_mayPay 7 al (aI 3 :: st) h := X_of dX5_mayPay_6 rfl
theorem x_X5_mayPay_7 {a b : Int} {al st : List AV} {h : AH} : X mX5_mayPay 7 al (aI b :: aI a :: st) h = if ¬ a = b then X mX5_mayPay 22 al st h else X mX5_mayPay 10 al st h := x_neC dX5_mayPay_7 rfl
theorem x_X5_mayPay_10 {v0 v1 : AV} {z : Int} {st : List AV} {h : AH} : X mX5_mayPay 10 [v0, v1, aI z] st h = X mX5_mayPay 11 [v0, v1, aI z] (aI z :: st) h := X_of dX5_mayPay_10 rfl
theorem x_X5_mayPay_11 {v1 v2 : AV} {z : Option Nat} {st : List AV} {h : AH} : X mX5_mayPay 11 [aR z, v1, v2] st h = X mX5_mayPay 12 [aR z, v1, v2] (aR z :: st) h := X_of dX5_mayPay_11 rfl
theorem x_X5_mayPay_12 {a : Nat} {al st : List AV} {h : AH} : X mX5_mayPay 12 al (aR (some a) :: st) h = gK (rd h 5 a 12) fun v => X mX5_mayPay 15 al (v :: st) h := x_get dX5_mayPay_12 fT_5_29
theorem x_X5_mayPay_15 {v0 v2 : AV} {z : Int} {st : List AV} {h : AH} : X mX5_mayPay 15 [v0, aI z, v2] st h = X mX5_mayPay 16 [v0, aI z, v2] (aI z :: st) h := X_of dX5_mayPay_15 rfl
theorem x_X5_mayPay_16 {a : Nat} {i : Int} {al st : List AV} {h : AH} : X mX5_mayPay 16 al (aI i :: aR (some a) :: st) h = if 0 ≤ i then gK (rd h 10 a i.toNat) (fun v => X mX5_mayPay 17 al (v :: st) h) else none := x_aldI dX5_mayPay_16
theorem x_X5_mayPay_17 {al st : List AV} {h : AH} : X mX5_mayPay 17 al st h = X mX5_mayPay 18 al (aI 2 :: st) h := X_of dX5_mayPay_17 rfl
theorem x_X5_mayPay_18 {a b : Int} {al st : List AV} {h : AH} : X mX5_mayPay 18 al (aI b :: aI a :: st) h = X mX5_mayPay 19 al (aI (w32 (a - b)) :: st) h := X_of dX5_mayPay_18 rfl
theorem x_X5_mayPay_19 {a b : Int} {al st : List AV} {h : AH} : X mX5_mayPay 19 al (aI b :: aI a :: st) h = if ¬ a = b then X mX5_mayPay 26 al st h else X mX5_mayPay 22 al st h := x_neC dX5_mayPay_19 rfl
theorem x_X5_mayPay_22 {al st : List AV} {h : AH} : X mX5_mayPay 22 al st h = X mX5_mayPay 23 al (aI 1 :: st) h := X_of dX5_mayPay_22 rfl
theorem x_X5_mayPay_23 {al st : List AV} {h : AH} : X mX5_mayPay 23 al st h = X mX5_mayPay 27 al st h := X_of dX5_mayPay_23 rfl
theorem x_X5_mayPay_26 {al st : List AV} {h : AH} : X mX5_mayPay 26 al st h = X mX5_mayPay 27 al (aI 0 :: st) h := X_of dX5_mayPay_26 rfl
theorem x_X5_mayPay_27_0 {al : List AV} {h : AH} : X mX5_mayPay 27 al [aI 0] h = some (some (aI 0), h) := X_ofR dX5_mayPay_27 rfl
theorem x_X5_mayPay_27_1 {al : List AV} {h : AH} : X mX5_mayPay 27 al [aI 1] h = some (some (aI 1), h) := X_ofR dX5_mayPay_27 rfl
theorem x_X5_mayPay_27 {z : Int} {al : List AV} {h : AH} (hz : z = 0 ∨ z = 1) : X mX5_mayPay 27 al [aI z] h = some (some (aI z), h) := by
  rcases hz with rfl | rfl
  · exact x_X5_mayPay_27_0
  · exact x_X5_mayPay_27_1
theorem e_X5_pay {p0 : Option Nat} {p1 : Int} {p2 : Int} {p3 : Int} {h : AH} : E mX5_pay [aR p0, aI p1, aI p2, aI p3] h = X mX5_pay 0 [aR p0, aI p1, aI p2, aI p3, aU] [] h := rfl
theorem x_X5_pay_0 {v1 v2 v3 v4 : AV} {z : Option Nat} {st : List AV} {h : AH} : X mX5_pay 0 [aR z, v1, v2, v3, v4] st h = X mX5_pay 1 [aR z, v1, v2, v3, v4] (aR z :: st) h := X_of dX5_pay_0 rfl
theorem x_X5_pay_1 {v0 v2 v3 v4 : AV} {z : Int} {st : List AV} {h : AH} : X mX5_pay 1 [v0, aI z, v2, v3, v4] st h = X mX5_pay 2 [v0, aI z, v2, v3, v4] (aI z :: st) h := X_of dX5_pay_1 rfl
theorem x_X5_pay_2 {a0 : Nat} {a1 : Int} {al : List AV} {h : AH} (ho : isO h 5 a0 = true) : X mX5_pay 2 al [aI a1, aR (some a0)] h = cK (E mX5_isMachine [aR (some a0), aI a1] h) fun v h2 => X mX5_pay 5 al (v.toList ++ []) h2 := x_cal (as := [aR (some a0), aI a1]) (rest := []) dX5_pay_2 (fun _ => rfl) cT_5_114 rfl rfl ho
theorem x_X5_pay_5 {a : Int} {al st : List AV} {h : AH} : X mX5_pay 5 al (aI a :: st) h = if a = 0 then X mX5_pay 22 al st h else X mX5_pay 8 al st h := x_eq0 dX5_pay_5 rfl
theorem x_X5_pay_8 {v0 v1 v2 v4 : AV} {z : Int} {st : List AV} {h : AH} : X mX5_pay 8 [v0, v1, v2, aI z, v4] st h = X mX5_pay 9 [v0, v1, v2, aI z, v4] (aI z :: st) h := X_of dX5_pay_8 rfl
theorem x_X5_pay_9 {a : Int} {al st : List AV} {h : AH} : X mX5_pay 9 al (aI a :: st) h = X mX5_pay 10 al (aJ a :: st) h := X_of dX5_pay_9 rfl
theorem x_X5_pay_10 {al st : List AV} {h : AH} : X mX5_pay 10 al st h = X mX5_pay 13 al (aJ (-50) :: st) h := X_of dX5_pay_10 rfl
theorem x_X5_pay_13 {al st : List AV} {h : AH} : X mX5_pay 13 al st h = X mX5_pay 16 al (aJ 50 :: st) h := X_of dX5_pay_13 rfl
theorem x_X5_pay_16 {a0 : Int} {a1 : Int} {a2 : Int} {al : List AV} {h : AH} : X mX5_pay 16 al [aJ a2, aJ a1, aJ a0] h = cK (E mX5_in [aJ a0, aJ a1, aJ a2] h) fun v h2 => X mX5_pay 19 al (v.toList ++ []) h2 := x_cal (as := [aJ a0, aJ a1, aJ a2]) (rest := []) dX5_pay_16 (fun _ => rfl) cT_5_81 rfl rfl rfl
theorem x_X5_pay_19 {a : Int} {al st : List AV} {h : AH} : X mX5_pay 19 al (aI a :: st) h = if ¬ a = 0 then X mX5_pay 24 al st h else X mX5_pay 22 al st h := x_ne0 dX5_pay_19 rfl
theorem x_X5_pay_22 {al st : List AV} {h : AH} : X mX5_pay 22 al st h = X mX5_pay 23 al (aI (-1) :: st) h := X_of dX5_pay_22 rfl
theorem x_X5_pay_23 {z : Int} {al : List AV} {h : AH} : X mX5_pay 23 al [aI z] h = some (some (aI z), h) := X_ofR dX5_pay_23 rfl
theorem x_X5_pay_24 {v1 v2 v3 v4 : AV} {z : Option Nat} {st : List AV} {h : AH} : X mX5_pay 24 [aR z, v1, v2, v3, v4] st h = X mX5_pay 25 [aR z, v1, v2, v3, v4] (aR z :: st) h := X_of dX5_pay_24 rfl
theorem x_X5_pay_25 {v0 v2 v3 v4 : AV} {z : Int} {st : List AV} {h : AH} : X mX5_pay 25 [v0, aI z, v2, v3, v4] st h = X mX5_pay 26 [v0, aI z, v2, v3, v4] (aI z :: st) h := X_of dX5_pay_25 rfl
theorem x_X5_pay_26 {v0 v1 v3 v4 : AV} {z : Int} {st : List AV} {h : AH} : X mX5_pay 26 [v0, v1, aI z, v3, v4] st h = X mX5_pay 27 [v0, v1, aI z, v3, v4] (aI z :: st) h := X_of dX5_pay_26 rfl
theorem x_X5_pay_27 {a0 : Nat} {a1 : Int} {a2 : Int} {al : List AV} {h : AH} (ho : isO h 5 a0 = true) : X mX5_pay 27 al [aI a2, aI a1, aR (some a0)] h = cK (E mX5_isState [aR (some a0), aI a1, aI a2] h) fun v h2 => X mX5_pay 30 al (v.toList ++ []) h2 := x_cal (as := [aR (some a0), aI a1, aI a2]) (rest := []) dX5_pay_27 (fun _ => rfl) cT_5_121 rfl rfl ho
theorem x_X5_pay_30 {a : Int} {al st : List AV} {h : AH} : X mX5_pay 30 al (aI a :: st) h = if ¬ a = 0 then X mX5_pay 39 al st h else X mX5_pay 33 al st h := x_ne0 dX5_pay_30 rfl
theorem x_X5_pay_33 {v1 v2 v3 v4 : AV} {z : Option Nat} {st : List AV} {h : AH} : X mX5_pay 33 [aR z, v1, v2, v3, v4] st h = X mX5_pay 34 [aR z, v1, v2, v3, v4] (aR z :: st) h := X_of dX5_pay_33 rfl
theorem x_X5_pay_34 {al st : List AV} {h : AH} : X mX5_pay 34 al st h = X mX5_pay 35 al (aI 2 :: st) h := X_of dX5_pay_34 rfl
theorem x_X5_pay_35 {a0 : Nat} {a1 : Int} {al : List AV} {h : AH} (ho : isO h 5 a0 = true) : X mX5_pay 35 al [aI a1, aR (some a0)] h = cK (E mX5_meets [aR (some a0), aI a1] h) fun v h2 => X mX5_pay 38 al (v.toList ++ []) h2 := x_cal (as := [aR (some a0), aI a1]) (rest := []) dX5_pay_35 (fun _ => rfl) cT_5_96 rfl rfl ho
theorem x_X5_pay_38 {z : Int} {al : List AV} {h : AH} : X mX5_pay 38 al [aI z] h = some (some (aI z), h) := X_ofR dX5_pay_38 rfl
theorem x_X5_pay_39 {v1 v2 v3 v4 : AV} {z : Option Nat} {st : List AV} {h : AH} : X mX5_pay 39 [aR z, v1, v2, v3, v4] st h = X mX5_pay 40 [aR z, v1, v2, v3, v4] (aR z :: st) h := X_of dX5_pay_39 rfl
theorem x_X5_pay_40 {v0 v2 v3 v4 : AV} {z : Int} {st : List AV} {h : AH} : X mX5_pay 40 [v0, aI z, v2, v3, v4] st h = X mX5_pay 41 [v0, aI z, v2, v3, v4] (aI z :: st) h := X_of dX5_pay_40 rfl
theorem x_X5_pay_41 {v0 v1 v3 v4 : AV} {z : Int} {st : List AV} {h : AH} : X mX5_pay 41 [v0, v1, aI z, v3, v4] st h = X mX5_pay 42 [v0, v1, aI z, v3, v4] (aI z :: st) h := X_of dX5_pay_41 rfl
theorem x_X5_pay_42 {a0 : Nat} {a1 : Int} {a2 : Int} {al : List AV} {h : AH} (ho : isO h 5 a0 = true) : X mX5_pay 42 al [aI a2, aI a1, aR (some a0)] h = cK (E mX5_mayPay [aR (some a0), aI a1, aI a2] h) fun v h2 => X mX5_pay 45 al (v.toList ++ []) h2 := x_cal (as := [aR (some a0), aI a1, aI a2]) (rest := []) dX5_pay_42 (fun _ => rfl) cT_5_125 rfl rfl ho
theorem x_X5_pay_45 {a : Int} {al st : List AV} {h : AH} : X mX5_pay 45 al (aI a :: st) h = if ¬ a = 0 then X mX5_pay 51 al st h else X mX5_pay 48 al st h := x_ne0 dX5_pay_45 rfl
theorem x_X5_pay_48 {al st : List AV} {h : AH} : X mX5_pay 48 al st h = X mX5_pay 50 al (aI (-4) :: st) h := X_of dX5_pay_48 rfl
theorem x_X5_pay_50 {z : Int} {al : List AV} {h : AH} : X mX5_pay 50 al [aI z] h = some (some (aI z), h) := X_ofR dX5_pay_50 rfl
theorem x_X5_pay_51 {v1 v2 v3 v4 : AV} {z : Option Nat} {st : List AV} {h : AH} : X mX5_pay 51 [aR z, v1, v2, v3, v4] st h = X mX5_pay 52 [aR z, v1, v2, v3, v4] (aR z :: st) h := X_of dX5_pay_51 rfl
theorem x_X5_pay_52 {a : Nat} {al st : List AV} {h : AH} : X mX5_pay 52 al (aR (some a) :: st) h = gK (rd h 5 a 14) fun v => X mX5_pay 55 al (v :: st) h := x_get dX5_pay_52 fT_5_35
theorem x_X5_pay_55 {al st : List AV} {h : AH} : X mX5_pay 55 al st h = X mX5_pay 56 al (aI 5 :: st) h := X_of dX5_pay_55 rfl
theorem x_X5_pay_56 {v0 v2 v3 v4 : AV} {z : Int} {st : List AV} {h : AH} : X mX5_pay 56 [v0, aI z, v2, v3, v4] st h = X mX5_pay 57 [v0, aI z, v2, v3, v4] (aI z :: st) h := X_of dX5_pay_56 rfl
theorem x_X5_pay_57 {a b : Int} {al st : List AV} {h : AH} : X mX5_pay 57 al (aI b :: aI a :: st) h = X mX5_pay 58 al (aI (w32 (a * b)) :: st) h := X_of dX5_pay_57 rfl
theorem x_X5_pay_58 {v0 v1 v3 v4 : AV} {z : Int} {st : List AV} {h : AH} : X mX5_pay 58 [v0, v1, aI z, v3, v4] st h = X mX5_pay 59 [v0, v1, aI z, v3, v4] (aI z :: st) h := X_of dX5_pay_58 rfl
theorem x_X5_pay_59 {a b : Int} {al st : List AV} {h : AH} : X mX5_pay 59 al (aI b :: aI a :: st) h = X mX5_pay 60 al (aI (w32 (a + b)) :: st) h := X_of dX5_pay_59 rfl
theorem x_X5_pay_60 {a : Nat} {i : Int} {al st : List AV} {h : AH} : X mX5_pay 60 al (aI i :: aR (some a) :: st) h = if 0 ≤ i then gK (rd h 10 a i.toNat) (fun v => X mX5_pay 61 al (v :: st) h) else none := x_aldI dX5_pay_60
theorem x_X5_pay_61 {v0 v1 v2 v4 : AV} {y : Int} {z : Int} {st : List AV} {h : AH} : X mX5_pay 61 [v0, v1, v2, aI y, v4] (aI z :: st) h = X mX5_pay 63 [v0, v1, v2, aI y, aI z] st h := X_of dX5_pay_61 rfl
theorem x_X5_pay_63 {v1 v2 v3 v4 : AV} {z : Option Nat} {st : List AV} {h : AH} : X mX5_pay 63 [aR z, v1, v2, v3, v4] st h = X mX5_pay 64 [aR z, v1, v2, v3, v4] (aR z :: st) h := X_of dX5_pay_63 rfl
theorem x_X5_pay_64 {a : Nat} {al st : List AV} {h : AH} : X mX5_pay 64 al (aR (some a) :: st) h = gK (rd h 5 a 14) fun v => X mX5_pay 67 al (v :: st) h := x_get dX5_pay_64 fT_5_35
theorem x_X5_pay_67 {al st : List AV} {h : AH} : X mX5_pay 67 al st h = X mX5_pay 68 al (aI 5 :: st) h := X_of dX5_pay_67 rfl
theorem x_X5_pay_68 {v0 v2 v3 v4 : AV} {z : Int} {st : List AV} {h : AH} : X mX5_pay 68 [v0, aI z, v2, v3, v4] st h = X mX5_pay 69 [v0, aI z, v2, v3, v4] (aI z :: st) h := X_of dX5_pay_68 rfl
theorem x_X5_pay_69 {a b : Int} {al st : List AV} {h : AH} : X mX5_pay 69 al (aI b :: aI a :: st) h = X mX5_pay 70 al (aI (w32 (a * b)) :: st) h := X_of dX5_pay_69 rfl
theorem x_X5_pay_70 {v0 v1 v3 v4 : AV} {z : Int} {st : List AV} {h : AH} : X mX5_pay 70 [v0, v1, aI z, v3, v4] st h = X mX5_pay 71 [v0, v1, aI z, v3, v4] (aI z :: st) h := X_of dX5_pay_70 rfl
theorem x_X5_pay_71 {a b : Int} {al st : List AV} {h : AH} : X mX5_pay 71 al (aI b :: aI a :: st) h = X mX5_pay 72 al (aI (w32 (a + b)) :: st) h := X_of dX5_pay_71 rfl
theorem x_X5_pay_72 {v0 v1 v2 v4 : AV} {z : Int} {st : List AV} {h : AH} : X mX5_pay 72 [v0, v1, v2, aI z, v4] st h = X mX5_pay 73 [v0, v1, v2, aI z, v4] (aI z :: st) h := X_of dX5_pay_72 rfl
theorem x_X5_pay_73 {a : Nat} {i z : Int} {al st : List AV} {h : AH} : X mX5_pay 73 al (aI z :: aI i :: aR (some a) :: st) h = if 0 ≤ i then pK (rd h 10 a i.toNat) (X mX5_pay 74 al st (wr h 10 a i.toNat (aI z))) else none := x_astI dX5_pay_73
theorem x_X5_pay_74 {al st : List AV} {h : AH} : X mX5_pay 74 al st h = X mX5_pay 77 al (aI 1000 :: st) h := X_of dX5_pay_74 rfl
theorem x_X5_pay_77 {v0 v1 v2 v3 : AV} {z : Int} {st : List AV} {h : AH} : X mX5_pay 77 [v0, v1, v2, v3, aI z] st h = X mX5_pay 79 [v0, v1, v2, v3, aI z] (aI z :: st) h := X_of dX5_pay_77 rfl
theorem x_X5_pay_79 {a b : Int} {al st : List AV} {h : AH} : X mX5_pay 79 al (aI b :: aI a :: st) h = X mX5_pay 80 al (aI (w32 (a + b)) :: st) h := X_of dX5_pay_79 rfl
theorem x_X5_pay_80 {z : Int} {al : List AV} {h : AH} : X mX5_pay 80 al [aI z] h = some (some (aI z), h) := X_ofR dX5_pay_80 rfl
theorem e_X5_sum {p0 : Option Nat} {p1 : Int} {p2 : Int} {h : AH} : E mX5_sum [aR p0, aI p1, aI p2] h = X mX5_sum 0 [aR p0, aI p1, aI p2, aU, aU] [] h := rfl
theorem x_X5_sum_0 {al st : List AV} {h : AH} : X mX5_sum 0 al st h = X mX5_sum 1 al (aI 0 :: st) h := X_of dX5_sum_0 rfl
theorem x_X5_sum_1 {v0 v1 v3 v4 : AV} {y : Int} {z : Int} {st : List AV} {h : AH} : X mX5_sum 1 [v0, v1, aI y, v3, v4] (aI z :: st) h = X mX5_sum 2 [v0, v1, aI y, aI z, v4] st h := X_of dX5_sum_1 rfl
theorem x_X5_sum_2 {al st : List AV} {h : AH} : X mX5_sum 2 al st h = X mX5_sum 3 al (aI 0 :: st) h := X_of dX5_sum_2 rfl
theorem x_X5_sum_3 {v0 v1 v2 v4 : AV} {y : Int} {z : Int} {st : List AV} {h : AH} : X mX5_sum 3 [v0, v1, v2, aI y, v4] (aI z :: st) h = X mX5_sum 5 [v0, v1, v2, aI y, aI z] st h := X_of dX5_sum_3 rfl
theorem x_X5_sum_5 {v0 v1 v2 v3 : AV} {z : Int} {st : List AV} {h : AH} : X mX5_sum 5 [v0, v1, v2, v3, aI z] st h = X mX5_sum 7 [v0, v1, v2, v3, aI z] (aI z :: st) h := X_of dX5_sum_5 rfl
theorem x_X5_sum_7 {al st : List AV} {h : AH} : X mX5_sum 7 al st h = X mX5_sum 8 al (aI 5 :: st) h := X_of dX5_sum_7 rfl
theorem x_X5_sum_8 {a b : Int} {al st : List AV} {h : AH} : X mX5_sum 8 al (aI b :: aI a :: st) h = if b ≤ a then X mX5_sum 36 al st h else X mX5_sum 11 al st h := x_geC dX5_sum_8 rfl
theorem x_X5_sum_11 {v0 v1 v2 v4 : AV} {z : Int} {st : List AV} {h : AH} : X mX5_sum 11 [v0, v1, v2, aI z, v4] st h = X mX5_sum 12 [v0, v1, v2, aI z, v4] (aI z :: st) h := X_of dX5_sum_11 rfl
theorem x_X5_sum_12 {v1 v2 v3 v4 : AV} {z : Option Nat} {st : List AV} {h : AH} : X mX5_sum 12 [aR z, v1, v2, v3, v4] st h = X mX5_sum 13 [aR z, v1, v2, v3, v4] (aR z :: st) h := X_of dX5_sum_12 rfl
theorem x_X5_sum_13 {a : Nat} {al st : List AV} {h : AH} : X mX5_sum 13 al (aR (some a) :: st) h = gK (rd h 5 a 15) fun v => X mX5_sum 16 al (v :: st) h := x_get dX5_sum_13 fT_5_38
theorem x_X5_sum_16 {al st : List AV} {h : AH} : X mX5_sum 16 al st h = X mX5_sum 18 al (aI 25 :: st) h := X_of dX5_sum_16 rfl
theorem x_X5_sum_18 {v0 v2 v3 v4 : AV} {z : Int} {st : List AV} {h : AH} : X mX5_sum 18 [v0, aI z, v2, v3, v4] st h = X mX5_sum 19 [v0, aI z, v2, v3, v4] (aI z :: st) h := X_of dX5_sum_18 rfl
theorem x_X5_sum_19 {a b : Int} {al st : List AV} {h : AH} : X mX5_sum 19 al (aI b :: aI a :: st) h = X mX5_sum 20 al (aI (w32 (a * b)) :: st) h := X_of dX5_sum_19 rfl
theorem x_X5_sum_20 {al st : List AV} {h : AH} : X mX5_sum 20 al st h = X mX5_sum 21 al (aI 5 :: st) h := X_of dX5_sum_20 rfl
theorem x_X5_sum_21 {v0 v1 v3 v4 : AV} {z : Int} {st : List AV} {h : AH} : X mX5_sum 21 [v0, v1, aI z, v3, v4] st h = X mX5_sum 22 [v0, v1, aI z, v3, v4] (aI z :: st) h := X_of dX5_sum_21 rfl
theorem x_X5_sum_22 {a b : Int} {al st : List AV} {h : AH} : X mX5_sum 22 al (aI b :: aI a :: st) h = X mX5_sum 23 al (aI (w32 (a * b)) :: st) h := X_of dX5_sum_22 rfl
theorem x_X5_sum_23 {a b : Int} {al st : List AV} {h : AH} : X mX5_sum 23 al (aI b :: aI a :: st) h = X mX5_sum 24 al (aI (w32 (a + b)) :: st) h := X_of dX5_sum_23 rfl
theorem x_X5_sum_24 {v0 v1 v2 v3 : AV} {z : Int} {st : List AV} {h : AH} : X mX5_sum 24 [v0, v1, v2, v3, aI z] st h = X mX5_sum 26 [v0, v1, v2, v3, aI z] (aI z :: st) h := X_of dX5_sum_24 rfl
theorem x_X5_sum_26 {a b : Int} {al st : List AV} {h : AH} : X mX5_sum 26 al (aI b :: aI a :: st) h = X mX5_sum 27 al (aI (w32 (a + b)) :: st) h := X_of dX5_sum_26 rfl
theorem x_X5_sum_27 {a : Nat} {i : Int} {al st : List AV} {h : AH} : X mX5_sum 27 al (aI i :: aR (some a) :: st) h = if 0 ≤ i then gK (rd h 10 a i.toNat) (fun v => X mX5_sum 28 al (v :: st) h) else none := x_aldI dX5_sum_27
theorem x_X5_sum_28 {a b : Int} {al st : List AV} {h : AH} : X mX5_sum 28 al (aI b :: aI a :: st) h = X mX5_sum 29 al (aI (w32 (a + b)) :: st) h := X_of dX5_sum_28 rfl
theorem x_X5_sum_29 {v0 v1 v3 v4 : AV} {y : Int} {z : Int} {st : List AV} {h : AH} : X mX5_sum 29 [v0, v1, aI y, v3, v4] (aI z :: st) h = X mX5_sum 30 [v0, v1, aI y, aI z, v4] st h := X_of dX5_sum_29 rfl
theorem x_X5_sum_30 {v0 v1 v2 : AV} {y : Int} {z : Int} {st : List AV} {h : AH} : X mX5_sum 30 [v0, v1, v2, aI y, aI z] st h = X mX5_sum 33 [v0, v1, v2, aI y, aI (w32 (z + 1))] st h := X_of dX5_sum_30 rfl
theorem x_X5_sum_33 {al st : List AV} {h : AH} : X mX5_sum 33 al st h = X mX5_sum 5 al st h := X_of dX5_sum_33 rfl
theorem x_X5_sum_36 {v0 v1 v2 v4 : AV} {z : Int} {st : List AV} {h : AH} : X mX5_sum 36 [v0, v1, v2, aI z, v4] st h = X mX5_sum 37 [v0, v1, v2, aI z, v4] (aI z :: st) h := X_of dX5_sum_36 rfl
theorem x_X5_sum_37 {z : Int} {al : List AV} {h : AH} : X mX5_sum 37 al [aI z] h = some (some (aI z), h) := X_ofR dX5_sum_37 rfl
theorem e_X5_chance {p0 : Option Nat} {p1 : Int} {p2 : Int} {p3 : Int} {p4 : Int} {h : AH} : E mX5_chance [aR p0, aI p1, aI p2, aI p3, aI p4] h = X mX5_chance 0 [aR p0, aI p1, aI p2, aI p3, aI p4, aU, aU] [] h := rfl
theorem x_X5_chance_0 {v1 v2 v3 v4 v5 v6 : AV} {z : Option Nat} {st : List AV} {h : AH} : X mX5_chance 0 [aR z, v1, v2, v3, v4, v5, v6] st h = X mX5_chance 1 [aR z, v1, v2, v3, v4, v5, v6] (aR z :: st) h := X_of dX5_chance_0 rfl
theorem x_X5_chance_1 {v0 v2 v3 v4 v5 v6 : AV} {z : Int} {st : List AV} {h : AH} : X mX5_chance 1 [v0, aI z, v2, v3, v4, v5, v6] st h = X mX5_chance 2 [v0, aI z, v2, v3, v4, v5, v6] (aI z :: st) h := X_of dX5_chance_1 rfl
theorem x_X5_chance_2 {a0 : Nat} {a1 : Int} {al : List AV} {h : AH} (ho : isO h 5 a0 = true) : X mX5_chance 2 al [aI a1, aR (some a0)] h = cK (E mX5_isMachine [aR (some a0), aI a1] h) fun v h2 => X mX5_chance 5 al (v.toList ++ []) h2 := x_cal (as := [aR (some a0), aI a1]) (rest := []) dX5_chance_2 (fun _ => rfl) cT_5_114 rfl rfl ho
theorem x_X5_chance_5 {a : Int} {al st : List AV} {h : AH} : X mX5_chance 5 al (aI a :: st) h = if a = 0 then X mX5_chance 21 al st h else X mX5_chance 8 al st h := x_eq0 dX5_chance_5 rfl
theorem x_X5_chance_8 {v0 v1 v2 v3 v5 v6 : AV} {z : Int} {st : List AV} {h : AH} : X mX5_chance 8 [v0, v1, v2, v3, aI z, v5, v6] st h = X mX5_chance 10 [v0, v1, v2, v3, aI z, v5, v6] (aI z :: st) h := X_of dX5_chance_8 rfl
theorem x_X5_chance_10 {a : Int} {al st : List AV} {h : AH} : X mX5_chance 10 al (aI a :: st) h = X mX5_chance 11 al (aJ a :: st) h := X_of dX5_chance_10 rfl
theorem x_X5_chance_11 {al st : List AV} {h : AH} : X mX5_chance 11 al st h = X mX5_chance 12 al (aJ 0 :: st) h := X_of dX5_chance_11 rfl
theorem x_X5_chance_12 {al st : List AV} {h : AH} : X mX5_chance 12 al st h = X mX5_chance 15 al (aJ 10 :: st) h := X_of dX5_chance_12 rfl
theorem x_X5_chance_15 {a0 : Int} {a1 : Int} {a2 : Int} {al : List AV} {h : AH} : X mX5_chance 15 al [aJ a2, aJ a1, aJ a0] h = cK (E mX5_in [aJ a0, aJ a1, aJ a2] h) fun v h2 => X mX5_chance 18 al (v.toList ++ []) h2 := x_cal (as := [aJ a0, aJ a1, aJ a2]) (rest := []) dX5_chance_15 (fun _ => rfl) cT_5_81 rfl rfl rfl
theorem x_X5_chance_18 {a : Int} {al st : List AV} {h : AH} : X mX5_chance 18 al (aI a :: st) h = if ¬ a = 0 then X mX5_chance 23 al st h else X mX5_chance 21 al st h := x_ne0 dX5_chance_18 rfl
theorem x_X5_chance_21 {al st : List AV} {h : AH} : X mX5_chance 21 al st h = X mX5_chance 22 al (aI (-1) :: st) h := X_of dX5_chance_21 rfl
theorem x_X5_chance_22 {z : Int} {al : List AV} {h : AH} : X mX5_chance 22 al [aI z] h = some (some (aI z), h) := X_ofR dX5_chance_22 rfl
theorem x_X5_chance_23 {v1 v2 v3 v4 v5 v6 : AV} {z : Option Nat} {st : List AV} {h : AH} : X mX5_chance 23 [aR z, v1, v2, v3, v4, v5, v6] st h = X mX5_chance 24 [aR z, v1, v2, v3, v4, v5, v6] (aR z :: st) h := X_of dX5_chance_23 rfl
theorem x_X5_chance_24 {v0 v2 v3 v4 v5 v6 : AV} {z : Int} {st : List AV} {h : AH} : X mX5_chance 24 [v0, aI z, v2, v3, v4, v5, v6] st h = X mX5_chance 25 [v0, aI z, v2, v3, v4, v5, v6] (aI z :: st) h := X_of dX5_chance_24 rfl
theorem x_X5_chance_25 {a0 : Nat} {a1 : Int} {al : List AV} {h : AH} (ho : isO h 5 a0 = true) : X mX5_chance 25 al [aI a1, aR (some a0)] h = cK (E mX5_isAgeing [aR (some a0), aI a1] h) fun v h2 => X mX5_chance 28 al (v.toList ++ []) h2 := x_cal (as := [aR (some a0), aI a1]) (rest := []) dX5_chance_25 (fun _ => rfl) cT_5_130 rfl rfl ho
theorem x_X5_chance_28 {a : Int} {al st : List AV} {h : AH} : X mX5_chance 28 al (aI a :: st) h = if a = 0 then X mX5_chance 37 al st h else X mX5_chance 31 al st h := x_eq0 dX5_chance_28 rfl
theorem x_X5_chance_31 {v1 v2 v3 v4 v5 v6 : AV} {z : Option Nat} {st : List AV} {h : AH} : X mX5_chance 31 [aR z, v1, v2, v3, v4, v5, v6] st h = X mX5_chance 32 [aR z, v1, v2, v3, v4, v5, v6] (aR z :: st) h := X_of dX5_chance_31 rfl
theorem x_X5_chance_32 {al st : List AV} {h : AH} : X mX5_chance 32 al st h = X mX5_chance 33 al (aI 3 :: st) h := X_of dX5_chance_32 rfl
theorem x_X5_chance_33 {a0 : Nat} {a1 : Int} {al : List AV} {h : AH} (ho : isO h 5 a0 = true) : X mX5_chance 33 al [aI a1, aR (some a0)] h = cK (E mX5_meets [aR (some a0), aI a1] h) fun v h2 => X mX5_chance 36 al (v.toList ++ []) h2 := x_cal (as := [aR (some a0), aI a1]) (rest := []) dX5_chance_33 (fun _ => rfl) cT_5_96 rfl rfl ho
theorem x_X5_chance_36 {z : Int} {al : List AV} {h : AH} : X mX5_chance 36 al [aI z] h = some (some (aI z), h) := X_ofR dX5_chance_36 rfl
theorem x_X5_chance_37 {v1 v2 v3 v4 v5 v6 : AV} {z : Option Nat} {st : List AV} {h : AH} : X mX5_chance 37 [aR z, v1, v2, v3, v4, v5, v6] st h = X mX5_chance 38 [aR z, v1, v2, v3, v4, v5, v6] (aR z :: st) h := X_of dX5_chance_37 rfl
theorem x_X5_chance_38 {v0 v2 v3 v4 v5 v6 : AV} {z : Int} {st : List AV} {h : AH} : X mX5_chance 38 [v0, aI z, v2, v3, v4, v5, v6] st h = X mX5_chance 39 [v0, aI z, v2, v3, v4, v5, v6] (aI z :: st) h := X_of dX5_chance_38 rfl
theorem x_X5_chance_39 {v0 v1 v3 v4 v5 v6 : AV} {z : Int} {st : List AV} {h : AH} : X mX5_chance 39 [v0, v1, aI z, v3, v4, v5, v6] st h = X mX5_chance 40 [v0, v1, aI z, v3, v4, v5, v6] (aI z :: st) h := X_of dX5_chance_39 rfl
theorem x_X5_chance_40 {a0 : Nat} {a1 : Int} {a2 : Int} {al : List AV} {h : AH} (ho : isO h 5 a0 = true) : X mX5_chance 40 al [aI a2, aI a1, aR (some a0)] h = cK (E mX5_isState [aR (some a0), aI a1, aI a2] h) fun v h2 => X mX5_chance 43 al (v.toList ++ []) h2 := x_cal (as := [aR (some a0), aI a1, aI a2]) (rest := []) dX5_chance_40 (fun _ => rfl) cT_5_121 rfl rfl ho
theorem x_X5_chance_43 {a : Int} {al st : List AV} {h : AH} : X mX5_chance 43 al (aI a :: st) h = if a = 0 then X mX5_chance 55 al st h else X mX5_chance 46 al st h := x_eq0 dX5_chance_43 rfl
theorem x_X5_chance_46 {v1 v2 v3 v4 v5 v6 : AV} {z : Option Nat} {st : List AV} {h : AH} : X mX5_chance 46 [aR z, v1, v2, v3, v4, v5, v6] st h = X mX5_chance 47 [aR z, v1, v2, v3, v4, v5, v6] (aR z :: st) h := X_of dX5_chance_46 rfl
theorem x_X5_chance_47 {v0 v2 v3 v4 v5 v6 : AV} {z : Int} {st : List AV} {h : AH} : X mX5_chance 47 [v0, aI z, v2, v3, v4, v5, v6] st h = X mX5_chance 48 [v0, aI z, v2, v3, v4, v5, v6] (aI z :: st) h := X_of dX5_chance_47 rfl
theorem x_X5_chance_48 {v0 v1 v2 v4 v5 v6 : AV} {z : Int} {st : List AV} {h : AH} : X mX5_chance 48 [v0, v1, v2, aI z, v4, v5, v6] st h = X mX5_chance 49 [v0, v1, v2, aI z, v4, v5, v6] (aI z :: st) h := X_of dX5_chance_48 rfl
theorem x_X5_chance_49 {a0 : Nat} {a1 : Int} {a2 : Int} {al : List AV} {h : AH} (ho : isO h 5 a0 = true) : X mX5_chance 49 al [aI a2, aI a1, aR (some a0)] h = cK (E mX5_isState [aR (some a0), aI a1, aI a2] h) fun v h2 => X mX5_chance 52 al (v.toList ++ []) h2 := x_cal (as := [aR (some a0), aI a1, aI a2]) (rest := []) dX5_chance_49 (fun _ => rfl) cT_5_121 rfl rfl ho
theorem x_X5_chance_52 {a : Int} {al st : List AV} {h : AH} : X mX5_chance 52 al (aI a :: st) h = if ¬ a = 0 then X mX5_chance 61 al st h else X mX5_chance 55 al st h := x_ne0 dX5_chance_52 rfl
theorem x_X5_chance_55 {v1 v2 v3 v4 v5 v6 : AV} {z : Option Nat} {st : List AV} {h : AH} : X mX5_chance 55 [aR z, v1, v2, v3, v4, v5, v6] st h = X mX5_chance 56 [aR z, v1, v2, v3, v4, v5, v6] (aR z :: st) h := X_of dX5_chance_55 rfl
theorem x_X5_chance_56 {al st : List AV} {h : AH} : X mX5_chance 56 al st h = X mX5_chance 57 al (aI 2 :: st) h := X_of dX5_chance_56 rfl
theorem x_X5_chance_57 {a0 : Nat} {a1 : Int} {al : List AV} {h : AH} (ho : isO h 5 a0 = true) : X mX5_chance 57 al [aI a1, aR (some a0)] h = cK (E mX5_meets [aR (some a0), aI a1] h) fun v h2 => X mX5_chance 60 al (v.toList ++ []) h2 := x_cal (as := [aR (some a0), aI a1]) (rest := []) dX5_chance_57 (fun _ => rfl) cT_5_96 rfl rfl ho
theorem x_X5_chance_60 {z : Int} {al : List AV} {h : AH} : X mX5_chance 60 al [aI z] h = some (some (aI z), h) := X_ofR dX5_chance_60 rfl
theorem x_X5_chance_61 {al st : List AV} {h : AH} : X mX5_chance 61 al st h = X mX5_chance 63 al (aI 25 :: st) h := X_of dX5_chance_61 rfl
theorem x_X5_chance_63 {v0 v2 v3 v4 v5 v6 : AV} {z : Int} {st : List AV} {h : AH} : X mX5_chance 63 [v0, aI z, v2, v3, v4, v5, v6] st h = X mX5_chance 64 [v0, aI z, v2, v3, v4, v5, v6] (aI z :: st) h := X_of dX5_chance_63 rfl
theorem x_X5_chance_64 {a b : Int} {al st : List AV} {h : AH} : X mX5_chance 64 al (aI b :: aI a :: st) h = X mX5_chance 65 al (aI (w32 (a * b)) :: st) h := X_of dX5_chance_64 rfl
theorem x_X5_chance_65 {al st : List AV} {h : AH} : X mX5_chance 65 al st h = X mX5_chance 66 al (aI 5 :: st) h := X_of dX5_chance_65 rfl
theorem x_X5_chance_66 {v0 v1 v3 v4 v5 v6 : AV} {z : Int} {st : List AV} {h : AH} : X mX5_chance 66 [v0, v1, aI z, v3, v4, v5, v6] st h = X mX5_chance 67 [v0, v1, aI z, v3, v4, v5, v6] (aI z :: st) h := X_of dX5_chance_66 rfl
theorem x_X5_chance_67 {a b : Int} {al st : List AV} {h : AH} : X mX5_chance 67 al (aI b :: aI a :: st) h = X mX5_chance 68 al (aI (w32 (a * b)) :: st) h := X_of dX5_chance_67 rfl
theorem x_X5_chance_68 {a b : Int} {al st : List AV} {h : AH} : X mX5_chance 68 al (aI b :: aI a :: st) h = X mX5_chance 69 al (aI (w32 (a + b)) :: st) h := X_of dX5_chance_68 rfl
theorem x_X5_chance_69 {v0 v1 v2 v4 v5 v6 : AV} {z : Int} {st : List AV} {h : AH} : X mX5_chance 69 [v0, v1, v2, aI z, v4, v5, v6] st h = X mX5_chance 70 [v0, v1, v2, aI z, v4, v5, v6] (aI z :: st) h := X_of dX5_chance_69 rfl
theorem x_X5_chance_70 {a b : Int} {al st : List AV} {h : AH} : X mX5_chance 70 al (aI b :: aI a :: st) h = X mX5_chance 71 al (aI (w32 (a + b)) :: st) h := X_of dX5_chance_70 rfl
theorem x_X5_chance_71 {v0 v1 v2 v3 v5 v6 : AV} {y : Int} {z : Int} {st : List AV} {h : AH} : X mX5_chance 71 [v0, v1, v2, v3, aI y, v5, v6] (aI z :: st) h = X mX5_chance 73 [v0, v1, v2, v3, aI y, aI z, v6] st h := X_of dX5_chance_71 rfl
theorem x_X5_chance_73 {v1 v2 v3 v4 v5 v6 : AV} {z : Option Nat} {st : List AV} {h : AH} : X mX5_chance 73 [aR z, v1, v2, v3, v4, v5, v6] st h = X mX5_chance 74 [aR z, v1, v2, v3, v4, v5, v6] (aR z :: st) h := X_of dX5_chance_73 rfl
theorem x_X5_chance_74 {a : Nat} {al st : List AV} {h : AH} : X mX5_chance 74 al (aR (some a) :: st) h = gK (rd h 5 a 15) fun v => X mX5_chance 77 al (v :: st) h := x_get dX5_chance_74 fT_5_38
theorem x_X5_chance_77 {v0 v1 v2 v3 v4 v6 : AV} {z : Int} {st : List AV} {h : AH} : X mX5_chance 77 [v0, v1, v2, v3, v4, aI z, v6] st h = X mX5_chance 79 [v0, v1, v2, v3, v4, aI z, v6] (aI z :: st) h := X_of dX5_chance_77 rfl
theorem x_X5_chance_79 {a : Nat} {i : Int} {al st : List AV} {h : AH} : X mX5_chance 79 al (aI i :: aR (some a) :: st) h = if 0 ≤ i then gK (rd h 10 a i.toNat) (fun v => X mX5_chance 80 al (v :: st) h) else none := x_aldI dX5_chance_79
theorem x_X5_chance_80 {v0 v1 v2 v3 v4 v6 : AV} {y : Int} {z : Int} {st : List AV} {h : AH} : X mX5_chance 80 [v0, v1, v2, v3, v4, aI y, v6] (aI z :: st) h = X mX5_chance 82 [v0, v1, v2, v3, v4, aI y, aI z] st h := X_of dX5_chance_80 rfl
theorem x_X5_chance_82 {v1 v2 v3 v4 v5 v6 : AV} {z : Option Nat} {st : List AV} {h : AH} : X mX5_chance 82 [aR z, v1, v2, v3, v4, v5, v6] st h = X mX5_chance 83 [aR z, v1, v2, v3, v4, v5, v6] (aR z :: st) h := X_of dX5_chance_82 rfl
theorem x_X5_chance_83 {v0 v2 v3 v4 v5 v6 : AV} {z : Int} {st : List AV} {h : AH} : X mX5_chance 83 [v0, aI z, v2, v3, v4, v5, v6] st h = X mX5_chance 84 [v0, aI z, v2, v3, v4, v5, v6] (aI z :: st) h := X_of dX5_chance_83 rfl
theorem x_X5_chance_84 {v0 v1 v3 v4 v5 v6 : AV} {z : Int} {st : List AV} {h : AH} : X mX5_chance 84 [v0, v1, aI z, v3, v4, v5, v6] st h = X mX5_chance 85 [v0, v1, aI z, v3, v4, v5, v6] (aI z :: st) h := X_of dX5_chance_84 rfl
theorem x_X5_chance_85 {a0 : Nat} {a1 : Int} {a2 : Int} {al : List AV} {h : AH} (ho : isO h 5 a0 = true) : X mX5_chance 85 al [aI a2, aI a1, aR (some a0)] h = cK (E mX5_sum [aR (some a0), aI a1, aI a2] h) fun v h2 => X mX5_chance 88 al (v.toList ++ []) h2 := x_cal (as := [aR (some a0), aI a1, aI a2]) (rest := []) dX5_chance_85 (fun _ => rfl) cT_5_133 rfl rfl ho
theorem x_X5_chance_88 {v0 v1 v2 v3 v4 v5 : AV} {z : Int} {st : List AV} {h : AH} : X mX5_chance 88 [v0, v1, v2, v3, v4, v5, aI z] st h = X mX5_chance 90 [v0, v1, v2, v3, v4, v5, aI z] (aI z :: st) h := X_of dX5_chance_88 rfl
theorem x_X5_chance_90 {a b : Int} {al st : List AV} {h : AH} : X mX5_chance 90 al (aI b :: aI a :: st) h = X mX5_chance 91 al (aI (w32 (a - b)) :: st) h := X_of dX5_chance_90 rfl
theorem x_X5_chance_91 {v0 v1 v2 v3 v5 v6 : AV} {z : Int} {st : List AV} {h : AH} : X mX5_chance 91 [v0, v1, v2, v3, aI z, v5, v6] st h = X mX5_chance 93 [v0, v1, v2, v3, aI z, v5, v6] (aI z :: st) h := X_of dX5_chance_91 rfl
theorem x_X5_chance_93 {a b : Int} {al st : List AV} {h : AH} : X mX5_chance 93 al (aI b :: aI a :: st) h = X mX5_chance 94 al (aI (w32 (a + b)) :: st) h := X_of dX5_chance_93 rfl
theorem x_X5_chance_94 {a : Int} {al st : List AV} {h : AH} : X mX5_chance 94 al (aI a :: st) h = X mX5_chance 95 al (aJ a :: st) h := X_of dX5_chance_94 rfl
theorem x_X5_chance_95 {al st : List AV} {h : AH} : X mX5_chance 95 al st h = X mX5_chance 96 al (aJ 1 :: st) h := X_of dX5_chance_95 rfl
theorem x_X5_chance_96 {al st : List AV} {h : AH} : X mX5_chance 96 al st h = X mX5_chance 99 al (aJ 10 :: st) h := X_of dX5_chance_96 rfl
theorem x_X5_chance_99 {a0 : Int} {a1 : Int} {a2 : Int} {al : List AV} {h : AH} : X mX5_chance 99 al [aJ a2, aJ a1, aJ a0] h = cK (E mX5_in [aJ a0, aJ a1, aJ a2] h) fun v h2 => X mX5_chance 102 al (v.toList ++ []) h2 := x_cal (as := [aJ a0, aJ a1, aJ a2]) (rest := []) dX5_chance_99 (fun _ => rfl) cT_5_81 rfl rfl rfl
theorem x_X5_chance_102 {a : Int} {al st : List AV} {h : AH} : X mX5_chance 102 al (aI a :: st) h = if ¬ a = 0 then X mX5_chance 108 al st h else X mX5_chance 105 al st h := x_ne0 dX5_chance_102 rfl
theorem x_X5_chance_105 {al st : List AV} {h : AH} : X mX5_chance 105 al st h = X mX5_chance 107 al (aI (-4) :: st) h := X_of dX5_chance_105 rfl
theorem x_X5_chance_107 {z : Int} {al : List AV} {h : AH} : X mX5_chance 107 al [aI z] h = some (some (aI z), h) := X_ofR dX5_chance_107 rfl
theorem x_X5_chance_108 {v1 v2 v3 v4 v5 v6 : AV} {z : Option Nat} {st : List AV} {h : AH} : X mX5_chance 108 [aR z, v1, v2, v3, v4, v5, v6] st h = X mX5_chance 109 [aR z, v1, v2, v3, v4, v5, v6] (aR z :: st) h := X_of dX5_chance_108 rfl
theorem x_X5_chance_109 {a : Nat} {al st : List AV} {h : AH} : X mX5_chance 109 al (aR (some a) :: st) h = gK (rd h 5 a 15) fun v => X mX5_chance 112 al (v :: st) h := x_get dX5_chance_109 fT_5_38
theorem x_X5_chance_112 {v0 v1 v2 v3 v4 v6 : AV} {z : Int} {st : List AV} {h : AH} : X mX5_chance 112 [v0, v1, v2, v3, v4, aI z, v6] st h = X mX5_chance 114 [v0, v1, v2, v3, v4, aI z, v6] (aI z :: st) h := X_of dX5_chance_112 rfl
theorem x_X5_chance_114 {v0 v1 v2 v3 v5 v6 : AV} {z : Int} {st : List AV} {h : AH} : X mX5_chance 114 [v0, v1, v2, v3, aI z, v5, v6] st h = X mX5_chance 116 [v0, v1, v2, v3, aI z, v5, v6] (aI z :: st) h := X_of dX5_chance_114 rfl
theorem x_X5_chance_116 {a : Nat} {i z : Int} {al st : List AV} {h : AH} : X mX5_chance 116 al (aI z :: aI i :: aR (some a) :: st) h = if 0 ≤ i then pK (rd h 10 a i.toNat) (X mX5_chance 117 al st (wr h 10 a i.toNat (aI z))) else none := x_astI dX5_chance_116
theorem x_X5_chance_117 {v0 v1 v2 v3 v4 v5 : AV} {z : Int} {st : List AV} {h : AH} : X mX5_chance 117 [v0, v1, v2, v3, v4, v5, aI z] st h = X mX5_chance 119 [v0, v1, v2, v3, v4, v5, aI z] (aI z :: st) h := X_of dX5_chance_117 rfl
theorem x_X5_chance_119 {z : Int} {al : List AV} {h : AH} : X mX5_chance 119 al [aI z] h = some (some (aI z), h) := X_ofR dX5_chance_119 rfl
theorem e_X5_fill {p0 : Option Nat} {p1 : Int} {p2 : Int} {p3 : Int} {h : AH} : E mX5_fill [aR p0, aI p1, aI p2, aI p3] h = X mX5_fill 0 [aR p0, aI p1, aI p2, aI p3, aU, aU, aU, aU] [] h := rfl
theorem x_X5_fill_0 {v1 v2 v3 v4 v5 v6 v7 : AV} {z : Option Nat} {st : List AV} {h : AH} : X mX5_fill 0 [aR z, v1, v2, v3, v4, v5, v6, v7] st h = X mX5_fill 1 [aR z, v1, v2, v3, v4, v5, v6, v7] (aR z :: st) h := X_of dX5_fill_0 rfl
theorem x_X5_fill_1 {v0 v2 v3 v4 v5 v6 v7 : AV} {z : Int} {st : List AV} {h : AH} : X mX5_fill 1 [v0, aI z, v2, v3, v4, v5, v6, v7] st h = X mX5_fill 2 [v0, aI z, v2, v3, v4, v5, v6, v7] (aI z :: st) h := X_of dX5_fill_1 rfl
theorem x_X5_fill_2 {a0 : Nat} {a1 : Int} {al : List AV} {h : AH} (ho : isO h 5 a0 = true) : X mX5_fill 2 al [aI a1, aR (some a0)] h = cK (E mX5_isMachine [aR (some a0), aI a1] h) fun v h2 => X mX5_fill 5 al (v.toList ++ []) h2 := x_cal (as := [aR (some a0), aI a1]) (rest := []) dX5_fill_2 (fun _ => rfl) cT_5_114 rfl rfl ho
theorem x_X5_fill_5 {a : Int} {al st : List AV} {h : AH} : X mX5_fill 5 al (aI a :: st) h = if a = 0 then X mX5_fill 16 al st h else X mX5_fill 8 al st h := x_eq0 dX5_fill_5 rfl
theorem x_X5_fill_8 {v1 v2 v3 v4 v5 v6 v7 : AV} {z : Option Nat} {st : List AV} {h : AH} : X mX5_fill 8 [aR z, v1, v2, v3, v4, v5, v6, v7] st h = X mX5_fill 9 [aR z, v1, v2, v3, v4, v5, v6, v7] (aR z :: st) h := X_of dX5_fill_8 rfl
theorem x_X5_fill_9 {v0 v1 v3 v4 v5 v6 v7 : AV} {z : Int} {st : List AV} {h : AH} : X mX5_fill 9 [v0, v1, aI z, v3, v4, v5, v6, v7] st h = X mX5_fill 10 [v0, v1, aI z, v3, v4, v5, v6, v7] (aI z :: st) h := X_of dX5_fill_9 rfl
theorem x_X5_fill_10 {a0 : Nat} {a1 : Int} {al : List AV} {h : AH} (ho : isO h 5 a0 = true) : X mX5_fill 10 al [aI a1, aR (some a0)] h = cK (E mX5_isSheet [aR (some a0), aI a1] h) fun v h2 => X mX5_fill 13 al (v.toList ++ []) h2 := x_cal (as := [aR (some a0), aI a1]) (rest := []) dX5_fill_10 (fun _ => rfl) cT_5_100 rfl rfl ho
theorem x_X5_fill_13 {a : Int} {al st : List AV} {h : AH} : X mX5_fill 13 al (aI a :: st) h = if ¬ a = 0 then X mX5_fill 18 al st h else X mX5_fill 16 al st h := x_ne0 dX5_fill_13 rfl
theorem x_X5_fill_16 {al st : List AV} {h : AH} : X mX5_fill 16 al st h = X mX5_fill 17 al (aI (-1) :: st) h := X_of dX5_fill_16 rfl
theorem x_X5_fill_17 {z : Int} {al : List AV} {h : AH} : X mX5_fill 17 al [aI z] h = some (some (aI z), h) := X_ofR dX5_fill_17 rfl
theorem x_X5_fill_18 {v1 v2 v3 v4 v5 v6 v7 : AV} {z : Option Nat} {st : List AV} {h : AH} : X mX5_fill 18 [aR z, v1, v2, v3, v4, v5, v6, v7] st h = X mX5_fill 19 [aR z, v1, v2, v3, v4, v5, v6, v7] (aR z :: st) h := X_of dX5_fill_18 rfl
theorem x_X5_fill_19 {a : Nat} {al st : List AV} {h : AH} : X mX5_fill 19 al (aR (some a) :: st) h = gK (rd h 5 a 12) fun v => X mX5_fill 22 al (v :: st) h := x_get dX5_fill_19 fT_5_29
theorem x_X5_fill_22 {v0 v2 v3 v4 v5 v6 v7 : AV} {z : Int} {st : List AV} {h : AH} : X mX5_fill 22 [v0, aI z, v2, v3, v4, v5, v6, v7] st h = X mX5_fill 23 [v0, aI z, v2, v3, v4, v5, v6, v7] (aI z :: st) h := X_of dX5_fill_22 rfl
theorem x_X5_fill_23 {a : Nat} {i : Int} {al st : List AV} {h : AH} : X mX5_fill 23 al (aI i :: aR (some a) :: st) h = if 0 ≤ i then gK (rd h 10 a i.toNat) (fun v => X mX5_fill 24 al (v :: st) h) else none := x_aldI dX5_fill_23
theorem x_X5_fill_24 {v0 v1 v2 v4 v5 v6 v7 : AV} {y : Int} {z : Int} {st : List AV} {h : AH} : X mX5_fill 24 [v0, v1, v2, aI y, v4, v5, v6, v7] (aI z :: st) h = X mX5_fill 26 [v0, v1, v2, aI y, aI z, v5, v6, v7] st h := X_of dX5_fill_24 rfl
theorem x_X5_fill_26 {v1 v2 v3 v4 v5 v6 v7 : AV} {z : Option Nat} {st : List AV} {h : AH} : X mX5_fill 26 [aR z, v1, v2, v3, v4, v5, v6, v7] st h = X mX5_fill 27 [aR z, v1, v2, v3, v4, v5, v6, v7] (aR z :: st) h := X_of dX5_fill_26 rfl
theorem x_X5_fill_27 {a : Nat} {al st : List AV} {h : AH} : X mX5_fill 27 al (aR (some a) :: st) h = gK (rd h 5 a 6) fun v => X mX5_fill 30 al (v :: st) h := x_get dX5_fill_27 fT_5_16
theorem x_X5_fill_30 {v0 v1 v3 v4 v5 v6 v7 : AV} {z : Int} {st : List AV} {h : AH} : X mX5_fill 30 [v0, v1, aI z, v3, v4, v5, v6, v7] st h = X mX5_fill 31 [v0, v1, aI z, v3, v4, v5, v6, v7] (aI z :: st) h := X_of dX5_fill_30 rfl
theorem x_X5_fill_31 {a : Nat} {i : Int} {al st : List AV} {h : AH} : X mX5_fill 31 al (aI i :: aR (some a) :: st) h = if 0 ≤ i then gK (rd h 10 a i.toNat) (fun v => X mX5_fill 32 al (v :: st) h) else none := x_aldI dX5_fill_31
theorem x_X5_fill_32 {a : Int} {al st : List AV} {h : AH} : X mX5_fill 32 al (aI a :: st) h = if 0 ≤ a then X mX5_fill 41 al st h else X mX5_fill 35 al st h := x_ge0 dX5_fill_32 rfl
theorem x_X5_fill_35 {v1 v2 v3 v4 v5 v6 v7 : AV} {z : Option Nat} {st : List AV} {h : AH} : X mX5_fill 35 [aR z, v1, v2, v3, v4, v5, v6, v7] st h = X mX5_fill 36 [aR z, v1, v2, v3, v4, v5, v6, v7] (aR z :: st) h := X_of dX5_fill_35 rfl
theorem x_X5_fill_36 {al st : List AV} {h : AH} : X mX5_fill 36 al st h = X mX5_fill 37 al (aI 1 :: st) h := X_of dX5_fill_36 rfl
theorem x_X5_fill_37 {a0 : Nat} {a1 : Int} {al : List AV} {h : AH} (ho : isO h 5 a0 = true) : X mX5_fill 37 al [aI a1, aR (some a0)] h = cK (E mX5_meets [aR (some a0), aI a1] h) fun v h2 => X mX5_fill 40 al (v.toList ++ []) h2 := x_cal (as := [aR (some a0), aI a1]) (rest := []) dX5_fill_37 (fun _ => rfl) cT_5_96 rfl rfl ho
theorem x_X5_fill_40 {z : Int} {al : List AV} {h : AH} : X mX5_fill 40 al [aI z] h = some (some (aI z), h) := X_ofR dX5_fill_40 rfl
theorem x_X5_fill_41 {v0 v1 v2 v4 v5 v6 v7 : AV} {z : Int} {st : List AV} {h : AH} : X mX5_fill 41 [v0, v1, v2, aI z, v4, v5, v6, v7] st h = X mX5_fill 42 [v0, v1, v2, aI z, v4, v5, v6, v7] (aI z :: st) h := X_of dX5_fill_41 rfl
theorem x_X5_fill_42 {a : Int} {al st : List AV} {h : AH} : X mX5_fill 42 al (aI a :: st) h = if a < 0 then X mX5_fill 62 al st h else X mX5_fill 45 al st h := x_lt0 dX5_fill_42 rfl
theorem x_X5_fill_45 {v0 v1 v2 v4 v5 v6 v7 : AV} {z : Int} {st : List AV} {h : AH} : X mX5_fill 45 [v0, v1, v2, aI z, v4, v5, v6, v7] st h = X mX5_fill 46 [v0, v1, v2, aI z, v4, v5, v6, v7] (aI z :: st) h := X_of dX5_fill_45 rfl
theorem x_X5_fill_46 {a : Int} {al st : List AV} {h : AH} : X mX5_fill 46 al (aI a :: st) h = X mX5_fill 47 al (aJ a :: st) h := X_of dX5_fill_46 rfl
theorem x_X5_fill_47 {v0 v1 v2 v3 v5 v6 v7 : AV} {z : Int} {st : List AV} {h : AH} : X mX5_fill 47 [v0, v1, v2, v3, aI z, v5, v6, v7] st h = X mX5_fill 49 [v0, v1, v2, v3, aI z, v5, v6, v7] (aI z :: st) h := X_of dX5_fill_47 rfl
theorem x_X5_fill_49 {a : Int} {al st : List AV} {h : AH} : X mX5_fill 49 al (aI a :: st) h = X mX5_fill 50 al (aJ a :: st) h := X_of dX5_fill_49 rfl
theorem x_X5_fill_50 {a b : Int} {al st : List AV} {h : AH} : X mX5_fill 50 al (aJ b :: aJ a :: st) h = X mX5_fill 51 al (aJ (w64 (a + b)) :: st) h := X_of dX5_fill_50 rfl
theorem x_X5_fill_51 {v1 v2 v3 v4 v5 v6 v7 : AV} {z : Option Nat} {st : List AV} {h : AH} : X mX5_fill 51 [aR z, v1, v2, v3, v4, v5, v6, v7] st h = X mX5_fill 52 [aR z, v1, v2, v3, v4, v5, v6, v7] (aR z :: st) h := X_of dX5_fill_51 rfl
theorem x_X5_fill_52 {a : Nat} {al st : List AV} {h : AH} : X mX5_fill 52 al (aR (some a) :: st) h = gK (rd h 5 a 6) fun v => X mX5_fill 55 al (v :: st) h := x_get dX5_fill_52 fT_5_16
theorem x_X5_fill_55 {v0 v1 v3 v4 v5 v6 v7 : AV} {z : Int} {st : List AV} {h : AH} : X mX5_fill 55 [v0, v1, aI z, v3, v4, v5, v6, v7] st h = X mX5_fill 56 [v0, v1, aI z, v3, v4, v5, v6, v7] (aI z :: st) h := X_of dX5_fill_55 rfl
theorem x_X5_fill_56 {a : Nat} {i : Int} {al st : List AV} {h : AH} : X mX5_fill 56 al (aI i :: aR (some a) :: st) h = if 0 ≤ i then gK (rd h 10 a i.toNat) (fun v => X mX5_fill 57 al (v :: st) h) else none := x_aldI dX5_fill_56
theorem x_X5_fill_57 {a : Int} {al st : List AV} {h : AH} : X mX5_fill 57 al (aI a :: st) h = X mX5_fill 58 al (aJ a :: st) h := X_of dX5_fill_57 rfl
theorem x_X5_fill_58 {a b : Int} {al st : List AV} {h : AH} : X mX5_fill 58 al (aJ b :: aJ a :: st) h = X mX5_fill 59 al (aI (fCmp a b) :: st) h := X_of dX5_fill_58 rfl
theorem x_X5_fill_59 {a : Int} {al st : List AV} {h : AH} : X mX5_fill 59 al (aI a :: st) h = if a ≤ 0 then X mX5_fill 68 al st h else X mX5_fill 62 al st h := x_le0 dX5_fill_59 rfl
theorem x_X5_fill_62 {v1 v2 v3 v4 v5 v6 v7 : AV} {z : Option Nat} {st : List AV} {h : AH} : X mX5_fill 62 [aR z, v1, v2, v3, v4, v5, v6, v7] st h = X mX5_fill 63 [aR z, v1, v2, v3, v4, v5, v6, v7] (aR z :: st) h := X_of dX5_fill_62 rfl
theorem x_X5_fill_63 {al st : List AV} {h : AH} : X mX5_fill 63 al st h = X mX5_fill 64 al (aI 2 :: st) h := X_of dX5_fill_63 rfl
theorem x_X5_fill_64 {a0 : Nat} {a1 : Int} {al : List AV} {h : AH} (ho : isO h 5 a0 = true) : X mX5_fill 64 al [aI a1, aR (some a0)] h = cK (E mX5_meets [aR (some a0), aI a1] h) fun v h2 => X mX5_fill 67 al (v.toList ++ []) h2 := x_cal (as := [aR (some a0), aI a1]) (rest := []) dX5_fill_64 (fun _ => rfl) cT_5_96 rfl rfl ho
theorem x_X5_fill_67 {z : Int} {al : List AV} {h : AH} : X mX5_fill 67 al [aI z] h = some (some (aI z), h) := X_ofR dX5_fill_67 rfl
theorem x_X5_fill_68 {al st : List AV} {h : AH} : X mX5_fill 68 al st h = X mX5_fill 69 al (aI 0 :: st) h := X_of dX5_fill_68 rfl
theorem x_X5_fill_69 {v0 v1 v2 v3 v5 v6 v7 : AV} {y : Int} {z : Int} {st : List AV} {h : AH} : X mX5_fill 69 [v0, v1, v2, v3, aI y, v5, v6, v7] (aI z :: st) h = X mX5_fill 71 [v0, v1, v2, v3, aI y, aI z, v6, v7] st h := X_of dX5_fill_69 rfl
theorem x_X5_fill_71 {v0 v1 v2 v3 v4 v6 v7 : AV} {z : Int} {st : List AV} {h : AH} : X mX5_fill 71 [v0, v1, v2, v3, v4, aI z, v6, v7] st h = X mX5_fill 73 [v0, v1, v2, v3, v4, aI z, v6, v7] (aI z :: st) h := X_of dX5_fill_71 rfl
theorem x_X5_fill_73 {v0 v1 v2 v3 v5 v6 v7 : AV} {z : Int} {st : List AV} {h : AH} : X mX5_fill 73 [v0, v1, v2, v3, aI z, v5, v6, v7] st h = X mX5_fill 75 [v0, v1, v2, v3, aI z, v5, v6, v7] (aI z :: st) h := X_of dX5_fill_73 rfl
theorem x_X5_fill_75 {a b : Int} {al st : List AV} {h : AH} : X mX5_fill 75 al (aI b :: aI a :: st) h = if b ≤ a then X mX5_fill 134 al st h else X mX5_fill 78 al st h := x_geC dX5_fill_75 rfl
theorem x_X5_fill_78 {v1 v2 v3 v4 v5 v6 v7 : AV} {z : Option Nat} {st : List AV} {h : AH} : X mX5_fill 78 [aR z, v1, v2, v3, v4, v5, v6, v7] st h = X mX5_fill 79 [aR z, v1, v2, v3, v4, v5, v6, v7] (aR z :: st) h := X_of dX5_fill_78 rfl
theorem x_X5_fill_79 {a : Nat} {al st : List AV} {h : AH} : X mX5_fill 79 al (aR (some a) :: st) h = gK (rd h 5 a 7) fun v => X mX5_fill 82 al (v :: st) h := x_get dX5_fill_79 fT_5_19
theorem x_X5_fill_82 {al st : List AV} {h : AH} : X mX5_fill 82 al st h = X mX5_fill 84 al (aI 24 :: st) h := X_of dX5_fill_82 rfl
theorem x_X5_fill_84 {v0 v1 v3 v4 v5 v6 v7 : AV} {z : Int} {st : List AV} {h : AH} : X mX5_fill 84 [v0, v1, aI z, v3, v4, v5, v6, v7] st h = X mX5_fill 85 [v0, v1, aI z, v3, v4, v5, v6, v7] (aI z :: st) h := X_of dX5_fill_84 rfl
theorem x_X5_fill_85 {a b : Int} {al st : List AV} {h : AH} : X mX5_fill 85 al (aI b :: aI a :: st) h = X mX5_fill 86 al (aI (w32 (a * b)) :: st) h := X_of dX5_fill_85 rfl
theorem x_X5_fill_86 {v0 v1 v2 v4 v5 v6 v7 : AV} {z : Int} {st : List AV} {h : AH} : X mX5_fill 86 [v0, v1, v2, aI z, v4, v5, v6, v7] st h = X mX5_fill 87 [v0, v1, v2, aI z, v4, v5, v6, v7] (aI z :: st) h := X_of dX5_fill_86 rfl
theorem x_X5_fill_87 {a b : Int} {al st : List AV} {h : AH} : X mX5_fill 87 al (aI b :: aI a :: st) h = X mX5_fill 88 al (aI (w32 (a + b)) :: st) h := X_of dX5_fill_87 rfl
theorem x_X5_fill_88 {v0 v1 v2 v3 v4 v6 v7 : AV} {z : Int} {st : List AV} {h : AH} : X mX5_fill 88 [v0, v1, v2, v3, v4, aI z, v6, v7] st h = X mX5_fill 90 [v0, v1, v2, v3, v4, aI z, v6, v7] (aI z :: st) h := X_of dX5_fill_88 rfl
theorem x_X5_fill_90 {a b : Int} {al st : List AV} {h : AH} : X mX5_fill 90 al (aI b :: aI a :: st) h = X mX5_fill 91 al (aI (w32 (a + b)) :: st) h := X_of dX5_fill_90 rfl
theorem x_X5_fill_91 {a : Nat} {i : Int} {al st : List AV} {h : AH} : X mX5_fill 91 al (aI i :: aR (some a) :: st) h = if 0 ≤ i then gK (rd h 11 a i.toNat) (fun v => X mX5_fill 92 al (v :: st) h) else none := x_aldJ dX5_fill_91
theorem x_X5_fill_92 {v0 v1 v2 v3 v4 v6 v7 : AV} {y : Int} {z : Int} {st : List AV} {h : AH} : X mX5_fill 92 [v0, v1, v2, v3, v4, aI y, v6, v7] (aJ z :: st) h = X mX5_fill 94 [v0, v1, v2, v3, v4, aI y, aJ z, aU] st h := X_of dX5_fill_92 rfl
theorem x_X5_fill_94 {v0 v1 v2 v3 v4 v5 v7 : AV} {z : Int} {st : List AV} {h : AH} : X mX5_fill 94 [v0, v1, v2, v3, v4, v5, aJ z, v7] st h = X mX5_fill 96 [v0, v1, v2, v3, v4, v5, aJ z, v7] (aJ z :: st) h := X_of dX5_fill_94 rfl
theorem x_X5_fill_96 {al st : List AV} {h : AH} : X mX5_fill 96 al st h = X mX5_fill 99 al (aJ (-50) :: st) h := X_of dX5_fill_96 rfl
theorem x_X5_fill_99 {al st : List AV} {h : AH} : X mX5_fill 99 al st h = X mX5_fill 102 al (aJ 50 :: st) h := X_of dX5_fill_99 rfl
theorem x_X5_fill_102 {a0 : Int} {a1 : Int} {a2 : Int} {al : List AV} {h : AH} : X mX5_fill 102 al [aJ a2, aJ a1, aJ a0] h = cK (E mX5_in [aJ a0, aJ a1, aJ a2] h) fun v h2 => X mX5_fill 105 al (v.toList ++ []) h2 := x_cal (as := [aJ a0, aJ a1, aJ a2]) (rest := []) dX5_fill_102 (fun _ => rfl) cT_5_81 rfl rfl rfl
theorem x_X5_fill_105 {a : Int} {al st : List AV} {h : AH} : X mX5_fill 105 al (aI a :: st) h = if a = 0 then X mX5_fill 125 al st h else X mX5_fill 108 al st h := x_eq0 dX5_fill_105 rfl
theorem x_X5_fill_108 {v0 v1 v2 v3 v4 v5 v7 : AV} {z : Int} {st : List AV} {h : AH} : X mX5_fill 108 [v0, v1, v2, v3, v4, v5, aJ z, v7] st h = X mX5_fill 110 [v0, v1, v2, v3, v4, v5, aJ z, v7] (aJ z :: st) h := X_of dX5_fill_108 rfl
theorem x_X5_fill_110 {al st : List AV} {h : AH} : X mX5_fill 110 al st h = X mX5_fill 111 al (aJ 0 :: st) h := X_of dX5_fill_110 rfl
theorem x_X5_fill_111 {a b : Int} {al st : List AV} {h : AH} : X mX5_fill 111 al (aJ b :: aJ a :: st) h = X mX5_fill 112 al (aI (fCmp a b) :: st) h := X_of dX5_fill_111 rfl
theorem x_X5_fill_112 {a : Int} {al st : List AV} {h : AH} : X mX5_fill 112 al (aI a :: st) h = if a = 0 then X mX5_fill 128 al st h else X mX5_fill 115 al st h := x_eq0 dX5_fill_112 rfl
theorem x_X5_fill_115 {v1 v2 v3 v4 v5 v6 v7 : AV} {z : Option Nat} {st : List AV} {h : AH} : X mX5_fill 115 [aR z, v1, v2, v3, v4, v5, v6, v7] st h = X mX5_fill 116 [aR z, v1, v2, v3, v4, v5, v6, v7] (aR z :: st) h := X_of dX5_fill_115 rfl
theorem x_X5_fill_116 {v0 v2 v3 v4 v5 v6 v7 : AV} {z : Int} {st : List AV} {h : AH} : X mX5_fill 116 [v0, aI z, v2, v3, v4, v5, v6, v7] st h = X mX5_fill 117 [v0, aI z, v2, v3, v4, v5, v6, v7] (aI z :: st) h := X_of dX5_fill_116 rfl
theorem x_X5_fill_117 {v0 v1 v2 v3 v4 v6 v7 : AV} {z : Int} {st : List AV} {h : AH} : X mX5_fill 117 [v0, v1, v2, v3, v4, aI z, v6, v7] st h = X mX5_fill 119 [v0, v1, v2, v3, v4, aI z, v6, v7] (aI z :: st) h := X_of dX5_fill_117 rfl
theorem x_X5_fill_119 {a0 : Nat} {a1 : Int} {a2 : Int} {al : List AV} {h : AH} (ho : isO h 5 a0 = true) : X mX5_fill 119 al [aI a2, aI a1, aR (some a0)] h = cK (E mX5_mayPay [aR (some a0), aI a1, aI a2] h) fun v h2 => X mX5_fill 122 al (v.toList ++ []) h2 := x_cal (as := [aR (some a0), aI a1, aI a2]) (rest := []) dX5_fill_119 (fun _ => rfl) cT_5_125 rfl rfl ho
theorem x_X5_fill_122 {a : Int} {al st : List AV} {h : AH} : X mX5_fill 122 al (aI a :: st) h = if ¬ a = 0 then X mX5_fill 128 al st h else X mX5_fill 125 al st h := x_ne0 dX5_fill_122 rfl
theorem x_X5_fill_125 {al st : List AV} {h : AH} : X mX5_fill 125 al st h = X mX5_fill 127 al (aI (-4) :: st) h := X_of dX5_fill_125 rfl
theorem x_X5_fill_127 {z : Int} {al : List AV} {h : AH} : X mX5_fill 127 al [aI z] h = some (some (aI z), h) := X_ofR dX5_fill_127 rfl
theorem x_X5_fill_128 {v0 v1 v2 v3 v6 v7 : AV} {y : Int} {z : Int} {st : List AV} {h : AH} : X mX5_fill 128 [v0, v1, v2, v3, aI y, aI z, v6, v7] st h = X mX5_fill 131 [v0, v1, v2, v3, aI y, aI (w32 (z + 1)), v6, v7] st h := X_of dX5_fill_128 rfl
theorem x_X5_fill_131 {al st : List AV} {h : AH} : X mX5_fill 131 al st h = X mX5_fill 71 al st h := X_of dX5_fill_131 rfl
theorem x_X5_fill_134 {al st : List AV} {h : AH} : X mX5_fill 134 al st h = X mX5_fill 135 al (aI 0 :: st) h := X_of dX5_fill_134 rfl
theorem x_X5_fill_135 {v0 v1 v2 v3 v5 v6 v7 : AV} {y : Int} {z : Int} {st : List AV} {h : AH} : X mX5_fill 135 [v0, v1, v2, v3, aI y, v5, v6, v7] (aI z :: st) h = X mX5_fill 137 [v0, v1, v2, v3, aI y, aI z, v6, v7] st h := X_of dX5_fill_135 rfl
theorem x_X5_fill_137 {v0 v1 v2 v3 v4 v6 v7 : AV} {z : Int} {st : List AV} {h : AH} : X mX5_fill 137 [v0, v1, v2, v3, v4, aI z, v6, v7] st h = X mX5_fill 139 [v0, v1, v2, v3, v4, aI z, v6, v7] (aI z :: st) h := X_of dX5_fill_137 rfl
theorem x_X5_fill_139 {v0 v1 v2 v3 v5 v6 v7 : AV} {z : Int} {st : List AV} {h : AH} : X mX5_fill 139 [v0, v1, v2, v3, aI z, v5, v6, v7] st h = X mX5_fill 141 [v0, v1, v2, v3, aI z, v5, v6, v7] (aI z :: st) h := X_of dX5_fill_139 rfl
theorem x_X5_fill_141 {a b : Int} {al st : List AV} {h : AH} : X mX5_fill 141 al (aI b :: aI a :: st) h = if b ≤ a then X mX5_fill 176 al st h else X mX5_fill 144 al st h := x_geC dX5_fill_141 rfl
theorem x_X5_fill_144 {v1 v2 v3 v4 v5 v6 v7 : AV} {z : Option Nat} {st : List AV} {h : AH} : X mX5_fill 144 [aR z, v1, v2, v3, v4, v5, v6, v7] st h = X mX5_fill 145 [aR z, v1, v2, v3, v4, v5, v6, v7] (aR z :: st) h := X_of dX5_fill_144 rfl
theorem x_X5_fill_145 {a : Nat} {al st : List AV} {h : AH} : X mX5_fill 145 al (aR (some a) :: st) h = gK (rd h 5 a 14) fun v => X mX5_fill 148 al (v :: st) h := x_get dX5_fill_145 fT_5_35
theorem x_X5_fill_148 {al st : List AV} {h : AH} : X mX5_fill 148 al st h = X mX5_fill 149 al (aI 5 :: st) h := X_of dX5_fill_148 rfl
theorem x_X5_fill_149 {v0 v2 v3 v4 v5 v6 v7 : AV} {z : Int} {st : List AV} {h : AH} : X mX5_fill 149 [v0, aI z, v2, v3, v4, v5, v6, v7] st h = X mX5_fill 150 [v0, aI z, v2, v3, v4, v5, v6, v7] (aI z :: st) h := X_of dX5_fill_149 rfl
theorem x_X5_fill_150 {a b : Int} {al st : List AV} {h : AH} : X mX5_fill 150 al (aI b :: aI a :: st) h = X mX5_fill 151 al (aI (w32 (a * b)) :: st) h := X_of dX5_fill_150 rfl
theorem x_X5_fill_151 {v0 v1 v2 v3 v4 v6 v7 : AV} {z : Int} {st : List AV} {h : AH} : X mX5_fill 151 [v0, v1, v2, v3, v4, aI z, v6, v7] st h = X mX5_fill 153 [v0, v1, v2, v3, v4, aI z, v6, v7] (aI z :: st) h := X_of dX5_fill_151 rfl
theorem x_X5_fill_153 {a b : Int} {al st : List AV} {h : AH} : X mX5_fill 153 al (aI b :: aI a :: st) h = X mX5_fill 154 al (aI (w32 (a + b)) :: st) h := X_of dX5_fill_153 rfl
theorem x_X5_fill_154 {v1 v2 v3 v4 v5 v6 v7 : AV} {z : Option Nat} {st : List AV} {h : AH} : X mX5_fill 154 [aR z, v1, v2, v3, v4, v5, v6, v7] st h = X mX5_fill 155 [aR z, v1, v2, v3, v4, v5, v6, v7] (aR z :: st) h := X_of dX5_fill_154 rfl
theorem x_X5_fill_155 {a : Nat} {al st : List AV} {h : AH} : X mX5_fill 155 al (aR (some a) :: st) h = gK (rd h 5 a 7) fun v => X mX5_fill 158 al (v :: st) h := x_get dX5_fill_155 fT_5_19
theorem x_X5_fill_158 {al st : List AV} {h : AH} : X mX5_fill 158 al st h = X mX5_fill 160 al (aI 24 :: st) h := X_of dX5_fill_158 rfl
theorem x_X5_fill_160 {v0 v1 v3 v4 v5 v6 v7 : AV} {z : Int} {st : List AV} {h : AH} : X mX5_fill 160 [v0, v1, aI z, v3, v4, v5, v6, v7] st h = X mX5_fill 161 [v0, v1, aI z, v3, v4, v5, v6, v7] (aI z :: st) h := X_of dX5_fill_160 rfl
theorem x_X5_fill_161 {a b : Int} {al st : List AV} {h : AH} : X mX5_fill 161 al (aI b :: aI a :: st) h = X mX5_fill 162 al (aI (w32 (a * b)) :: st) h := X_of dX5_fill_161 rfl
theorem x_X5_fill_162 {v0 v1 v2 v4 v5 v6 v7 : AV} {z : Int} {st : List AV} {h : AH} : X mX5_fill 162 [v0, v1, v2, aI z, v4, v5, v6, v7] st h = X mX5_fill 163 [v0, v1, v2, aI z, v4, v5, v6, v7] (aI z :: st) h := X_of dX5_fill_162 rfl
theorem x_X5_fill_163 {a b : Int} {al st : List AV} {h : AH} : X mX5_fill 163 al (aI b :: aI a :: st) h = X mX5_fill 164 al (aI (w32 (a + b)) :: st) h := X_of dX5_fill_163 rfl
theorem x_X5_fill_164 {v0 v1 v2 v3 v4 v6 v7 : AV} {z : Int} {st : List AV} {h : AH} : X mX5_fill 164 [v0, v1, v2, v3, v4, aI z, v6, v7] st h = X mX5_fill 166 [v0, v1, v2, v3, v4, aI z, v6, v7] (aI z :: st) h := X_of dX5_fill_164 rfl
theorem x_X5_fill_166 {a b : Int} {al st : List AV} {h : AH} : X mX5_fill 166 al (aI b :: aI a :: st) h = X mX5_fill 167 al (aI (w32 (a + b)) :: st) h := X_of dX5_fill_166 rfl
theorem x_X5_fill_167 {a : Nat} {i : Int} {al st : List AV} {h : AH} : X mX5_fill 167 al (aI i :: aR (some a) :: st) h = if 0 ≤ i then gK (rd h 11 a i.toNat) (fun v => X mX5_fill 168 al (v :: st) h) else none := x_aldJ dX5_fill_167
theorem x_X5_fill_168 {a : Int} {al st : List AV} {h : AH} : X mX5_fill 168 al (aJ a :: st) h = X mX5_fill 169 al (aI (w32 a) :: st) h := X_of dX5_fill_168 rfl
theorem x_X5_fill_169 {a : Nat} {i z : Int} {al st : List AV} {h : AH} : X mX5_fill 169 al (aI z :: aI i :: aR (some a) :: st) h = if 0 ≤ i then pK (rd h 10 a i.toNat) (X mX5_fill 170 al st (wr h 10 a i.toNat (aI z))) else none := x_astI dX5_fill_169
theorem x_X5_fill_170 {v0 v1 v2 v3 v6 v7 : AV} {y : Int} {z : Int} {st : List AV} {h : AH} : X mX5_fill 170 [v0, v1, v2, v3, aI y, aI z, v6, v7] st h = X mX5_fill 173 [v0, v1, v2, v3, aI y, aI (w32 (z + 1)), v6, v7] st h := X_of dX5_fill_170 rfl
theorem x_X5_fill_173 {al st : List AV} {h : AH} : X mX5_fill 173 al st h = X mX5_fill 137 al st h := X_of dX5_fill_173 rfl
theorem x_X5_fill_176 {v0 v1 v2 v3 v5 v6 v7 : AV} {z : Int} {st : List AV} {h : AH} : X mX5_fill 176 [v0, v1, v2, v3, aI z, v5, v6, v7] st h = X mX5_fill 178 [v0, v1, v2, v3, aI z, v5, v6, v7] (aI z :: st) h := X_of dX5_fill_176 rfl
theorem x_X5_fill_178 {z : Int} {al : List AV} {h : AH} : X mX5_fill 178 al [aI z] h = some (some (aI z), h) := X_ofR dX5_fill_178 rfl
theorem e_X5_ask {p0 : Option Nat} {p1 : Int} {p2 : Int} {p3 : Int} {h : AH} : E mX5_ask [aR p0, aI p1, aI p2, aI p3] h = X mX5_ask 0 [aR p0, aI p1, aI p2, aI p3] [] h := rfl
theorem x_X5_ask_0 {v1 v2 v3 : AV} {z : Option Nat} {st : List AV} {h : AH} : X mX5_ask 0 [aR z, v1, v2, v3] st h = X mX5_ask 1 [aR z, v1, v2, v3] (aR z :: st) h := X_of dX5_ask_0 rfl
theorem x_X5_ask_1 {v0 v2 v3 : AV} {z : Int} {st : List AV} {h : AH} : X mX5_ask 1 [v0, aI z, v2, v3] st h = X mX5_ask 2 [v0, aI z, v2, v3] (aI z :: st) h := X_of dX5_ask_1 rfl
theorem x_X5_ask_2 {a0 : Nat} {a1 : Int} {al : List AV} {h : AH} (ho : isO h 5 a0 = true) : X mX5_ask 2 al [aI a1, aR (some a0)] h = cK (E mX5_isMachine [aR (some a0), aI a1] h) fun v h2 => X mX5_ask 5 al (v.toList ++ []) h2 := x_cal (as := [aR (some a0), aI a1]) (rest := []) dX5_ask_2 (fun _ => rfl) cT_5_114 rfl rfl ho
theorem x_X5_ask_5 {a : Int} {al st : List AV} {h : AH} : X mX5_ask 5 al (aI a :: st) h = if ¬ a = 0 then X mX5_ask 10 al st h else X mX5_ask 8 al st h := x_ne0 dX5_ask_5 rfl
theorem x_X5_ask_8 {al st : List AV} {h : AH} : X mX5_ask 8 al st h = X mX5_ask 9 al (aI (-1) :: st) h := X_of dX5_ask_8 rfl
theorem x_X5_ask_9 {z : Int} {al : List AV} {h : AH} : X mX5_ask 9 al [aI z] h = some (some (aI z), h) := X_ofR dX5_ask_9 rfl
theorem x_X5_ask_10 {v1 v2 v3 : AV} {z : Option Nat} {st : List AV} {h : AH} : X mX5_ask 10 [aR z, v1, v2, v3] st h = X mX5_ask 11 [aR z, v1, v2, v3] (aR z :: st) h := X_of dX5_ask_10 rfl
theorem x_X5_ask_11 {v0 v2 v3 : AV} {z : Int} {st : List AV} {h : AH} : X mX5_ask 11 [v0, aI z, v2, v3] st h = X mX5_ask 12 [v0, aI z, v2, v3] (aI z :: st) h := X_of dX5_ask_11 rfl
theorem x_X5_ask_12 {v0 v1 v3 : AV} {z : Int} {st : List AV} {h : AH} : X mX5_ask 12 [v0, v1, aI z, v3] st h = X mX5_ask 13 [v0, v1, aI z, v3] (aI z :: st) h := X_of dX5_ask_12 rfl
theorem x_X5_ask_13 {a0 : Nat} {a1 : Int} {a2 : Int} {al : List AV} {h : AH} (ho : isO h 5 a0 = true) : X mX5_ask 13 al [aI a2, aI a1, aR (some a0)] h = cK (E mX5_isState [aR (some a0), aI a1, aI a2] h) fun v h2 => X mX5_ask 16 al (v.toList ++ []) h2 := x_cal (as := [aR (some a0), aI a1, aI a2]) (rest := []) dX5_ask_13 (fun _ => rfl) cT_5_121 rfl rfl ho
theorem x_X5_ask_16 {a : Int} {al st : List AV} {h : AH} : X mX5_ask 16 al (aI a :: st) h = if ¬ a = 0 then X mX5_ask 25 al st h else X mX5_ask 19 al st h := x_ne0 dX5_ask_16 rfl
theorem x_X5_ask_19 {v1 v2 v3 : AV} {z : Option Nat} {st : List AV} {h : AH} : X mX5_ask 19 [aR z, v1, v2, v3] st h = X mX5_ask 20 [aR z, v1, v2, v3] (aR z :: st) h := X_of dX5_ask_19 rfl
theorem x_X5_ask_20 {al st : List AV} {h : AH} : X mX5_ask 20 al st h = X mX5_ask 21 al (aI 2 :: st) h := X_of dX5_ask_20 rfl
theorem x_X5_ask_21 {a0 : Nat} {a1 : Int} {al : List AV} {h : AH} (ho : isO h 5 a0 = true) : X mX5_ask 21 al [aI a1, aR (some a0)] h = cK (E mX5_meets [aR (some a0), aI a1] h) fun v h2 => X mX5_ask 24 al (v.toList ++ []) h2 := x_cal (as := [aR (some a0), aI a1]) (rest := []) dX5_ask_21 (fun _ => rfl) cT_5_96 rfl rfl ho
theorem x_X5_ask_24 {z : Int} {al : List AV} {h : AH} : X mX5_ask 24 al [aI z] h = some (some (aI z), h) := X_ofR dX5_ask_24 rfl
theorem x_X5_ask_25 {v0 v1 v2 : AV} {z : Int} {st : List AV} {h : AH} : X mX5_ask 25 [v0, v1, v2, aI z] st h = X mX5_ask 26 [v0, v1, v2, aI z] (aI z :: st) h := X_of dX5_ask_25 rfl
theorem x_X5_ask_26 {a : Int} {al st : List AV} {h : AH} : X mX5_ask 26 al (aI a :: st) h = X mX5_ask 27 al (aJ a :: st) h := X_of dX5_ask_26 rfl
theorem x_X5_ask_27 {al st : List AV} {h : AH} : X mX5_ask 27 al st h = X mX5_ask 28 al (aJ 0 :: st) h := X_of dX5_ask_27 rfl
theorem x_X5_ask_28 {v1 v2 v3 : AV} {z : Option Nat} {st : List AV} {h : AH} : X mX5_ask 28 [aR z, v1, v2, v3] st h = X mX5_ask 29 [aR z, v1, v2, v3] (aR z :: st) h := X_of dX5_ask_28 rfl
theorem x_X5_ask_29 {a : Nat} {al st : List AV} {h : AH} : X mX5_ask 29 al (aR (some a) :: st) h = gK (rd h 5 a 12) fun v => X mX5_ask 32 al (v :: st) h := x_get dX5_ask_29 fT_5_29
theorem x_X5_ask_32 {v0 v2 v3 : AV} {z : Int} {st : List AV} {h : AH} : X mX5_ask 32 [v0, aI z, v2, v3] st h = X mX5_ask 33 [v0, aI z, v2, v3] (aI z :: st) h := X_of dX5_ask_32 rfl
theorem x_X5_ask_33 {a : Nat} {i : Int} {al st : List AV} {h : AH} : X mX5_ask 33 al (aI i :: aR (some a) :: st) h = if 0 ≤ i then gK (rd h 10 a i.toNat) (fun v => X mX5_ask 34 al (v :: st) h) else none := x_aldI dX5_ask_33
theorem x_X5_ask_34 {a : Int} {al st : List AV} {h : AH} : X mX5_ask 34 al (aI a :: st) h = X mX5_ask 35 al (aJ a :: st) h := X_of dX5_ask_34 rfl
theorem x_X5_ask_35 {a0 : Int} {a1 : Int} {a2 : Int} {al : List AV} {h : AH} : X mX5_ask 35 al [aJ a2, aJ a1, aJ a0] h = cK (E mX5_in [aJ a0, aJ a1, aJ a2] h) fun v h2 => X mX5_ask 38 al (v.toList ++ []) h2 := x_cal (as := [aJ a0, aJ a1, aJ a2]) (rest := []) dX5_ask_35 (fun _ => rfl) cT_5_81 rfl rfl rfl
theorem x_X5_ask_38 {a : Int} {al st : List AV} {h : AH} : X mX5_ask 38 al (aI a :: st) h = if ¬ a = 0 then X mX5_ask 43 al st h else X mX5_ask 41 al st h := x_ne0 dX5_ask_38 rfl
theorem x_X5_ask_41 {al st : List AV} {h : AH} : X mX5_ask 41 al st h = X mX5_ask 42 al (aI (-1) :: st) h := X_of dX5_ask_41 rfl
theorem x_X5_ask_42 {z : Int} {al : List AV} {h : AH} : X mX5_ask 42 al [aI z] h = some (some (aI z), h) := X_ofR dX5_ask_42 rfl
theorem x_X5_ask_43 {v1 v2 v3 : AV} {z : Option Nat} {st : List AV} {h : AH} : X mX5_ask 43 [aR z, v1, v2, v3] st h = X mX5_ask 44 [aR z, v1, v2, v3] (aR z :: st) h := X_of dX5_ask_43 rfl
theorem x_X5_ask_44 {v0 v1 v2 : AV} {z : Int} {st : List AV} {h : AH} : X mX5_ask 44 [v0, v1, v2, aI z] st h = X mX5_ask 45 [v0, v1, v2, aI z] (aI z :: st) h := X_of dX5_ask_44 rfl
theorem x_X5_ask_45 {a : Int} {al st : List AV} {h : AH} : X mX5_ask 45 al (aI a :: st) h = if ¬ a = 0 then X mX5_ask 62 al st h else X mX5_ask 48 al st h := x_ne0 dX5_ask_45 rfl
theorem x_X5_ask_48 {v1 v2 v3 : AV} {z : Option Nat} {st : List AV} {h : AH} : X mX5_ask 48 [aR z, v1, v2, v3] st h = X mX5_ask 49 [aR z, v1, v2, v3] (aR z :: st) h := X_of dX5_ask_48 rfl
theorem x_X5_ask_49 {a : Nat} {al st : List AV} {h : AH} : X mX5_ask 49 al (aR (some a) :: st) h = gK (rd h 5 a 14) fun v => X mX5_ask 52 al (v :: st) h := x_get dX5_ask_49 fT_5_35
theorem x_X5_ask_52 {al st : List AV} {h : AH} : X mX5_ask 52 al st h = X mX5_ask 53 al (aI 5 :: st) h := X_of dX5_ask_52 rfl
theorem x_X5_ask_53 {v0 v2 v3 : AV} {z : Int} {st : List AV} {h : AH} : X mX5_ask 53 [v0, aI z, v2, v3] st h = X mX5_ask 54 [v0, aI z, v2, v3] (aI z :: st) h := X_of dX5_ask_53 rfl
theorem x_X5_ask_54 {a b : Int} {al st : List AV} {h : AH} : X mX5_ask 54 al (aI b :: aI a :: st) h = X mX5_ask 55 al (aI (w32 (a * b)) :: st) h := X_of dX5_ask_54 rfl
theorem x_X5_ask_55 {v0 v1 v3 : AV} {z : Int} {st : List AV} {h : AH} : X mX5_ask 55 [v0, v1, aI z, v3] st h = X mX5_ask 56 [v0, v1, aI z, v3] (aI z :: st) h := X_of dX5_ask_55 rfl
theorem x_X5_ask_56 {a b : Int} {al st : List AV} {h : AH} : X mX5_ask 56 al (aI b :: aI a :: st) h = X mX5_ask 57 al (aI (w32 (a + b)) :: st) h := X_of dX5_ask_56 rfl
theorem x_X5_ask_57 {a : Nat} {i : Int} {al st : List AV} {h : AH} : X mX5_ask 57 al (aI i :: aR (some a) :: st) h = if 0 ≤ i then gK (rd h 10 a i.toNat) (fun v => X mX5_ask 58 al (v :: st) h) else none := x_aldI dX5_ask_57
theorem x_X5_ask_58 {a : Int} {al st : List AV} {h : AH} : X mX5_ask 58 al (aI a :: st) h = X mX5_ask 59 al (aJ a :: st) h := X_of dX5_ask_58 rfl
theorem x_X5_ask_59 {al st : List AV} {h : AH} : X mX5_ask 59 al st h = X mX5_ask 80 al st h := X_of dX5_ask_59 rfl
theorem x_X5_ask_62 {v1 v2 v3 : AV} {z : Option Nat} {st : List AV} {h : AH} : X mX5_ask 62 [aR z, v1, v2, v3] st h = X mX5_ask 63 [aR z, v1, v2, v3] (aR z :: st) h := X_of dX5_ask_62 rfl
theorem x_X5_ask_63 {a : Nat} {al st : List AV} {h : AH} : X mX5_ask 63 al (aR (some a) :: st) h = gK (rd h 5 a 15) fun v => X mX5_ask 66 al (v :: st) h := x_get dX5_ask_63 fT_5_38
theorem x_X5_ask_66 {al st : List AV} {h : AH} : X mX5_ask 66 al st h = X mX5_ask 68 al (aI 25 :: st) h := X_of dX5_ask_66 rfl
theorem x_X5_ask_68 {v0 v2 v3 : AV} {z : Int} {st : List AV} {h : AH} : X mX5_ask 68 [v0, aI z, v2, v3] st h = X mX5_ask 69 [v0, aI z, v2, v3] (aI z :: st) h := X_of dX5_ask_68 rfl
theorem x_X5_ask_69 {a b : Int} {al st : List AV} {h : AH} : X mX5_ask 69 al (aI b :: aI a :: st) h = X mX5_ask 70 al (aI (w32 (a * b)) :: st) h := X_of dX5_ask_69 rfl
theorem x_X5_ask_70 {al st : List AV} {h : AH} : X mX5_ask 70 al st h = X mX5_ask 71 al (aI 5 :: st) h := X_of dX5_ask_70 rfl
theorem x_X5_ask_71 {v0 v1 v3 : AV} {z : Int} {st : List AV} {h : AH} : X mX5_ask 71 [v0, v1, aI z, v3] st h = X mX5_ask 72 [v0, v1, aI z, v3] (aI z :: st) h := X_of dX5_ask_71 rfl
theorem x_X5_ask_72 {a b : Int} {al st : List AV} {h : AH} : X mX5_ask 72 al (aI b :: aI a :: st) h = X mX5_ask 73 al (aI (w32 (a * b)) :: st) h := X_of dX5_ask_72 rfl
theorem x_X5_ask_73 {a b : Int} {al st : List AV} {h : AH} : X mX5_ask 73 al (aI b :: aI a :: st) h = X mX5_ask 74 al (aI (w32 (a + b)) :: st) h := X_of dX5_ask_73 rfl
theorem x_X5_ask_74 {v0 v1 v2 : AV} {z : Int} {st : List AV} {h : AH} : X mX5_ask 74 [v0, v1, v2, aI z] st h = X mX5_ask 75 [v0, v1, v2, aI z] (aI z :: st) h := X_of dX5_ask_74 rfl
theorem x_X5_ask_75 {a b : Int} {al st : List AV} {h : AH} : X mX5_ask 75 al (aI b :: aI a :: st) h = X mX5_ask 76 al (aI (w32 (a + b)) :: st) h := X_of dX5_ask_75 rfl
theorem x_X5_ask_76 {al st : List AV} {h : AH} : X mX5_ask 76 al st h = X mX5_ask 77 al (aI 1 :: st) h := X_of dX5_ask_76 rfl
theorem x_X5_ask_77 {a b : Int} {al st : List AV} {h : AH} : X mX5_ask 77 al (aI b :: aI a :: st) h = X mX5_ask 78 al (aI (w32 (a - b)) :: st) h := X_of dX5_ask_77 rfl
theorem x_X5_ask_78 {a : Nat} {i : Int} {al st : List AV} {h : AH} : X mX5_ask 78 al (aI i :: aR (some a) :: st) h = if 0 ≤ i then gK (rd h 10 a i.toNat) (fun v => X mX5_ask 79 al (v :: st) h) else none := x_aldI dX5_ask_78
theorem x_X5_ask_79 {a : Int} {al st : List AV} {h : AH} : X mX5_ask 79 al (aI a :: st) h = X mX5_ask 80 al (aJ a :: st) h := X_of dX5_ask_79 rfl
theorem x_X5_ask_80 {a : Nat} {z : Int} {al st : List AV} {h : AH} : X mX5_ask 80 al (aJ z :: aR (some a) :: st) h = pK (rd h 5 a 8) (X mX5_ask 83 al st (wr h 5 a 8 (aJ z))) := x_put dX5_ask_80 fT_5_108 rfl rfl
theorem x_X5_ask_83 {al st : List AV} {h : AH} : X mX5_ask 83 al st h = X mX5_ask 84 al (aI 1 :: st) h := X_of dX5_ask_83 rfl
theorem x_X5_ask_84 {z : Int} {al : List AV} {h : AH} : X mX5_ask 84 al [aI z] h = some (some (aI z), h) := X_ofR dX5_ask_84 rfl
theorem e_X5_asked {p0 : Option Nat} {h : AH} : E mX5_asked [aR p0] h = X mX5_asked 0 [aR p0] [] h := rfl
theorem x_X5_asked_0 {z : Option Nat} {st : List AV} {h : AH} : X mX5_asked 0 [aR z] st h = X mX5_asked 1 [aR z] (aR z :: st) h := X_of dX5_asked_0 rfl
theorem x_X5_asked_1 {a : Nat} {al st : List AV} {h : AH} : X mX5_asked 1 al (aR (some a) :: st) h = gK (rd h 5 a 8) fun v => X mX5_asked 4 al (v :: st) h := x_get dX5_asked_1 fT_5_108
theorem x_X5_asked_4 {z : Int} {al : List AV} {h : AH} : X mX5_asked 4 al [aJ z] h = some (some (aJ z), h) := X_ofR dX5_asked_4 rfl
theorem e_X5_stand {p0 : Option Nat} {p1 : Int} {p2 : Int} {h : AH} : E mX5_stand [aR p0, aI p1, aI p2] h = X mX5_stand 0 [aR p0, aI p1, aI p2, aU] [] h := rfl
theorem x_X5_stand_0 {v1 v2 v3 : AV} {z : Option Nat} {st : List AV} {h : AH} : X mX5_stand 0 [aR z, v1, v2, v3] st h = X mX5_stand 1 [aR z, v1, v2, v3] (aR z :: st) h := X_of dX5_stand_0 rfl
theorem x_X5_stand_1 {v0 v2 v3 : AV} {z : Int} {st : List AV} {h : AH} : X mX5_stand 1 [v0, aI z, v2, v3] st h = X mX5_stand 2 [v0, aI z, v2, v3] (aI z :: st) h := X_of dX5_stand_1 rfl
theorem x_X5_stand_2 {a0 : Nat} {a1 : Int} {al : List AV} {h : AH} (ho : isO h 5 a0 = true) : X mX5_stand 2 al [aI a1, aR (some a0)] h = cK (E mX5_isMachine [aR (some a0), aI a1] h) fun v h2 => X mX5_stand 5 al (v.toList ++ []) h2 := x_cal (as := [aR (some a0), aI a1]) (rest := []) dX5_stand_2 (fun _ => rfl) cT_5_114 rfl rfl ho
theorem x_X5_stand_5 {a : Int} {al st : List AV} {h : AH} : X mX5_stand 5 al (aI a :: st) h = if ¬ a = 0 then X mX5_stand 10 al st h else X mX5_stand 8 al st h := x_ne0 dX5_stand_5 rfl
theorem x_X5_stand_8 {al st : List AV} {h : AH} : X mX5_stand 8 al st h = X mX5_stand 9 al (aI (-1) :: st) h := X_of dX5_stand_8 rfl
theorem x_X5_stand_9 {z : Int} {al : List AV} {h : AH} : X mX5_stand 9 al [aI z] h = some (some (aI z), h) := X_ofR dX5_stand_9 rfl
theorem x_X5_stand_10 {v1 v2 v3 : AV} {z : Option Nat} {st : List AV} {h : AH} : X mX5_stand 10 [aR z, v1, v2, v3] st h = X mX5_stand 11 [aR z, v1, v2, v3] (aR z :: st) h := X_of dX5_stand_10 rfl
theorem x_X5_stand_11 {v0 v2 v3 : AV} {z : Int} {st : List AV} {h : AH} : X mX5_stand 11 [v0, aI z, v2, v3] st h = X mX5_stand 12 [v0, aI z, v2, v3] (aI z :: st) h := X_of dX5_stand_11 rfl
theorem x_X5_stand_12 {v0 v1 v3 : AV} {z : Int} {st : List AV} {h : AH} : X mX5_stand 12 [v0, v1, aI z, v3] st h = X mX5_stand 13 [v0, v1, aI z, v3] (aI z :: st) h := X_of dX5_stand_12 rfl
theorem x_X5_stand_13 {a0 : Nat} {a1 : Int} {a2 : Int} {al : List AV} {h : AH} (ho : isO h 5 a0 = true) : X mX5_stand 13 al [aI a2, aI a1, aR (some a0)] h = cK (E mX5_isState [aR (some a0), aI a1, aI a2] h) fun v h2 => X mX5_stand 16 al (v.toList ++ []) h2 := x_cal (as := [aR (some a0), aI a1, aI a2]) (rest := []) dX5_stand_13 (fun _ => rfl) cT_5_121 rfl rfl ho
theorem x_X5_stand_16 {a : Int} {al st : List AV} {h : AH} : X mX5_stand 16 al (aI a :: st) h = if ¬ a = 0 then X mX5_stand 25 al st h else X mX5_stand 19 al st h := x_ne0 dX5_stand_16 rfl
theorem x_X5_stand_19 {v1 v2 v3 : AV} {z : Option Nat} {st : List AV} {h : AH} : X mX5_stand 19 [aR z, v1, v2, v3] st h = X mX5_stand 20 [aR z, v1, v2, v3] (aR z :: st) h := X_of dX5_stand_19 rfl
theorem x_X5_stand_20 {al st : List AV} {h : AH} : X mX5_stand 20 al st h = X mX5_stand 21 al (aI 2 :: st) h := X_of dX5_stand_20 rfl
theorem x_X5_stand_21 {a0 : Nat} {a1 : Int} {al : List AV} {h : AH} (ho : isO h 5 a0 = true) : X mX5_stand 21 al [aI a1, aR (some a0)] h = cK (E mX5_meets [aR (some a0), aI a1] h) fun v h2 => X mX5_stand 24 al (v.toList ++ []) h2 := x_cal (as := [aR (some a0), aI a1]) (rest := []) dX5_stand_21 (fun _ => rfl) cT_5_96 rfl rfl ho
theorem x_X5_stand_24 {z : Int} {al : List AV} {h : AH} : X mX5_stand 24 al [aI z] h = some (some (aI z), h) := X_ofR dX5_stand_24 rfl
theorem x_X5_stand_25 {v1 v2 v3 : AV} {z : Option Nat} {st : List AV} {h : AH} : X mX5_stand 25 [aR z, v1, v2, v3] st h = X mX5_stand 26 [aR z, v1, v2, v3] (aR z :: st) h := X_of dX5_stand_25 rfl
theorem x_X5_stand_26 {a : Nat} {al st : List AV} {h : AH} : X mX5_stand 26 al (aR (some a) :: st) h = gK (rd h 5 a 13) fun v => X mX5_stand 29 al (v :: st) h := x_get dX5_stand_26 fT_5_32
theorem x_X5_stand_29 {v0 v2 v3 : AV} {z : Int} {st : List AV} {h : AH} : X mX5_stand 29 [v0, aI z, v2, v3] st h = X mX5_stand 30 [v0, aI z, v2, v3] (aI z :: st) h := X_of dX5_stand_29 rfl
theorem x_X5_stand_30 {a : Nat} {i : Int} {al st : List AV} {h : AH} : X mX5_stand 30 al (aI i :: aR (some a) :: st) h = if 0 ≤ i then gK (rd h 10 a i.toNat) (fun v => X mX5_stand 31 al (v :: st) h) else none := x_aldI dX5_stand_30
theorem x_X5_stand_31 {v0 v1 v3 : AV} {y : Int} {z : Int} {st : List AV} {h : AH} : X mX5_stand 31 [v0, v1, aI y, v3] (aI z :: st) h = X mX5_stand 32 [v0, v1, aI y, aI z] st h := X_of dX5_stand_31 rfl
theorem x_X5_stand_32 {v1 v2 v3 : AV} {z : Option Nat} {st : List AV} {h : AH} : X mX5_stand 32 [aR z, v1, v2, v3] st h = X mX5_stand 33 [aR z, v1, v2, v3] (aR z :: st) h := X_of dX5_stand_32 rfl
theorem x_X5_stand_33 {a : Nat} {al st : List AV} {h : AH} : X mX5_stand 33 al (aR (some a) :: st) h = gK (rd h 5 a 13) fun v => X mX5_stand 36 al (v :: st) h := x_get dX5_stand_33 fT_5_32
theorem x_X5_stand_36 {v0 v2 v3 : AV} {z : Int} {st : List AV} {h : AH} : X mX5_stand 36 [v0, aI z, v2, v3] st h = X mX5_stand 37 [v0, aI z, v2, v3] (aI z :: st) h := X_of dX5_stand_36 rfl
theorem x_X5_stand_37 {v0 v1 v3 : AV} {z : Int} {st : List AV} {h : AH} : X mX5_stand 37 [v0, v1, aI z, v3] st h = X mX5_stand 38 [v0, v1, aI z, v3] (aI z :: st) h := X_of dX5_stand_37 rfl
theorem x_X5_stand_38 {a : Nat} {i z : Int} {al st : List AV} {h : AH} : X mX5_stand 38 al (aI z :: aI i :: aR (some a) :: st) h = if 0 ≤ i then pK (rd h 10 a i.toNat) (X mX5_stand 39 al st (wr h 10 a i.toNat (aI z))) else none := x_astI dX5_stand_38
theorem x_X5_stand_39 {v0 v1 v2 : AV} {z : Int} {st : List AV} {h : AH} : X mX5_stand 39 [v0, v1, v2, aI z] st h = X mX5_stand 40 [v0, v1, v2, aI z] (aI z :: st) h := X_of dX5_stand_39 rfl
theorem x_X5_stand_40 {z : Int} {al : List AV} {h : AH} : X mX5_stand 40 al [aI z] h = some (some (aI z), h) := X_ofR dX5_stand_40 rfl
theorem e_X5_gcd {p0 : Int} {p1 : Int} {h : AH} : E mX5_gcd [aJ p0, aJ p1] h = X mX5_gcd 0 [aJ p0, aU, aJ p1, aU, aU, aU, aU, aU, aU, aU] [] h := rfl
theorem x_X5_gcd_0 {v1 v2 v3 v4 v5 v6 v7 v8 v9 : AV} {z : Int} {st : List AV} {h : AH} : X mX5_gcd 0 [aJ z, v1, v2, v3, v4, v5, v6, v7, v8, v9] st h = X mX5_gcd 1 [aJ z, v1, v2, v3, v4, v5, v6, v7, v8, v9] (aJ z :: st) h := X_of dX5_gcd_0 rfl
theorem x_X5_gcd_1 {al st : List AV} {h : AH} : X mX5_gcd 1 al st h = X mX5_gcd 2 al (aJ 0 :: st) h := X_of dX5_gcd_1 rfl
theorem x_X5_gcd_2 {a b : Int} {al st : List AV} {h : AH} : X mX5_gcd 2 al (aJ b :: aJ a :: st) h = X mX5_gcd 3 al (aI (fCmp a b) :: st) h := X_of dX5_gcd_2 rfl
theorem x_X5_gcd_3 {a : Int} {al st : List AV} {h : AH} : X mX5_gcd 3 al (aI a :: st) h = if 0 ≤ a then X mX5_gcd 11 al st h else X mX5_gcd 6 al st h := x_ge0 dX5_gcd_3 rfl
theorem x_X5_gcd_6 {v1 v2 v3 v4 v5 v6 v7 v8 v9 : AV} {z : Int} {st : List AV} {h : AH} : X mX5_gcd 6 [aJ z, v1, v2, v3, v4, v5, v6, v7, v8, v9] st h = X mX5_gcd 7 [aJ z, v1, v2, v3, v4, v5, v6, v7, v8, v9] (aJ z :: st) h := X_of dX5_gcd_6 rfl
theorem x_X5_gcd_7 {a : Int} {al st : List AV} {h : AH} : X mX5_gcd 7 al (aJ a :: st) h = X mX5_gcd 8 al (aJ (w64 (-a)) :: st) h := X_of dX5_gcd_7 rfl
theorem x_X5_gcd_8 {al st : List AV} {h : AH} : X mX5_gcd 8 al st h = X mX5_gcd 12 al st h := X_of dX5_gcd_8 rfl
theorem x_X5_gcd_11 {v1 v2 v3 v4 v5 v6 v7 v8 v9 : AV} {z : Int} {st : List AV} {h : AH} : X mX5_gcd 11 [aJ z, v1, v2, v3, v4, v5, v6, v7, v8, v9] st h = X mX5_gcd 12 [aJ z, v1, v2, v3, v4, v5, v6, v7, v8, v9] (aJ z :: st) h := X_of dX5_gcd_11 rfl
theorem x_X5_gcd_12 {v0 v1 v2 v4 v5 v6 v7 v8 v9 : AV} {z : Int} {st : List AV} {h : AH} : X mX5_gcd 12 [v0, v1, v2, aU, v4, v5, v6, v7, v8, v9] (aJ z :: st) h = X mX5_gcd 14 [v0, v1, v2, aU, aJ z, aU, v6, v7, v8, v9] st h := X_of dX5_gcd_12 rfl
theorem x_X5_gcd_14 {v0 v1 v3 v4 v5 v6 v7 v8 v9 : AV} {z : Int} {st : List AV} {h : AH} : X mX5_gcd 14 [v0, v1, aJ z, v3, v4, v5, v6, v7, v8, v9] st h = X mX5_gcd 15 [v0, v1, aJ z, v3, v4, v5, v6, v7, v8, v9] (aJ z :: st) h := X_of dX5_gcd_14 rfl
theorem x_X5_gcd_15 {v0 v1 v2 v3 v4 v6 v7 v8 v9 : AV} {z : Int} {st : List AV} {h : AH} : X mX5_gcd 15 [v0, v1, v2, v3, v4, aU, v6, v7, v8, v9] (aJ z :: st) h = X mX5_gcd 17 [v0, v1, v2, v3, v4, aU, aJ z, aU, v8, v9] st h := X_of dX5_gcd_15 rfl
theorem x_X5_gcd_17 {v0 v1 v2 v3 v4 v5 v7 v8 v9 : AV} {z : Int} {st : List AV} {h : AH} : X mX5_gcd 17 [v0, v1, v2, v3, v4, v5, aJ z, v7, v8, v9] st h = X mX5_gcd 19 [v0, v1, v2, v3, v4, v5, aJ z, v7, v8, v9] (aJ z :: st) h := X_of dX5_gcd_17 rfl
theorem x_X5_gcd_19 {al st : List AV} {h : AH} : X mX5_gcd 19 al st h = X mX5_gcd 20 al (aJ 0 :: st) h := X_of dX5_gcd_19 rfl
theorem x_X5_gcd_20 {a b : Int} {al st : List AV} {h : AH} : X mX5_gcd 20 al (aJ b :: aJ a :: st) h = X mX5_gcd 21 al (aI (fCmp a b) :: st) h := X_of dX5_gcd_20 rfl
theorem x_X5_gcd_21 {a : Int} {al st : List AV} {h : AH} : X mX5_gcd 21 al (aI a :: st) h = if a = 0 then X mX5_gcd 42 al st h else X mX5_gcd 24 al st h := x_eq0 dX5_gcd_21 rfl
theorem x_X5_gcd_24 {v0 v1 v2 v3 v5 v6 v7 v8 v9 : AV} {z : Int} {st : List AV} {h : AH} : X mX5_gcd 24 [v0, v1, v2, v3, aJ z, v5, v6, v7, v8, v9] st h = X mX5_gcd 26 [v0, v1, v2, v3, aJ z, v5, v6, v7, v8, v9] (aJ z :: st) h := X_of dX5_gcd_24 rfl
theorem x_X5_gcd_26 {v0 v1 v2 v3 v4 v5 v7 v8 v9 : AV} {z : Int} {st : List AV} {h : AH} : X mX5_gcd 26 [v0, v1, v2, v3, v4, v5, aJ z, v7, v8, v9] st h = X mX5_gcd 28 [v0, v1, v2, v3, v4, v5, aJ z, v7, v8, v9] (aJ z :: st) h := X_of dX5_gcd_26 rfl
theorem x_X5_gcd_28 {a b : Int} {al st : List AV} {h : AH} : X mX5_gcd 28 al (aJ b :: aJ a :: st) h = if b = 0 then none else X mX5_gcd 29 al (aJ (a.tmod b) :: st) h := x_remJ dX5_gcd_28
theorem x_X5_gcd_29 {v0 v1 v2 v3 v4 v5 v6 v8 v9 : AV} {z : Int} {st : List AV} {h : AH} : X mX5_gcd 29 [v0, v1, v2, v3, v4, v5, v6, aU, v8, v9] (aJ z :: st) h = X mX5_gcd 31 [v0, v1, v2, v3, v4, v5, v6, aU, aJ z, aU] st h := X_of dX5_gcd_29 rfl
theorem x_X5_gcd_31 {v0 v1 v2 v3 v4 v5 v7 v8 v9 : AV} {z : Int} {st : List AV} {h : AH} : X mX5_gcd 31 [v0, v1, v2, v3, v4, v5, aJ z, v7, v8, v9] st h = X mX5_gcd 33 [v0, v1, v2, v3, v4, v5, aJ z, v7, v8, v9] (aJ z :: st) h := X_of dX5_gcd_31 rfl
theorem x_X5_gcd_33 {v0 v1 v2 v4 v5 v6 v7 v8 v9 : AV} {z : Int} {st : List AV} {h : AH} : X mX5_gcd 33 [v0, v1, v2, aU, v4, v5, v6, v7, v8, v9] (aJ z :: st) h = X mX5_gcd 35 [v0, v1, v2, aU, aJ z, aU, v6, v7, v8, v9] st h := X_of dX5_gcd_33 rfl
theorem x_X5_gcd_35 {v0 v1 v2 v3 v4 v5 v6 v7 v9 : AV} {z : Int} {st : List AV} {h : AH} : X mX5_gcd 35 [v0, v1, v2, v3, v4, v5, v6, v7, aJ z, v9] st h = X mX5_gcd 37 [v0, v1, v2, v3, v4, v5, v6, v7, aJ z, v9] (aJ z :: st) h := X_of dX5_gcd_35 rfl
theorem x_X5_gcd_37 {v0 v1 v2 v3 v4 v6 v7 v8 v9 : AV} {z : Int} {st : List AV} {h : AH} : X mX5_gcd 37 [v0, v1, v2, v3, v4, aU, v6, v7, v8, v9] (aJ z :: st) h = X mX5_gcd 39 [v0, v1, v2, v3, v4, aU, aJ z, aU, v8, v9] st h := X_of dX5_gcd_37 rfl
theorem x_X5_gcd_39 {al st : List AV} {h : AH} : X mX5_gcd 39 al st h = X mX5_gcd 17 al st h := X_of dX5_gcd_39 rfl
theorem x_X5_gcd_42 {v0 v1 v2 v3 v5 v6 v7 v8 v9 : AV} {z : Int} {st : List AV} {h : AH} : X mX5_gcd 42 [v0, v1, v2, v3, aJ z, v5, v6, v7, v8, v9] st h = X mX5_gcd 44 [v0, v1, v2, v3, aJ z, v5, v6, v7, v8, v9] (aJ z :: st) h := X_of dX5_gcd_42 rfl
theorem x_X5_gcd_44 {z : Int} {al : List AV} {h : AH} : X mX5_gcd 44 al [aJ z] h = some (some (aJ z), h) := X_ofR dX5_gcd_44 rfl
theorem e_X5_fraction {p0 : Option Nat} {p1 : Int} {p2 : Int} {h : AH} : E mX5_fraction [aR p0, aJ p1, aJ p2] h = X mX5_fraction 0 [aR p0, aJ p1, aU, aJ p2, aU, aU, aU] [] h := rfl
theorem x_X5_fraction_0 {v0 v2 v3 v4 v5 v6 : AV} {z : Int} {st : List AV} {h : AH} : X mX5_fraction 0 [v0, aJ z, v2, v3, v4, v5, v6] st h = X mX5_fraction 1 [v0, aJ z, v2, v3, v4, v5, v6] (aJ z :: st) h := X_of dX5_fraction_0 rfl
theorem x_X5_fraction_1 {v0 v1 v2 v4 v5 v6 : AV} {z : Int} {st : List AV} {h : AH} : X mX5_fraction 1 [v0, v1, v2, aJ z, v4, v5, v6] st h = X mX5_fraction 2 [v0, v1, v2, aJ z, v4, v5, v6] (aJ z :: st) h := X_of dX5_fraction_1 rfl
theorem x_X5_fraction_2 {a0 : Int} {a1 : Int} {al : List AV} {h : AH} : X mX5_fraction 2 al [aJ a1, aJ a0] h = cK (E mX5_gcd [aJ a0, aJ a1] h) fun v h2 => X mX5_fraction 5 al (v.toList ++ []) h2 := x_cal (as := [aJ a0, aJ a1]) (rest := []) dX5_fraction_2 (fun _ => rfl) cT_5_136 rfl rfl rfl
theorem x_X5_fraction_5 {v0 v1 v2 v3 v5 v6 : AV} {z : Int} {st : List AV} {h : AH} : X mX5_fraction 5 [v0, v1, v2, v3, aU, v5, v6] (aJ z :: st) h = X mX5_fraction 7 [v0, v1, v2, v3, aU, aJ z, aU] st h := X_of dX5_fraction_5 rfl
theorem x_X5_fraction_7 {v1 v2 v3 v4 v5 v6 : AV} {z : Option Nat} {st : List AV} {h : AH} : X mX5_fraction 7 [aR z, v1, v2, v3, v4, v5, v6] st h = X mX5_fraction 8 [aR z, v1, v2, v3, v4, v5, v6] (aR z :: st) h := X_of dX5_fraction_7 rfl
theorem x_X5_fraction_8 {v0 v2 v3 v4 v5 v6 : AV} {z : Int} {st : List AV} {h : AH} : X mX5_fraction 8 [v0, aJ z, v2, v3, v4, v5, v6] st h = X mX5_fraction 9 [v0, aJ z, v2, v3, v4, v5, v6] (aJ z :: st) h := X_of dX5_fraction_8 rfl
theorem x_X5_fraction_9 {v0 v1 v2 v3 v4 v6 : AV} {z : Int} {st : List AV} {h : AH} : X mX5_fraction 9 [v0, v1, v2, v3, v4, aJ z, v6] st h = X mX5_fraction 11 [v0, v1, v2, v3, v4, aJ z, v6] (aJ z :: st) h := X_of dX5_fraction_9 rfl
theorem x_X5_fraction_11 {a b : Int} {al st : List AV} {h : AH} : X mX5_fraction 11 al (aJ b :: aJ a :: st) h = if b = 0 then none else X mX5_fraction 12 al (aJ (w64 (a.tdiv b)) :: st) h := x_divJ dX5_fraction_11
theorem x_X5_fraction_12 {a : Nat} {z : Int} {al st : List AV} {h : AH} : X mX5_fraction 12 al (aJ z :: aR (some a) :: st) h = pK (rd h 5 a 17) (X mX5_fraction 15 al st (wr h 5 a 17 (aJ z))) := x_put dX5_fraction_12 fT_5_140 rfl rfl
theorem x_X5_fraction_15 {v1 v2 v3 v4 v5 v6 : AV} {z : Option Nat} {st : List AV} {h : AH} : X mX5_fraction 15 [aR z, v1, v2, v3, v4, v5, v6] st h = X mX5_fraction 16 [aR z, v1, v2, v3, v4, v5, v6] (aR z :: st) h := X_of dX5_fraction_15 rfl
theorem x_X5_fraction_16 {v0 v1 v2 v4 v5 v6 : AV} {z : Int} {st : List AV} {h : AH} : X mX5_fraction 16 [v0, v1, v2, aJ z, v4, v5, v6] st h = X mX5_fraction 17 [v0, v1, v2, aJ z, v4, v5, v6] (aJ z :: st) h := X_of dX5_fraction_16 rfl
theorem x_X5_fraction_17 {v0 v1 v2 v3 v4 v6 : AV} {z : Int} {st : List AV} {h : AH} : X mX5_fraction 17 [v0, v1, v2, v3, v4, aJ z, v6] st h = X mX5_fraction 19 [v0, v1, v2, v3, v4, aJ z, v6] (aJ z :: st) h := X_of dX5_fraction_17 rfl
theorem x_X5_fraction_19 {a b : Int} {al st : List AV} {h : AH} : X mX5_fraction 19 al (aJ b :: aJ a :: st) h = if b = 0 then none else X mX5_fraction 20 al (aJ (w64 (a.tdiv b)) :: st) h := x_divJ dX5_fraction_19
theorem x_X5_fraction_20 {a : Nat} {z : Int} {al st : List AV} {h : AH} : X mX5_fraction 20 al (aJ z :: aR (some a) :: st) h = pK (rd h 5 a 18) (X mX5_fraction 23 al st (wr h 5 a 18 (aJ z))) := x_put dX5_fraction_20 fT_5_143 rfl rfl
theorem x_X5_fraction_23 {al : List AV} {h : AH} : X mX5_fraction 23 al [] h = some (none, h) := X_ofR dX5_fraction_23 rfl
theorem e_X5_tells {p0 : Option Nat} {h : AH} : E mX5_tells [aR p0] h = X mX5_tells 0 [aR p0] [] h := rfl
theorem x_X5_tells_0 {z : Option Nat} {st : List AV} {h : AH} : X mX5_tells 0 [aR z] st h = X mX5_tells 1 [aR z] (aR z :: st) h := X_of dX5_tells_0 rfl
theorem x_X5_tells_1 {z : Option Nat} {st : List AV} {h : AH} : X mX5_tells 1 [aR z] st h = X mX5_tells 2 [aR z] (aR z :: st) h := X_of dX5_tells_1 rfl
theorem x_X5_tells_2 {a : Nat} {al st : List AV} {h : AH} : X mX5_tells 2 al (aR (some a) :: st) h = gK (rd h 5 a 17) fun v => X mX5_tells 5 al (v :: st) h := x_get dX5_tells_2 fT_5_140
theorem x_X5_tells_5 {a : Nat} {z : Int} {al st : List AV} {h : AH} : X mX5_tells 5 al (aJ z :: aR (some a) :: st) h = pK (rd h 5 a 19) (X mX5_tells 8 al st (wr h 5 a 19 (aJ z))) := x_put dX5_tells_5 fT_5_146 rfl rfl
theorem x_X5_tells_8 {z : Option Nat} {st : List AV} {h : AH} : X mX5_tells 8 [aR z] st h = X mX5_tells 9 [aR z] (aR z :: st) h := X_of dX5_tells_8 rfl
theorem x_X5_tells_9 {z : Option Nat} {st : List AV} {h : AH} : X mX5_tells 9 [aR z] st h = X mX5_tells 10 [aR z] (aR z :: st) h := X_of dX5_tells_9 rfl
theorem x_X5_tells_10 {a : Nat} {al st : List AV} {h : AH} : X mX5_tells 10 al (aR (some a) :: st) h = gK (rd h 5 a 18) fun v => X mX5_tells 13 al (v :: st) h := x_get dX5_tells_10 fT_5_143
theorem x_X5_tells_13 {a : Nat} {z : Int} {al st : List AV} {h : AH} : X mX5_tells 13 al (aJ z :: aR (some a) :: st) h = pK (rd h 5 a 20) (X mX5_tells 16 al st (wr h 5 a 20 (aJ z))) := x_put dX5_tells_13 fT_5_72 rfl rfl
theorem x_X5_tells_16 {al st : List AV} {h : AH} : X mX5_tells 16 al st h = X mX5_tells 17 al (aI 1 :: st) h := X_of dX5_tells_16 rfl
theorem x_X5_tells_17 {z : Int} {al : List AV} {h : AH} : X mX5_tells 17 al [aI z] h = some (some (aI z), h) := X_ofR dX5_tells_17 rfl
theorem e_X5_upper {p0 : Option Nat} {h : AH} : E mX5_upper [aR p0] h = X mX5_upper 0 [aR p0] [] h := rfl
theorem x_X5_upper_0 {z : Option Nat} {st : List AV} {h : AH} : X mX5_upper 0 [aR z] st h = X mX5_upper 1 [aR z] (aR z :: st) h := X_of dX5_upper_0 rfl
theorem x_X5_upper_1 {a : Nat} {al st : List AV} {h : AH} : X mX5_upper 1 al (aR (some a) :: st) h = gK (rd h 5 a 19) fun v => X mX5_upper 4 al (v :: st) h := x_get dX5_upper_1 fT_5_146
theorem x_X5_upper_4 {z : Int} {al : List AV} {h : AH} : X mX5_upper 4 al [aJ z] h = some (some (aJ z), h) := X_ofR dX5_upper_4 rfl
theorem e_X5_lower {p0 : Option Nat} {h : AH} : E mX5_lower [aR p0] h = X mX5_lower 0 [aR p0] [] h := rfl
theorem x_X5_lower_0 {z : Option Nat} {st : List AV} {h : AH} : X mX5_lower 0 [aR z] st h = X mX5_lower 1 [aR z] (aR z :: st) h := X_of dX5_lower_0 rfl
theorem x_X5_lower_1 {a : Nat} {al st : List AV} {h : AH} : X mX5_lower 1 al (aR (some a) :: st) h = gK (rd h 5 a 20) fun v => X mX5_lower 4 al (v :: st) h := x_get dX5_lower_1 fT_5_72
theorem x_X5_lower_4 {z : Int} {al : List AV} {h : AH} : X mX5_lower 4 al [aJ z] h = some (some (aJ z), h) := X_ofR dX5_lower_4 rfl
theorem e_X5_cutDown {p0 : Int} {p1 : Int} {h : AH} : E mX5_cutDown [aJ p0, aJ p1] h = X mX5_cutDown 0 [aJ p0, aU, aJ p1, aU, aU, aU] [] h := rfl
theorem x_X5_cutDown_0 {v1 v2 v3 v4 v5 : AV} {z : Int} {st : List AV} {h : AH} : X mX5_cutDown 0 [aJ z, v1, v2, v3, v4, v5] st h = X mX5_cutDown 1 [aJ z, v1, v2, v3, v4, v5] (aJ z :: st) h := X_of dX5_cutDown_0 rfl
theorem x_X5_cutDown_1 {v0 v1 v3 v4 v5 : AV} {z : Int} {st : List AV} {h : AH} : X mX5_cutDown 1 [v0, v1, aJ z, v3, v4, v5] st h = X mX5_cutDown 2 [v0, v1, aJ z, v3, v4, v5] (aJ z :: st) h := X_of dX5_cutDown_1 rfl
theorem x_X5_cutDown_2 {a b : Int} {al st : List AV} {h : AH} : X mX5_cutDown 2 al (aJ b :: aJ a :: st) h = if b = 0 then none else X mX5_cutDown 3 al (aJ (w64 (a.tdiv b)) :: st) h := x_divJ dX5_cutDown_2
theorem x_X5_cutDown_3 {v0 v1 v2 v4 v5 : AV} {z : Int} {st : List AV} {h : AH} : X mX5_cutDown 3 [v0, v1, v2, aU, v4, v5] (aJ z :: st) h = X mX5_cutDown 5 [v0, v1, v2, aU, aJ z, aU] st h := X_of dX5_cutDown_3 rfl
theorem x_X5_cutDown_5 {v1 v2 v3 v4 v5 : AV} {z : Int} {st : List AV} {h : AH} : X mX5_cutDown 5 [aJ z, v1, v2, v3, v4, v5] st h = X mX5_cutDown 6 [aJ z, v1, v2, v3, v4, v5] (aJ z :: st) h := X_of dX5_cutDown_5 rfl
theorem x_X5_cutDown_6 {v0 v1 v3 v4 v5 : AV} {z : Int} {st : List AV} {h : AH} : X mX5_cutDown 6 [v0, v1, aJ z, v3, v4, v5] st h = X mX5_cutDown 7 [v0, v1, aJ z, v3, v4, v5] (aJ z :: st) h := X_of dX5_cutDown_6 rfl
theorem x_X5_cutDown_7 {a b : Int} {al st : List AV} {h : AH} : X mX5_cutDown 7 al (aJ b :: aJ a :: st) h = if b = 0 then none else X mX5_cutDown 8 al (aJ (a.tmod b) :: st) h := x_remJ dX5_cutDown_7
theorem x_X5_cutDown_8 {al st : List AV} {h : AH} : X mX5_cutDown 8 al st h = X mX5_cutDown 9 al (aJ 0 :: st) h := X_of dX5_cutDown_8 rfl
theorem x_X5_cutDown_9 {a b : Int} {al st : List AV} {h : AH} : X mX5_cutDown 9 al (aJ b :: aJ a :: st) h = X mX5_cutDown 10 al (aI (fCmp a b) :: st) h := X_of dX5_cutDown_9 rfl
theorem x_X5_cutDown_10 {a : Int} {al st : List AV} {h : AH} : X mX5_cutDown 10 al (aI a :: st) h = if 0 ≤ a then X mX5_cutDown 20 al st h else X mX5_cutDown 13 al st h := x_ge0 dX5_cutDown_10 rfl
theorem x_X5_cutDown_13 {v0 v1 v2 v3 v5 : AV} {z : Int} {st : List AV} {h : AH} : X mX5_cutDown 13 [v0, v1, v2, v3, aJ z, v5] st h = X mX5_cutDown 15 [v0, v1, v2, v3, aJ z, v5] (aJ z :: st) h := X_of dX5_cutDown_13 rfl
theorem x_X5_cutDown_15 {al st : List AV} {h : AH} : X mX5_cutDown 15 al st h = X mX5_cutDown 16 al (aJ 1 :: st) h := X_of dX5_cutDown_15 rfl
theorem x_X5_cutDown_16 {a b : Int} {al st : List AV} {h : AH} : X mX5_cutDown 16 al (aJ b :: aJ a :: st) h = X mX5_cutDown 17 al (aJ (w64 (a - b)) :: st) h := X_of dX5_cutDown_16 rfl
theorem x_X5_cutDown_17 {al st : List AV} {h : AH} : X mX5_cutDown 17 al st h = X mX5_cutDown 22 al st h := X_of dX5_cutDown_17 rfl
theorem x_X5_cutDown_20 {v0 v1 v2 v3 v5 : AV} {z : Int} {st : List AV} {h : AH} : X mX5_cutDown 20 [v0, v1, v2, v3, aJ z, v5] st h = X mX5_cutDown 22 [v0, v1, v2, v3, aJ z, v5] (aJ z :: st) h := X_of dX5_cutDown_20 rfl
theorem x_X5_cutDown_22 {z : Int} {al : List AV} {h : AH} : X mX5_cutDown 22 al [aJ z] h = some (some (aJ z), h) := X_ofR dX5_cutDown_22 rfl
theorem e_X5_compared {p0 : Int} {p1 : Int} {p2 : Int} {p3 : Int} {h : AH} : E mX5_compared [aJ p0, aJ p1, aJ p2, aJ p3] h = X mX5_compared 0 [aJ p0, aU, aJ p1, aU, aJ p2, aU, aJ p3, aU, aU, aU, aU, aU, aU, aU, aU, aU, aU, aU, aU, aU, aU, aU, aU, aU, aU] [] h := rfl
theorem x_X5_compared_0 {v1 v2 v3 v4 v5 v6 v7 v8 v9 v10 v11 v12 v13 v14 v15 v16 v17 v18 v19 v20 v21 v22 v23 v24 : AV} {z : Int} {st : List AV} {h : AH} : X mX5_compared 0 [aJ z, v1, v2, v3, v4, v5, v6, v7, v8, v9, v10, v11, v12, v13, v14, v15, v16, v17, v18, v19, v20, v21, v22, v23, v24] st h = X mX5_compared 1 [aJ z, v1, v2, v3, v4, v5, v6, v7, v8, v9, v10, v11, v12, v13, v14, v15, v16, v17, v18, v19, v20, v21, v22, v23, v24] (aJ z :: st) h := X_of dX5_compared_0 rfl
theorem x_X5_compared_1 {v0 v1 v2 v3 v4 v5 v6 v8 v9 v10 v11 v12 v13 v14 v15 v16 v17 v18 v19 v20 v21 v22 v23 v24 : AV} {z : Int} {st : List AV} {h : AH} : X mX5_compared 1 [v0, v1, v2, v3, v4, v5, v6, aU, v8, v9, v10, v11, v12, v13, v14, v15, v16, v17, v18, v19, v20, v21, v22, v23, v24] (aJ z :: st) h = X mX5_compared 3 [v0, v1, v2, v3, v4, v5, v6, aU, aJ z, aU, v10, v11, v12, v13, v14, v15, v16, v17, v18, v19, v20, v21, v22, v23, v24] st h := X_of dX5_compared_1 rfl
theorem x_X5_compared_3 {v0 v1 v3 v4 v5 v6 v7 v8 v9 v10 v11 v12 v13 v14 v15 v16 v17 v18 v19 v20 v21 v22 v23 v24 : AV} {z : Int} {st : List AV} {h : AH} : X mX5_compared 3 [v0, v1, aJ z, v3, v4, v5, v6, v7, v8, v9, v10, v11, v12, v13, v14, v15, v16, v17, v18, v19, v20, v21, v22, v23, v24] st h = X mX5_compared 4 [v0, v1, aJ z, v3, v4, v5, v6, v7, v8, v9, v10, v11, v12, v13, v14, v15, v16, v17, v18, v19, v20, v21, v22, v23, v24] (aJ z :: st) h := X_of dX5_compared_3 rfl
theorem x_X5_compared_4 {v0 v1 v2 v3 v4 v5 v6 v7 v8 v10 v11 v12 v13 v14 v15 v16 v17 v18 v19 v20 v21 v22 v23 v24 : AV} {z : Int} {st : List AV} {h : AH} : X mX5_compared 4 [v0, v1, v2, v3, v4, v5, v6, v7, v8, aU, v10, v11, v12, v13, v14, v15, v16, v17, v18, v19, v20, v21, v22, v23, v24] (aJ z :: st) h = X mX5_compared 6 [v0, v1, v2, v3, v4, v5, v6, v7, v8, aU, aJ z, aU, v12, v13, v14, v15, v16, v17, v18, v19, v20, v21, v22, v23, v24] st h := X_of dX5_compared_4 rfl
theorem x_X5_compared_6 {v0 v1 v2 v3 v5 v6 v7 v8 v9 v10 v11 v12 v13 v14 v15 v16 v17 v18 v19 v20 v21 v22 v23 v24 : AV} {z : Int} {st : List AV} {h : AH} : X mX5_compared 6 [v0, v1, v2, v3, aJ z, v5, v6, v7, v8, v9, v10, v11, v12, v13, v14, v15, v16, v17, v18, v19, v20, v21, v22, v23, v24] st h = X mX5_compared 8 [v0, v1, v2, v3, aJ z, v5, v6, v7, v8, v9, v10, v11, v12, v13, v14, v15, v16, v17, v18, v19, v20, v21, v22, v23, v24] (aJ z :: st) h := X_of dX5_compared_6 rfl
theorem x_X5_compared_8 {v0 v1 v2 v3 v4 v5 v6 v7 v8 v9 v10 v12 v13 v14 v15 v16 v17 v18 v19 v20 v21 v22 v23 v24 : AV} {z : Int} {st : List AV} {h : AH} : X mX5_compared 8 [v0, v1, v2, v3, v4, v5, v6, v7, v8, v9, v10, aU, v12, v13, v14, v15, v16, v17, v18, v19, v20, v21, v22, v23, v24] (aJ z :: st) h = X mX5_compared 10 [v0, v1, v2, v3, v4, v5, v6, v7, v8, v9, v10, aU, aJ z, aU, v14, v15, v16, v17, v18, v19, v20, v21, v22, v23, v24] st h := X_of dX5_compared_8 rfl
theorem x_X5_compared_10 {v0 v1 v2 v3 v4 v5 v7 v8 v9 v10 v11 v12 v13 v14 v15 v16 v17 v18 v19 v20 v21 v22 v23 v24 : AV} {z : Int} {st : List AV} {h : AH} : X mX5_compared 10 [v0, v1, v2, v3, v4, v5, aJ z, v7, v8, v9, v10, v11, v12, v13, v14, v15, v16, v17, v18, v19, v20, v21, v22, v23, v24] st h = X mX5_compared 12 [v0, v1, v2, v3, v4, v5, aJ z, v7, v8, v9, v10, v11, v12, v13, v14, v15, v16, v17, v18, v19, v20, v21, v22, v23, v24] (aJ z :: st) h := X_of dX5_compared_10 rfl
theorem x_X5_compared_12 {v0 v1 v2 v3 v4 v5 v6 v7 v8 v9 v10 v11 v12 v14 v15 v16 v17 v18 v19 v20 v21 v22 v23 v24 : AV} {z : Int} {st : List AV} {h : AH} : X mX5_compared 12 [v0, v1, v2, v3, v4, v5, v6, v7, v8, v9, v10, v11, v12, aU, v14, v15, v16, v17, v18, v19, v20, v21, v22, v23, v24] (aJ z :: st) h = X mX5_compared 14 [v0, v1, v2, v3, v4, v5, v6, v7, v8, v9, v10, v11, v12, aU, aJ z, aU, v16, v17, v18, v19, v20, v21, v22, v23, v24] st h := X_of dX5_compared_12 rfl
theorem x_X5_compared_14 {al st : List AV} {h : AH} : X mX5_compared 14 al st h = X mX5_compared 15 al (aI 1 :: st) h := X_of dX5_compared_14 rfl
theorem x_X5_compared_15 {v0 v1 v2 v3 v4 v5 v6 v7 v8 v9 v10 v11 v12 v13 v14 v16 v17 v18 v19 v20 v21 v22 v23 v24 : AV} {z : Int} {st : List AV} {h : AH} : X mX5_compared 15 [v0, v1, v2, v3, v4, v5, v6, v7, v8, v9, v10, v11, v12, v13, v14, aU, v16, v17, v18, v19, v20, v21, v22, v23, v24] (aI z :: st) h = X mX5_compared 17 [v0, v1, v2, v3, v4, v5, v6, v7, v8, v9, v10, v11, v12, v13, v14, aU, aI z, v17, v18, v19, v20, v21, v22, v23, v24] st h := X_of dX5_compared_15 rfl
theorem x_X5_compared_17 {v0 v1 v2 v3 v4 v5 v6 v7 v9 v10 v11 v12 v13 v14 v15 v16 v17 v18 v19 v20 v21 v22 v23 v24 : AV} {z : Int} {st : List AV} {h : AH} : X mX5_compared 17 [v0, v1, v2, v3, v4, v5, v6, v7, aJ z, v9, v10, v11, v12, v13, v14, v15, v16, v17, v18, v19, v20, v21, v22, v23, v24] st h = X mX5_compared 19 [v0, v1, v2, v3, v4, v5, v6, v7, aJ z, v9, v10, v11, v12, v13, v14, v15, v16, v17, v18, v19, v20, v21, v22, v23, v24] (aJ z :: st) h := X_of dX5_compared_17 rfl
theorem x_X5_compared_19 {v0 v1 v2 v3 v4 v5 v6 v7 v8 v9 v11 v12 v13 v14 v15 v16 v17 v18 v19 v20 v21 v22 v23 v24 : AV} {z : Int} {st : List AV} {h : AH} : X mX5_compared 19 [v0, v1, v2, v3, v4, v5, v6, v7, v8, v9, aJ z, v11, v12, v13, v14, v15, v16, v17, v18, v19, v20, v21, v22, v23, v24] st h = X mX5_compared 21 [v0, v1, v2, v3, v4, v5, v6, v7, v8, v9, aJ z, v11, v12, v13, v14, v15, v16, v17, v18, v19, v20, v21, v22, v23, v24] (aJ z :: st) h := X_of dX5_compared_19 rfl
theorem x_X5_compared_21 {a0 : Int} {a1 : Int} {al : List AV} {h : AH} : X mX5_compared 21 al [aJ a1, aJ a0] h = cK (E mX5_cutDown [aJ a0, aJ a1] h) fun v h2 => X mX5_compared 24 al (v.toList ++ []) h2 := x_cal (as := [aJ a0, aJ a1]) (rest := []) dX5_compared_21 (fun _ => rfl) cT_5_149 rfl rfl rfl
theorem x_X5_compared_24 {v0 v1 v2 v3 v4 v5 v6 v7 v8 v9 v10 v11 v12 v13 v14 v15 v17 v18 v19 v20 v21 v22 v23 v24 : AV} {y : Int} {z : Int} {st : List AV} {h : AH} : X mX5_compared 24 [v0, v1, v2, v3, v4, v5, v6, v7, v8, v9, v10, v11, v12, v13, v14, v15, aI y, v17, v18, v19, v20, v21, v22, v23, v24] (aJ z :: st) h = X mX5_compared 26 [v0, v1, v2, v3, v4, v5, v6, v7, v8, v9, v10, v11, v12, v13, v14, v15, aI y, aJ z, aU, v19, v20, v21, v22, v23, v24] st h := X_of dX5_compared_24 rfl
theorem x_X5_compared_26 {v0 v1 v2 v3 v4 v5 v6 v7 v8 v9 v10 v11 v13 v14 v15 v16 v17 v18 v19 v20 v21 v22 v23 v24 : AV} {z : Int} {st : List AV} {h : AH} : X mX5_compared 26 [v0, v1, v2, v3, v4, v5, v6, v7, v8, v9, v10, v11, aJ z, v13, v14, v15, v16, v17, v18, v19, v20, v21, v22, v23, v24] st h = X mX5_compared 28 [v0, v1, v2, v3, v4, v5, v6, v7, v8, v9, v10, v11, aJ z, v13, v14, v15, v16, v17, v18, v19, v20, v21, v22, v23, v24] (aJ z :: st) h := X_of dX5_compared_26 rfl
theorem x_X5_compared_28 {v0 v1 v2 v3 v4 v5 v6 v7 v8 v9 v10 v11 v12 v13 v15 v16 v17 v18 v19 v20 v21 v22 v23 v24 : AV} {z : Int} {st : List AV} {h : AH} : X mX5_compared 28 [v0, v1, v2, v3, v4, v5, v6, v7, v8, v9, v10, v11, v12, v13, aJ z, v15, v16, v17, v18, v19, v20, v21, v22, v23, v24] st h = X mX5_compared 30 [v0, v1, v2, v3, v4, v5, v6, v7, v8, v9, v10, v11, v12, v13, aJ z, v15, v16, v17, v18, v19, v20, v21, v22, v23, v24] (aJ z :: st) h := X_of dX5_compared_28 rfl
theorem x_X5_compared_30 {a0 : Int} {a1 : Int} {al : List AV} {h : AH} : X mX5_compared 30 al [aJ a1, aJ a0] h = cK (E mX5_cutDown [aJ a0, aJ a1] h) fun v h2 => X mX5_compared 33 al (v.toList ++ []) h2 := x_cal (as := [aJ a0, aJ a1]) (rest := []) dX5_compared_30 (fun _ => rfl) cT_5_149 rfl rfl rfl
theorem x_X5_compared_33 {v0 v1 v2 v3 v4 v5 v6 v7 v8 v9 v10 v11 v12 v13 v14 v15 v16 v17 v19 v20 v21 v22 v23 v24 : AV} {z : Int} {st : List AV} {h : AH} : X mX5_compared 33 [v0, v1, v2, v3, v4, v5, v6, v7, v8, v9, v10, v11, v12, v13, v14, v15, v16, v17, aU, v19, v20, v21, v22, v23, v24] (aJ z :: st) h = X mX5_compared 35 [v0, v1, v2, v3, v4, v5, v6, v7, v8, v9, v10, v11, v12, v13, v14, v15, v16, v17, aU, aJ z, aU, v21, v22, v23, v24] st h := X_of dX5_compared_33 rfl
theorem x_X5_compared_35 {v0 v1 v2 v3 v4 v5 v6 v7 v8 v9 v10 v11 v12 v13 v14 v15 v16 v18 v19 v20 v21 v22 v23 v24 : AV} {z : Int} {st : List AV} {h : AH} : X mX5_compared 35 [v0, v1, v2, v3, v4, v5, v6, v7, v8, v9, v10, v11, v12, v13, v14, v15, v16, aJ z, v18, v19, v20, v21, v22, v23, v24] st h = X mX5_compared 37 [v0, v1, v2, v3, v4, v5, v6, v7, v8, v9, v10, v11, v12, v13, v14, v15, v16, aJ z, v18, v19, v20, v21, v22, v23, v24] (aJ z :: st) h := X_of dX5_compared_35 rfl
theorem x_X5_compared_37 {v0 v1 v2 v3 v4 v5 v6 v7 v8 v9 v10 v11 v12 v13 v14 v15 v16 v17 v18 v20 v21 v22 v23 v24 : AV} {z : Int} {st : List AV} {h : AH} : X mX5_compared 37 [v0, v1, v2, v3, v4, v5, v6, v7, v8, v9, v10, v11, v12, v13, v14, v15, v16, v17, v18, aJ z, v20, v21, v22, v23, v24] st h = X mX5_compared 39 [v0, v1, v2, v3, v4, v5, v6, v7, v8, v9, v10, v11, v12, v13, v14, v15, v16, v17, v18, aJ z, v20, v21, v22, v23, v24] (aJ z :: st) h := X_of dX5_compared_37 rfl
theorem x_X5_compared_39 {a b : Int} {al st : List AV} {h : AH} : X mX5_compared 39 al (aJ b :: aJ a :: st) h = X mX5_compared 40 al (aI (fCmp a b) :: st) h := X_of dX5_compared_39 rfl
theorem x_X5_compared_40 {a : Int} {al st : List AV} {h : AH} : X mX5_compared 40 al (aI a :: st) h = if a = 0 then X mX5_compared 60 al st h else X mX5_compared 43 al st h := x_eq0 dX5_compared_40 rfl
theorem x_X5_compared_43 {v0 v1 v2 v3 v4 v5 v6 v7 v8 v9 v10 v11 v12 v13 v14 v15 v16 v18 v19 v20 v21 v22 v23 v24 : AV} {z : Int} {st : List AV} {h : AH} : X mX5_compared 43 [v0, v1, v2, v3, v4, v5, v6, v7, v8, v9, v10, v11, v12, v13, v14, v15, v16, aJ z, v18, v19, v20, v21, v22, v23, v24] st h = X mX5_compared 45 [v0, v1, v2, v3, v4, v5, v6, v7, v8, v9, v10, v11, v12, v13, v14, v15, v16, aJ z, v18, v19, v20, v21, v22, v23, v24] (aJ z :: st) h := X_of dX5_compared_43 rfl
theorem x_X5_compared_45 {v0 v1 v2 v3 v4 v5 v6 v7 v8 v9 v10 v11 v12 v13 v14 v15 v16 v17 v18 v20 v21 v22 v23 v24 : AV} {z : Int} {st : List AV} {h : AH} : X mX5_compared 45 [v0, v1, v2, v3, v4, v5, v6, v7, v8, v9, v10, v11, v12, v13, v14, v15, v16, v17, v18, aJ z, v20, v21, v22, v23, v24] st h = X mX5_compared 47 [v0, v1, v2, v3, v4, v5, v6, v7, v8, v9, v10, v11, v12, v13, v14, v15, v16, v17, v18, aJ z, v20, v21, v22, v23, v24] (aJ z :: st) h := X_of dX5_compared_45 rfl
theorem x_X5_compared_47 {a b : Int} {al st : List AV} {h : AH} : X mX5_compared 47 al (aJ b :: aJ a :: st) h = X mX5_compared 48 al (aI (fCmp a b) :: st) h := X_of dX5_compared_47 rfl
theorem x_X5_compared_48 {a : Int} {al st : List AV} {h : AH} : X mX5_compared 48 al (aI a :: st) h = if a ≤ 0 then X mX5_compared 56 al st h else X mX5_compared 51 al st h := x_le0 dX5_compared_48 rfl
theorem x_X5_compared_51 {v0 v1 v2 v3 v4 v5 v6 v7 v8 v9 v10 v11 v12 v13 v14 v15 v17 v18 v19 v20 v21 v22 v23 v24 : AV} {z : Int} {st : List AV} {h : AH} : X mX5_compared 51 [v0, v1, v2, v3, v4, v5, v6, v7, v8, v9, v10, v11, v12, v13, v14, v15, aI z, v17, v18, v19, v20, v21, v22, v23, v24] st h = X mX5_compared 53 [v0, v1, v2, v3, v4, v5, v6, v7, v8, v9, v10, v11, v12, v13, v14, v15, aI z, v17, v18, v19, v20, v21, v22, v23, v24] (aI z :: st) h := X_of dX5_compared_51 rfl
theorem x_X5_compared_53 {al st : List AV} {h : AH} : X mX5_compared 53 al st h = X mX5_compared 59 al st h := X_of dX5_compared_53 rfl
theorem x_X5_compared_56 {v0 v1 v2 v3 v4 v5 v6 v7 v8 v9 v10 v11 v12 v13 v14 v15 v17 v18 v19 v20 v21 v22 v23 v24 : AV} {z : Int} {st : List AV} {h : AH} : X mX5_compared 56 [v0, v1, v2, v3, v4, v5, v6, v7, v8, v9, v10, v11, v12, v13, v14, v15, aI z, v17, v18, v19, v20, v21, v22, v23, v24] st h = X mX5_compared 58 [v0, v1, v2, v3, v4, v5, v6, v7, v8, v9, v10, v11, v12, v13, v14, v15, aI z, v17, v18, v19, v20, v21, v22, v23, v24] (aI z :: st) h := X_of dX5_compared_56 rfl
theorem x_X5_compared_58 {a : Int} {al st : List AV} {h : AH} : X mX5_compared 58 al (aI a :: st) h = X mX5_compared 59 al (aI (w32 (-a)) :: st) h := X_of dX5_compared_58 rfl
theorem x_X5_compared_59 {z : Int} {al : List AV} {h : AH} : X mX5_compared 59 al [aI z] h = some (some (aI z), h) := X_ofR dX5_compared_59 rfl
theorem x_X5_compared_60 {v0 v1 v2 v3 v4 v5 v6 v7 v9 v10 v11 v12 v13 v14 v15 v16 v17 v18 v19 v20 v21 v22 v23 v24 : AV} {z : Int} {st : List AV} {h : AH} : X mX5_compared 60 [v0, v1, v2, v3, v4, v5, v6, v7, aJ z, v9, v10, v11, v12, v13, v14, v15, v16, v17, v18, v19, v20, v21, v22, v23, v24] st h = X mX5_compared 62 [v0, v1, v2, v3, v4, v5, v6, v7, aJ z, v9, v10, v11, v12, v13, v14, v15, v16, v17, v18, v19, v20, v21, v22, v23, v24] (aJ z :: st) h := X_of dX5_compared_60 rfl
theorem x_X5_compared_62 {v0 v1 v2 v3 v4 v5 v6 v7 v8 v9 v10 v11 v12 v13 v14 v15 v16 v18 v19 v20 v21 v22 v23 v24 : AV} {z : Int} {st : List AV} {h : AH} : X mX5_compared 62 [v0, v1, v2, v3, v4, v5, v6, v7, v8, v9, v10, v11, v12, v13, v14, v15, v16, aJ z, v18, v19, v20, v21, v22, v23, v24] st h = X mX5_compared 64 [v0, v1, v2, v3, v4, v5, v6, v7, v8, v9, v10, v11, v12, v13, v14, v15, v16, aJ z, v18, v19, v20, v21, v22, v23, v24] (aJ z :: st) h := X_of dX5_compared_62 rfl
theorem x_X5_compared_64 {v0 v1 v2 v3 v4 v5 v6 v7 v8 v9 v11 v12 v13 v14 v15 v16 v17 v18 v19 v20 v21 v22 v23 v24 : AV} {z : Int} {st : List AV} {h : AH} : X mX5_compared 64 [v0, v1, v2, v3, v4, v5, v6, v7, v8, v9, aJ z, v11, v12, v13, v14, v15, v16, v17, v18, v19, v20, v21, v22, v23, v24] st h = X mX5_compared 66 [v0, v1, v2, v3, v4, v5, v6, v7, v8, v9, aJ z, v11, v12, v13, v14, v15, v16, v17, v18, v19, v20, v21, v22, v23, v24] (aJ z :: st) h := X_of dX5_compared_64 rfl
theorem x_X5_compared_66 {a b : Int} {al st : List AV} {h : AH} : X mX5_compared 66 al (aJ b :: aJ a :: st) h = X mX5_compared 67 al (aJ (w64 (a * b)) :: st) h := X_of dX5_compared_66 rfl
theorem x_X5_compared_67 {a b : Int} {al st : List AV} {h : AH} : X mX5_compared 67 al (aJ b :: aJ a :: st) h = X mX5_compared 68 al (aJ (w64 (a - b)) :: st) h := X_of dX5_compared_67 rfl
theorem x_X5_compared_68 {v0 v1 v2 v3 v4 v5 v6 v7 v8 v9 v10 v11 v12 v13 v14 v15 v16 v17 v18 v19 v21 v22 v23 v24 : AV} {z : Int} {st : List AV} {h : AH} : X mX5_compared 68 [v0, v1, v2, v3, v4, v5, v6, v7, v8, v9, v10, v11, v12, v13, v14, v15, v16, v17, v18, v19, aU, v21, v22, v23, v24] (aJ z :: st) h = X mX5_compared 70 [v0, v1, v2, v3, v4, v5, v6, v7, v8, v9, v10, v11, v12, v13, v14, v15, v16, v17, v18, v19, aU, aJ z, aU, v23, v24] st h := X_of dX5_compared_68 rfl
theorem x_X5_compared_70 {v0 v1 v2 v3 v4 v5 v6 v7 v8 v9 v10 v11 v13 v14 v15 v16 v17 v18 v19 v20 v21 v22 v23 v24 : AV} {z : Int} {st : List AV} {h : AH} : X mX5_compared 70 [v0, v1, v2, v3, v4, v5, v6, v7, v8, v9, v10, v11, aJ z, v13, v14, v15, v16, v17, v18, v19, v20, v21, v22, v23, v24] st h = X mX5_compared 72 [v0, v1, v2, v3, v4, v5, v6, v7, v8, v9, v10, v11, aJ z, v13, v14, v15, v16, v17, v18, v19, v20, v21, v22, v23, v24] (aJ z :: st) h := X_of dX5_compared_70 rfl
theorem x_X5_compared_72 {v0 v1 v2 v3 v4 v5 v6 v7 v8 v9 v10 v11 v12 v13 v14 v15 v16 v17 v18 v20 v21 v22 v23 v24 : AV} {z : Int} {st : List AV} {h : AH} : X mX5_compared 72 [v0, v1, v2, v3, v4, v5, v6, v7, v8, v9, v10, v11, v12, v13, v14, v15, v16, v17, v18, aJ z, v20, v21, v22, v23, v24] st h = X mX5_compared 74 [v0, v1, v2, v3, v4, v5, v6, v7, v8, v9, v10, v11, v12, v13, v14, v15, v16, v17, v18, aJ z, v20, v21, v22, v23, v24] (aJ z :: st) h := X_of dX5_compared_72 rfl
theorem x_X5_compared_74 {v0 v1 v2 v3 v4 v5 v6 v7 v8 v9 v10 v11 v12 v13 v15 v16 v17 v18 v19 v20 v21 v22 v23 v24 : AV} {z : Int} {st : List AV} {h : AH} : X mX5_compared 74 [v0, v1, v2, v3, v4, v5, v6, v7, v8, v9, v10, v11, v12, v13, aJ z, v15, v16, v17, v18, v19, v20, v21, v22, v23, v24] st h = X mX5_compared 76 [v0, v1, v2, v3, v4, v5, v6, v7, v8, v9, v10, v11, v12, v13, aJ z, v15, v16, v17, v18, v19, v20, v21, v22, v23, v24] (aJ z :: st) h := X_of dX5_compared_74 rfl
theorem x_X5_compared_76 {a b : Int} {al st : List AV} {h : AH} : X mX5_compared 76 al (aJ b :: aJ a :: st) h = X mX5_compared 77 al (aJ (w64 (a * b)) :: st) h := X_of dX5_compared_76 rfl
theorem x_X5_compared_77 {a b : Int} {al st : List AV} {h : AH} : X mX5_compared 77 al (aJ b :: aJ a :: st) h = X mX5_compared 78 al (aJ (w64 (a - b)) :: st) h := X_of dX5_compared_77 rfl
theorem x_X5_compared_78 {v0 v1 v2 v3 v4 v5 v6 v7 v8 v9 v10 v11 v12 v13 v14 v15 v16 v17 v18 v19 v20 v21 v23 v24 : AV} {z : Int} {st : List AV} {h : AH} : X mX5_compared 78 [v0, v1, v2, v3, v4, v5, v6, v7, v8, v9, v10, v11, v12, v13, v14, v15, v16, v17, v18, v19, v20, v21, aU, v23, v24] (aJ z :: st) h = X mX5_compared 80 [v0, v1, v2, v3, v4, v5, v6, v7, v8, v9, v10, v11, v12, v13, v14, v15, v16, v17, v18, v19, v20, v21, aU, aJ z, aU] st h := X_of dX5_compared_78 rfl
theorem x_X5_compared_80 {v0 v1 v2 v3 v4 v5 v6 v7 v8 v9 v10 v11 v12 v13 v14 v15 v16 v17 v18 v19 v20 v22 v23 v24 : AV} {z : Int} {st : List AV} {h : AH} : X mX5_compared 80 [v0, v1, v2, v3, v4, v5, v6, v7, v8, v9, v10, v11, v12, v13, v14, v15, v16, v17, v18, v19, v20, aJ z, v22, v23, v24] st h = X mX5_compared 82 [v0, v1, v2, v3, v4, v5, v6, v7, v8, v9, v10, v11, v12, v13, v14, v15, v16, v17, v18, v19, v20, aJ z, v22, v23, v24] (aJ z :: st) h := X_of dX5_compared_80 rfl
theorem x_X5_compared_82 {al st : List AV} {h : AH} : X mX5_compared 82 al st h = X mX5_compared 83 al (aJ 0 :: st) h := X_of dX5_compared_82 rfl
theorem x_X5_compared_83 {a b : Int} {al st : List AV} {h : AH} : X mX5_compared 83 al (aJ b :: aJ a :: st) h = X mX5_compared 84 al (aI (fCmp a b) :: st) h := X_of dX5_compared_83 rfl
theorem x_X5_compared_84 {a : Int} {al st : List AV} {h : AH} : X mX5_compared 84 al (aI a :: st) h = if a = 0 then X mX5_compared 94 al st h else X mX5_compared 87 al st h := x_eq0 dX5_compared_84 rfl
theorem x_X5_compared_87 {v0 v1 v2 v3 v4 v5 v6 v7 v8 v9 v10 v11 v12 v13 v14 v15 v16 v17 v18 v19 v20 v21 v22 v24 : AV} {z : Int} {st : List AV} {h : AH} : X mX5_compared 87 [v0, v1, v2, v3, v4, v5, v6, v7, v8, v9, v10, v11, v12, v13, v14, v15, v16, v17, v18, v19, v20, v21, v22, aJ z, v24] st h = X mX5_compared 89 [v0, v1, v2, v3, v4, v5, v6, v7, v8, v9, v10, v11, v12, v13, v14, v15, v16, v17, v18, v19, v20, v21, v22, aJ z, v24] (aJ z :: st) h := X_of dX5_compared_87 rfl
theorem x_X5_compared_89 {al st : List AV} {h : AH} : X mX5_compared 89 al st h = X mX5_compared 90 al (aJ 0 :: st) h := X_of dX5_compared_89 rfl
theorem x_X5_compared_90 {a b : Int} {al st : List AV} {h : AH} : X mX5_compared 90 al (aJ b :: aJ a :: st) h = X mX5_compared 91 al (aI (fCmp a b) :: st) h := X_of dX5_compared_90 rfl
theorem x_X5_compared_91 {a : Int} {al st : List AV} {h : AH} : X mX5_compared 91 al (aI a :: st) h = if ¬ a = 0 then X mX5_compared 122 al st h else X mX5_compared 94 al st h := x_ne0 dX5_compared_91 rfl
theorem x_X5_compared_94 {v0 v1 v2 v3 v4 v5 v6 v7 v8 v9 v10 v11 v12 v13 v14 v15 v16 v17 v18 v19 v20 v22 v23 v24 : AV} {z : Int} {st : List AV} {h : AH} : X mX5_compared 94 [v0, v1, v2, v3, v4, v5, v6, v7, v8, v9, v10, v11, v12, v13, v14, v15, v16, v17, v18, v19, v20, aJ z, v22, v23, v24] st h = X mX5_compared 96 [v0, v1, v2, v3, v4, v5, v6, v7, v8, v9, v10, v11, v12, v13, v14, v15, v16, v17, v18, v19, v20, aJ z, v22, v23, v24] (aJ z :: st) h := X_of dX5_compared_94 rfl
theorem x_X5_compared_96 {v0 v1 v2 v3 v4 v5 v6 v7 v8 v9 v10 v11 v12 v13 v14 v15 v16 v17 v18 v19 v20 v21 v22 v24 : AV} {z : Int} {st : List AV} {h : AH} : X mX5_compared 96 [v0, v1, v2, v3, v4, v5, v6, v7, v8, v9, v10, v11, v12, v13, v14, v15, v16, v17, v18, v19, v20, v21, v22, aJ z, v24] st h = X mX5_compared 98 [v0, v1, v2, v3, v4, v5, v6, v7, v8, v9, v10, v11, v12, v13, v14, v15, v16, v17, v18, v19, v20, v21, v22, aJ z, v24] (aJ z :: st) h := X_of dX5_compared_96 rfl
theorem x_X5_compared_98 {a b : Int} {al st : List AV} {h : AH} : X mX5_compared 98 al (aJ b :: aJ a :: st) h = X mX5_compared 99 al (aI (fCmp a b) :: st) h := X_of dX5_compared_98 rfl
theorem x_X5_compared_99 {a : Int} {al st : List AV} {h : AH} : X mX5_compared 99 al (aI a :: st) h = if ¬ a = 0 then X mX5_compared 106 al st h else X mX5_compared 102 al st h := x_ne0 dX5_compared_99 rfl
theorem x_X5_compared_102 {al st : List AV} {h : AH} : X mX5_compared 102 al st h = X mX5_compared 103 al (aI 0 :: st) h := X_of dX5_compared_102 rfl
theorem x_X5_compared_103 {al st : List AV} {h : AH} : X mX5_compared 103 al st h = X mX5_compared 121 al st h := X_of dX5_compared_103 rfl
theorem x_X5_compared_106 {v0 v1 v2 v3 v4 v5 v6 v7 v8 v9 v10 v11 v12 v13 v14 v15 v16 v17 v18 v19 v20 v22 v23 v24 : AV} {z : Int} {st : List AV} {h : AH} : X mX5_compared 106 [v0, v1, v2, v3, v4, v5, v6, v7, v8, v9, v10, v11, v12, v13, v14, v15, v16, v17, v18, v19, v20, aJ z, v22, v23, v24] st h = X mX5_compared 108 [v0, v1, v2, v3, v4, v5, v6, v7, v8, v9, v10, v11, v12, v13, v14, v15, v16, v17, v18, v19, v20, aJ z, v22, v23, v24] (aJ z :: st) h := X_of dX5_compared_106 rfl
theorem x_X5_compared_108 {al st : List AV} {h : AH} : X mX5_compared 108 al st h = X mX5_compared 109 al (aJ 0 :: st) h := X_of dX5_compared_108 rfl
theorem x_X5_compared_109 {a b : Int} {al st : List AV} {h : AH} : X mX5_compared 109 al (aJ b :: aJ a :: st) h = X mX5_compared 110 al (aI (fCmp a b) :: st) h := X_of dX5_compared_109 rfl
theorem x_X5_compared_110 {a : Int} {al st : List AV} {h : AH} : X mX5_compared 110 al (aI a :: st) h = if ¬ a = 0 then X mX5_compared 119 al st h else X mX5_compared 113 al st h := x_ne0 dX5_compared_110 rfl
theorem x_X5_compared_113 {v0 v1 v2 v3 v4 v5 v6 v7 v8 v9 v10 v11 v12 v13 v14 v15 v17 v18 v19 v20 v21 v22 v23 v24 : AV} {z : Int} {st : List AV} {h : AH} : X mX5_compared 113 [v0, v1, v2, v3, v4, v5, v6, v7, v8, v9, v10, v11, v12, v13, v14, v15, aI z, v17, v18, v19, v20, v21, v22, v23, v24] st h = X mX5_compared 115 [v0, v1, v2, v3, v4, v5, v6, v7, v8, v9, v10, v11, v12, v13, v14, v15, aI z, v17, v18, v19, v20, v21, v22, v23, v24] (aI z :: st) h := X_of dX5_compared_113 rfl
theorem x_X5_compared_115 {a : Int} {al st : List AV} {h : AH} : X mX5_compared 115 al (aI a :: st) h = X mX5_compared 116 al (aI (w32 (-a)) :: st) h := X_of dX5_compared_115 rfl
theorem x_X5_compared_116 {al st : List AV} {h : AH} : X mX5_compared 116 al st h = X mX5_compared 121 al st h := X_of dX5_compared_116 rfl
theorem x_X5_compared_119 {v0 v1 v2 v3 v4 v5 v6 v7 v8 v9 v10 v11 v12 v13 v14 v15 v17 v18 v19 v20 v21 v22 v23 v24 : AV} {z : Int} {st : List AV} {h : AH} : X mX5_compared 119 [v0, v1, v2, v3, v4, v5, v6, v7, v8, v9, v10, v11, v12, v13, v14, v15, aI z, v17, v18, v19, v20, v21, v22, v23, v24] st h = X mX5_compared 121 [v0, v1, v2, v3, v4, v5, v6, v7, v8, v9, v10, v11, v12, v13, v14, v15, aI z, v17, v18, v19, v20, v21, v22, v23, v24] (aI z :: st) h := X_of dX5_compared_119 rfl
theorem x_X5_compared_121 {z : Int} {al : List AV} {h : AH} : X mX5_compared 121 al [aI z] h = some (some (aI z), h) := X_ofR dX5_compared_121 rfl
theorem x_X5_compared_122 {v0 v1 v2 v3 v4 v5 v6 v7 v8 v9 v11 v12 v13 v14 v15 v16 v17 v18 v19 v20 v21 v22 v23 v24 : AV} {z : Int} {st : List AV} {h : AH} : X mX5_compared 122 [v0, v1, v2, v3, v4, v5, v6, v7, v8, v9, aJ z, v11, v12, v13, v14, v15, v16, v17, v18, v19, v20, v21, v22, v23, v24] st h = X mX5_compared 124 [v0, v1, v2, v3, v4, v5, v6, v7, v8, v9, aJ z, v11, v12, v13, v14, v15, v16, v17, v18, v19, v20, v21, v22, v23, v24] (aJ z :: st) h := X_of dX5_compared_122 rfl
theorem x_X5_compared_124 {v0 v1 v2 v3 v4 v5 v6 v8 v9 v10 v11 v12 v13 v14 v15 v16 v17 v18 v19 v20 v21 v22 v23 v24 : AV} {z : Int} {st : List AV} {h : AH} : X mX5_compared 124 [v0, v1, v2, v3, v4, v5, v6, aU, v8, v9, v10, v11, v12, v13, v14, v15, v16, v17, v18, v19, v20, v21, v22, v23, v24] (aJ z :: st) h = X mX5_compared 126 [v0, v1, v2, v3, v4, v5, v6, aU, aJ z, aU, v10, v11, v12, v13, v14, v15, v16, v17, v18, v19, v20, v21, v22, v23, v24] st h := X_of dX5_compared_124 rfl
theorem x_X5_compared_126 {v0 v1 v2 v3 v4 v5 v6 v7 v8 v9 v10 v11 v12 v13 v14 v15 v16 v17 v18 v19 v20 v22 v23 v24 : AV} {z : Int} {st : List AV} {h : AH} : X mX5_compared 126 [v0, v1, v2, v3, v4, v5, v6, v7, v8, v9, v10, v11, v12, v13, v14, v15, v16, v17, v18, v19, v20, aJ z, v22, v23, v24] st h = X mX5_compared 128 [v0, v1, v2, v3, v4, v5, v6, v7, v8, v9, v10, v11, v12, v13, v14, v15, v16, v17, v18, v19, v20, aJ z, v22, v23, v24] (aJ z :: st) h := X_of dX5_compared_126 rfl
theorem x_X5_compared_128 {v0 v1 v2 v3 v4 v5 v6 v7 v8 v10 v11 v12 v13 v14 v15 v16 v17 v18 v19 v20 v21 v22 v23 v24 : AV} {z : Int} {st : List AV} {h : AH} : X mX5_compared 128 [v0, v1, v2, v3, v4, v5, v6, v7, v8, aU, v10, v11, v12, v13, v14, v15, v16, v17, v18, v19, v20, v21, v22, v23, v24] (aJ z :: st) h = X mX5_compared 130 [v0, v1, v2, v3, v4, v5, v6, v7, v8, aU, aJ z, aU, v12, v13, v14, v15, v16, v17, v18, v19, v20, v21, v22, v23, v24] st h := X_of dX5_compared_128 rfl
theorem x_X5_compared_130 {v0 v1 v2 v3 v4 v5 v6 v7 v8 v9 v10 v11 v12 v13 v15 v16 v17 v18 v19 v20 v21 v22 v23 v24 : AV} {z : Int} {st : List AV} {h : AH} : X mX5_compared 130 [v0, v1, v2, v3, v4, v5, v6, v7, v8, v9, v10, v11, v12, v13, aJ z, v15, v16, v17, v18, v19, v20, v21, v22, v23, v24] st h = X mX5_compared 132 [v0, v1, v2, v3, v4, v5, v6, v7, v8, v9, v10, v11, v12, v13, aJ z, v15, v16, v17, v18, v19, v20, v21, v22, v23, v24] (aJ z :: st) h := X_of dX5_compared_130 rfl
theorem x_X5_compared_132 {v0 v1 v2 v3 v4 v5 v6 v7 v8 v9 v10 v12 v13 v14 v15 v16 v17 v18 v19 v20 v21 v22 v23 v24 : AV} {z : Int} {st : List AV} {h : AH} : X mX5_compared 132 [v0, v1, v2, v3, v4, v5, v6, v7, v8, v9, v10, aU, v12, v13, v14, v15, v16, v17, v18, v19, v20, v21, v22, v23, v24] (aJ z :: st) h = X mX5_compared 134 [v0, v1, v2, v3, v4, v5, v6, v7, v8, v9, v10, aU, aJ z, aU, v14, v15, v16, v17, v18, v19, v20, v21, v22, v23, v24] st h := X_of dX5_compared_132 rfl
theorem x_X5_compared_134 {v0 v1 v2 v3 v4 v5 v6 v7 v8 v9 v10 v11 v12 v13 v14 v15 v16 v17 v18 v19 v20 v21 v22 v24 : AV} {z : Int} {st : List AV} {h : AH} : X mX5_compared 134 [v0, v1, v2, v3, v4, v5, v6, v7, v8, v9, v10, v11, v12, v13, v14, v15, v16, v17, v18, v19, v20, v21, v22, aJ z, v24] st h = X mX5_compared 136 [v0, v1, v2, v3, v4, v5, v6, v7, v8, v9, v10, v11, v12, v13, v14, v15, v16, v17, v18, v19, v20, v21, v22, aJ z, v24] (aJ z :: st) h := X_of dX5_compared_134 rfl
theorem x_X5_compared_136 {v0 v1 v2 v3 v4 v5 v6 v7 v8 v9 v10 v11 v12 v14 v15 v16 v17 v18 v19 v20 v21 v22 v23 v24 : AV} {z : Int} {st : List AV} {h : AH} : X mX5_compared 136 [v0, v1, v2, v3, v4, v5, v6, v7, v8, v9, v10, v11, v12, aU, v14, v15, v16, v17, v18, v19, v20, v21, v22, v23, v24] (aJ z :: st) h = X mX5_compared 138 [v0, v1, v2, v3, v4, v5, v6, v7, v8, v9, v10, v11, v12, aU, aJ z, aU, v16, v17, v18, v19, v20, v21, v22, v23, v24] st h := X_of dX5_compared_136 rfl
theorem x_X5_compared_138 {v0 v1 v2 v3 v4 v5 v6 v7 v8 v9 v10 v11 v12 v13 v14 v15 v17 v18 v19 v20 v21 v22 v23 v24 : AV} {z : Int} {st : List AV} {h : AH} : X mX5_compared 138 [v0, v1, v2, v3, v4, v5, v6, v7, v8, v9, v10, v11, v12, v13, v14, v15, aI z, v17, v18, v19, v20, v21, v22, v23, v24] st h = X mX5_compared 140 [v0, v1, v2, v3, v4, v5, v6, v7, v8, v9, v10, v11, v12, v13, v14, v15, aI z, v17, v18, v19, v20, v21, v22, v23, v24] (aI z :: st) h := X_of dX5_compared_138 rfl
theorem x_X5_compared_140 {a : Int} {al st : List AV} {h : AH} : X mX5_compared 140 al (aI a :: st) h = X mX5_compared 141 al (aI (w32 (-a)) :: st) h := X_of dX5_compared_140 rfl
theorem x_X5_compared_141 {v0 v1 v2 v3 v4 v5 v6 v7 v8 v9 v10 v11 v12 v13 v14 v16 v17 v18 v19 v20 v21 v22 v23 v24 : AV} {z : Int} {st : List AV} {h : AH} : X mX5_compared 141 [v0, v1, v2, v3, v4, v5, v6, v7, v8, v9, v10, v11, v12, v13, v14, aU, v16, v17, v18, v19, v20, v21, v22, v23, v24] (aI z :: st) h = X mX5_compared 143 [v0, v1, v2, v3, v4, v5, v6, v7, v8, v9, v10, v11, v12, v13, v14, aU, aI z, v17, v18, v19, v20, v21, v22, v23, v24] st h := X_of dX5_compared_141 rfl
theorem x_X5_compared_143 {al st : List AV} {h : AH} : X mX5_compared 143 al st h = X mX5_compared 17 al st h := X_of dX5_compared_143 rfl
theorem e_X5_determinant {p0 : Option Nat} {p1 : Int} {h : AH} : E mX5_determinant [aR p0, aI p1] h = X mX5_determinant 0 [aR p0, aI p1, aU, aU, aU, aU, aU, aU] [] h := rfl
theorem x_X5_determinant_0 {al st : List AV} {h : AH} : X mX5_determinant 0 al st h = X mX5_determinant 1 al (aI 0 :: st) h := X_of dX5_determinant_0 rfl
theorem x_X5_determinant_1 {v0 v2 v3 v4 v5 v6 v7 : AV} {y : Int} {z : Int} {st : List AV} {h : AH} : X mX5_determinant 1 [v0, aI y, v2, v3, v4, v5, v6, v7] (aI z :: st) h = X mX5_determinant 2 [v0, aI y, aI z, v3, v4, v5, v6, v7] st h := X_of dX5_determinant_1 rfl
theorem x_X5_determinant_2 {v0 v1 v3 v4 v5 v6 v7 : AV} {z : Int} {st : List AV} {h : AH} : X mX5_determinant 2 [v0, v1, aI z, v3, v4, v5, v6, v7] st h = X mX5_determinant 3 [v0, v1, aI z, v3, v4, v5, v6, v7] (aI z :: st) h := X_of dX5_determinant_2 rfl
theorem x_X5_determinant_3 {al st : List AV} {h : AH} : X mX5_determinant 3 al st h = X mX5_determinant 5 al (aI 32 :: st) h := X_of dX5_determinant_3 rfl
theorem x_X5_determinant_5 {a b : Int} {al st : List AV} {h : AH} : X mX5_determinant 5 al (aI b :: aI a :: st) h = if b ≤ a then X mX5_determinant 21 al st h else X mX5_determinant 8 al st h := x_geC dX5_determinant_5 rfl
theorem x_X5_determinant_8 {v1 v2 v3 v4 v5 v6 v7 : AV} {z : Option Nat} {st : List AV} {h : AH} : X mX5_determinant 8 [aR z, v1, v2, v3, v4, v5, v6, v7] st h = X mX5_determinant 9 [aR z, v1, v2, v3, v4, v5, v6, v7] (aR z :: st) h := X_of dX5_determinant_8 rfl
theorem x_X5_determinant_9 {a : Nat} {al st : List AV} {h : AH} : X mX5_determinant 9 al (aR (some a) :: st) h = gK (rd h 5 a 22) fun v => X mX5_determinant 12 al (v :: st) h := x_get dX5_determinant_9 fT_5_47
theorem x_X5_determinant_12 {v0 v1 v3 v4 v5 v6 v7 : AV} {z : Int} {st : List AV} {h : AH} : X mX5_determinant 12 [v0, v1, aI z, v3, v4, v5, v6, v7] st h = X mX5_determinant 13 [v0, v1, aI z, v3, v4, v5, v6, v7] (aI z :: st) h := X_of dX5_determinant_12 rfl
theorem x_X5_determinant_13 {al st : List AV} {h : AH} : X mX5_determinant 13 al st h = X mX5_determinant 14 al (aJ 0 :: st) h := X_of dX5_determinant_13 rfl
theorem x_X5_determinant_14 {a : Nat} {i z : Int} {al st : List AV} {h : AH} : X mX5_determinant 14 al (aJ z :: aI i :: aR (some a) :: st) h = if 0 ≤ i then pK (rd h 11 a i.toNat) (X mX5_determinant 15 al st (wr h 11 a i.toNat (aJ z))) else none := x_astJ dX5_determinant_14
theorem x_X5_determinant_15 {v0 v3 v4 v5 v6 v7 : AV} {y : Int} {z : Int} {st : List AV} {h : AH} : X mX5_determinant 15 [v0, aI y, aI z, v3, v4, v5, v6, v7] st h = X mX5_determinant 18 [v0, aI y, aI (w32 (z + 1)), v3, v4, v5, v6, v7] st h := X_of dX5_determinant_15 rfl
theorem x_X5_determinant_18 {al st : List AV} {h : AH} : X mX5_determinant 18 al st h = X mX5_determinant 2 al st h := X_of dX5_determinant_18 rfl
theorem x_X5_determinant_21 {v1 v2 v3 v4 v5 v6 v7 : AV} {z : Option Nat} {st : List AV} {h : AH} : X mX5_determinant 21 [aR z, v1, v2, v3, v4, v5, v6, v7] st h = X mX5_determinant 22 [aR z, v1, v2, v3, v4, v5, v6, v7] (aR z :: st) h := X_of dX5_determinant_21 rfl
theorem x_X5_determinant_22 {a : Nat} {al st : List AV} {h : AH} : X mX5_determinant 22 al (aR (some a) :: st) h = gK (rd h 5 a 22) fun v => X mX5_determinant 25 al (v :: st) h := x_get dX5_determinant_22 fT_5_47
theorem x_X5_determinant_25 {al st : List AV} {h : AH} : X mX5_determinant 25 al st h = X mX5_determinant 26 al (aI 0 :: st) h := X_of dX5_determinant_25 rfl
theorem x_X5_determinant_26 {al st : List AV} {h : AH} : X mX5_determinant 26 al st h = X mX5_determinant 27 al (aJ 1 :: st) h := X_of dX5_determinant_26 rfl
theorem x_X5_determinant_27 {a : Nat} {i z : Int} {al st : List AV} {h : AH} : X mX5_determinant 27 al (aJ z :: aI i :: aR (some a) :: st) h = if 0 ≤ i then pK (rd h 11 a i.toNat) (X mX5_determinant 28 al st (wr h 11 a i.toNat (aJ z))) else none := x_astJ dX5_determinant_27
theorem x_X5_determinant_28 {al st : List AV} {h : AH} : X mX5_determinant 28 al st h = X mX5_determinant 29 al (aI 0 :: st) h := X_of dX5_determinant_28 rfl
theorem x_X5_determinant_29 {v0 v2 v3 v4 v5 v6 v7 : AV} {y : Int} {z : Int} {st : List AV} {h : AH} : X mX5_determinant 29 [v0, aI y, v2, v3, v4, v5, v6, v7] (aI z :: st) h = X mX5_determinant 30 [v0, aI y, aI z, v3, v4, v5, v6, v7] st h := X_of dX5_determinant_29 rfl
theorem x_X5_determinant_30 {v0 v1 v3 v4 v5 v6 v7 : AV} {z : Int} {st : List AV} {h : AH} : X mX5_determinant 30 [v0, v1, aI z, v3, v4, v5, v6, v7] st h = X mX5_determinant 31 [v0, v1, aI z, v3, v4, v5, v6, v7] (aI z :: st) h := X_of dX5_determinant_30 rfl
theorem x_X5_determinant_31 {al st : List AV} {h : AH} : X mX5_determinant 31 al st h = X mX5_determinant 32 al (aI 1 :: st) h := X_of dX5_determinant_31 rfl
theorem x_X5_determinant_32 {v0 v2 v3 v4 v5 v6 v7 : AV} {z : Int} {st : List AV} {h : AH} : X mX5_determinant 32 [v0, aI z, v2, v3, v4, v5, v6, v7] st h = X mX5_determinant 33 [v0, aI z, v2, v3, v4, v5, v6, v7] (aI z :: st) h := X_of dX5_determinant_32 rfl
theorem x_X5_determinant_33 {a b : Int} {al st : List AV} {h : AH} : X mX5_determinant 33 al (aI b :: aI a :: st) h = X mX5_determinant 34 al (aI (fShl a b) :: st) h := X_of dX5_determinant_33 rfl
theorem x_X5_determinant_34 {a b : Int} {al st : List AV} {h : AH} : X mX5_determinant 34 al (aI b :: aI a :: st) h = if b ≤ a then X mX5_determinant 180 al st h else X mX5_determinant 37 al st h := x_geC dX5_determinant_34 rfl
theorem x_X5_determinant_37 {al st : List AV} {h : AH} : X mX5_determinant 37 al st h = X mX5_determinant 38 al (aI 0 :: st) h := X_of dX5_determinant_37 rfl
theorem x_X5_determinant_38 {v0 v1 v3 v4 v5 v6 v7 : AV} {y : Int} {z : Int} {st : List AV} {h : AH} : X mX5_determinant 38 [v0, v1, aI y, v3, v4, v5, v6, v7] (aI z :: st) h = X mX5_determinant 39 [v0, v1, aI y, aI z, v4, v5, v6, v7] st h := X_of dX5_determinant_38 rfl
theorem x_X5_determinant_39 {al st : List AV} {h : AH} : X mX5_determinant 39 al st h = X mX5_determinant 40 al (aI 0 :: st) h := X_of dX5_determinant_39 rfl
theorem x_X5_determinant_40 {v0 v1 v2 v4 v5 v6 v7 : AV} {y : Int} {z : Int} {st : List AV} {h : AH} : X mX5_determinant 40 [v0, v1, v2, aI y, v4, v5, v6, v7] (aI z :: st) h = X mX5_determinant 42 [v0, v1, v2, aI y, aI z, v5, v6, v7] st h := X_of dX5_determinant_40 rfl
theorem x_X5_determinant_42 {v0 v1 v2 v3 v5 v6 v7 : AV} {z : Int} {st : List AV} {h : AH} : X mX5_determinant 42 [v0, v1, v2, v3, aI z, v5, v6, v7] st h = X mX5_determinant 44 [v0, v1, v2, v3, aI z, v5, v6, v7] (aI z :: st) h := X_of dX5_determinant_42 rfl
theorem x_X5_determinant_44 {v0 v2 v3 v4 v5 v6 v7 : AV} {z : Int} {st : List AV} {h : AH} : X mX5_determinant 44 [v0, aI z, v2, v3, v4, v5, v6, v7] st h = X mX5_determinant 45 [v0, aI z, v2, v3, v4, v5, v6, v7] (aI z :: st) h := X_of dX5_determinant_44 rfl
theorem x_X5_determinant_45 {a b : Int} {al st : List AV} {h : AH} : X mX5_determinant 45 al (aI b :: aI a :: st) h = if b ≤ a then X mX5_determinant 63 al st h else X mX5_determinant 48 al st h := x_geC dX5_determinant_45 rfl
theorem x_X5_determinant_48 {v0 v1 v2 v4 v5 v6 v7 : AV} {z : Int} {st : List AV} {h : AH} : X mX5_determinant 48 [v0, v1, v2, aI z, v4, v5, v6, v7] st h = X mX5_determinant 49 [v0, v1, v2, aI z, v4, v5, v6, v7] (aI z :: st) h := X_of dX5_determinant_48 rfl
theorem x_X5_determinant_49 {v0 v1 v3 v4 v5 v6 v7 : AV} {z : Int} {st : List AV} {h : AH} : X mX5_determinant 49 [v0, v1, aI z, v3, v4, v5, v6, v7] st h = X mX5_determinant 50 [v0, v1, aI z, v3, v4, v5, v6, v7] (aI z :: st) h := X_of dX5_determinant_49 rfl
theorem x_X5_determinant_50 {v0 v1 v2 v3 v5 v6 v7 : AV} {z : Int} {st : List AV} {h : AH} : X mX5_determinant 50 [v0, v1, v2, v3, aI z, v5, v6, v7] st h = X mX5_determinant 52 [v0, v1, v2, v3, aI z, v5, v6, v7] (aI z :: st) h := X_of dX5_determinant_50 rfl
theorem x_X5_determinant_52 {a b : Int} {al st : List AV} {h : AH} : X mX5_determinant 52 al (aI b :: aI a :: st) h = X mX5_determinant 53 al (aI (fShr a b) :: st) h := X_of dX5_determinant_52 rfl
theorem x_X5_determinant_53 {al st : List AV} {h : AH} : X mX5_determinant 53 al st h = X mX5_determinant 54 al (aI 1 :: st) h := X_of dX5_determinant_53 rfl
theorem x_X5_determinant_54 {a b : Int} {al st : List AV} {h : AH} : X mX5_determinant 54 al (aI b :: aI a :: st) h = X mX5_determinant 55 al (aI (fAnd a b) :: st) h := X_of dX5_determinant_54 rfl
theorem x_X5_determinant_55 {a b : Int} {al st : List AV} {h : AH} : X mX5_determinant 55 al (aI b :: aI a :: st) h = X mX5_determinant 56 al (aI (w32 (a + b)) :: st) h := X_of dX5_determinant_55 rfl
theorem x_X5_determinant_56 {v0 v1 v3 v4 v5 v6 v7 : AV} {y : Int} {z : Int} {st : List AV} {h : AH} : X mX5_determinant 56 [v0, v1, aI y, v3, v4, v5, v6, v7] (aI z :: st) h = X mX5_determinant 57 [v0, v1, aI y, aI z, v4, v5, v6, v7] st h := X_of dX5_determinant_56 rfl
theorem x_X5_determinant_57 {v0 v1 v2 v5 v6 v7 : AV} {y : Int} {z : Int} {st : List AV} {h : AH} : X mX5_determinant 57 [v0, v1, v2, aI y, aI z, v5, v6, v7] st h = X mX5_determinant 60 [v0, v1, v2, aI y, aI (w32 (z + 1)), v5, v6, v7] st h := X_of dX5_determinant_57 rfl
theorem x_X5_determinant_60 {al st : List AV} {h : AH} : X mX5_determinant 60 al st h = X mX5_determinant 42 al st h := X_of dX5_determinant_60 rfl
theorem x_X5_determinant_63 {al st : List AV} {h : AH} : X mX5_determinant 63 al st h = X mX5_determinant 64 al (aI 0 :: st) h := X_of dX5_determinant_63 rfl
theorem x_X5_determinant_64 {v0 v1 v2 v4 v5 v6 v7 : AV} {y : Int} {z : Int} {st : List AV} {h : AH} : X mX5_determinant 64 [v0, v1, v2, aI y, v4, v5, v6, v7] (aI z :: st) h = X mX5_determinant 66 [v0, v1, v2, aI y, aI z, v5, v6, v7] st h := X_of dX5_determinant_64 rfl
theorem x_X5_determinant_66 {v0 v1 v2 v3 v5 v6 v7 : AV} {z : Int} {st : List AV} {h : AH} : X mX5_determinant 66 [v0, v1, v2, v3, aI z, v5, v6, v7] st h = X mX5_determinant 68 [v0, v1, v2, v3, aI z, v5, v6, v7] (aI z :: st) h := X_of dX5_determinant_66 rfl
theorem x_X5_determinant_68 {v0 v2 v3 v4 v5 v6 v7 : AV} {z : Int} {st : List AV} {h : AH} : X mX5_determinant 68 [v0, aI z, v2, v3, v4, v5, v6, v7] st h = X mX5_determinant 69 [v0, aI z, v2, v3, v4, v5, v6, v7] (aI z :: st) h := X_of dX5_determinant_68 rfl
theorem x_X5_determinant_69 {a b : Int} {al st : List AV} {h : AH} : X mX5_determinant 69 al (aI b :: aI a :: st) h = if b ≤ a then X mX5_determinant 174 al st h else X mX5_determinant 72 al st h := x_geC dX5_determinant_69 rfl
theorem x_X5_determinant_72 {v0 v1 v2 v4 v5 v6 v7 : AV} {z : Int} {st : List AV} {h : AH} : X mX5_determinant 72 [v0, v1, v2, aI z, v4, v5, v6, v7] st h = X mX5_determinant 73 [v0, v1, v2, aI z, v4, v5, v6, v7] (aI z :: st) h := X_of dX5_determinant_72 rfl
theorem x_X5_determinant_73 {v0 v2 v3 v4 v5 v6 v7 : AV} {z : Int} {st : List AV} {h : AH} : X mX5_determinant 73 [v0, aI z, v2, v3, v4, v5, v6, v7] st h = X mX5_determinant 74 [v0, aI z, v2, v3, v4, v5, v6, v7] (aI z :: st) h := X_of dX5_determinant_73 rfl
theorem x_X5_determinant_74 {a b : Int} {al st : List AV} {h : AH} : X mX5_determinant 74 al (aI b :: aI a :: st) h = if b ≤ a then X mX5_determinant 174 al st h else X mX5_determinant 77 al st h := x_geC dX5_determinant_74 rfl
theorem x_X5_determinant_77 {v0 v1 v3 v4 v5 v6 v7 : AV} {z : Int} {st : List AV} {h : AH} : X mX5_determinant 77 [v0, v1, aI z, v3, v4, v5, v6, v7] st h = X mX5_determinant 78 [v0, v1, aI z, v3, v4, v5, v6, v7] (aI z :: st) h := X_of dX5_determinant_77 rfl
theorem x_X5_determinant_78 {v0 v1 v2 v3 v5 v6 v7 : AV} {z : Int} {st : List AV} {h : AH} : X mX5_determinant 78 [v0, v1, v2, v3, aI z, v5, v6, v7] st h = X mX5_determinant 80 [v0, v1, v2, v3, aI z, v5, v6, v7] (aI z :: st) h := X_of dX5_determinant_78 rfl
theorem x_X5_determinant_80 {a b : Int} {al st : List AV} {h : AH} : X mX5_determinant 80 al (aI b :: aI a :: st) h = X mX5_determinant 81 al (aI (fShr a b) :: st) h := X_of dX5_determinant_80 rfl
theorem x_X5_determinant_81 {al st : List AV} {h : AH} : X mX5_determinant 81 al st h = X mX5_determinant 82 al (aI 1 :: st) h := X_of dX5_determinant_81 rfl
theorem x_X5_determinant_82 {a b : Int} {al st : List AV} {h : AH} : X mX5_determinant 82 al (aI b :: aI a :: st) h = X mX5_determinant 83 al (aI (fAnd a b) :: st) h := X_of dX5_determinant_82 rfl
theorem x_X5_determinant_83 {a : Int} {al st : List AV} {h : AH} : X mX5_determinant 83 al (aI a :: st) h = if ¬ a = 0 then X mX5_determinant 168 al st h else X mX5_determinant 86 al st h := x_ne0 dX5_determinant_83 rfl
theorem x_X5_determinant_86 {al st : List AV} {h : AH} : X mX5_determinant 86 al st h = X mX5_determinant 87 al (aI 0 :: st) h := X_of dX5_determinant_86 rfl
theorem x_X5_determinant_87 {v0 v1 v2 v3 v5 v6 v7 : AV} {y : Int} {z : Int} {st : List AV} {h : AH} : X mX5_determinant 87 [v0, v1, v2, v3, aI y, v5, v6, v7] (aI z :: st) h = X mX5_determinant 89 [v0, v1, v2, v3, aI y, aI z, v6, v7] st h := X_of dX5_determinant_87 rfl
theorem x_X5_determinant_89 {v0 v1 v2 v3 v5 v6 v7 : AV} {z : Int} {st : List AV} {h : AH} : X mX5_determinant 89 [v0, v1, v2, v3, aI z, v5, v6, v7] st h = X mX5_determinant 91 [v0, v1, v2, v3, aI z, v5, v6, v7] (aI z :: st) h := X_of dX5_determinant_89 rfl
theorem x_X5_determinant_91 {al st : List AV} {h : AH} : X mX5_determinant 91 al st h = X mX5_determinant 92 al (aI 1 :: st) h := X_of dX5_determinant_91 rfl
theorem x_X5_determinant_92 {a b : Int} {al st : List AV} {h : AH} : X mX5_determinant 92 al (aI b :: aI a :: st) h = X mX5_determinant 93 al (aI (w32 (a + b)) :: st) h := X_of dX5_determinant_92 rfl
theorem x_X5_determinant_93 {v0 v1 v2 v3 v4 v6 v7 : AV} {y : Int} {z : Int} {st : List AV} {h : AH} : X mX5_determinant 93 [v0, v1, v2, v3, v4, aI y, v6, v7] (aI z :: st) h = X mX5_determinant 95 [v0, v1, v2, v3, v4, aI y, aI z, v7] st h := X_of dX5_determinant_93 rfl
theorem x_X5_determinant_95 {v0 v1 v2 v3 v4 v5 v7 : AV} {z : Int} {st : List AV} {h : AH} : X mX5_determinant 95 [v0, v1, v2, v3, v4, v5, aI z, v7] st h = X mX5_determinant 97 [v0, v1, v2, v3, v4, v5, aI z, v7] (aI z :: st) h := X_of dX5_determinant_95 rfl
theorem x_X5_determinant_97 {v0 v2 v3 v4 v5 v6 v7 : AV} {z : Int} {st : List AV} {h : AH} : X mX5_determinant 97 [v0, aI z, v2, v3, v4, v5, v6, v7] st h = X mX5_determinant 98 [v0, aI z, v2, v3, v4, v5, v6, v7] (aI z :: st) h := X_of dX5_determinant_97 rfl
theorem x_X5_determinant_98 {a b : Int} {al st : List AV} {h : AH} : X mX5_determinant 98 al (aI b :: aI a :: st) h = if b ≤ a then X mX5_determinant 118 al st h else X mX5_determinant 101 al st h := x_geC dX5_determinant_98 rfl
theorem x_X5_determinant_101 {v0 v1 v2 v3 v4 v6 v7 : AV} {z : Int} {st : List AV} {h : AH} : X mX5_determinant 101 [v0, v1, v2, v3, v4, aI z, v6, v7] st h = X mX5_determinant 103 [v0, v1, v2, v3, v4, aI z, v6, v7] (aI z :: st) h := X_of dX5_determinant_101 rfl
theorem x_X5_determinant_103 {v0 v1 v3 v4 v5 v6 v7 : AV} {z : Int} {st : List AV} {h : AH} : X mX5_determinant 103 [v0, v1, aI z, v3, v4, v5, v6, v7] st h = X mX5_determinant 104 [v0, v1, aI z, v3, v4, v5, v6, v7] (aI z :: st) h := X_of dX5_determinant_103 rfl
theorem x_X5_determinant_104 {v0 v1 v2 v3 v4 v5 v7 : AV} {z : Int} {st : List AV} {h : AH} : X mX5_determinant 104 [v0, v1, v2, v3, v4, v5, aI z, v7] st h = X mX5_determinant 106 [v0, v1, v2, v3, v4, v5, aI z, v7] (aI z :: st) h := X_of dX5_determinant_104 rfl
theorem x_X5_determinant_106 {a b : Int} {al st : List AV} {h : AH} : X mX5_determinant 106 al (aI b :: aI a :: st) h = X mX5_determinant 107 al (aI (fShr a b) :: st) h := X_of dX5_determinant_106 rfl
theorem x_X5_determinant_107 {al st : List AV} {h : AH} : X mX5_determinant 107 al st h = X mX5_determinant 108 al (aI 1 :: st) h := X_of dX5_determinant_107 rfl
theorem x_X5_determinant_108 {a b : Int} {al st : List AV} {h : AH} : X mX5_determinant 108 al (aI b :: aI a :: st) h = X mX5_determinant 109 al (aI (fAnd a b) :: st) h := X_of dX5_determinant_108 rfl
theorem x_X5_determinant_109 {a b : Int} {al st : List AV} {h : AH} : X mX5_determinant 109 al (aI b :: aI a :: st) h = X mX5_determinant 110 al (aI (w32 (a + b)) :: st) h := X_of dX5_determinant_109 rfl
theorem x_X5_determinant_110 {v0 v1 v2 v3 v5 v6 v7 : AV} {y : Int} {z : Int} {st : List AV} {h : AH} : X mX5_determinant 110 [v0, v1, v2, v3, aI y, v5, v6, v7] (aI z :: st) h = X mX5_determinant 112 [v0, v1, v2, v3, aI y, aI z, v6, v7] st h := X_of dX5_determinant_110 rfl
theorem x_X5_determinant_112 {v0 v1 v2 v3 v4 v7 : AV} {y : Int} {z : Int} {st : List AV} {h : AH} : X mX5_determinant 112 [v0, v1, v2, v3, v4, aI y, aI z, v7] st h = X mX5_determinant 115 [v0, v1, v2, v3, v4, aI y, aI (w32 (z + 1)), v7] st h := X_of dX5_determinant_112 rfl
theorem x_X5_determinant_115 {al st : List AV} {h : AH} : X mX5_determinant 115 al st h = X mX5_determinant 95 al st h := X_of dX5_determinant_115 rfl
theorem x_X5_determinant_118 {v1 v2 v3 v4 v5 v6 v7 : AV} {z : Option Nat} {st : List AV} {h : AH} : X mX5_determinant 118 [aR z, v1, v2, v3, v4, v5, v6, v7] st h = X mX5_determinant 119 [aR z, v1, v2, v3, v4, v5, v6, v7] (aR z :: st) h := X_of dX5_determinant_118 rfl
theorem x_X5_determinant_119 {a : Nat} {al st : List AV} {h : AH} : X mX5_determinant 119 al (aR (some a) :: st) h = gK (rd h 5 a 22) fun v => X mX5_determinant 122 al (v :: st) h := x_get dX5_determinant_119 fT_5_47
theorem x_X5_determinant_122 {v0 v1 v3 v4 v5 v6 v7 : AV} {z : Int} {st : List AV} {h : AH} : X mX5_determinant 122 [v0, v1, aI z, v3, v4, v5, v6, v7] st h = X mX5_determinant 123 [v0, v1, aI z, v3, v4, v5, v6, v7] (aI z :: st) h := X_of dX5_determinant_122 rfl
theorem x_X5_determinant_123 {a : Nat} {i : Int} {al st : List AV} {h : AH} : X mX5_determinant 123 al (aI i :: aR (some a) :: st) h = if 0 ≤ i then gK (rd h 11 a i.toNat) (fun v => X mX5_determinant 124 al (v :: st) h) else none := x_aldJ dX5_determinant_123
theorem x_X5_determinant_124 {v1 v2 v3 v4 v5 v6 v7 : AV} {z : Option Nat} {st : List AV} {h : AH} : X mX5_determinant 124 [aR z, v1, v2, v3, v4, v5, v6, v7] st h = X mX5_determinant 125 [aR z, v1, v2, v3, v4, v5, v6, v7] (aR z :: st) h := X_of dX5_determinant_124 rfl
theorem x_X5_determinant_125 {a : Nat} {al st : List AV} {h : AH} : X mX5_determinant 125 al (aR (some a) :: st) h = gK (rd h 5 a 21) fun v => X mX5_determinant 128 al (v :: st) h := x_get dX5_determinant_125 fT_5_44
theorem x_X5_determinant_128 {al st : List AV} {h : AH} : X mX5_determinant 128 al st h = X mX5_determinant 129 al (aI 5 :: st) h := X_of dX5_determinant_128 rfl
theorem x_X5_determinant_129 {v0 v1 v2 v4 v5 v6 v7 : AV} {z : Int} {st : List AV} {h : AH} : X mX5_determinant 129 [v0, v1, v2, aI z, v4, v5, v6, v7] st h = X mX5_determinant 130 [v0, v1, v2, aI z, v4, v5, v6, v7] (aI z :: st) h := X_of dX5_determinant_129 rfl
theorem x_X5_determinant_130 {a b : Int} {al st : List AV} {h : AH} : X mX5_determinant 130 al (aI b :: aI a :: st) h = X mX5_determinant 131 al (aI (w32 (a * b)) :: st) h := X_of dX5_determinant_130 rfl
theorem x_X5_determinant_131 {v0 v1 v2 v3 v5 v6 v7 : AV} {z : Int} {st : List AV} {h : AH} : X mX5_determinant 131 [v0, v1, v2, v3, aI z, v5, v6, v7] st h = X mX5_determinant 133 [v0, v1, v2, v3, aI z, v5, v6, v7] (aI z :: st) h := X_of dX5_determinant_131 rfl
theorem x_X5_determinant_133 {a b : Int} {al st : List AV} {h : AH} : X mX5_determinant 133 al (aI b :: aI a :: st) h = X mX5_determinant 134 al (aI (w32 (a + b)) :: st) h := X_of dX5_determinant_133 rfl
theorem x_X5_determinant_134 {a : Nat} {i : Int} {al st : List AV} {h : AH} : X mX5_determinant 134 al (aI i :: aR (some a) :: st) h = if 0 ≤ i then gK (rd h 11 a i.toNat) (fun v => X mX5_determinant 135 al (v :: st) h) else none := x_aldJ dX5_determinant_134
theorem x_X5_determinant_135 {a b : Int} {al st : List AV} {h : AH} : X mX5_determinant 135 al (aJ b :: aJ a :: st) h = X mX5_determinant 136 al (aJ (w64 (a * b)) :: st) h := X_of dX5_determinant_135 rfl
theorem x_X5_determinant_136 {v0 v1 v2 v3 v4 v6 v7 : AV} {y : Int} {z : Int} {st : List AV} {h : AH} : X mX5_determinant 136 [v0, v1, v2, v3, v4, aI y, v6, v7] (aJ z :: st) h = X mX5_determinant 138 [v0, v1, v2, v3, v4, aI y, aJ z, aU] st h := X_of dX5_determinant_136 rfl
theorem x_X5_determinant_138 {v1 v2 v3 v4 v5 v6 v7 : AV} {z : Option Nat} {st : List AV} {h : AH} : X mX5_determinant 138 [aR z, v1, v2, v3, v4, v5, v6, v7] st h = X mX5_determinant 139 [aR z, v1, v2, v3, v4, v5, v6, v7] (aR z :: st) h := X_of dX5_determinant_138 rfl
theorem x_X5_determinant_139 {a : Nat} {al st : List AV} {h : AH} : X mX5_determinant 139 al (aR (some a) :: st) h = gK (rd h 5 a 22) fun v => X mX5_determinant 142 al (v :: st) h := x_get dX5_determinant_139 fT_5_47
theorem x_X5_determinant_142 {v0 v1 v3 v4 v5 v6 v7 : AV} {z : Int} {st : List AV} {h : AH} : X mX5_determinant 142 [v0, v1, aI z, v3, v4, v5, v6, v7] st h = X mX5_determinant 143 [v0, v1, aI z, v3, v4, v5, v6, v7] (aI z :: st) h := X_of dX5_determinant_142 rfl
theorem x_X5_determinant_143 {al st : List AV} {h : AH} : X mX5_determinant 143 al st h = X mX5_determinant 144 al (aI 1 :: st) h := X_of dX5_determinant_143 rfl
theorem x_X5_determinant_144 {v0 v1 v2 v3 v5 v6 v7 : AV} {z : Int} {st : List AV} {h : AH} : X mX5_determinant 144 [v0, v1, v2, v3, aI z, v5, v6, v7] st h = X mX5_determinant 146 [v0, v1, v2, v3, aI z, v5, v6, v7] (aI z :: st) h := X_of dX5_determinant_144 rfl
theorem x_X5_determinant_146 {a b : Int} {al st : List AV} {h : AH} : X mX5_determinant 146 al (aI b :: aI a :: st) h = X mX5_determinant 147 al (aI (fShl a b) :: st) h := X_of dX5_determinant_146 rfl
theorem x_X5_determinant_147 {a b : Int} {al st : List AV} {h : AH} : X mX5_determinant 147 al (aI b :: aI a :: st) h = X mX5_determinant 148 al (aI (fOr a b) :: st) h := X_of dX5_determinant_147 rfl
theorem x_X5_determinant_148 {z : Int} {r : Option Nat} {al st : List AV} {h : AH} : X mX5_determinant 148 al (aI z :: aR r :: st) h = X mX5_determinant 149 al (aI z :: aR r :: aI z :: aR r :: st) h := X_of dX5_determinant_148 rfl
theorem x_X5_determinant_149 {a : Nat} {i : Int} {al st : List AV} {h : AH} : X mX5_determinant 149 al (aI i :: aR (some a) :: st) h = if 0 ≤ i then gK (rd h 11 a i.toNat) (fun v => X mX5_determinant 150 al (v :: st) h) else none := x_aldJ dX5_determinant_149
theorem x_X5_determinant_150 {v0 v1 v2 v3 v4 v6 v7 : AV} {z : Int} {st : List AV} {h : AH} : X mX5_determinant 150 [v0, v1, v2, v3, v4, aI z, v6, v7] st h = X mX5_determinant 152 [v0, v1, v2, v3, v4, aI z, v6, v7] (aI z :: st) h := X_of dX5_determinant_150 rfl
theorem x_X5_determinant_152 {al st : List AV} {h : AH} : X mX5_determinant 152 al st h = X mX5_determinant 153 al (aI 2 :: st) h := X_of dX5_determinant_152 rfl
theorem x_X5_determinant_153 {a b : Int} {al st : List AV} {h : AH} : X mX5_determinant 153 al (aI b :: aI a :: st) h = if b = 0 then none else X mX5_determinant 154 al (aI (a.tmod b) :: st) h := x_rem dX5_determinant_153
theorem x_X5_determinant_154 {al st : List AV} {h : AH} : X mX5_determinant 154 al st h = X mX5_determinant 155 al (aI 1 :: st) h := X_of dX5_determinant_154 rfl
theorem x_X5_determinant_155 {a b : Int} {al st : List AV} {h : AH} : X mX5_determinant 155 al (aI b :: aI a :: st) h = if ¬ a = b then X mX5_determinant 164 al st h else X mX5_determinant 158 al st h := x_neC dX5_determinant_155 rfl
theorem x_X5_determinant_158 {v0 v1 v2 v3 v4 v5 v7 : AV} {z : Int} {st : List AV} {h : AH} : X mX5_determinant 158 [v0, v1, v2, v3, v4, v5, aJ z, v7] st h = X mX5_determinant 160 [v0, v1, v2, v3, v4, v5, aJ z, v7] (aJ z :: st) h := X_of dX5_determinant_158 rfl
theorem x_X5_determinant_160 {a : Int} {al st : List AV} {h : AH} : X mX5_determinant 160 al (aJ a :: st) h = X mX5_determinant 161 al (aJ (w64 (-a)) :: st) h := X_of dX5_determinant_160 rfl
theorem x_X5_determinant_161 {al st : List AV} {h : AH} : X mX5_determinant 161 al st h = X mX5_determinant 166 al st h := X_of dX5_determinant_161 rfl
theorem x_X5_determinant_164 {v0 v1 v2 v3 v4 v5 v7 : AV} {z : Int} {st : List AV} {h : AH} : X mX5_determinant 164 [v0, v1, v2, v3, v4, v5, aJ z, v7] st h = X mX5_determinant 166 [v0, v1, v2, v3, v4, v5, aJ z, v7] (aJ z :: st) h := X_of dX5_determinant_164 rfl
theorem x_X5_determinant_166 {a b : Int} {al st : List AV} {h : AH} : X mX5_determinant 166 al (aJ b :: aJ a :: st) h = X mX5_determinant 167 al (aJ (w64 (a + b)) :: st) h := X_of dX5_determinant_166 rfl
theorem x_X5_determinant_167 {a : Nat} {i z : Int} {al st : List AV} {h : AH} : X mX5_determinant 167 al (aJ z :: aI i :: aR (some a) :: st) h = if 0 ≤ i then pK (rd h 11 a i.toNat) (X mX5_determinant 168 al st (wr h 11 a i.toNat (aJ z))) else none := x_astJ dX5_determinant_167
theorem x_X5_determinant_168 {v0 v1 v2 v5 v6 v7 : AV} {y : Int} {z : Int} {st : List AV} {h : AH} : X mX5_determinant 168 [v0, v1, v2, aI y, aI z, v5, v6, v7] st h = X mX5_determinant 171 [v0, v1, v2, aI y, aI (w32 (z + 1)), v5, v6, v7] st h := X_of dX5_determinant_168 rfl
theorem x_X5_determinant_171 {al st : List AV} {h : AH} : X mX5_determinant 171 al st h = X mX5_determinant 66 al st h := X_of dX5_determinant_171 rfl
theorem x_X5_determinant_174 {v0 v3 v4 v5 v6 v7 : AV} {y : Int} {z : Int} {st : List AV} {h : AH} : X mX5_determinant 174 [v0, aI y, aI z, v3, v4, v5, v6, v7] st h = X mX5_determinant 177 [v0, aI y, aI (w32 (z + 1)), v3, v4, v5, v6, v7] st h := X_of dX5_determinant_174 rfl
theorem x_X5_determinant_177 {al st : List AV} {h : AH} : X mX5_determinant 177 al st h = X mX5_determinant 30 al st h := X_of dX5_determinant_177 rfl
theorem x_X5_determinant_180 {v1 v2 v3 v4 v5 v6 v7 : AV} {z : Option Nat} {st : List AV} {h : AH} : X mX5_determinant 180 [aR z, v1, v2, v3, v4, v5, v6, v7] st h = X mX5_determinant 181 [aR z, v1, v2, v3, v4, v5, v6, v7] (aR z :: st) h := X_of dX5_determinant_180 rfl
theorem x_X5_determinant_181 {a : Nat} {al st : List AV} {h : AH} : X mX5_determinant 181 al (aR (some a) :: st) h = gK (rd h 5 a 22) fun v => X mX5_determinant 184 al (v :: st) h := x_get dX5_determinant_181 fT_5_47
theorem x_X5_determinant_184 {al st : List AV} {h : AH} : X mX5_determinant 184 al st h = X mX5_determinant 185 al (aI 1 :: st) h := X_of dX5_determinant_184 rfl
theorem x_X5_determinant_185 {v0 v2 v3 v4 v5 v6 v7 : AV} {z : Int} {st : List AV} {h : AH} : X mX5_determinant 185 [v0, aI z, v2, v3, v4, v5, v6, v7] st h = X mX5_determinant 186 [v0, aI z, v2, v3, v4, v5, v6, v7] (aI z :: st) h := X_of dX5_determinant_185 rfl
theorem x_X5_determinant_186 {a b : Int} {al st : List AV} {h : AH} : X mX5_determinant 186 al (aI b :: aI a :: st) h = X mX5_determinant 187 al (aI (fShl a b) :: st) h := X_of dX5_determinant_186 rfl
theorem x_X5_determinant_187 {al st : List AV} {h : AH} : X mX5_determinant 187 al st h = X mX5_determinant 188 al (aI 1 :: st) h := X_of dX5_determinant_187 rfl
theorem x_X5_determinant_188 {a b : Int} {al st : List AV} {h : AH} : X mX5_determinant 188 al (aI b :: aI a :: st) h = X mX5_determinant 189 al (aI (w32 (a - b)) :: st) h := X_of dX5_determinant_188 rfl
theorem x_X5_determinant_189 {a : Nat} {i : Int} {al st : List AV} {h : AH} : X mX5_determinant 189 al (aI i :: aR (some a) :: st) h = if 0 ≤ i then gK (rd h 11 a i.toNat) (fun v => X mX5_determinant 190 al (v :: st) h) else none := x_aldJ dX5_determinant_189
theorem x_X5_determinant_190 {z : Int} {al : List AV} {h : AH} : X mX5_determinant 190 al [aJ z] h = some (some (aJ z), h) := X_ofR dX5_determinant_190 rfl
theorem e_X5_layTable {p0 : Option Nat} {p1 : Int} {p2 : Int} {p3 : Int} {p4 : Int} {h : AH} : E mX5_layTable [aR p0, aI p1, aI p2, aI p3, aI p4] h = X mX5_layTable 0 [aR p0, aI p1, aI p2, aI p3, aI p4, aU, aU, aU, aU, aU, aU, aU] [] h := rfl
theorem x_X5_layTable_0 {v1 v2 v3 v4 v5 v6 v7 v8 v9 v10 v11 : AV} {z : Option Nat} {st : List AV} {h : AH} : X mX5_layTable 0 [aR z, v1, v2, v3, v4, v5, v6, v7, v8, v9, v10, v11] st h = X mX5_layTable 1 [aR z, v1, v2, v3, v4, v5, v6, v7, v8, v9, v10, v11] (aR z :: st) h := X_of dX5_layTable_0 rfl
theorem x_X5_layTable_1 {a : Nat} {al st : List AV} {h : AH} : X mX5_layTable 1 al (aR (some a) :: st) h = gK (rd h 5 a 12) fun v => X mX5_layTable 4 al (v :: st) h := x_get dX5_layTable_1 fT_5_29
theorem x_X5_layTable_4 {v0 v2 v3 v4 v5 v6 v7 v8 v9 v10 v11 : AV} {z : Int} {st : List AV} {h : AH} : X mX5_layTable 4 [v0, aI z, v2, v3, v4, v5, v6, v7, v8, v9, v10, v11] st h = X mX5_layTable 5 [v0, aI z, v2, v3, v4, v5, v6, v7, v8, v9, v10, v11] (aI z :: st) h := X_of dX5_layTable_4 rfl
theorem x_X5_layTable_5 {a : Nat} {i : Int} {al st : List AV} {h : AH} : X mX5_layTable 5 al (aI i :: aR (some a) :: st) h = if 0 ≤ i then gK (rd h 10 a i.toNat) (fun v => X mX5_layTable 6 al (v :: st) h) else none := x_aldI dX5_layTable_5
theorem x_X5_layTable_6 {v0 v1 v2 v3 v5 v6 v7 v8 v9 v10 v11 : AV} {y : Int} {z : Int} {st : List AV} {h : AH} : X mX5_layTable 6 [v0, v1, v2, v3, aI y, v5, v6, v7, v8, v9, v10, v11] (aI z :: st) h = X mX5_layTable 8 [v0, v1, v2, v3, aI y, aI z, v6, v7, v8, v9, v10, v11] st h := X_of dX5_layTable_6 rfl
theorem x_X5_layTable_8 {al st : List AV} {h : AH} : X mX5_layTable 8 al st h = X mX5_layTable 9 al (aI 0 :: st) h := X_of dX5_layTable_8 rfl
theorem x_X5_layTable_9 {v0 v1 v2 v3 v4 v6 v7 v8 v9 v10 v11 : AV} {y : Int} {z : Int} {st : List AV} {h : AH} : X mX5_layTable 9 [v0, v1, v2, v3, v4, aI y, v6, v7, v8, v9, v10, v11] (aI z :: st) h = X mX5_layTable 11 [v0, v1, v2, v3, v4, aI y, aI z, v7, v8, v9, v10, v11] st h := X_of dX5_layTable_9 rfl
theorem x_X5_layTable_11 {v0 v1 v2 v3 v4 v5 v7 v8 v9 v10 v11 : AV} {z : Int} {st : List AV} {h : AH} : X mX5_layTable 11 [v0, v1, v2, v3, v4, v5, aI z, v7, v8, v9, v10, v11] st h = X mX5_layTable 13 [v0, v1, v2, v3, v4, v5, aI z, v7, v8, v9, v10, v11] (aI z :: st) h := X_of dX5_layTable_11 rfl
theorem x_X5_layTable_13 {v0 v1 v2 v3 v4 v6 v7 v8 v9 v10 v11 : AV} {z : Int} {st : List AV} {h : AH} : X mX5_layTable 13 [v0, v1, v2, v3, v4, aI z, v6, v7, v8, v9, v10, v11] st h = X mX5_layTable 15 [v0, v1, v2, v3, v4, aI z, v6, v7, v8, v9, v10, v11] (aI z :: st) h := X_of dX5_layTable_13 rfl
theorem x_X5_layTable_15 {a b : Int} {al st : List AV} {h : AH} : X mX5_layTable 15 al (aI b :: aI a :: st) h = if b ≤ a then X mX5_layTable 162 al st h else X mX5_layTable 18 al st h := x_geC dX5_layTable_15 rfl
theorem x_X5_layTable_18 {v1 v2 v3 v4 v5 v6 v7 v8 v9 v10 v11 : AV} {z : Option Nat} {st : List AV} {h : AH} : X mX5_layTable 18 [aR z, v1, v2, v3, v4, v5, v6, v7, v8, v9, v10, v11] st h = X mX5_layTable 19 [aR z, v1, v2, v3, v4, v5, v6, v7, v8, v9, v10, v11] (aR z :: st) h := X_of dX5_layTable_18 rfl
theorem x_X5_layTable_19 {a : Nat} {al st : List AV} {h : AH} : X mX5_layTable 19 al (aR (some a) :: st) h = gK (rd h 5 a 3) fun v => X mX5_layTable 22 al (v :: st) h := x_get dX5_layTable_19 fT_5_66
theorem x_X5_layTable_22 {a : Int} {al st : List AV} {h : AH} : X mX5_layTable 22 al (aI a :: st) h = X mX5_layTable 23 al (aJ a :: st) h := X_of dX5_layTable_22 rfl
theorem x_X5_layTable_23 {v1 v2 v3 v4 v5 v6 v7 v8 v9 v10 v11 : AV} {z : Option Nat} {st : List AV} {h : AH} : X mX5_layTable 23 [aR z, v1, v2, v3, v4, v5, v6, v7, v8, v9, v10, v11] st h = X mX5_layTable 24 [aR z, v1, v2, v3, v4, v5, v6, v7, v8, v9, v10, v11] (aR z :: st) h := X_of dX5_layTable_23 rfl
theorem x_X5_layTable_24 {v0 v2 v3 v4 v5 v6 v7 v8 v9 v10 v11 : AV} {z : Int} {st : List AV} {h : AH} : X mX5_layTable 24 [v0, aI z, v2, v3, v4, v5, v6, v7, v8, v9, v10, v11] st h = X mX5_layTable 25 [v0, aI z, v2, v3, v4, v5, v6, v7, v8, v9, v10, v11] (aI z :: st) h := X_of dX5_layTable_24 rfl
theorem x_X5_layTable_25 {v0 v1 v2 v3 v4 v5 v7 v8 v9 v10 v11 : AV} {z : Int} {st : List AV} {h : AH} : X mX5_layTable 25 [v0, v1, v2, v3, v4, v5, aI z, v7, v8, v9, v10, v11] st h = X mX5_layTable 27 [v0, v1, v2, v3, v4, v5, aI z, v7, v8, v9, v10, v11] (aI z :: st) h := X_of dX5_layTable_25 rfl
theorem x_X5_layTable_27 {a0 : Nat} {a1 : Int} {a2 : Int} {r0 : Int} {al : List AV} {h : AH} (ho : isO h 5 a0 = true) : X mX5_layTable 27 al [aI a2, aI a1, aR (some a0), aJ r0] h = cK (E mX5_sum [aR (some a0), aI a1, aI a2] h) fun v h2 => X mX5_layTable 30 al (v.toList ++ [aJ r0]) h2 := x_cal (as := [aR (some a0), aI a1, aI a2]) (rest := [aJ r0]) dX5_layTable_27 (fun _ => rfl) cT_5_133 rfl rfl ho
theorem x_X5_layTable_30 {a : Int} {al st : List AV} {h : AH} : X mX5_layTable 30 al (aI a :: st) h = X mX5_layTable 31 al (aJ a :: st) h := X_of dX5_layTable_30 rfl
theorem x_X5_layTable_31 {a b : Int} {al st : List AV} {h : AH} : X mX5_layTable 31 al (aJ b :: aJ a :: st) h = X mX5_layTable 32 al (aJ (w64 (a * b)) :: st) h := X_of dX5_layTable_31 rfl
theorem x_X5_layTable_32 {v0 v1 v2 v3 v4 v5 v7 v8 v9 v10 v11 : AV} {y : Int} {z : Int} {st : List AV} {h : AH} : X mX5_layTable 32 [v0, v1, v2, v3, v4, v5, aI y, v7, v8, v9, v10, v11] (aJ z :: st) h = X mX5_layTable 34 [v0, v1, v2, v3, v4, v5, aI y, aJ z, aU, v9, v10, v11] st h := X_of dX5_layTable_32 rfl
theorem x_X5_layTable_34 {al st : List AV} {h : AH} : X mX5_layTable 34 al st h = X mX5_layTable 35 al (aI 0 :: st) h := X_of dX5_layTable_34 rfl
theorem x_X5_layTable_35 {v0 v1 v2 v3 v4 v5 v6 v7 v9 v10 v11 : AV} {z : Int} {st : List AV} {h : AH} : X mX5_layTable 35 [v0, v1, v2, v3, v4, v5, v6, v7, aU, v9, v10, v11] (aI z :: st) h = X mX5_layTable 37 [v0, v1, v2, v3, v4, v5, v6, v7, aU, aI z, v10, v11] st h := X_of dX5_layTable_35 rfl
theorem x_X5_layTable_37 {v0 v1 v2 v3 v4 v5 v6 v7 v8 v10 v11 : AV} {z : Int} {st : List AV} {h : AH} : X mX5_layTable 37 [v0, v1, v2, v3, v4, v5, v6, v7, v8, aI z, v10, v11] st h = X mX5_layTable 39 [v0, v1, v2, v3, v4, v5, v6, v7, v8, aI z, v10, v11] (aI z :: st) h := X_of dX5_layTable_37 rfl
theorem x_X5_layTable_39 {v0 v1 v2 v3 v4 v6 v7 v8 v9 v10 v11 : AV} {z : Int} {st : List AV} {h : AH} : X mX5_layTable 39 [v0, v1, v2, v3, v4, aI z, v6, v7, v8, v9, v10, v11] st h = X mX5_layTable 41 [v0, v1, v2, v3, v4, aI z, v6, v7, v8, v9, v10, v11] (aI z :: st) h := X_of dX5_layTable_39 rfl
theorem x_X5_layTable_41 {a b : Int} {al st : List AV} {h : AH} : X mX5_layTable 41 al (aI b :: aI a :: st) h = if b ≤ a then X mX5_layTable 156 al st h else X mX5_layTable 44 al st h := x_geC dX5_layTable_41 rfl
theorem x_X5_layTable_44 {v0 v1 v2 v3 v4 v5 v7 v8 v9 v10 v11 : AV} {z : Int} {st : List AV} {h : AH} : X mX5_layTable 44 [v0, v1, v2, v3, v4, v5, aI z, v7, v8, v9, v10, v11] st h = X mX5_layTable 46 [v0, v1, v2, v3, v4, v5, aI z, v7, v8, v9, v10, v11] (aI z :: st) h := X_of dX5_layTable_44 rfl
theorem x_X5_layTable_46 {v0 v1 v2 v3 v4 v5 v6 v7 v8 v10 v11 : AV} {z : Int} {st : List AV} {h : AH} : X mX5_layTable 46 [v0, v1, v2, v3, v4, v5, v6, v7, v8, aI z, v10, v11] st h = X mX5_layTable 48 [v0, v1, v2, v3, v4, v5, v6, v7, v8, aI z, v10, v11] (aI z :: st) h := X_of dX5_layTable_46 rfl
theorem x_X5_layTable_48 {a b : Int} {al st : List AV} {h : AH} : X mX5_layTable 48 al (aI b :: aI a :: st) h = if ¬ a = b then X mX5_layTable 56 al st h else X mX5_layTable 51 al st h := x_neC dX5_layTable_48 rfl
theorem x_X5_layTable_51 {v0 v1 v2 v3 v4 v5 v6 v8 v9 v10 v11 : AV} {z : Int} {st : List AV} {h : AH} : X mX5_layTable 51 [v0, v1, v2, v3, v4, v5, v6, aJ z, v8, v9, v10, v11] st h = X mX5_layTable 53 [v0, v1, v2, v3, v4, v5, v6, aJ z, v8, v9, v10, v11] (aJ z :: st) h := X_of dX5_layTable_51 rfl
theorem x_X5_layTable_53 {al st : List AV} {h : AH} : X mX5_layTable 53 al st h = X mX5_layTable 57 al st h := X_of dX5_layTable_53 rfl
theorem x_X5_layTable_56 {al st : List AV} {h : AH} : X mX5_layTable 56 al st h = X mX5_layTable 57 al (aJ 0 :: st) h := X_of dX5_layTable_56 rfl
theorem x_X5_layTable_57 {v0 v1 v2 v3 v4 v5 v6 v7 v8 v10 v11 : AV} {y : Int} {z : Int} {st : List AV} {h : AH} : X mX5_layTable 57 [v0, v1, v2, v3, v4, v5, v6, v7, v8, aI y, v10, v11] (aJ z :: st) h = X mX5_layTable 59 [v0, v1, v2, v3, v4, v5, v6, v7, v8, aI y, aJ z, aU] st h := X_of dX5_layTable_57 rfl
theorem x_X5_layTable_59 {v0 v1 v2 v3 v4 v5 v6 v7 v8 v9 v11 : AV} {z : Int} {st : List AV} {h : AH} : X mX5_layTable 59 [v0, v1, v2, v3, v4, v5, v6, v7, v8, v9, aJ z, v11] st h = X mX5_layTable 61 [v0, v1, v2, v3, v4, v5, v6, v7, v8, v9, aJ z, v11] (aJ z :: st) h := X_of dX5_layTable_59 rfl
theorem x_X5_layTable_61 {v0 v1 v3 v4 v5 v6 v7 v8 v9 v10 v11 : AV} {z : Int} {st : List AV} {h : AH} : X mX5_layTable 61 [v0, v1, aI z, v3, v4, v5, v6, v7, v8, v9, v10, v11] st h = X mX5_layTable 62 [v0, v1, aI z, v3, v4, v5, v6, v7, v8, v9, v10, v11] (aI z :: st) h := X_of dX5_layTable_61 rfl
theorem x_X5_layTable_62 {v0 v1 v2 v3 v4 v5 v6 v7 v8 v10 v11 : AV} {z : Int} {st : List AV} {h : AH} : X mX5_layTable 62 [v0, v1, v2, v3, v4, v5, v6, v7, v8, aI z, v10, v11] st h = X mX5_layTable 64 [v0, v1, v2, v3, v4, v5, v6, v7, v8, aI z, v10, v11] (aI z :: st) h := X_of dX5_layTable_62 rfl
theorem x_X5_layTable_64 {a b : Int} {al st : List AV} {h : AH} : X mX5_layTable 64 al (aI b :: aI a :: st) h = X mX5_layTable 65 al (aI (fShr a b) :: st) h := X_of dX5_layTable_64 rfl
theorem x_X5_layTable_65 {al st : List AV} {h : AH} : X mX5_layTable 65 al st h = X mX5_layTable 66 al (aI 1 :: st) h := X_of dX5_layTable_65 rfl
theorem x_X5_layTable_66 {a b : Int} {al st : List AV} {h : AH} : X mX5_layTable 66 al (aI b :: aI a :: st) h = X mX5_layTable 67 al (aI (fAnd a b) :: st) h := X_of dX5_layTable_66 rfl
theorem x_X5_layTable_67 {al st : List AV} {h : AH} : X mX5_layTable 67 al st h = X mX5_layTable 68 al (aI 1 :: st) h := X_of dX5_layTable_67 rfl
theorem x_X5_layTable_68 {a b : Int} {al st : List AV} {h : AH} : X mX5_layTable 68 al (aI b :: aI a :: st) h = if ¬ a = b then X mX5_layTable 98 al st h else X mX5_layTable 71 al st h := x_neC dX5_layTable_68 rfl
theorem x_X5_layTable_71 {v1 v2 v3 v4 v5 v6 v7 v8 v9 v10 v11 : AV} {z : Option Nat} {st : List AV} {h : AH} : X mX5_layTable 71 [aR z, v1, v2, v3, v4, v5, v6, v7, v8, v9, v10, v11] st h = X mX5_layTable 72 [aR z, v1, v2, v3, v4, v5, v6, v7, v8, v9, v10, v11] (aR z :: st) h := X_of dX5_layTable_71 rfl
theorem x_X5_layTable_72 {a : Nat} {al st : List AV} {h : AH} : X mX5_layTable 72 al (aR (some a) :: st) h = gK (rd h 5 a 2) fun v => X mX5_layTable 75 al (v :: st) h := x_get dX5_layTable_72 fT_5_62
theorem x_X5_layTable_75 {a : Int} {al st : List AV} {h : AH} : X mX5_layTable 75 al (aI a :: st) h = X mX5_layTable 76 al (aJ a :: st) h := X_of dX5_layTable_75 rfl
theorem x_X5_layTable_76 {v1 v2 v3 v4 v5 v6 v7 v8 v9 v10 v11 : AV} {z : Option Nat} {st : List AV} {h : AH} : X mX5_layTable 76 [aR z, v1, v2, v3, v4, v5, v6, v7, v8, v9, v10, v11] st h = X mX5_layTable 77 [aR z, v1, v2, v3, v4, v5, v6, v7, v8, v9, v10, v11] (aR z :: st) h := X_of dX5_layTable_76 rfl
theorem x_X5_layTable_77 {a : Nat} {al st : List AV} {h : AH} : X mX5_layTable 77 al (aR (some a) :: st) h = gK (rd h 5 a 15) fun v => X mX5_layTable 80 al (v :: st) h := x_get dX5_layTable_77 fT_5_38
theorem x_X5_layTable_80 {al st : List AV} {h : AH} : X mX5_layTable 80 al st h = X mX5_layTable 82 al (aI 25 :: st) h := X_of dX5_layTable_80 rfl
theorem x_X5_layTable_82 {v0 v2 v3 v4 v5 v6 v7 v8 v9 v10 v11 : AV} {z : Int} {st : List AV} {h : AH} : X mX5_layTable 82 [v0, aI z, v2, v3, v4, v5, v6, v7, v8, v9, v10, v11] st h = X mX5_layTable 83 [v0, aI z, v2, v3, v4, v5, v6, v7, v8, v9, v10, v11] (aI z :: st) h := X_of dX5_layTable_82 rfl
theorem x_X5_layTable_83 {a b : Int} {al st : List AV} {h : AH} : X mX5_layTable 83 al (aI b :: aI a :: st) h = X mX5_layTable 84 al (aI (w32 (a * b)) :: st) h := X_of dX5_layTable_83 rfl
theorem x_X5_layTable_84 {al st : List AV} {h : AH} : X mX5_layTable 84 al st h = X mX5_layTable 85 al (aI 5 :: st) h := X_of dX5_layTable_84 rfl
theorem x_X5_layTable_85 {v0 v1 v2 v3 v4 v5 v7 v8 v9 v10 v11 : AV} {z : Int} {st : List AV} {h : AH} : X mX5_layTable 85 [v0, v1, v2, v3, v4, v5, aI z, v7, v8, v9, v10, v11] st h = X mX5_layTable 87 [v0, v1, v2, v3, v4, v5, aI z, v7, v8, v9, v10, v11] (aI z :: st) h := X_of dX5_layTable_85 rfl
theorem x_X5_layTable_87 {a b : Int} {al st : List AV} {h : AH} : X mX5_layTable 87 al (aI b :: aI a :: st) h = X mX5_layTable 88 al (aI (w32 (a * b)) :: st) h := X_of dX5_layTable_87 rfl
theorem x_X5_layTable_88 {a b : Int} {al st : List AV} {h : AH} : X mX5_layTable 88 al (aI b :: aI a :: st) h = X mX5_layTable 89 al (aI (w32 (a + b)) :: st) h := X_of dX5_layTable_88 rfl
theorem x_X5_layTable_89 {v0 v1 v2 v3 v4 v5 v6 v7 v8 v10 v11 : AV} {z : Int} {st : List AV} {h : AH} : X mX5_layTable 89 [v0, v1, v2, v3, v4, v5, v6, v7, v8, aI z, v10, v11] st h = X mX5_layTable 91 [v0, v1, v2, v3, v4, v5, v6, v7, v8, aI z, v10, v11] (aI z :: st) h := X_of dX5_layTable_89 rfl
theorem x_X5_layTable_91 {a b : Int} {al st : List AV} {h : AH} : X mX5_layTable 91 al (aI b :: aI a :: st) h = X mX5_layTable 92 al (aI (w32 (a + b)) :: st) h := X_of dX5_layTable_91 rfl
theorem x_X5_layTable_92 {a : Nat} {i : Int} {al st : List AV} {h : AH} : X mX5_layTable 92 al (aI i :: aR (some a) :: st) h = if 0 ≤ i then gK (rd h 10 a i.toNat) (fun v => X mX5_layTable 93 al (v :: st) h) else none := x_aldI dX5_layTable_92
theorem x_X5_layTable_93 {a : Int} {al st : List AV} {h : AH} : X mX5_layTable 93 al (aI a :: st) h = X mX5_layTable 94 al (aJ a :: st) h := X_of dX5_layTable_93 rfl
theorem x_X5_layTable_94 {a b : Int} {al st : List AV} {h : AH} : X mX5_layTable 94 al (aJ b :: aJ a :: st) h = X mX5_layTable 95 al (aJ (w64 (a * b)) :: st) h := X_of dX5_layTable_94 rfl
theorem x_X5_layTable_95 {al st : List AV} {h : AH} : X mX5_layTable 95 al st h = X mX5_layTable 99 al st h := X_of dX5_layTable_95 rfl
theorem x_X5_layTable_98 {al st : List AV} {h : AH} : X mX5_layTable 98 al st h = X mX5_layTable 99 al (aJ 0 :: st) h := X_of dX5_layTable_98 rfl
theorem x_X5_layTable_99 {a b : Int} {al st : List AV} {h : AH} : X mX5_layTable 99 al (aJ b :: aJ a :: st) h = X mX5_layTable 100 al (aJ (w64 (a - b)) :: st) h := X_of dX5_layTable_99 rfl
theorem x_X5_layTable_100 {v0 v1 v2 v3 v4 v5 v6 v7 v8 v10 v11 : AV} {y : Int} {z : Int} {st : List AV} {h : AH} : X mX5_layTable 100 [v0, v1, v2, v3, v4, v5, v6, v7, v8, aI y, v10, v11] (aJ z :: st) h = X mX5_layTable 102 [v0, v1, v2, v3, v4, v5, v6, v7, v8, aI y, aJ z, aU] st h := X_of dX5_layTable_100 rfl
theorem x_X5_layTable_102 {v1 v2 v3 v4 v5 v6 v7 v8 v9 v10 v11 : AV} {z : Option Nat} {st : List AV} {h : AH} : X mX5_layTable 102 [aR z, v1, v2, v3, v4, v5, v6, v7, v8, v9, v10, v11] st h = X mX5_layTable 103 [aR z, v1, v2, v3, v4, v5, v6, v7, v8, v9, v10, v11] (aR z :: st) h := X_of dX5_layTable_102 rfl
theorem x_X5_layTable_103 {a : Nat} {al st : List AV} {h : AH} : X mX5_layTable 103 al (aR (some a) :: st) h = gK (rd h 5 a 21) fun v => X mX5_layTable 106 al (v :: st) h := x_get dX5_layTable_103 fT_5_44
theorem x_X5_layTable_106 {al st : List AV} {h : AH} : X mX5_layTable 106 al st h = X mX5_layTable 107 al (aI 5 :: st) h := X_of dX5_layTable_106 rfl
theorem x_X5_layTable_107 {v0 v1 v2 v3 v4 v5 v7 v8 v9 v10 v11 : AV} {z : Int} {st : List AV} {h : AH} : X mX5_layTable 107 [v0, v1, v2, v3, v4, v5, aI z, v7, v8, v9, v10, v11] st h = X mX5_layTable 109 [v0, v1, v2, v3, v4, v5, aI z, v7, v8, v9, v10, v11] (aI z :: st) h := X_of dX5_layTable_107 rfl
theorem x_X5_layTable_109 {a b : Int} {al st : List AV} {h : AH} : X mX5_layTable 109 al (aI b :: aI a :: st) h = X mX5_layTable 110 al (aI (w32 (a * b)) :: st) h := X_of dX5_layTable_109 rfl
theorem x_X5_layTable_110 {v0 v1 v2 v3 v4 v5 v6 v7 v8 v10 v11 : AV} {z : Int} {st : List AV} {h : AH} : X mX5_layTable 110 [v0, v1, v2, v3, v4, v5, v6, v7, v8, aI z, v10, v11] st h = X mX5_layTable 112 [v0, v1, v2, v3, v4, v5, v6, v7, v8, aI z, v10, v11] (aI z :: st) h := X_of dX5_layTable_110 rfl
theorem x_X5_layTable_112 {a b : Int} {al st : List AV} {h : AH} : X mX5_layTable 112 al (aI b :: aI a :: st) h = X mX5_layTable 113 al (aI (w32 (a + b)) :: st) h := X_of dX5_layTable_112 rfl
theorem x_X5_layTable_113 {v0 v1 v2 v3 v4 v5 v6 v7 v8 v10 v11 : AV} {z : Int} {st : List AV} {h : AH} : X mX5_layTable 113 [v0, v1, v2, v3, v4, v5, v6, v7, v8, aI z, v10, v11] st h = X mX5_layTable 115 [v0, v1, v2, v3, v4, v5, v6, v7, v8, aI z, v10, v11] (aI z :: st) h := X_of dX5_layTable_113 rfl
theorem x_X5_layTable_115 {v0 v1 v2 v4 v5 v6 v7 v8 v9 v10 v11 : AV} {z : Int} {st : List AV} {h : AH} : X mX5_layTable 115 [v0, v1, v2, aI z, v4, v5, v6, v7, v8, v9, v10, v11] st h = X mX5_layTable 116 [v0, v1, v2, aI z, v4, v5, v6, v7, v8, v9, v10, v11] (aI z :: st) h := X_of dX5_layTable_115 rfl
theorem x_X5_layTable_116 {a b : Int} {al st : List AV} {h : AH} : X mX5_layTable 116 al (aI b :: aI a :: st) h = if a = b then X mX5_layTable 124 al st h else X mX5_layTable 119 al st h := x_eqC dX5_layTable_116 rfl
theorem x_X5_layTable_119 {v0 v1 v2 v3 v4 v5 v6 v7 v8 v9 v11 : AV} {z : Int} {st : List AV} {h : AH} : X mX5_layTable 119 [v0, v1, v2, v3, v4, v5, v6, v7, v8, v9, aJ z, v11] st h = X mX5_layTable 121 [v0, v1, v2, v3, v4, v5, v6, v7, v8, v9, aJ z, v11] (aJ z :: st) h := X_of dX5_layTable_119 rfl
theorem x_X5_layTable_121 {al st : List AV} {h : AH} : X mX5_layTable 121 al st h = X mX5_layTable 149 al st h := X_of dX5_layTable_121 rfl
theorem x_X5_layTable_124 {v0 v1 v2 v3 v5 v6 v7 v8 v9 v10 v11 : AV} {z : Int} {st : List AV} {h : AH} : X mX5_layTable 124 [v0, v1, v2, v3, aI z, v5, v6, v7, v8, v9, v10, v11] st h = X mX5_layTable 126 [v0, v1, v2, v3, aI z, v5, v6, v7, v8, v9, v10, v11] (aI z :: st) h := X_of dX5_layTable_124 rfl
theorem x_X5_layTable_126 {a : Int} {al st : List AV} {h : AH} : X mX5_layTable 126 al (aI a :: st) h = if a = 0 then X mX5_layTable 147 al st h else X mX5_layTable 129 al st h := x_eq0 dX5_layTable_126 rfl
theorem x_X5_layTable_129 {v0 v1 v2 v3 v4 v5 v6 v8 v9 v10 v11 : AV} {z : Int} {st : List AV} {h : AH} : X mX5_layTable 129 [v0, v1, v2, v3, v4, v5, v6, aJ z, v8, v9, v10, v11] st h = X mX5_layTable 131 [v0, v1, v2, v3, v4, v5, v6, aJ z, v8, v9, v10, v11] (aJ z :: st) h := X_of dX5_layTable_129 rfl
theorem x_X5_layTable_131 {v1 v2 v3 v4 v5 v6 v7 v8 v9 v10 v11 : AV} {z : Option Nat} {st : List AV} {h : AH} : X mX5_layTable 131 [aR z, v1, v2, v3, v4, v5, v6, v7, v8, v9, v10, v11] st h = X mX5_layTable 132 [aR z, v1, v2, v3, v4, v5, v6, v7, v8, v9, v10, v11] (aR z :: st) h := X_of dX5_layTable_131 rfl
theorem x_X5_layTable_132 {a : Nat} {al st : List AV} {h : AH} : X mX5_layTable 132 al (aR (some a) :: st) h = gK (rd h 5 a 14) fun v => X mX5_layTable 135 al (v :: st) h := x_get dX5_layTable_132 fT_5_35
theorem x_X5_layTable_135 {al st : List AV} {h : AH} : X mX5_layTable 135 al st h = X mX5_layTable 136 al (aI 5 :: st) h := X_of dX5_layTable_135 rfl
theorem x_X5_layTable_136 {v0 v2 v3 v4 v5 v6 v7 v8 v9 v10 v11 : AV} {z : Int} {st : List AV} {h : AH} : X mX5_layTable 136 [v0, aI z, v2, v3, v4, v5, v6, v7, v8, v9, v10, v11] st h = X mX5_layTable 137 [v0, aI z, v2, v3, v4, v5, v6, v7, v8, v9, v10, v11] (aI z :: st) h := X_of dX5_layTable_136 rfl
theorem x_X5_layTable_137 {a b : Int} {al st : List AV} {h : AH} : X mX5_layTable 137 al (aI b :: aI a :: st) h = X mX5_layTable 138 al (aI (w32 (a * b)) :: st) h := X_of dX5_layTable_137 rfl
theorem x_X5_layTable_138 {v0 v1 v2 v3 v4 v5 v7 v8 v9 v10 v11 : AV} {z : Int} {st : List AV} {h : AH} : X mX5_layTable 138 [v0, v1, v2, v3, v4, v5, aI z, v7, v8, v9, v10, v11] st h = X mX5_layTable 140 [v0, v1, v2, v3, v4, v5, aI z, v7, v8, v9, v10, v11] (aI z :: st) h := X_of dX5_layTable_138 rfl
theorem x_X5_layTable_140 {a b : Int} {al st : List AV} {h : AH} : X mX5_layTable 140 al (aI b :: aI a :: st) h = X mX5_layTable 141 al (aI (w32 (a + b)) :: st) h := X_of dX5_layTable_140 rfl
theorem x_X5_layTable_141 {a : Nat} {i : Int} {al st : List AV} {h : AH} : X mX5_layTable 141 al (aI i :: aR (some a) :: st) h = if 0 ≤ i then gK (rd h 10 a i.toNat) (fun v => X mX5_layTable 142 al (v :: st) h) else none := x_aldI dX5_layTable_141
theorem x_X5_layTable_142 {a : Int} {al st : List AV} {h : AH} : X mX5_layTable 142 al (aI a :: st) h = X mX5_layTable 143 al (aJ a :: st) h := X_of dX5_layTable_142 rfl
theorem x_X5_layTable_143 {a b : Int} {al st : List AV} {h : AH} : X mX5_layTable 143 al (aJ b :: aJ a :: st) h = X mX5_layTable 144 al (aJ (w64 (a * b)) :: st) h := X_of dX5_layTable_143 rfl
theorem x_X5_layTable_144 {al st : List AV} {h : AH} : X mX5_layTable 144 al st h = X mX5_layTable 149 al st h := X_of dX5_layTable_144 rfl
theorem x_X5_layTable_147 {v0 v1 v2 v3 v4 v5 v6 v8 v9 v10 v11 : AV} {z : Int} {st : List AV} {h : AH} : X mX5_layTable 147 [v0, v1, v2, v3, v4, v5, v6, aJ z, v8, v9, v10, v11] st h = X mX5_layTable 149 [v0, v1, v2, v3, v4, v5, v6, aJ z, v8, v9, v10, v11] (aJ z :: st) h := X_of dX5_layTable_147 rfl
theorem x_X5_layTable_149 {a : Nat} {i z : Int} {al st : List AV} {h : AH} : X mX5_layTable 149 al (aJ z :: aI i :: aR (some a) :: st) h = if 0 ≤ i then pK (rd h 11 a i.toNat) (X mX5_layTable 150 al st (wr h 11 a i.toNat (aJ z))) else none := x_astJ dX5_layTable_149
theorem x_X5_layTable_150 {v0 v1 v2 v3 v4 v5 v6 v7 v10 v11 : AV} {z : Int} {st : List AV} {h : AH} : X mX5_layTable 150 [v0, v1, v2, v3, v4, v5, v6, v7, aU, aI z, v10, v11] st h = X mX5_layTable 153 [v0, v1, v2, v3, v4, v5, v6, v7, aU, aI (w32 (z + 1)), v10, v11] st h := X_of dX5_layTable_150 rfl
theorem x_X5_layTable_153 {al st : List AV} {h : AH} : X mX5_layTable 153 al st h = X mX5_layTable 37 al st h := X_of dX5_layTable_153 rfl
theorem x_X5_layTable_156 {v0 v1 v2 v3 v4 v7 v8 v9 v10 v11 : AV} {y : Int} {z : Int} {st : List AV} {h : AH} : X mX5_layTable 156 [v0, v1, v2, v3, v4, aI y, aI z, v7, v8, v9, v10, v11] st h = X mX5_layTable 159 [v0, v1, v2, v3, v4, aI y, aI (w32 (z + 1)), v7, v8, v9, v10, v11] st h := X_of dX5_layTable_156 rfl
theorem x_X5_layTable_159 {al st : List AV} {h : AH} : X mX5_layTable 159 al st h = X mX5_layTable 11 al st h := X_of dX5_layTable_159 rfl
theorem x_X5_layTable_162 {al : List AV} {h : AH} : X mX5_layTable 162 al [] h = some (none, h) := X_ofR dX5_layTable_162 rfl
theorem e_X5_value {p0 : Option Nat} {p1 : Int} {p2 : Int} {p3 : Int} {h : AH} : E mX5_value [aR p0, aI p1, aI p2, aI p3] h = X mX5_value 0 [aR p0, aI p1, aI p2, aI p3, aU, aU, aU, aU] [] h := rfl
theorem x_X5_value_0 {v1 v2 v3 v4 v5 v6 v7 : AV} {z : Option Nat} {st : List AV} {h : AH} : X mX5_value 0 [aR z, v1, v2, v3, v4, v5, v6, v7] st h = X mX5_value 1 [aR z, v1, v2, v3, v4, v5, v6, v7] (aR z :: st) h := X_of dX5_value_0 rfl
theorem x_X5_value_1 {v0 v2 v3 v4 v5 v6 v7 : AV} {z : Int} {st : List AV} {h : AH} : X mX5_value 1 [v0, aI z, v2, v3, v4, v5, v6, v7] st h = X mX5_value 2 [v0, aI z, v2, v3, v4, v5, v6, v7] (aI z :: st) h := X_of dX5_value_1 rfl
theorem x_X5_value_2 {v0 v1 v2 v4 v5 v6 v7 : AV} {z : Int} {st : List AV} {h : AH} : X mX5_value 2 [v0, v1, v2, aI z, v4, v5, v6, v7] st h = X mX5_value 3 [v0, v1, v2, aI z, v4, v5, v6, v7] (aI z :: st) h := X_of dX5_value_2 rfl
theorem x_X5_value_3 {v0 v1 v3 v4 v5 v6 v7 : AV} {z : Int} {st : List AV} {h : AH} : X mX5_value 3 [v0, v1, aI z, v3, v4, v5, v6, v7] st h = X mX5_value 4 [v0, v1, aI z, v3, v4, v5, v6, v7] (aI z :: st) h := X_of dX5_value_3 rfl
theorem x_X5_value_4 {al st : List AV} {h : AH} : X mX5_value 4 al st h = X mX5_value 5 al (aI 1 :: st) h := X_of dX5_value_4 rfl
theorem x_X5_value_5 {a0 : Nat} {a1 : Int} {a2 : Int} {a3 : Int} {a4 : Int} {al : List AV} {h : AH} (ho : isO h 5 a0 = true) : X mX5_value 5 al [aI a4, aI a3, aI a2, aI a1, aR (some a0)] h = cK (E mX5_layTable [aR (some a0), aI a1, aI a2, aI a3, aI a4] h) fun v h2 => X mX5_value 8 al (v.toList ++ []) h2 := x_cal (as := [aR (some a0), aI a1, aI a2, aI a3, aI a4]) (rest := []) dX5_value_5 (fun _ => rfl) cT_5_152 rfl rfl ho
theorem x_X5_value_8 {v1 v2 v3 v4 v5 v6 v7 : AV} {z : Option Nat} {st : List AV} {h : AH} : X mX5_value 8 [aR z, v1, v2, v3, v4, v5, v6, v7] st h = X mX5_value 9 [aR z, v1, v2, v3, v4, v5, v6, v7] (aR z :: st) h := X_of dX5_value_8 rfl
theorem x_X5_value_9 {v1 v2 v3 v4 v5 v6 v7 : AV} {z : Option Nat} {st : List AV} {h : AH} : X mX5_value 9 [aR z, v1, v2, v3, v4, v5, v6, v7] st h = X mX5_value 10 [aR z, v1, v2, v3, v4, v5, v6, v7] (aR z :: st) h := X_of dX5_value_9 rfl
theorem x_X5_value_10 {a : Nat} {al st : List AV} {h : AH} : X mX5_value 10 al (aR (some a) :: st) h = gK (rd h 5 a 12) fun v => X mX5_value 13 al (v :: st) h := x_get dX5_value_10 fT_5_29
theorem x_X5_value_13 {v0 v2 v3 v4 v5 v6 v7 : AV} {z : Int} {st : List AV} {h : AH} : X mX5_value 13 [v0, aI z, v2, v3, v4, v5, v6, v7] st h = X mX5_value 14 [v0, aI z, v2, v3, v4, v5, v6, v7] (aI z :: st) h := X_of dX5_value_13 rfl
theorem x_X5_value_14 {a : Nat} {i : Int} {al st : List AV} {h : AH} : X mX5_value 14 al (aI i :: aR (some a) :: st) h = if 0 ≤ i then gK (rd h 10 a i.toNat) (fun v => X mX5_value 15 al (v :: st) h) else none := x_aldI dX5_value_14
theorem x_X5_value_15 {a0 : Nat} {a1 : Int} {al : List AV} {h : AH} (ho : isO h 5 a0 = true) : X mX5_value 15 al [aI a1, aR (some a0)] h = cK (E mX5_determinant [aR (some a0), aI a1] h) fun v h2 => X mX5_value 18 al (v.toList ++ []) h2 := x_cal (as := [aR (some a0), aI a1]) (rest := []) dX5_value_15 (fun _ => rfl) cT_5_156 rfl rfl ho
theorem x_X5_value_18 {v0 v1 v2 v4 v5 v6 v7 : AV} {y : Int} {z : Int} {st : List AV} {h : AH} : X mX5_value 18 [v0, v1, v2, aI y, v4, v5, v6, v7] (aJ z :: st) h = X mX5_value 20 [v0, v1, v2, aI y, aJ z, aU, v6, v7] st h := X_of dX5_value_18 rfl
theorem x_X5_value_20 {v1 v2 v3 v4 v5 v6 v7 : AV} {z : Option Nat} {st : List AV} {h : AH} : X mX5_value 20 [aR z, v1, v2, v3, v4, v5, v6, v7] st h = X mX5_value 21 [aR z, v1, v2, v3, v4, v5, v6, v7] (aR z :: st) h := X_of dX5_value_20 rfl
theorem x_X5_value_21 {v0 v2 v3 v4 v5 v6 v7 : AV} {z : Int} {st : List AV} {h : AH} : X mX5_value 21 [v0, aI z, v2, v3, v4, v5, v6, v7] st h = X mX5_value 22 [v0, aI z, v2, v3, v4, v5, v6, v7] (aI z :: st) h := X_of dX5_value_21 rfl
theorem x_X5_value_22 {v0 v1 v2 v4 v5 v6 v7 : AV} {z : Int} {st : List AV} {h : AH} : X mX5_value 22 [v0, v1, v2, aI z, v4, v5, v6, v7] st h = X mX5_value 23 [v0, v1, v2, aI z, v4, v5, v6, v7] (aI z :: st) h := X_of dX5_value_22 rfl
theorem x_X5_value_23 {v0 v1 v3 v4 v5 v6 v7 : AV} {z : Int} {st : List AV} {h : AH} : X mX5_value 23 [v0, v1, aI z, v3, v4, v5, v6, v7] st h = X mX5_value 24 [v0, v1, aI z, v3, v4, v5, v6, v7] (aI z :: st) h := X_of dX5_value_23 rfl
theorem x_X5_value_24 {al st : List AV} {h : AH} : X mX5_value 24 al st h = X mX5_value 25 al (aI 0 :: st) h := X_of dX5_value_24 rfl
theorem x_X5_value_25 {a0 : Nat} {a1 : Int} {a2 : Int} {a3 : Int} {a4 : Int} {al : List AV} {h : AH} (ho : isO h 5 a0 = true) : X mX5_value 25 al [aI a4, aI a3, aI a2, aI a1, aR (some a0)] h = cK (E mX5_layTable [aR (some a0), aI a1, aI a2, aI a3, aI a4] h) fun v h2 => X mX5_value 28 al (v.toList ++ []) h2 := x_cal (as := [aR (some a0), aI a1, aI a2, aI a3, aI a4]) (rest := []) dX5_value_25 (fun _ => rfl) cT_5_152 rfl rfl ho
theorem x_X5_value_28 {v1 v2 v3 v4 v5 v6 v7 : AV} {z : Option Nat} {st : List AV} {h : AH} : X mX5_value 28 [aR z, v1, v2, v3, v4, v5, v6, v7] st h = X mX5_value 29 [aR z, v1, v2, v3, v4, v5, v6, v7] (aR z :: st) h := X_of dX5_value_28 rfl
theorem x_X5_value_29 {v1 v2 v3 v4 v5 v6 v7 : AV} {z : Option Nat} {st : List AV} {h : AH} : X mX5_value 29 [aR z, v1, v2, v3, v4, v5, v6, v7] st h = X mX5_value 30 [aR z, v1, v2, v3, v4, v5, v6, v7] (aR z :: st) h := X_of dX5_value_29 rfl
theorem x_X5_value_30 {a : Nat} {al st : List AV} {h : AH} : X mX5_value 30 al (aR (some a) :: st) h = gK (rd h 5 a 12) fun v => X mX5_value 33 al (v :: st) h := x_get dX5_value_30 fT_5_29
theorem x_X5_value_33 {v0 v2 v3 v4 v5 v6 v7 : AV} {z : Int} {st : List AV} {h : AH} : X mX5_value 33 [v0, aI z, v2, v3, v4, v5, v6, v7] st h = X mX5_value 34 [v0, aI z, v2, v3, v4, v5, v6, v7] (aI z :: st) h := X_of dX5_value_33 rfl
theorem x_X5_value_34 {a : Nat} {i : Int} {al st : List AV} {h : AH} : X mX5_value 34 al (aI i :: aR (some a) :: st) h = if 0 ≤ i then gK (rd h 10 a i.toNat) (fun v => X mX5_value 35 al (v :: st) h) else none := x_aldI dX5_value_34
theorem x_X5_value_35 {a0 : Nat} {a1 : Int} {al : List AV} {h : AH} (ho : isO h 5 a0 = true) : X mX5_value 35 al [aI a1, aR (some a0)] h = cK (E mX5_determinant [aR (some a0), aI a1] h) fun v h2 => X mX5_value 38 al (v.toList ++ []) h2 := x_cal (as := [aR (some a0), aI a1]) (rest := []) dX5_value_35 (fun _ => rfl) cT_5_156 rfl rfl ho
theorem x_X5_value_38 {v0 v1 v2 v3 v4 v6 v7 : AV} {z : Int} {st : List AV} {h : AH} : X mX5_value 38 [v0, v1, v2, v3, v4, aU, v6, v7] (aJ z :: st) h = X mX5_value 40 [v0, v1, v2, v3, v4, aU, aJ z, aU] st h := X_of dX5_value_38 rfl
theorem x_X5_value_40 {v1 v2 v3 v4 v5 v6 v7 : AV} {z : Option Nat} {st : List AV} {h : AH} : X mX5_value 40 [aR z, v1, v2, v3, v4, v5, v6, v7] st h = X mX5_value 41 [aR z, v1, v2, v3, v4, v5, v6, v7] (aR z :: st) h := X_of dX5_value_40 rfl
theorem x_X5_value_41 {v0 v1 v2 v3 v5 v6 v7 : AV} {z : Int} {st : List AV} {h : AH} : X mX5_value 41 [v0, v1, v2, v3, aJ z, v5, v6, v7] st h = X mX5_value 43 [v0, v1, v2, v3, aJ z, v5, v6, v7] (aJ z :: st) h := X_of dX5_value_41 rfl
theorem x_X5_value_43 {v0 v1 v2 v3 v4 v5 v7 : AV} {z : Int} {st : List AV} {h : AH} : X mX5_value 43 [v0, v1, v2, v3, v4, v5, aJ z, v7] st h = X mX5_value 45 [v0, v1, v2, v3, v4, v5, aJ z, v7] (aJ z :: st) h := X_of dX5_value_43 rfl
theorem x_X5_value_45 {a0 : Nat} {a1 : Int} {a2 : Int} {al : List AV} {h : AH} (ho : isO h 5 a0 = true) : X mX5_value 45 al [aJ a2, aJ a1, aR (some a0)] h = cK (E mX5_fraction [aR (some a0), aJ a1, aJ a2] h) fun v h2 => X mX5_value 48 al (v.toList ++ []) h2 := x_cal (as := [aR (some a0), aJ a1, aJ a2]) (rest := []) dX5_value_45 (fun _ => rfl) cT_5_160 rfl rfl ho
theorem x_X5_value_48 {al : List AV} {h : AH} : X mX5_value 48 al [] h = some (none, h) := X_ofR dX5_value_48 rfl
theorem e_X5_worthOf {p0 : Option Nat} {p1 : Int} {p2 : Int} {h : AH} : E mX5_worthOf [aR p0, aI p1, aI p2] h = X mX5_worthOf 0 [aR p0, aI p1, aI p2, aU, aU, aU, aU, aU] [] h := rfl
theorem x_X5_worthOf_0 {v1 v2 v3 v4 v5 v6 v7 : AV} {z : Option Nat} {st : List AV} {h : AH} : X mX5_worthOf 0 [aR z, v1, v2, v3, v4, v5, v6, v7] st h = X mX5_worthOf 1 [aR z, v1, v2, v3, v4, v5, v6, v7] (aR z :: st) h := X_of dX5_worthOf_0 rfl
theorem x_X5_worthOf_1 {v0 v2 v3 v4 v5 v6 v7 : AV} {z : Int} {st : List AV} {h : AH} : X mX5_worthOf 1 [v0, aI z, v2, v3, v4, v5, v6, v7] st h = X mX5_worthOf 2 [v0, aI z, v2, v3, v4, v5, v6, v7] (aI z :: st) h := X_of dX5_worthOf_1 rfl
theorem x_X5_worthOf_2 {v0 v1 v3 v4 v5 v6 v7 : AV} {z : Int} {st : List AV} {h : AH} : X mX5_worthOf 2 [v0, v1, aI z, v3, v4, v5, v6, v7] st h = X mX5_worthOf 3 [v0, v1, aI z, v3, v4, v5, v6, v7] (aI z :: st) h := X_of dX5_worthOf_2 rfl
theorem x_X5_worthOf_3 {al st : List AV} {h : AH} : X mX5_worthOf 3 al st h = X mX5_worthOf 4 al (aI 0 :: st) h := X_of dX5_worthOf_3 rfl
theorem x_X5_worthOf_4 {a0 : Nat} {a1 : Int} {a2 : Int} {a3 : Int} {al : List AV} {h : AH} (ho : isO h 5 a0 = true) : X mX5_worthOf 4 al [aI a3, aI a2, aI a1, aR (some a0)] h = cK (E mX5_value [aR (some a0), aI a1, aI a2, aI a3] h) fun v h2 => X mX5_worthOf 7 al (v.toList ++ []) h2 := x_cal (as := [aR (some a0), aI a1, aI a2, aI a3]) (rest := []) dX5_worthOf_4 (fun _ => rfl) cT_5_164 rfl rfl ho
theorem x_X5_worthOf_7 {v1 v2 v3 v4 v5 v6 v7 : AV} {z : Option Nat} {st : List AV} {h : AH} : X mX5_worthOf 7 [aR z, v1, v2, v3, v4, v5, v6, v7] st h = X mX5_worthOf 8 [aR z, v1, v2, v3, v4, v5, v6, v7] (aR z :: st) h := X_of dX5_worthOf_7 rfl
theorem x_X5_worthOf_8 {a : Nat} {al st : List AV} {h : AH} : X mX5_worthOf 8 al (aR (some a) :: st) h = gK (rd h 5 a 17) fun v => X mX5_worthOf 11 al (v :: st) h := x_get dX5_worthOf_8 fT_5_140
theorem x_X5_worthOf_11 {v0 v1 v3 v4 v5 v6 v7 : AV} {y : Int} {z : Int} {st : List AV} {h : AH} : X mX5_worthOf 11 [v0, v1, aI y, v3, v4, v5, v6, v7] (aJ z :: st) h = X mX5_worthOf 12 [v0, v1, aI y, aJ z, aU, v5, v6, v7] st h := X_of dX5_worthOf_11 rfl
theorem x_X5_worthOf_12 {v1 v2 v3 v4 v5 v6 v7 : AV} {z : Option Nat} {st : List AV} {h : AH} : X mX5_worthOf 12 [aR z, v1, v2, v3, v4, v5, v6, v7] st h = X mX5_worthOf 13 [aR z, v1, v2, v3, v4, v5, v6, v7] (aR z :: st) h := X_of dX5_worthOf_12 rfl
theorem x_X5_worthOf_13 {a : Nat} {al st : List AV} {h : AH} : X mX5_worthOf 13 al (aR (some a) :: st) h = gK (rd h 5 a 18) fun v => X mX5_worthOf 16 al (v :: st) h := x_get dX5_worthOf_13 fT_5_143
theorem x_X5_worthOf_16 {v0 v1 v2 v3 v5 v6 v7 : AV} {z : Int} {st : List AV} {h : AH} : X mX5_worthOf 16 [v0, v1, v2, v3, aU, v5, v6, v7] (aJ z :: st) h = X mX5_worthOf 18 [v0, v1, v2, v3, aU, aJ z, aU, v7] st h := X_of dX5_worthOf_16 rfl
theorem x_X5_worthOf_18 {al st : List AV} {h : AH} : X mX5_worthOf 18 al st h = X mX5_worthOf 19 al (aI 1 :: st) h := X_of dX5_worthOf_18 rfl
theorem x_X5_worthOf_19 {v0 v1 v2 v3 v4 v5 v7 : AV} {z : Int} {st : List AV} {h : AH} : X mX5_worthOf 19 [v0, v1, v2, v3, v4, v5, aU, v7] (aI z :: st) h = X mX5_worthOf 21 [v0, v1, v2, v3, v4, v5, aU, aI z] st h := X_of dX5_worthOf_19 rfl
theorem x_X5_worthOf_21 {v0 v1 v2 v3 v4 v5 v6 : AV} {z : Int} {st : List AV} {h : AH} : X mX5_worthOf 21 [v0, v1, v2, v3, v4, v5, v6, aI z] st h = X mX5_worthOf 23 [v0, v1, v2, v3, v4, v5, v6, aI z] (aI z :: st) h := X_of dX5_worthOf_21 rfl
theorem x_X5_worthOf_23 {al st : List AV} {h : AH} : X mX5_worthOf 23 al st h = X mX5_worthOf 24 al (aI 1 :: st) h := X_of dX5_worthOf_23 rfl
theorem x_X5_worthOf_24 {v1 v2 v3 v4 v5 v6 v7 : AV} {z : Option Nat} {st : List AV} {h : AH} : X mX5_worthOf 24 [aR z, v1, v2, v3, v4, v5, v6, v7] st h = X mX5_worthOf 25 [aR z, v1, v2, v3, v4, v5, v6, v7] (aR z :: st) h := X_of dX5_worthOf_24 rfl
theorem x_X5_worthOf_25 {a : Nat} {al st : List AV} {h : AH} : X mX5_worthOf 25 al (aR (some a) :: st) h = gK (rd h 5 a 12) fun v => X mX5_worthOf 28 al (v :: st) h := x_get dX5_worthOf_25 fT_5_29
theorem x_X5_worthOf_28 {v0 v2 v3 v4 v5 v6 v7 : AV} {z : Int} {st : List AV} {h : AH} : X mX5_worthOf 28 [v0, aI z, v2, v3, v4, v5, v6, v7] st h = X mX5_worthOf 29 [v0, aI z, v2, v3, v4, v5, v6, v7] (aI z :: st) h := X_of dX5_worthOf_28 rfl
theorem x_X5_worthOf_29 {a : Nat} {i : Int} {al st : List AV} {h : AH} : X mX5_worthOf 29 al (aI i :: aR (some a) :: st) h = if 0 ≤ i then gK (rd h 10 a i.toNat) (fun v => X mX5_worthOf 30 al (v :: st) h) else none := x_aldI dX5_worthOf_29
theorem x_X5_worthOf_30 {a b : Int} {al st : List AV} {h : AH} : X mX5_worthOf 30 al (aI b :: aI a :: st) h = X mX5_worthOf 31 al (aI (fShl a b) :: st) h := X_of dX5_worthOf_30 rfl
theorem x_X5_worthOf_31 {a b : Int} {al st : List AV} {h : AH} : X mX5_worthOf 31 al (aI b :: aI a :: st) h = if b ≤ a then X mX5_worthOf 76 al st h else X mX5_worthOf 34 al st h := x_geC dX5_worthOf_31 rfl
theorem x_X5_worthOf_34 {v1 v2 v3 v4 v5 v6 v7 : AV} {z : Option Nat} {st : List AV} {h : AH} : X mX5_worthOf 34 [aR z, v1, v2, v3, v4, v5, v6, v7] st h = X mX5_worthOf 35 [aR z, v1, v2, v3, v4, v5, v6, v7] (aR z :: st) h := X_of dX5_worthOf_34 rfl
theorem x_X5_worthOf_35 {v0 v2 v3 v4 v5 v6 v7 : AV} {z : Int} {st : List AV} {h : AH} : X mX5_worthOf 35 [v0, aI z, v2, v3, v4, v5, v6, v7] st h = X mX5_worthOf 36 [v0, aI z, v2, v3, v4, v5, v6, v7] (aI z :: st) h := X_of dX5_worthOf_35 rfl
theorem x_X5_worthOf_36 {v0 v1 v3 v4 v5 v6 v7 : AV} {z : Int} {st : List AV} {h : AH} : X mX5_worthOf 36 [v0, v1, aI z, v3, v4, v5, v6, v7] st h = X mX5_worthOf 37 [v0, v1, aI z, v3, v4, v5, v6, v7] (aI z :: st) h := X_of dX5_worthOf_36 rfl
theorem x_X5_worthOf_37 {v0 v1 v2 v3 v4 v5 v6 : AV} {z : Int} {st : List AV} {h : AH} : X mX5_worthOf 37 [v0, v1, v2, v3, v4, v5, v6, aI z] st h = X mX5_worthOf 39 [v0, v1, v2, v3, v4, v5, v6, aI z] (aI z :: st) h := X_of dX5_worthOf_37 rfl
theorem x_X5_worthOf_39 {a0 : Nat} {a1 : Int} {a2 : Int} {a3 : Int} {al : List AV} {h : AH} (ho : isO h 5 a0 = true) : X mX5_worthOf 39 al [aI a3, aI a2, aI a1, aR (some a0)] h = cK (E mX5_value [aR (some a0), aI a1, aI a2, aI a3] h) fun v h2 => X mX5_worthOf 42 al (v.toList ++ []) h2 := x_cal (as := [aR (some a0), aI a1, aI a2, aI a3]) (rest := []) dX5_worthOf_39 (fun _ => rfl) cT_5_164 rfl rfl ho
theorem x_X5_worthOf_42 {v1 v2 v3 v4 v5 v6 v7 : AV} {z : Option Nat} {st : List AV} {h : AH} : X mX5_worthOf 42 [aR z, v1, v2, v3, v4, v5, v6, v7] st h = X mX5_worthOf 43 [aR z, v1, v2, v3, v4, v5, v6, v7] (aR z :: st) h := X_of dX5_worthOf_42 rfl
theorem x_X5_worthOf_43 {a : Nat} {al st : List AV} {h : AH} : X mX5_worthOf 43 al (aR (some a) :: st) h = gK (rd h 5 a 17) fun v => X mX5_worthOf 46 al (v :: st) h := x_get dX5_worthOf_43 fT_5_140
theorem x_X5_worthOf_46 {v1 v2 v3 v4 v5 v6 v7 : AV} {z : Option Nat} {st : List AV} {h : AH} : X mX5_worthOf 46 [aR z, v1, v2, v3, v4, v5, v6, v7] st h = X mX5_worthOf 47 [aR z, v1, v2, v3, v4, v5, v6, v7] (aR z :: st) h := X_of dX5_worthOf_46 rfl
theorem x_X5_worthOf_47 {a : Nat} {al st : List AV} {h : AH} : X mX5_worthOf 47 al (aR (some a) :: st) h = gK (rd h 5 a 18) fun v => X mX5_worthOf 50 al (v :: st) h := x_get dX5_worthOf_47 fT_5_143
theorem x_X5_worthOf_50 {v0 v1 v2 v4 v5 v6 v7 : AV} {z : Int} {st : List AV} {h : AH} : X mX5_worthOf 50 [v0, v1, v2, aJ z, v4, v5, v6, v7] st h = X mX5_worthOf 51 [v0, v1, v2, aJ z, v4, v5, v6, v7] (aJ z :: st) h := X_of dX5_worthOf_50 rfl
theorem x_X5_worthOf_51 {v0 v1 v2 v3 v4 v6 v7 : AV} {z : Int} {st : List AV} {h : AH} : X mX5_worthOf 51 [v0, v1, v2, v3, v4, aJ z, v6, v7] st h = X mX5_worthOf 53 [v0, v1, v2, v3, v4, aJ z, v6, v7] (aJ z :: st) h := X_of dX5_worthOf_51 rfl
theorem x_X5_worthOf_53 {a0 : Int} {a1 : Int} {a2 : Int} {a3 : Int} {al : List AV} {h : AH} : X mX5_worthOf 53 al [aJ a3, aJ a2, aJ a1, aJ a0] h = cK (E mX5_compared [aJ a0, aJ a1, aJ a2, aJ a3] h) fun v h2 => X mX5_worthOf 56 al (v.toList ++ []) h2 := x_cal (as := [aJ a0, aJ a1, aJ a2, aJ a3]) (rest := []) dX5_worthOf_53 (fun _ => rfl) cT_5_168 rfl rfl rfl
theorem x_X5_worthOf_56 {a : Int} {al st : List AV} {h : AH} : X mX5_worthOf 56 al (aI a :: st) h = if a ≤ 0 then X mX5_worthOf 70 al st h else X mX5_worthOf 59 al st h := x_le0 dX5_worthOf_56 rfl
theorem x_X5_worthOf_59 {v1 v2 v3 v4 v5 v6 v7 : AV} {z : Option Nat} {st : List AV} {h : AH} : X mX5_worthOf 59 [aR z, v1, v2, v3, v4, v5, v6, v7] st h = X mX5_worthOf 60 [aR z, v1, v2, v3, v4, v5, v6, v7] (aR z :: st) h := X_of dX5_worthOf_59 rfl
theorem x_X5_worthOf_60 {a : Nat} {al st : List AV} {h : AH} : X mX5_worthOf 60 al (aR (some a) :: st) h = gK (rd h 5 a 17) fun v => X mX5_worthOf 63 al (v :: st) h := x_get dX5_worthOf_60 fT_5_140
theorem x_X5_worthOf_63 {v0 v1 v3 v4 v5 v6 v7 : AV} {y : Int} {z : Int} {st : List AV} {h : AH} : X mX5_worthOf 63 [v0, v1, aI y, v3, v4, v5, v6, v7] (aJ z :: st) h = X mX5_worthOf 64 [v0, v1, aI y, aJ z, aU, v5, v6, v7] st h := X_of dX5_worthOf_63 rfl
theorem x_X5_worthOf_64 {v1 v2 v3 v4 v5 v6 v7 : AV} {z : Option Nat} {st : List AV} {h : AH} : X mX5_worthOf 64 [aR z, v1, v2, v3, v4, v5, v6, v7] st h = X mX5_worthOf 65 [aR z, v1, v2, v3, v4, v5, v6, v7] (aR z :: st) h := X_of dX5_worthOf_64 rfl
theorem x_X5_worthOf_65 {a : Nat} {al st : List AV} {h : AH} : X mX5_worthOf 65 al (aR (some a) :: st) h = gK (rd h 5 a 18) fun v => X mX5_worthOf 68 al (v :: st) h := x_get dX5_worthOf_65 fT_5_143
theorem x_X5_worthOf_68 {v0 v1 v2 v3 v5 v6 v7 : AV} {z : Int} {st : List AV} {h : AH} : X mX5_worthOf 68 [v0, v1, v2, v3, aU, v5, v6, v7] (aJ z :: st) h = X mX5_worthOf 70 [v0, v1, v2, v3, aU, aJ z, aU, v7] st h := X_of dX5_worthOf_68 rfl
theorem x_X5_worthOf_70 {v0 v1 v2 v3 v4 v5 : AV} {z : Int} {st : List AV} {h : AH} : X mX5_worthOf 70 [v0, v1, v2, v3, v4, v5, aU, aI z] st h = X mX5_worthOf 73 [v0, v1, v2, v3, v4, v5, aU, aI (w32 (z + 1))] st h := X_of dX5_worthOf_70 rfl
theorem x_X5_worthOf_73 {al st : List AV} {h : AH} : X mX5_worthOf 73 al st h = X mX5_worthOf 21 al st h := X_of dX5_worthOf_73 rfl
theorem x_X5_worthOf_76 {v1 v2 v3 v4 v5 v6 v7 : AV} {z : Option Nat} {st : List AV} {h : AH} : X mX5_worthOf 76 [aR z, v1, v2, v3, v4, v5, v6, v7] st h = X mX5_worthOf 77 [aR z, v1, v2, v3, v4, v5, v6, v7] (aR z :: st) h := X_of dX5_worthOf_76 rfl
theorem x_X5_worthOf_77 {v0 v1 v2 v4 v5 v6 v7 : AV} {z : Int} {st : List AV} {h : AH} : X mX5_worthOf 77 [v0, v1, v2, aJ z, v4, v5, v6, v7] st h = X mX5_worthOf 78 [v0, v1, v2, aJ z, v4, v5, v6, v7] (aJ z :: st) h := X_of dX5_worthOf_77 rfl
theorem x_X5_worthOf_78 {a : Nat} {z : Int} {al st : List AV} {h : AH} : X mX5_worthOf 78 al (aJ z :: aR (some a) :: st) h = pK (rd h 5 a 17) (X mX5_worthOf 81 al st (wr h 5 a 17 (aJ z))) := x_put dX5_worthOf_78 fT_5_140 rfl rfl
theorem x_X5_worthOf_81 {v1 v2 v3 v4 v5 v6 v7 : AV} {z : Option Nat} {st : List AV} {h : AH} : X mX5_worthOf 81 [aR z, v1, v2, v3, v4, v5, v6, v7] st h = X mX5_worthOf 82 [aR z, v1, v2, v3, v4, v5, v6, v7] (aR z :: st) h := X_of dX5_worthOf_81 rfl
theorem x_X5_worthOf_82 {v0 v1 v2 v3 v4 v6 v7 : AV} {z : Int} {st : List AV} {h : AH} : X mX5_worthOf 82 [v0, v1, v2, v3, v4, aJ z, v6, v7] st h = X mX5_worthOf 84 [v0, v1, v2, v3, v4, aJ z, v6, v7] (aJ z :: st) h := X_of dX5_worthOf_82 rfl
theorem x_X5_worthOf_84 {a : Nat} {z : Int} {al st : List AV} {h : AH} : X mX5_worthOf 84 al (aJ z :: aR (some a) :: st) h = pK (rd h 5 a 18) (X mX5_worthOf 87 al st (wr h 5 a 18 (aJ z))) := x_put dX5_worthOf_84 fT_5_143 rfl rfl
theorem x_X5_worthOf_87 {al : List AV} {h : AH} : X mX5_worthOf 87 al [] h = some (none, h) := X_ofR dX5_worthOf_87 rfl
theorem e_X5_need {p0 : Option Nat} {p1 : Int} {p2 : Int} {h : AH} : E mX5_need [aR p0, aI p1, aI p2] h = X mX5_need 0 [aR p0, aI p1, aI p2] [] h := rfl
theorem x_X5_need_0 {v1 v2 : AV} {z : Option Nat} {st : List AV} {h : AH} : X mX5_need 0 [aR z, v1, v2] st h = X mX5_need 1 [aR z, v1, v2] (aR z :: st) h := X_of dX5_need_0 rfl
theorem x_X5_need_1 {v0 v2 : AV} {z : Int} {st : List AV} {h : AH} : X mX5_need 1 [v0, aI z, v2] st h = X mX5_need 2 [v0, aI z, v2] (aI z :: st) h := X_of dX5_need_1 rfl
theorem x_X5_need_2 {a0 : Nat} {a1 : Int} {al : List AV} {h : AH} (ho : isO h 5 a0 = true) : X mX5_need 2 al [aI a1, aR (some a0)] h = cK (E mX5_isMachine [aR (some a0), aI a1] h) fun v h2 => X mX5_need 5 al (v.toList ++ []) h2 := x_cal (as := [aR (some a0), aI a1]) (rest := []) dX5_need_2 (fun _ => rfl) cT_5_114 rfl rfl ho
theorem x_X5_need_5 {a : Int} {al st : List AV} {h : AH} : X mX5_need 5 al (aI a :: st) h = if ¬ a = 0 then X mX5_need 12 al st h else X mX5_need 8 al st h := x_ne0 dX5_need_5 rfl
theorem x_X5_need_8 {al st : List AV} {h : AH} : X mX5_need 8 al st h = X mX5_need 9 al (aI (-1) :: st) h := X_of dX5_need_8 rfl
theorem x_X5_need_9 {al st : List AV} {h : AH} : X mX5_need 9 al st h = X mX5_need 30 al st h := X_of dX5_need_9 rfl
theorem x_X5_need_12 {v1 v2 : AV} {z : Option Nat} {st : List AV} {h : AH} : X mX5_need 12 [aR z, v1, v2] st h = X mX5_need 13 [aR z, v1, v2] (aR z :: st) h := X_of dX5_need_12 rfl
theorem x_X5_need_13 {v0 v2 : AV} {z : Int} {st : List AV} {h : AH} : X mX5_need 13 [v0, aI z, v2] st h = X mX5_need 14 [v0, aI z, v2] (aI z :: st) h := X_of dX5_need_13 rfl
theorem x_X5_need_14 {v0 v1 : AV} {z : Int} {st : List AV} {h : AH} : X mX5_need 14 [v0, v1, aI z] st h = X mX5_need 15 [v0, v1, aI z] (aI z :: st) h := X_of dX5_need_14 rfl
theorem x_X5_need_15 {a0 : Nat} {a1 : Int} {a2 : Int} {al : List AV} {h : AH} (ho : isO h 5 a0 = true) : X mX5_need 15 al [aI a2, aI a1, aR (some a0)] h = cK (E mX5_isState [aR (some a0), aI a1, aI a2] h) fun v h2 => X mX5_need 18 al (v.toList ++ []) h2 := x_cal (as := [aR (some a0), aI a1, aI a2]) (rest := []) dX5_need_15 (fun _ => rfl) cT_5_121 rfl rfl ho
theorem x_X5_need_18 {a : Int} {al st : List AV} {h : AH} : X mX5_need 18 al (aI a :: st) h = if ¬ a = 0 then X mX5_need 29 al st h else X mX5_need 21 al st h := x_ne0 dX5_need_18 rfl
theorem x_X5_need_21 {v1 v2 : AV} {z : Option Nat} {st : List AV} {h : AH} : X mX5_need 21 [aR z, v1, v2] st h = X mX5_need 22 [aR z, v1, v2] (aR z :: st) h := X_of dX5_need_21 rfl
theorem x_X5_need_22 {al st : List AV} {h : AH} : X mX5_need 22 al st h = X mX5_need 23 al (aI 2 :: st) h := X_of dX5_need_22 rfl
theorem x_X5_need_23 {a0 : Nat} {a1 : Int} {al : List AV} {h : AH} (ho : isO h 5 a0 = true) : X mX5_need 23 al [aI a1, aR (some a0)] h = cK (E mX5_meets [aR (some a0), aI a1] h) fun v h2 => X mX5_need 26 al (v.toList ++ []) h2 := x_cal (as := [aR (some a0), aI a1]) (rest := []) dX5_need_23 (fun _ => rfl) cT_5_96 rfl rfl ho
theorem x_X5_need_26 {al st : List AV} {h : AH} : X mX5_need 26 al st h = X mX5_need 30 al st h := X_of dX5_need_26 rfl
theorem x_X5_need_29 {al st : List AV} {h : AH} : X mX5_need 29 al st h = X mX5_need 30 al (aI 0 :: st) h := X_of dX5_need_29 rfl
theorem x_X5_need_30 {z : Int} {al : List AV} {h : AH} : X mX5_need 30 al [aI z] h = some (some (aI z), h) := X_ofR dX5_need_30 rfl
theorem e_X5_worth {p0 : Option Nat} {p1 : Int} {p2 : Int} {h : AH} : E mX5_worth [aR p0, aI p1, aI p2] h = X mX5_worth 0 [aR p0, aI p1, aI p2, aU] [] h := rfl
theorem x_X5_worth_0 {v1 v2 v3 : AV} {z : Option Nat} {st : List AV} {h : AH} : X mX5_worth 0 [aR z, v1, v2, v3] st h = X mX5_worth 1 [aR z, v1, v2, v3] (aR z :: st) h := X_of dX5_worth_0 rfl
theorem x_X5_worth_1 {v0 v2 v3 : AV} {z : Int} {st : List AV} {h : AH} : X mX5_worth 1 [v0, aI z, v2, v3] st h = X mX5_worth 2 [v0, aI z, v2, v3] (aI z :: st) h := X_of dX5_worth_1 rfl
theorem x_X5_worth_2 {v0 v1 v3 : AV} {z : Int} {st : List AV} {h : AH} : X mX5_worth 2 [v0, v1, aI z, v3] st h = X mX5_worth 3 [v0, v1, aI z, v3] (aI z :: st) h := X_of dX5_worth_2 rfl
theorem x_X5_worth_3 {a0 : Nat} {a1 : Int} {a2 : Int} {al : List AV} {h : AH} (ho : isO h 5 a0 = true) : X mX5_worth 3 al [aI a2, aI a1, aR (some a0)] h = cK (E mX5_need [aR (some a0), aI a1, aI a2] h) fun v h2 => X mX5_worth 6 al (v.toList ++ []) h2 := x_cal (as := [aR (some a0), aI a1, aI a2]) (rest := []) dX5_worth_3 (fun _ => rfl) cT_5_172 rfl rfl ho
theorem x_X5_worth_6 {v0 v1 v3 : AV} {y : Int} {z : Int} {st : List AV} {h : AH} : X mX5_worth 6 [v0, v1, aI y, v3] (aI z :: st) h = X mX5_worth 7 [v0, v1, aI y, aI z] st h := X_of dX5_worth_6 rfl
theorem x_X5_worth_7 {v0 v1 v2 : AV} {z : Int} {st : List AV} {h : AH} : X mX5_worth 7 [v0, v1, v2, aI z] st h = X mX5_worth 8 [v0, v1, v2, aI z] (aI z :: st) h := X_of dX5_worth_7 rfl
theorem x_X5_worth_8 {a : Int} {al st : List AV} {h : AH} : X mX5_worth 8 al (aI a :: st) h = if 0 ≤ a then X mX5_worth 13 al st h else X mX5_worth 11 al st h := x_ge0 dX5_worth_8 rfl
theorem x_X5_worth_11 {v0 v1 v2 : AV} {z : Int} {st : List AV} {h : AH} : X mX5_worth 11 [v0, v1, v2, aI z] st h = X mX5_worth 12 [v0, v1, v2, aI z] (aI z :: st) h := X_of dX5_worth_11 rfl
theorem x_X5_worth_12 {z : Int} {al : List AV} {h : AH} : X mX5_worth 12 al [aI z] h = some (some (aI z), h) := X_ofR dX5_worth_12 rfl
theorem x_X5_worth_13 {v1 v2 v3 : AV} {z : Option Nat} {st : List AV} {h : AH} : X mX5_worth 13 [aR z, v1, v2, v3] st h = X mX5_worth 14 [aR z, v1, v2, v3] (aR z :: st) h := X_of dX5_worth_13 rfl
theorem x_X5_worth_14 {v0 v2 v3 : AV} {z : Int} {st : List AV} {h : AH} : X mX5_worth 14 [v0, aI z, v2, v3] st h = X mX5_worth 15 [v0, aI z, v2, v3] (aI z :: st) h := X_of dX5_worth_14 rfl
theorem x_X5_worth_15 {v0 v1 v3 : AV} {z : Int} {st : List AV} {h : AH} : X mX5_worth 15 [v0, v1, aI z, v3] st h = X mX5_worth 16 [v0, v1, aI z, v3] (aI z :: st) h := X_of dX5_worth_15 rfl
theorem x_X5_worth_16 {a0 : Nat} {a1 : Int} {a2 : Int} {al : List AV} {h : AH} (ho : isO h 5 a0 = true) : X mX5_worth 16 al [aI a2, aI a1, aR (some a0)] h = cK (E mX5_worthOf [aR (some a0), aI a1, aI a2] h) fun v h2 => X mX5_worth 19 al (v.toList ++ []) h2 := x_cal (as := [aR (some a0), aI a1, aI a2]) (rest := []) dX5_worth_16 (fun _ => rfl) cT_5_175 rfl rfl ho
theorem x_X5_worth_19 {v1 v2 v3 : AV} {z : Option Nat} {st : List AV} {h : AH} : X mX5_worth 19 [aR z, v1, v2, v3] st h = X mX5_worth 20 [aR z, v1, v2, v3] (aR z :: st) h := X_of dX5_worth_19 rfl
theorem x_X5_worth_20 {a0 : Nat} {al : List AV} {h : AH} (ho : isO h 5 a0 = true) : X mX5_worth 20 al [aR (some a0)] h = cK (E mX5_tells [aR (some a0)] h) fun v h2 => X mX5_worth 23 al (v.toList ++ []) h2 := x_cal (as := [aR (some a0)]) (rest := []) dX5_worth_20 (fun _ => rfl) cT_5_179 rfl rfl ho
theorem x_X5_worth_23 {z : Int} {al : List AV} {h : AH} : X mX5_worth 23 al [aI z] h = some (some (aI z), h) := X_ofR dX5_worth_23 rfl
theorem e_X5_way {p0 : Option Nat} {p1 : Int} {p2 : Int} {p3 : Int} {h : AH} : E mX5_way [aR p0, aI p1, aI p2, aI p3] h = X mX5_way 0 [aR p0, aI p1, aI p2, aI p3, aU] [] h := rfl
theorem x_X5_way_0 {v0 v1 v2 v4 : AV} {z : Int} {st : List AV} {h : AH} : X mX5_way 0 [v0, v1, v2, aI z, v4] st h = X mX5_way 1 [v0, v1, v2, aI z, v4] (aI z :: st) h := X_of dX5_way_0 rfl
theorem x_X5_way_1 {a : Int} {al st : List AV} {h : AH} : X mX5_way 1 al (aI a :: st) h = X mX5_way 2 al (aJ a :: st) h := X_of dX5_way_1 rfl
theorem x_X5_way_2 {al st : List AV} {h : AH} : X mX5_way 2 al st h = X mX5_way 3 al (aJ 0 :: st) h := X_of dX5_way_2 rfl
theorem x_X5_way_3 {al st : List AV} {h : AH} : X mX5_way 3 al st h = X mX5_way 6 al (aJ 31 :: st) h := X_of dX5_way_3 rfl
theorem x_X5_way_6 {a0 : Int} {a1 : Int} {a2 : Int} {al : List AV} {h : AH} : X mX5_way 6 al [aJ a2, aJ a1, aJ a0] h = cK (E mX5_in [aJ a0, aJ a1, aJ a2] h) fun v h2 => X mX5_way 9 al (v.toList ++ []) h2 := x_cal (as := [aJ a0, aJ a1, aJ a2]) (rest := []) dX5_way_6 (fun _ => rfl) cT_5_81 rfl rfl rfl
theorem x_X5_way_9 {a : Int} {al st : List AV} {h : AH} : X mX5_way 9 al (aI a :: st) h = if ¬ a = 0 then X mX5_way 14 al st h else X mX5_way 12 al st h := x_ne0 dX5_way_9 rfl
theorem x_X5_way_12 {al st : List AV} {h : AH} : X mX5_way 12 al st h = X mX5_way 13 al (aI (-1) :: st) h := X_of dX5_way_12 rfl
theorem x_X5_way_13 {z : Int} {al : List AV} {h : AH} : X mX5_way 13 al [aI z] h = some (some (aI z), h) := X_ofR dX5_way_13 rfl
theorem x_X5_way_14 {v1 v2 v3 v4 : AV} {z : Option Nat} {st : List AV} {h : AH} : X mX5_way 14 [aR z, v1, v2, v3, v4] st h = X mX5_way 15 [aR z, v1, v2, v3, v4] (aR z :: st) h := X_of dX5_way_14 rfl
theorem x_X5_way_15 {v0 v2 v3 v4 : AV} {z : Int} {st : List AV} {h : AH} : X mX5_way 15 [v0, aI z, v2, v3, v4] st h = X mX5_way 16 [v0, aI z, v2, v3, v4] (aI z :: st) h := X_of dX5_way_15 rfl
theorem x_X5_way_16 {v0 v1 v3 v4 : AV} {z : Int} {st : List AV} {h : AH} : X mX5_way 16 [v0, v1, aI z, v3, v4] st h = X mX5_way 17 [v0, v1, aI z, v3, v4] (aI z :: st) h := X_of dX5_way_16 rfl
theorem x_X5_way_17 {a0 : Nat} {a1 : Int} {a2 : Int} {al : List AV} {h : AH} (ho : isO h 5 a0 = true) : X mX5_way 17 al [aI a2, aI a1, aR (some a0)] h = cK (E mX5_need [aR (some a0), aI a1, aI a2] h) fun v h2 => X mX5_way 20 al (v.toList ++ []) h2 := x_cal (as := [aR (some a0), aI a1, aI a2]) (rest := []) dX5_way_17 (fun _ => rfl) cT_5_172 rfl rfl ho
theorem x_X5_way_20 {v0 v1 v2 v4 : AV} {y : Int} {z : Int} {st : List AV} {h : AH} : X mX5_way 20 [v0, v1, v2, aI y, v4] (aI z :: st) h = X mX5_way 22 [v0, v1, v2, aI y, aI z] st h := X_of dX5_way_20 rfl
theorem x_X5_way_22 {v0 v1 v2 v3 : AV} {z : Int} {st : List AV} {h : AH} : X mX5_way 22 [v0, v1, v2, v3, aI z] st h = X mX5_way 24 [v0, v1, v2, v3, aI z] (aI z :: st) h := X_of dX5_way_22 rfl
theorem x_X5_way_24 {a : Int} {al st : List AV} {h : AH} : X mX5_way 24 al (aI a :: st) h = if 0 ≤ a then X mX5_way 30 al st h else X mX5_way 27 al st h := x_ge0 dX5_way_24 rfl
theorem x_X5_way_27 {v0 v1 v2 v3 : AV} {z : Int} {st : List AV} {h : AH} : X mX5_way 27 [v0, v1, v2, v3, aI z] st h = X mX5_way 29 [v0, v1, v2, v3, aI z] (aI z :: st) h := X_of dX5_way_27 rfl
theorem x_X5_way_29 {z : Int} {al : List AV} {h : AH} : X mX5_way 29 al [aI z] h = some (some (aI z), h) := X_ofR dX5_way_29 rfl
theorem x_X5_way_30 {v1 v2 v3 v4 : AV} {z : Option Nat} {st : List AV} {h : AH} : X mX5_way 30 [aR z, v1, v2, v3, v4] st h = X mX5_way 31 [aR z, v1, v2, v3, v4] (aR z :: st) h := X_of dX5_way_30 rfl
theorem x_X5_way_31 {v0 v2 v3 v4 : AV} {z : Int} {st : List AV} {h : AH} : X mX5_way 31 [v0, aI z, v2, v3, v4] st h = X mX5_way 32 [v0, aI z, v2, v3, v4] (aI z :: st) h := X_of dX5_way_31 rfl
theorem x_X5_way_32 {v0 v1 v3 v4 : AV} {z : Int} {st : List AV} {h : AH} : X mX5_way 32 [v0, v1, aI z, v3, v4] st h = X mX5_way 33 [v0, v1, aI z, v3, v4] (aI z :: st) h := X_of dX5_way_32 rfl
theorem x_X5_way_33 {v0 v1 v2 v4 : AV} {z : Int} {st : List AV} {h : AH} : X mX5_way 33 [v0, v1, v2, aI z, v4] st h = X mX5_way 34 [v0, v1, v2, aI z, v4] (aI z :: st) h := X_of dX5_way_33 rfl
theorem x_X5_way_34 {a0 : Nat} {a1 : Int} {a2 : Int} {a3 : Int} {al : List AV} {h : AH} (ho : isO h 5 a0 = true) : X mX5_way 34 al [aI a3, aI a2, aI a1, aR (some a0)] h = cK (E mX5_value [aR (some a0), aI a1, aI a2, aI a3] h) fun v h2 => X mX5_way 37 al (v.toList ++ []) h2 := x_cal (as := [aR (some a0), aI a1, aI a2, aI a3]) (rest := []) dX5_way_34 (fun _ => rfl) cT_5_164 rfl rfl ho
theorem x_X5_way_37 {v1 v2 v3 v4 : AV} {z : Option Nat} {st : List AV} {h : AH} : X mX5_way 37 [aR z, v1, v2, v3, v4] st h = X mX5_way 38 [aR z, v1, v2, v3, v4] (aR z :: st) h := X_of dX5_way_37 rfl
theorem x_X5_way_38 {a0 : Nat} {al : List AV} {h : AH} (ho : isO h 5 a0 = true) : X mX5_way 38 al [aR (some a0)] h = cK (E mX5_tells [aR (some a0)] h) fun v h2 => X mX5_way 41 al (v.toList ++ []) h2 := x_cal (as := [aR (some a0)]) (rest := []) dX5_way_38 (fun _ => rfl) cT_5_179 rfl rfl ho
theorem x_X5_way_41 {z : Int} {al : List AV} {h : AH} : X mX5_way 41 al [aI z] h = some (some (aI z), h) := X_ofR dX5_way_41 rfl
theorem e_X5_layWorths {p0 : Option Nat} {p1 : Int} {h : AH} : E mX5_layWorths [aR p0, aI p1] h = X mX5_layWorths 0 [aR p0, aI p1, aU] [] h := rfl
theorem x_X5_layWorths_0 {al st : List AV} {h : AH} : X mX5_layWorths 0 al st h = X mX5_layWorths 1 al (aI 0 :: st) h := X_of dX5_layWorths_0 rfl
theorem x_X5_layWorths_1 {v0 v2 : AV} {y : Int} {z : Int} {st : List AV} {h : AH} : X mX5_layWorths 1 [v0, aI y, v2] (aI z :: st) h = X mX5_layWorths 2 [v0, aI y, aI z] st h := X_of dX5_layWorths_1 rfl
theorem x_X5_layWorths_2 {v0 v1 : AV} {z : Int} {st : List AV} {h : AH} : X mX5_layWorths 2 [v0, v1, aI z] st h = X mX5_layWorths 3 [v0, v1, aI z] (aI z :: st) h := X_of dX5_layWorths_2 rfl
theorem x_X5_layWorths_3 {v1 v2 : AV} {z : Option Nat} {st : List AV} {h : AH} : X mX5_layWorths 3 [aR z, v1, v2] st h = X mX5_layWorths 4 [aR z, v1, v2] (aR z :: st) h := X_of dX5_layWorths_3 rfl
theorem x_X5_layWorths_4 {a : Nat} {al st : List AV} {h : AH} : X mX5_layWorths 4 al (aR (some a) :: st) h = gK (rd h 5 a 12) fun v => X mX5_layWorths 7 al (v :: st) h := x_get dX5_layWorths_4 fT_5_29
theorem x_X5_layWorths_7 {v0 v2 : AV} {z : Int} {st : List AV} {h : AH} : X mX5_layWorths 7 [v0, aI z, v2] st h = X mX5_layWorths 8 [v0, aI z, v2] (aI z :: st) h := X_of dX5_layWorths_7 rfl
theorem x_X5_layWorths_8 {a : Nat} {i : Int} {al st : List AV} {h : AH} : X mX5_layWorths 8 al (aI i :: aR (some a) :: st) h = if 0 ≤ i then gK (rd h 10 a i.toNat) (fun v => X mX5_layWorths 9 al (v :: st) h) else none := x_aldI dX5_layWorths_8
theorem x_X5_layWorths_9 {a b : Int} {al st : List AV} {h : AH} : X mX5_layWorths 9 al (aI b :: aI a :: st) h = if b ≤ a then X mX5_layWorths 44 al st h else X mX5_layWorths 12 al st h := x_geC dX5_layWorths_9 rfl
theorem x_X5_layWorths_12 {v1 v2 : AV} {z : Option Nat} {st : List AV} {h : AH} : X mX5_layWorths 12 [aR z, v1, v2] st h = X mX5_layWorths 13 [aR z, v1, v2] (aR z :: st) h := X_of dX5_layWorths_12 rfl
theorem x_X5_layWorths_13 {v0 v2 : AV} {z : Int} {st : List AV} {h : AH} : X mX5_layWorths 13 [v0, aI z, v2] st h = X mX5_layWorths 14 [v0, aI z, v2] (aI z :: st) h := X_of dX5_layWorths_13 rfl
theorem x_X5_layWorths_14 {v0 v1 : AV} {z : Int} {st : List AV} {h : AH} : X mX5_layWorths 14 [v0, v1, aI z] st h = X mX5_layWorths 15 [v0, v1, aI z] (aI z :: st) h := X_of dX5_layWorths_14 rfl
theorem x_X5_layWorths_15 {a0 : Nat} {a1 : Int} {a2 : Int} {al : List AV} {h : AH} (ho : isO h 5 a0 = true) : X mX5_layWorths 15 al [aI a2, aI a1, aR (some a0)] h = cK (E mX5_worthOf [aR (some a0), aI a1, aI a2] h) fun v h2 => X mX5_layWorths 18 al (v.toList ++ []) h2 := x_cal (as := [aR (some a0), aI a1, aI a2]) (rest := []) dX5_layWorths_15 (fun _ => rfl) cT_5_175 rfl rfl ho
theorem x_X5_layWorths_18 {v1 v2 : AV} {z : Option Nat} {st : List AV} {h : AH} : X mX5_layWorths 18 [aR z, v1, v2] st h = X mX5_layWorths 19 [aR z, v1, v2] (aR z :: st) h := X_of dX5_layWorths_18 rfl
theorem x_X5_layWorths_19 {a : Nat} {al st : List AV} {h : AH} : X mX5_layWorths 19 al (aR (some a) :: st) h = gK (rd h 5 a 23) fun v => X mX5_layWorths 22 al (v :: st) h := x_get dX5_layWorths_19 fT_5_50
theorem x_X5_layWorths_22 {v0 v1 : AV} {z : Int} {st : List AV} {h : AH} : X mX5_layWorths 22 [v0, v1, aI z] st h = X mX5_layWorths 23 [v0, v1, aI z] (aI z :: st) h := X_of dX5_layWorths_22 rfl
theorem x_X5_layWorths_23 {v1 v2 : AV} {z : Option Nat} {st : List AV} {h : AH} : X mX5_layWorths 23 [aR z, v1, v2] st h = X mX5_layWorths 24 [aR z, v1, v2] (aR z :: st) h := X_of dX5_layWorths_23 rfl
theorem x_X5_layWorths_24 {a : Nat} {al st : List AV} {h : AH} : X mX5_layWorths 24 al (aR (some a) :: st) h = gK (rd h 5 a 17) fun v => X mX5_layWorths 27 al (v :: st) h := x_get dX5_layWorths_24 fT_5_140
theorem x_X5_layWorths_27 {a : Nat} {i z : Int} {al st : List AV} {h : AH} : X mX5_layWorths 27 al (aJ z :: aI i :: aR (some a) :: st) h = if 0 ≤ i then pK (rd h 11 a i.toNat) (X mX5_layWorths 28 al st (wr h 11 a i.toNat (aJ z))) else none := x_astJ dX5_layWorths_27
theorem x_X5_layWorths_28 {v1 v2 : AV} {z : Option Nat} {st : List AV} {h : AH} : X mX5_layWorths 28 [aR z, v1, v2] st h = X mX5_layWorths 29 [aR z, v1, v2] (aR z :: st) h := X_of dX5_layWorths_28 rfl
theorem x_X5_layWorths_29 {a : Nat} {al st : List AV} {h : AH} : X mX5_layWorths 29 al (aR (some a) :: st) h = gK (rd h 5 a 24) fun v => X mX5_layWorths 32 al (v :: st) h := x_get dX5_layWorths_29 fT_5_53
theorem x_X5_layWorths_32 {v0 v1 : AV} {z : Int} {st : List AV} {h : AH} : X mX5_layWorths 32 [v0, v1, aI z] st h = X mX5_layWorths 33 [v0, v1, aI z] (aI z :: st) h := X_of dX5_layWorths_32 rfl
theorem x_X5_layWorths_33 {v1 v2 : AV} {z : Option Nat} {st : List AV} {h : AH} : X mX5_layWorths 33 [aR z, v1, v2] st h = X mX5_layWorths 34 [aR z, v1, v2] (aR z :: st) h := X_of dX5_layWorths_33 rfl
theorem x_X5_layWorths_34 {a : Nat} {al st : List AV} {h : AH} : X mX5_layWorths 34 al (aR (some a) :: st) h = gK (rd h 5 a 18) fun v => X mX5_layWorths 37 al (v :: st) h := x_get dX5_layWorths_34 fT_5_143
theorem x_X5_layWorths_37 {a : Nat} {i z : Int} {al st : List AV} {h : AH} : X mX5_layWorths 37 al (aJ z :: aI i :: aR (some a) :: st) h = if 0 ≤ i then pK (rd h 11 a i.toNat) (X mX5_layWorths 38 al st (wr h 11 a i.toNat (aJ z))) else none := x_astJ dX5_layWorths_37
theorem x_X5_layWorths_38 {v0 : AV} {y : Int} {z : Int} {st : List AV} {h : AH} : X mX5_layWorths 38 [v0, aI y, aI z] st h = X mX5_layWorths 41 [v0, aI y, aI (w32 (z + 1))] st h := X_of dX5_layWorths_38 rfl
theorem x_X5_layWorths_41 {al st : List AV} {h : AH} : X mX5_layWorths 41 al st h = X mX5_layWorths 2 al st h := X_of dX5_layWorths_41 rfl
theorem x_X5_layWorths_44 {al : List AV} {h : AH} : X mX5_layWorths 44 al [] h = some (none, h) := X_ofR dX5_layWorths_44 rfl
theorem e_X5_between {p0 : Option Nat} {p1 : Int} {p2 : Int} {h : AH} : E mX5_between [aR p0, aI p1, aI p2] h = X mX5_between 0 [aR p0, aI p1, aI p2] [] h := rfl
theorem x_X5_between_0 {v1 v2 : AV} {z : Option Nat} {st : List AV} {h : AH} : X mX5_between 0 [aR z, v1, v2] st h = X mX5_between 1 [aR z, v1, v2] (aR z :: st) h := X_of dX5_between_0 rfl
theorem x_X5_between_1 {a : Nat} {al st : List AV} {h : AH} : X mX5_between 1 al (aR (some a) :: st) h = gK (rd h 5 a 23) fun v => X mX5_between 4 al (v :: st) h := x_get dX5_between_1 fT_5_50
theorem x_X5_between_4 {v0 v2 : AV} {z : Int} {st : List AV} {h : AH} : X mX5_between 4 [v0, aI z, v2] st h = X mX5_between 5 [v0, aI z, v2] (aI z :: st) h := X_of dX5_between_4 rfl
theorem x_X5_between_5 {a : Nat} {i : Int} {al st : List AV} {h : AH} : X mX5_between 5 al (aI i :: aR (some a) :: st) h = if 0 ≤ i then gK (rd h 11 a i.toNat) (fun v => X mX5_between 6 al (v :: st) h) else none := x_aldJ dX5_between_5
theorem x_X5_between_6 {v1 v2 : AV} {z : Option Nat} {st : List AV} {h : AH} : X mX5_between 6 [aR z, v1, v2] st h = X mX5_between 7 [aR z, v1, v2] (aR z :: st) h := X_of dX5_between_6 rfl
theorem x_X5_between_7 {a : Nat} {al st : List AV} {h : AH} : X mX5_between 7 al (aR (some a) :: st) h = gK (rd h 5 a 24) fun v => X mX5_between 10 al (v :: st) h := x_get dX5_between_7 fT_5_53
theorem x_X5_between_10 {v0 v2 : AV} {z : Int} {st : List AV} {h : AH} : X mX5_between 10 [v0, aI z, v2] st h = X mX5_between 11 [v0, aI z, v2] (aI z :: st) h := X_of dX5_between_10 rfl
theorem x_X5_between_11 {a : Nat} {i : Int} {al st : List AV} {h : AH} : X mX5_between 11 al (aI i :: aR (some a) :: st) h = if 0 ≤ i then gK (rd h 11 a i.toNat) (fun v => X mX5_between 12 al (v :: st) h) else none := x_aldJ dX5_between_11
theorem x_X5_between_12 {v1 v2 : AV} {z : Option Nat} {st : List AV} {h : AH} : X mX5_between 12 [aR z, v1, v2] st h = X mX5_between 13 [aR z, v1, v2] (aR z :: st) h := X_of dX5_between_12 rfl
theorem x_X5_between_13 {a : Nat} {al st : List AV} {h : AH} : X mX5_between 13 al (aR (some a) :: st) h = gK (rd h 5 a 23) fun v => X mX5_between 16 al (v :: st) h := x_get dX5_between_13 fT_5_50
theorem x_X5_between_16 {v0 v1 : AV} {z : Int} {st : List AV} {h : AH} : X mX5_between 16 [v0, v1, aI z] st h = X mX5_between 17 [v0, v1, aI z] (aI z :: st) h := X_of dX5_between_16 rfl
theorem x_X5_between_17 {a : Nat} {i : Int} {al st : List AV} {h : AH} : X mX5_between 17 al (aI i :: aR (some a) :: st) h = if 0 ≤ i then gK (rd h 11 a i.toNat) (fun v => X mX5_between 18 al (v :: st) h) else none := x_aldJ dX5_between_17
theorem x_X5_between_18 {v1 v2 : AV} {z : Option Nat} {st : List AV} {h : AH} : X mX5_between 18 [aR z, v1, v2] st h = X mX5_between 19 [aR z, v1, v2] (aR z :: st) h := X_of dX5_between_18 rfl
theorem x_X5_between_19 {a : Nat} {al st : List AV} {h : AH} : X mX5_between 19 al (aR (some a) :: st) h = gK (rd h 5 a 24) fun v => X mX5_between 22 al (v :: st) h := x_get dX5_between_19 fT_5_53
theorem x_X5_between_22 {v0 v1 : AV} {z : Int} {st : List AV} {h : AH} : X mX5_between 22 [v0, v1, aI z] st h = X mX5_between 23 [v0, v1, aI z] (aI z :: st) h := X_of dX5_between_22 rfl
theorem x_X5_between_23 {a : Nat} {i : Int} {al st : List AV} {h : AH} : X mX5_between 23 al (aI i :: aR (some a) :: st) h = if 0 ≤ i then gK (rd h 11 a i.toNat) (fun v => X mX5_between 24 al (v :: st) h) else none := x_aldJ dX5_between_23
theorem x_X5_between_24 {a0 : Int} {a1 : Int} {a2 : Int} {a3 : Int} {al : List AV} {h : AH} : X mX5_between 24 al [aJ a3, aJ a2, aJ a1, aJ a0] h = cK (E mX5_compared [aJ a0, aJ a1, aJ a2, aJ a3] h) fun v h2 => X mX5_between 27 al (v.toList ++ []) h2 := x_cal (as := [aJ a0, aJ a1, aJ a2, aJ a3]) (rest := []) dX5_between_24 (fun _ => rfl) cT_5_168 rfl rfl rfl
theorem x_X5_between_27 {z : Int} {al : List AV} {h : AH} : X mX5_between 27 al [aI z] h = some (some (aI z), h) := X_ofR dX5_between_27 rfl
theorem e_X5_order {p0 : Option Nat} {p1 : Int} {p2 : Int} {h : AH} : E mX5_order [aR p0, aI p1, aI p2] h = X mX5_order 0 [aR p0, aI p1, aI p2, aU, aU] [] h := rfl
theorem x_X5_order_0 {v1 v2 v3 v4 : AV} {z : Option Nat} {st : List AV} {h : AH} : X mX5_order 0 [aR z, v1, v2, v3, v4] st h = X mX5_order 1 [aR z, v1, v2, v3, v4] (aR z :: st) h := X_of dX5_order_0 rfl
theorem x_X5_order_1 {v0 v2 v3 v4 : AV} {z : Int} {st : List AV} {h : AH} : X mX5_order 1 [v0, aI z, v2, v3, v4] st h = X mX5_order 2 [v0, aI z, v2, v3, v4] (aI z :: st) h := X_of dX5_order_1 rfl
theorem x_X5_order_2 {a0 : Nat} {a1 : Int} {al : List AV} {h : AH} (ho : isO h 5 a0 = true) : X mX5_order 2 al [aI a1, aR (some a0)] h = cK (E mX5_isMachine [aR (some a0), aI a1] h) fun v h2 => X mX5_order 5 al (v.toList ++ []) h2 := x_cal (as := [aR (some a0), aI a1]) (rest := []) dX5_order_2 (fun _ => rfl) cT_5_114 rfl rfl ho
theorem x_X5_order_5 {a : Int} {al st : List AV} {h : AH} : X mX5_order 5 al (aI a :: st) h = if ¬ a = 0 then X mX5_order 10 al st h else X mX5_order 8 al st h := x_ne0 dX5_order_5 rfl
theorem x_X5_order_8 {al st : List AV} {h : AH} : X mX5_order 8 al st h = X mX5_order 9 al (aI (-1) :: st) h := X_of dX5_order_8 rfl
theorem x_X5_order_9 {z : Int} {al : List AV} {h : AH} : X mX5_order 9 al [aI z] h = some (some (aI z), h) := X_ofR dX5_order_9 rfl
theorem x_X5_order_10 {v0 v1 v3 v4 : AV} {z : Int} {st : List AV} {h : AH} : X mX5_order 10 [v0, v1, aI z, v3, v4] st h = X mX5_order 11 [v0, v1, aI z, v3, v4] (aI z :: st) h := X_of dX5_order_10 rfl
theorem x_X5_order_11 {a : Int} {al st : List AV} {h : AH} : X mX5_order 11 al (aI a :: st) h = X mX5_order 12 al (aJ a :: st) h := X_of dX5_order_11 rfl
theorem x_X5_order_12 {al st : List AV} {h : AH} : X mX5_order 12 al st h = X mX5_order 13 al (aJ 0 :: st) h := X_of dX5_order_12 rfl
theorem x_X5_order_13 {v1 v2 v3 v4 : AV} {z : Option Nat} {st : List AV} {h : AH} : X mX5_order 13 [aR z, v1, v2, v3, v4] st h = X mX5_order 14 [aR z, v1, v2, v3, v4] (aR z :: st) h := X_of dX5_order_13 rfl
theorem x_X5_order_14 {a : Nat} {al st : List AV} {h : AH} : X mX5_order 14 al (aR (some a) :: st) h = gK (rd h 5 a 12) fun v => X mX5_order 17 al (v :: st) h := x_get dX5_order_14 fT_5_29
theorem x_X5_order_17 {v0 v2 v3 v4 : AV} {z : Int} {st : List AV} {h : AH} : X mX5_order 17 [v0, aI z, v2, v3, v4] st h = X mX5_order 18 [v0, aI z, v2, v3, v4] (aI z :: st) h := X_of dX5_order_17 rfl
theorem x_X5_order_18 {a : Nat} {i : Int} {al st : List AV} {h : AH} : X mX5_order 18 al (aI i :: aR (some a) :: st) h = if 0 ≤ i then gK (rd h 10 a i.toNat) (fun v => X mX5_order 19 al (v :: st) h) else none := x_aldI dX5_order_18
theorem x_X5_order_19 {al st : List AV} {h : AH} : X mX5_order 19 al st h = X mX5_order 20 al (aI 1 :: st) h := X_of dX5_order_19 rfl
theorem x_X5_order_20 {a b : Int} {al st : List AV} {h : AH} : X mX5_order 20 al (aI b :: aI a :: st) h = X mX5_order 21 al (aI (w32 (a - b)) :: st) h := X_of dX5_order_20 rfl
theorem x_X5_order_21 {a : Int} {al st : List AV} {h : AH} : X mX5_order 21 al (aI a :: st) h = X mX5_order 22 al (aJ a :: st) h := X_of dX5_order_21 rfl
theorem x_X5_order_22 {a0 : Int} {a1 : Int} {a2 : Int} {al : List AV} {h : AH} : X mX5_order 22 al [aJ a2, aJ a1, aJ a0] h = cK (E mX5_in [aJ a0, aJ a1, aJ a2] h) fun v h2 => X mX5_order 25 al (v.toList ++ []) h2 := x_cal (as := [aJ a0, aJ a1, aJ a2]) (rest := []) dX5_order_22 (fun _ => rfl) cT_5_81 rfl rfl rfl
theorem x_X5_order_25 {a : Int} {al st : List AV} {h : AH} : X mX5_order 25 al (aI a :: st) h = if ¬ a = 0 then X mX5_order 31 al st h else X mX5_order 28 al st h := x_ne0 dX5_order_25 rfl
theorem x_X5_order_28 {al st : List AV} {h : AH} : X mX5_order 28 al st h = X mX5_order 30 al (aI (-9) :: st) h := X_of dX5_order_28 rfl
theorem x_X5_order_30 {z : Int} {al : List AV} {h : AH} : X mX5_order 30 al [aI z] h = some (some (aI z), h) := X_ofR dX5_order_30 rfl
theorem x_X5_order_31 {v1 v2 v3 v4 : AV} {z : Option Nat} {st : List AV} {h : AH} : X mX5_order 31 [aR z, v1, v2, v3, v4] st h = X mX5_order 32 [aR z, v1, v2, v3, v4] (aR z :: st) h := X_of dX5_order_31 rfl
theorem x_X5_order_32 {v0 v2 v3 v4 : AV} {z : Int} {st : List AV} {h : AH} : X mX5_order 32 [v0, aI z, v2, v3, v4] st h = X mX5_order 33 [v0, aI z, v2, v3, v4] (aI z :: st) h := X_of dX5_order_32 rfl
theorem x_X5_order_33 {a0 : Nat} {a1 : Int} {al : List AV} {h : AH} (ho : isO h 5 a0 = true) : X mX5_order 33 al [aI a1, aR (some a0)] h = cK (E mX5_layWorths [aR (some a0), aI a1] h) fun v h2 => X mX5_order 36 al (v.toList ++ []) h2 := x_cal (as := [aR (some a0), aI a1]) (rest := []) dX5_order_33 (fun _ => rfl) cT_5_185 rfl rfl ho
theorem x_X5_order_36 {al st : List AV} {h : AH} : X mX5_order 36 al st h = X mX5_order 37 al (aI 0 :: st) h := X_of dX5_order_36 rfl
theorem x_X5_order_37 {v0 v1 v3 v4 : AV} {y : Int} {z : Int} {st : List AV} {h : AH} : X mX5_order 37 [v0, v1, aI y, v3, v4] (aI z :: st) h = X mX5_order 38 [v0, v1, aI y, aI z, v4] st h := X_of dX5_order_37 rfl
theorem x_X5_order_38 {v0 v1 v2 v4 : AV} {z : Int} {st : List AV} {h : AH} : X mX5_order 38 [v0, v1, v2, aI z, v4] st h = X mX5_order 39 [v0, v1, v2, aI z, v4] (aI z :: st) h := X_of dX5_order_38 rfl
theorem x_X5_order_39 {v1 v2 v3 v4 : AV} {z : Option Nat} {st : List AV} {h : AH} : X mX5_order 39 [aR z, v1, v2, v3, v4] st h = X mX5_order 40 [aR z, v1, v2, v3, v4] (aR z :: st) h := X_of dX5_order_39 rfl
theorem x_X5_order_40 {a : Nat} {al st : List AV} {h : AH} : X mX5_order 40 al (aR (some a) :: st) h = gK (rd h 5 a 12) fun v => X mX5_order 43 al (v :: st) h := x_get dX5_order_40 fT_5_29
theorem x_X5_order_43 {v0 v2 v3 v4 : AV} {z : Int} {st : List AV} {h : AH} : X mX5_order 43 [v0, aI z, v2, v3, v4] st h = X mX5_order 44 [v0, aI z, v2, v3, v4] (aI z :: st) h := X_of dX5_order_43 rfl
theorem x_X5_order_44 {a : Nat} {i : Int} {al st : List AV} {h : AH} : X mX5_order 44 al (aI i :: aR (some a) :: st) h = if 0 ≤ i then gK (rd h 10 a i.toNat) (fun v => X mX5_order 45 al (v :: st) h) else none := x_aldI dX5_order_44
theorem x_X5_order_45 {a b : Int} {al st : List AV} {h : AH} : X mX5_order 45 al (aI b :: aI a :: st) h = if b ≤ a then X mX5_order 109 al st h else X mX5_order 48 al st h := x_geC dX5_order_45 rfl
theorem x_X5_order_48 {v0 v1 v2 v4 : AV} {z : Int} {st : List AV} {h : AH} : X mX5_order 48 [v0, v1, v2, aI z, v4] st h = X mX5_order 49 [v0, v1, v2, aI z, v4] (aI z :: st) h := X_of dX5_order_48 rfl
theorem x_X5_order_49 {v0 v1 v2 v4 : AV} {y : Int} {z : Int} {st : List AV} {h : AH} : X mX5_order 49 [v0, v1, v2, aI y, v4] (aI z :: st) h = X mX5_order 51 [v0, v1, v2, aI y, aI z] st h := X_of dX5_order_49 rfl
theorem x_X5_order_51 {v0 v1 v2 v3 : AV} {z : Int} {st : List AV} {h : AH} : X mX5_order 51 [v0, v1, v2, v3, aI z] st h = X mX5_order 53 [v0, v1, v2, v3, aI z] (aI z :: st) h := X_of dX5_order_51 rfl
theorem x_X5_order_53 {a : Int} {al st : List AV} {h : AH} : X mX5_order 53 al (aI a :: st) h = if a ≤ 0 then X mX5_order 95 al st h else X mX5_order 56 al st h := x_le0 dX5_order_53 rfl
theorem x_X5_order_56 {v1 v2 v3 v4 : AV} {z : Option Nat} {st : List AV} {h : AH} : X mX5_order 56 [aR z, v1, v2, v3, v4] st h = X mX5_order 57 [aR z, v1, v2, v3, v4] (aR z :: st) h := X_of dX5_order_56 rfl
theorem x_X5_order_57 {v0 v1 v2 v4 : AV} {z : Int} {st : List AV} {h : AH} : X mX5_order 57 [v0, v1, v2, aI z, v4] st h = X mX5_order 58 [v0, v1, v2, aI z, v4] (aI z :: st) h := X_of dX5_order_57 rfl
theorem x_X5_order_58 {v1 v2 v3 v4 : AV} {z : Option Nat} {st : List AV} {h : AH} : X mX5_order 58 [aR z, v1, v2, v3, v4] st h = X mX5_order 59 [aR z, v1, v2, v3, v4] (aR z :: st) h := X_of dX5_order_58 rfl
theorem x_X5_order_59 {a : Nat} {al st : List AV} {h : AH} : X mX5_order 59 al (aR (some a) :: st) h = gK (rd h 5 a 25) fun v => X mX5_order 62 al (v :: st) h := x_get dX5_order_59 fT_5_56
theorem x_X5_order_62 {v0 v1 v2 v3 : AV} {z : Int} {st : List AV} {h : AH} : X mX5_order 62 [v0, v1, v2, v3, aI z] st h = X mX5_order 64 [v0, v1, v2, v3, aI z] (aI z :: st) h := X_of dX5_order_62 rfl
theorem x_X5_order_64 {al st : List AV} {h : AH} : X mX5_order 64 al st h = X mX5_order 65 al (aI 1 :: st) h := X_of dX5_order_64 rfl
theorem x_X5_order_65 {a b : Int} {al st : List AV} {h : AH} : X mX5_order 65 al (aI b :: aI a :: st) h = X mX5_order 66 al (aI (w32 (a - b)) :: st) h := X_of dX5_order_65 rfl
theorem x_X5_order_66 {a : Nat} {i : Int} {al st : List AV} {h : AH} : X mX5_order 66 al (aI i :: aR (some a) :: st) h = if 0 ≤ i then gK (rd h 10 a i.toNat) (fun v => X mX5_order 67 al (v :: st) h) else none := x_aldI dX5_order_66
theorem x_X5_order_67 {a0 : Nat} {a1 : Int} {a2 : Int} {al : List AV} {h : AH} (ho : isO h 5 a0 = true) : X mX5_order 67 al [aI a2, aI a1, aR (some a0)] h = cK (E mX5_between [aR (some a0), aI a1, aI a2] h) fun v h2 => X mX5_order 70 al (v.toList ++ []) h2 := x_cal (as := [aR (some a0), aI a1, aI a2]) (rest := []) dX5_order_67 (fun _ => rfl) cT_5_189 rfl rfl ho
theorem x_X5_order_70 {a : Int} {al st : List AV} {h : AH} : X mX5_order 70 al (aI a :: st) h = if a ≤ 0 then X mX5_order 95 al st h else X mX5_order 73 al st h := x_le0 dX5_order_70 rfl
theorem x_X5_order_73 {v1 v2 v3 v4 : AV} {z : Option Nat} {st : List AV} {h : AH} : X mX5_order 73 [aR z, v1, v2, v3, v4] st h = X mX5_order 74 [aR z, v1, v2, v3, v4] (aR z :: st) h := X_of dX5_order_73 rfl
theorem x_X5_order_74 {a : Nat} {al st : List AV} {h : AH} : X mX5_order 74 al (aR (some a) :: st) h = gK (rd h 5 a 25) fun v => X mX5_order 77 al (v :: st) h := x_get dX5_order_74 fT_5_56
theorem x_X5_order_77 {v0 v1 v2 v3 : AV} {z : Int} {st : List AV} {h : AH} : X mX5_order 77 [v0, v1, v2, v3, aI z] st h = X mX5_order 79 [v0, v1, v2, v3, aI z] (aI z :: st) h := X_of dX5_order_77 rfl
theorem x_X5_order_79 {v1 v2 v3 v4 : AV} {z : Option Nat} {st : List AV} {h : AH} : X mX5_order 79 [aR z, v1, v2, v3, v4] st h = X mX5_order 80 [aR z, v1, v2, v3, v4] (aR z :: st) h := X_of dX5_order_79 rfl
theorem x_X5_order_80 {a : Nat} {al st : List AV} {h : AH} : X mX5_order 80 al (aR (some a) :: st) h = gK (rd h 5 a 25) fun v => X mX5_order 83 al (v :: st) h := x_get dX5_order_80 fT_5_56
theorem x_X5_order_83 {v0 v1 v2 v3 : AV} {z : Int} {st : List AV} {h : AH} : X mX5_order 83 [v0, v1, v2, v3, aI z] st h = X mX5_order 85 [v0, v1, v2, v3, aI z] (aI z :: st) h := X_of dX5_order_83 rfl
theorem x_X5_order_85 {al st : List AV} {h : AH} : X mX5_order 85 al st h = X mX5_order 86 al (aI 1 :: st) h := X_of dX5_order_85 rfl
theorem x_X5_order_86 {a b : Int} {al st : List AV} {h : AH} : X mX5_order 86 al (aI b :: aI a :: st) h = X mX5_order 87 al (aI (w32 (a - b)) :: st) h := X_of dX5_order_86 rfl
theorem x_X5_order_87 {a : Nat} {i : Int} {al st : List AV} {h : AH} : X mX5_order 87 al (aI i :: aR (some a) :: st) h = if 0 ≤ i then gK (rd h 10 a i.toNat) (fun v => X mX5_order 88 al (v :: st) h) else none := x_aldI dX5_order_87
theorem x_X5_order_88 {a : Nat} {i z : Int} {al st : List AV} {h : AH} : X mX5_order 88 al (aI z :: aI i :: aR (some a) :: st) h = if 0 ≤ i then pK (rd h 10 a i.toNat) (X mX5_order 89 al st (wr h 10 a i.toNat (aI z))) else none := x_astI dX5_order_88
theorem x_X5_order_89 {v0 v1 v2 : AV} {y : Int} {z : Int} {st : List AV} {h : AH} : X mX5_order 89 [v0, v1, v2, aI y, aI z] st h = X mX5_order 92 [v0, v1, v2, aI y, aI (w32 (z + (-1)))] st h := X_of dX5_order_89 rfl
theorem x_X5_order_92 {al st : List AV} {h : AH} : X mX5_order 92 al st h = X mX5_order 51 al st h := X_of dX5_order_92 rfl
theorem x_X5_order_95 {v1 v2 v3 v4 : AV} {z : Option Nat} {st : List AV} {h : AH} : X mX5_order 95 [aR z, v1, v2, v3, v4] st h = X mX5_order 96 [aR z, v1, v2, v3, v4] (aR z :: st) h := X_of dX5_order_95 rfl
theorem x_X5_order_96 {a : Nat} {al st : List AV} {h : AH} : X mX5_order 96 al (aR (some a) :: st) h = gK (rd h 5 a 25) fun v => X mX5_order 99 al (v :: st) h := x_get dX5_order_96 fT_5_56
theorem x_X5_order_99 {v0 v1 v2 v3 : AV} {z : Int} {st : List AV} {h : AH} : X mX5_order 99 [v0, v1, v2, v3, aI z] st h = X mX5_order 101 [v0, v1, v2, v3, aI z] (aI z :: st) h := X_of dX5_order_99 rfl
theorem x_X5_order_101 {v0 v1 v2 v4 : AV} {z : Int} {st : List AV} {h : AH} : X mX5_order 101 [v0, v1, v2, aI z, v4] st h = X mX5_order 102 [v0, v1, v2, aI z, v4] (aI z :: st) h := X_of dX5_order_101 rfl
theorem x_X5_order_102 {a : Nat} {i z : Int} {al st : List AV} {h : AH} : X mX5_order 102 al (aI z :: aI i :: aR (some a) :: st) h = if 0 ≤ i then pK (rd h 10 a i.toNat) (X mX5_order 103 al st (wr h 10 a i.toNat (aI z))) else none := x_astI dX5_order_102
theorem x_X5_order_103 {v0 v1 v4 : AV} {y : Int} {z : Int} {st : List AV} {h : AH} : X mX5_order 103 [v0, v1, aI y, aI z, v4] st h = X mX5_order 106 [v0, v1, aI y, aI (w32 (z + 1)), v4] st h := X_of dX5_order_103 rfl
theorem x_X5_order_106 {al st : List AV} {h : AH} : X mX5_order 106 al st h = X mX5_order 38 al st h := X_of dX5_order_106 rfl
theorem x_X5_order_109 {v1 v2 v3 v4 : AV} {z : Option Nat} {st : List AV} {h : AH} : X mX5_order 109 [aR z, v1, v2, v3, v4] st h = X mX5_order 110 [aR z, v1, v2, v3, v4] (aR z :: st) h := X_of dX5_order_109 rfl
theorem x_X5_order_110 {a : Nat} {al st : List AV} {h : AH} : X mX5_order 110 al (aR (some a) :: st) h = gK (rd h 5 a 25) fun v => X mX5_order 113 al (v :: st) h := x_get dX5_order_110 fT_5_56
theorem x_X5_order_113 {v0 v1 v3 v4 : AV} {z : Int} {st : List AV} {h : AH} : X mX5_order 113 [v0, v1, aI z, v3, v4] st h = X mX5_order 114 [v0, v1, aI z, v3, v4] (aI z :: st) h := X_of dX5_order_113 rfl
theorem x_X5_order_114 {a : Nat} {i : Int} {al st : List AV} {h : AH} : X mX5_order 114 al (aI i :: aR (some a) :: st) h = if 0 ≤ i then gK (rd h 10 a i.toNat) (fun v => X mX5_order 115 al (v :: st) h) else none := x_aldI dX5_order_114
theorem x_X5_order_115 {z : Int} {al : List AV} {h : AH} : X mX5_order 115 al [aI z] h = some (some (aI z), h) := X_ofR dX5_order_115 rfl
theorem e_X5_goes {p0 : Option Nat} {p1 : Int} {p2 : Int} {h : AH} : E mX5_goes [aR p0, aI p1, aI p2] h = X mX5_goes 0 [aR p0, aI p1, aI p2, aU, aU, aU] [] h := rfl
theorem x_X5_goes_0 {v1 v2 v3 v4 v5 : AV} {z : Option Nat} {st : List AV} {h : AH} : X mX5_goes 0 [aR z, v1, v2, v3, v4, v5] st h = X mX5_goes 1 [aR z, v1, v2, v3, v4, v5] (aR z :: st) h := X_of dX5_goes_0 rfl
theorem x_X5_goes_1 {v0 v2 v3 v4 v5 : AV} {z : Int} {st : List AV} {h : AH} : X mX5_goes 1 [v0, aI z, v2, v3, v4, v5] st h = X mX5_goes 2 [v0, aI z, v2, v3, v4, v5] (aI z :: st) h := X_of dX5_goes_1 rfl
theorem x_X5_goes_2 {v0 v1 v3 v4 v5 : AV} {z : Int} {st : List AV} {h : AH} : X mX5_goes 2 [v0, v1, aI z, v3, v4, v5] st h = X mX5_goes 3 [v0, v1, aI z, v3, v4, v5] (aI z :: st) h := X_of dX5_goes_2 rfl
theorem x_X5_goes_3 {a0 : Nat} {a1 : Int} {a2 : Int} {al : List AV} {h : AH} (ho : isO h 5 a0 = true) : X mX5_goes 3 al [aI a2, aI a1, aR (some a0)] h = cK (E mX5_need [aR (some a0), aI a1, aI a2] h) fun v h2 => X mX5_goes 6 al (v.toList ++ []) h2 := x_cal (as := [aR (some a0), aI a1, aI a2]) (rest := []) dX5_goes_3 (fun _ => rfl) cT_5_172 rfl rfl ho
theorem x_X5_goes_6 {v0 v1 v3 v4 v5 : AV} {y : Int} {z : Int} {st : List AV} {h : AH} : X mX5_goes 6 [v0, v1, aI y, v3, v4, v5] (aI z :: st) h = X mX5_goes 7 [v0, v1, aI y, aI z, v4, v5] st h := X_of dX5_goes_6 rfl
theorem x_X5_goes_7 {v0 v1 v2 v4 v5 : AV} {z : Int} {st : List AV} {h : AH} : X mX5_goes 7 [v0, v1, v2, aI z, v4, v5] st h = X mX5_goes 8 [v0, v1, v2, aI z, v4, v5] (aI z :: st) h := X_of dX5_goes_7 rfl
theorem x_X5_goes_8 {a : Int} {al st : List AV} {h : AH} : X mX5_goes 8 al (aI a :: st) h = if 0 ≤ a then X mX5_goes 13 al st h else X mX5_goes 11 al st h := x_ge0 dX5_goes_8 rfl
theorem x_X5_goes_11 {v0 v1 v2 v4 v5 : AV} {z : Int} {st : List AV} {h : AH} : X mX5_goes 11 [v0, v1, v2, aI z, v4, v5] st h = X mX5_goes 12 [v0, v1, v2, aI z, v4, v5] (aI z :: st) h := X_of dX5_goes_11 rfl
theorem x_X5_goes_12 {z : Int} {al : List AV} {h : AH} : X mX5_goes 12 al [aI z] h = some (some (aI z), h) := X_ofR dX5_goes_12 rfl
theorem x_X5_goes_13 {v1 v2 v3 v4 v5 : AV} {z : Option Nat} {st : List AV} {h : AH} : X mX5_goes 13 [aR z, v1, v2, v3, v4, v5] st h = X mX5_goes 14 [aR z, v1, v2, v3, v4, v5] (aR z :: st) h := X_of dX5_goes_13 rfl
theorem x_X5_goes_14 {v0 v2 v3 v4 v5 : AV} {z : Int} {st : List AV} {h : AH} : X mX5_goes 14 [v0, aI z, v2, v3, v4, v5] st h = X mX5_goes 15 [v0, aI z, v2, v3, v4, v5] (aI z :: st) h := X_of dX5_goes_14 rfl
theorem x_X5_goes_15 {a0 : Nat} {a1 : Int} {al : List AV} {h : AH} (ho : isO h 5 a0 = true) : X mX5_goes 15 al [aI a1, aR (some a0)] h = cK (E mX5_layWorths [aR (some a0), aI a1] h) fun v h2 => X mX5_goes 18 al (v.toList ++ []) h2 := x_cal (as := [aR (some a0), aI a1]) (rest := []) dX5_goes_15 (fun _ => rfl) cT_5_185 rfl rfl ho
theorem x_X5_goes_18 {al st : List AV} {h : AH} : X mX5_goes 18 al st h = X mX5_goes 19 al (aI 0 :: st) h := X_of dX5_goes_18 rfl
theorem x_X5_goes_19 {v0 v1 v2 v4 v5 : AV} {y : Int} {z : Int} {st : List AV} {h : AH} : X mX5_goes 19 [v0, v1, v2, aI y, v4, v5] (aI z :: st) h = X mX5_goes 21 [v0, v1, v2, aI y, aI z, v5] st h := X_of dX5_goes_19 rfl
theorem x_X5_goes_21 {al st : List AV} {h : AH} : X mX5_goes 21 al st h = X mX5_goes 22 al (aI 0 :: st) h := X_of dX5_goes_21 rfl
theorem x_X5_goes_22 {v0 v1 v2 v3 v5 : AV} {y : Int} {z : Int} {st : List AV} {h : AH} : X mX5_goes 22 [v0, v1, v2, v3, aI y, v5] (aI z :: st) h = X mX5_goes 24 [v0, v1, v2, v3, aI y, aI z] st h := X_of dX5_goes_22 rfl
theorem x_X5_goes_24 {v0 v1 v2 v3 v4 : AV} {z : Int} {st : List AV} {h : AH} : X mX5_goes 24 [v0, v1, v2, v3, v4, aI z] st h = X mX5_goes 26 [v0, v1, v2, v3, v4, aI z] (aI z :: st) h := X_of dX5_goes_24 rfl
theorem x_X5_goes_26 {v1 v2 v3 v4 v5 : AV} {z : Option Nat} {st : List AV} {h : AH} : X mX5_goes 26 [aR z, v1, v2, v3, v4, v5] st h = X mX5_goes 27 [aR z, v1, v2, v3, v4, v5] (aR z :: st) h := X_of dX5_goes_26 rfl
theorem x_X5_goes_27 {a : Nat} {al st : List AV} {h : AH} : X mX5_goes 27 al (aR (some a) :: st) h = gK (rd h 5 a 12) fun v => X mX5_goes 30 al (v :: st) h := x_get dX5_goes_27 fT_5_29
theorem x_X5_goes_30 {v0 v2 v3 v4 v5 : AV} {z : Int} {st : List AV} {h : AH} : X mX5_goes 30 [v0, aI z, v2, v3, v4, v5] st h = X mX5_goes 31 [v0, aI z, v2, v3, v4, v5] (aI z :: st) h := X_of dX5_goes_30 rfl
theorem x_X5_goes_31 {a : Nat} {i : Int} {al st : List AV} {h : AH} : X mX5_goes 31 al (aI i :: aR (some a) :: st) h = if 0 ≤ i then gK (rd h 10 a i.toNat) (fun v => X mX5_goes 32 al (v :: st) h) else none := x_aldI dX5_goes_31
theorem x_X5_goes_32 {a b : Int} {al st : List AV} {h : AH} : X mX5_goes 32 al (aI b :: aI a :: st) h = if b ≤ a then X mX5_goes 64 al st h else X mX5_goes 35 al st h := x_geC dX5_goes_32 rfl
theorem x_X5_goes_35 {v0 v1 v2 v3 v5 : AV} {z : Int} {st : List AV} {h : AH} : X mX5_goes 35 [v0, v1, v2, v3, aI z, v5] st h = X mX5_goes 37 [v0, v1, v2, v3, aI z, v5] (aI z :: st) h := X_of dX5_goes_35 rfl
theorem x_X5_goes_37 {v1 v2 v3 v4 v5 : AV} {z : Option Nat} {st : List AV} {h : AH} : X mX5_goes 37 [aR z, v1, v2, v3, v4, v5] st h = X mX5_goes 38 [aR z, v1, v2, v3, v4, v5] (aR z :: st) h := X_of dX5_goes_37 rfl
theorem x_X5_goes_38 {v0 v1 v2 v3 v4 : AV} {z : Int} {st : List AV} {h : AH} : X mX5_goes 38 [v0, v1, v2, v3, v4, aI z] st h = X mX5_goes 40 [v0, v1, v2, v3, v4, aI z] (aI z :: st) h := X_of dX5_goes_38 rfl
theorem x_X5_goes_40 {v0 v1 v3 v4 v5 : AV} {z : Int} {st : List AV} {h : AH} : X mX5_goes 40 [v0, v1, aI z, v3, v4, v5] st h = X mX5_goes 41 [v0, v1, aI z, v3, v4, v5] (aI z :: st) h := X_of dX5_goes_40 rfl
theorem x_X5_goes_41 {a0 : Nat} {a1 : Int} {a2 : Int} {r0 : Int} {al : List AV} {h : AH} (ho : isO h 5 a0 = true) : X mX5_goes 41 al [aI a2, aI a1, aR (some a0), aI r0] h = cK (E mX5_between [aR (some a0), aI a1, aI a2] h) fun v h2 => X mX5_goes 44 al (v.toList ++ [aI r0]) h2 := x_cal (as := [aR (some a0), aI a1, aI a2]) (rest := [aI r0]) dX5_goes_41 (fun _ => rfl) cT_5_189 rfl rfl ho
theorem x_X5_goes_44 {a : Int} {al st : List AV} {h : AH} : X mX5_goes 44 al (aI a :: st) h = if a < 0 then X mX5_goes 54 al st h else X mX5_goes 47 al st h := x_lt0 dX5_goes_44 rfl
theorem x_X5_goes_47 {al st : List AV} {h : AH} : X mX5_goes 47 al st h = X mX5_goes 48 al (aI 1 :: st) h := X_of dX5_goes_47 rfl
theorem x_X5_goes_48 {v0 v1 v2 v3 v4 : AV} {z : Int} {st : List AV} {h : AH} : X mX5_goes 48 [v0, v1, v2, v3, v4, aI z] st h = X mX5_goes 50 [v0, v1, v2, v3, v4, aI z] (aI z :: st) h := X_of dX5_goes_48 rfl
theorem x_X5_goes_50 {a b : Int} {al st : List AV} {h : AH} : X mX5_goes 50 al (aI b :: aI a :: st) h = X mX5_goes 51 al (aI (fShl a b) :: st) h := X_of dX5_goes_50 rfl
theorem x_X5_goes_51 {al st : List AV} {h : AH} : X mX5_goes 51 al st h = X mX5_goes 55 al st h := X_of dX5_goes_51 rfl
theorem x_X5_goes_54 {al st : List AV} {h : AH} : X mX5_goes 54 al st h = X mX5_goes 55 al (aI 0 :: st) h := X_of dX5_goes_54 rfl
theorem x_X5_goes_55 {a b : Int} {al st : List AV} {h : AH} : X mX5_goes 55 al (aI b :: aI a :: st) h = X mX5_goes 56 al (aI (fOr a b) :: st) h := X_of dX5_goes_55 rfl
theorem x_X5_goes_56 {v0 v1 v2 v4 v5 : AV} {y : Int} {z : Int} {st : List AV} {h : AH} : X mX5_goes 56 [v0, v1, v2, aI y, v4, v5] (aI z :: st) h = X mX5_goes 58 [v0, v1, v2, aI y, aI z, v5] st h := X_of dX5_goes_56 rfl
theorem x_X5_goes_58 {v0 v1 v2 v3 : AV} {y : Int} {z : Int} {st : List AV} {h : AH} : X mX5_goes 58 [v0, v1, v2, v3, aI y, aI z] st h = X mX5_goes 61 [v0, v1, v2, v3, aI y, aI (w32 (z + 1))] st h := X_of dX5_goes_58 rfl
theorem x_X5_goes_61 {al st : List AV} {h : AH} : X mX5_goes 61 al st h = X mX5_goes 24 al st h := X_of dX5_goes_61 rfl
theorem x_X5_goes_64 {v0 v1 v2 v3 v5 : AV} {z : Int} {st : List AV} {h : AH} : X mX5_goes 64 [v0, v1, v2, v3, aI z, v5] st h = X mX5_goes 66 [v0, v1, v2, v3, aI z, v5] (aI z :: st) h := X_of dX5_goes_64 rfl
theorem x_X5_goes_66 {z : Int} {al : List AV} {h : AH} : X mX5_goes 66 al [aI z] h = some (some (aI z), h) := X_ofR dX5_goes_66 rfl
theorem e_X5_even {p0 : Option Nat} {p1 : Int} {p2 : Int} {p3 : Int} {p4 : Int} {h : AH} : E mX5_even [aR p0, aI p1, aI p2, aI p3, aI p4] h = X mX5_even 0 [aR p0, aI p1, aI p2, aI p3, aI p4, aU] [] h := rfl
theorem x_X5_even_0 {v1 v2 v3 v4 v5 : AV} {z : Option Nat} {st : List AV} {h : AH} : X mX5_even 0 [aR z, v1, v2, v3, v4, v5] st h = X mX5_even 1 [aR z, v1, v2, v3, v4, v5] (aR z :: st) h := X_of dX5_even_0 rfl
theorem x_X5_even_1 {v0 v2 v3 v4 v5 : AV} {z : Int} {st : List AV} {h : AH} : X mX5_even 1 [v0, aI z, v2, v3, v4, v5] st h = X mX5_even 2 [v0, aI z, v2, v3, v4, v5] (aI z :: st) h := X_of dX5_even_1 rfl
theorem x_X5_even_2 {a0 : Nat} {a1 : Int} {al : List AV} {h : AH} (ho : isO h 5 a0 = true) : X mX5_even 2 al [aI a1, aR (some a0)] h = cK (E mX5_isMachine [aR (some a0), aI a1] h) fun v h2 => X mX5_even 5 al (v.toList ++ []) h2 := x_cal (as := [aR (some a0), aI a1]) (rest := []) dX5_even_2 (fun _ => rfl) cT_5_114 rfl rfl ho
theorem x_X5_even_5 {a : Int} {al st : List AV} {h : AH} : X mX5_even 5 al (aI a :: st) h = if a = 0 then X mX5_even 35 al st h else X mX5_even 8 al st h := x_eq0 dX5_even_5 rfl
theorem x_X5_even_8 {v0 v1 v2 v4 v5 : AV} {z : Int} {st : List AV} {h : AH} : X mX5_even 8 [v0, v1, v2, aI z, v4, v5] st h = X mX5_even 9 [v0, v1, v2, aI z, v4, v5] (aI z :: st) h := X_of dX5_even_8 rfl
theorem x_X5_even_9 {a : Int} {al st : List AV} {h : AH} : X mX5_even 9 al (aI a :: st) h = X mX5_even 10 al (aJ a :: st) h := X_of dX5_even_9 rfl
theorem x_X5_even_10 {al st : List AV} {h : AH} : X mX5_even 10 al st h = X mX5_even 13 al (aJ (-1000000) :: st) h := X_of dX5_even_10 rfl
theorem x_X5_even_13 {al st : List AV} {h : AH} : X mX5_even 13 al st h = X mX5_even 16 al (aJ 1000000 :: st) h := X_of dX5_even_13 rfl
theorem x_X5_even_16 {a0 : Int} {a1 : Int} {a2 : Int} {al : List AV} {h : AH} : X mX5_even 16 al [aJ a2, aJ a1, aJ a0] h = cK (E mX5_in [aJ a0, aJ a1, aJ a2] h) fun v h2 => X mX5_even 19 al (v.toList ++ []) h2 := x_cal (as := [aJ a0, aJ a1, aJ a2]) (rest := []) dX5_even_16 (fun _ => rfl) cT_5_81 rfl rfl rfl
theorem x_X5_even_19 {a : Int} {al st : List AV} {h : AH} : X mX5_even 19 al (aI a :: st) h = if a = 0 then X mX5_even 35 al st h else X mX5_even 22 al st h := x_eq0 dX5_even_19 rfl
theorem x_X5_even_22 {v0 v1 v2 v3 v5 : AV} {z : Int} {st : List AV} {h : AH} : X mX5_even 22 [v0, v1, v2, v3, aI z, v5] st h = X mX5_even 24 [v0, v1, v2, v3, aI z, v5] (aI z :: st) h := X_of dX5_even_22 rfl
theorem x_X5_even_24 {a : Int} {al st : List AV} {h : AH} : X mX5_even 24 al (aI a :: st) h = X mX5_even 25 al (aJ a :: st) h := X_of dX5_even_24 rfl
theorem x_X5_even_25 {al st : List AV} {h : AH} : X mX5_even 25 al st h = X mX5_even 26 al (aJ 0 :: st) h := X_of dX5_even_25 rfl
theorem x_X5_even_26 {al st : List AV} {h : AH} : X mX5_even 26 al st h = X mX5_even 29 al (aJ 1000000 :: st) h := X_of dX5_even_26 rfl
theorem x_X5_even_29 {a0 : Int} {a1 : Int} {a2 : Int} {al : List AV} {h : AH} : X mX5_even 29 al [aJ a2, aJ a1, aJ a0] h = cK (E mX5_in [aJ a0, aJ a1, aJ a2] h) fun v h2 => X mX5_even 32 al (v.toList ++ []) h2 := x_cal (as := [aJ a0, aJ a1, aJ a2]) (rest := []) dX5_even_29 (fun _ => rfl) cT_5_81 rfl rfl rfl
theorem x_X5_even_32 {a : Int} {al st : List AV} {h : AH} : X mX5_even 32 al (aI a :: st) h = if ¬ a = 0 then X mX5_even 37 al st h else X mX5_even 35 al st h := x_ne0 dX5_even_32 rfl
theorem x_X5_even_35 {al st : List AV} {h : AH} : X mX5_even 35 al st h = X mX5_even 36 al (aI (-1) :: st) h := X_of dX5_even_35 rfl
theorem x_X5_even_36 {z : Int} {al : List AV} {h : AH} : X mX5_even 36 al [aI z] h = some (some (aI z), h) := X_ofR dX5_even_36 rfl
theorem x_X5_even_37 {v1 v2 v3 v4 v5 : AV} {z : Option Nat} {st : List AV} {h : AH} : X mX5_even 37 [aR z, v1, v2, v3, v4, v5] st h = X mX5_even 38 [aR z, v1, v2, v3, v4, v5] (aR z :: st) h := X_of dX5_even_37 rfl
theorem x_X5_even_38 {v0 v2 v3 v4 v5 : AV} {z : Int} {st : List AV} {h : AH} : X mX5_even 38 [v0, aI z, v2, v3, v4, v5] st h = X mX5_even 39 [v0, aI z, v2, v3, v4, v5] (aI z :: st) h := X_of dX5_even_38 rfl
theorem x_X5_even_39 {v0 v1 v3 v4 v5 : AV} {z : Int} {st : List AV} {h : AH} : X mX5_even 39 [v0, v1, aI z, v3, v4, v5] st h = X mX5_even 40 [v0, v1, aI z, v3, v4, v5] (aI z :: st) h := X_of dX5_even_39 rfl
theorem x_X5_even_40 {a0 : Nat} {a1 : Int} {a2 : Int} {al : List AV} {h : AH} (ho : isO h 5 a0 = true) : X mX5_even 40 al [aI a2, aI a1, aR (some a0)] h = cK (E mX5_isState [aR (some a0), aI a1, aI a2] h) fun v h2 => X mX5_even 43 al (v.toList ++ []) h2 := x_cal (as := [aR (some a0), aI a1, aI a2]) (rest := []) dX5_even_40 (fun _ => rfl) cT_5_121 rfl rfl ho
theorem x_X5_even_43 {a : Int} {al st : List AV} {h : AH} : X mX5_even 43 al (aI a :: st) h = if ¬ a = 0 then X mX5_even 52 al st h else X mX5_even 46 al st h := x_ne0 dX5_even_43 rfl
theorem x_X5_even_46 {v1 v2 v3 v4 v5 : AV} {z : Option Nat} {st : List AV} {h : AH} : X mX5_even 46 [aR z, v1, v2, v3, v4, v5] st h = X mX5_even 47 [aR z, v1, v2, v3, v4, v5] (aR z :: st) h := X_of dX5_even_46 rfl
theorem x_X5_even_47 {al st : List AV} {h : AH} : X mX5_even 47 al st h = X mX5_even 48 al (aI 2 :: st) h := X_of dX5_even_47 rfl
theorem x_X5_even_48 {a0 : Nat} {a1 : Int} {al : List AV} {h : AH} (ho : isO h 5 a0 = true) : X mX5_even 48 al [aI a1, aR (some a0)] h = cK (E mX5_meets [aR (some a0), aI a1] h) fun v h2 => X mX5_even 51 al (v.toList ++ []) h2 := x_cal (as := [aR (some a0), aI a1]) (rest := []) dX5_even_48 (fun _ => rfl) cT_5_96 rfl rfl ho
theorem x_X5_even_51 {z : Int} {al : List AV} {h : AH} : X mX5_even 51 al [aI z] h = some (some (aI z), h) := X_ofR dX5_even_51 rfl
theorem x_X5_even_52 {v0 v1 v2 v3 v5 : AV} {z : Int} {st : List AV} {h : AH} : X mX5_even 52 [v0, v1, v2, v3, aI z, v5] st h = X mX5_even 54 [v0, v1, v2, v3, aI z, v5] (aI z :: st) h := X_of dX5_even_52 rfl
theorem x_X5_even_54 {a : Int} {al st : List AV} {h : AH} : X mX5_even 54 al (aI a :: st) h = if ¬ a = 0 then X mX5_even 63 al st h else X mX5_even 57 al st h := x_ne0 dX5_even_54 rfl
theorem x_X5_even_57 {v1 v2 v3 v4 v5 : AV} {z : Option Nat} {st : List AV} {h : AH} : X mX5_even 57 [aR z, v1, v2, v3, v4, v5] st h = X mX5_even 58 [aR z, v1, v2, v3, v4, v5] (aR z :: st) h := X_of dX5_even_57 rfl
theorem x_X5_even_58 {al st : List AV} {h : AH} : X mX5_even 58 al st h = X mX5_even 59 al (aI 4 :: st) h := X_of dX5_even_58 rfl
theorem x_X5_even_59 {a0 : Nat} {a1 : Int} {al : List AV} {h : AH} (ho : isO h 5 a0 = true) : X mX5_even 59 al [aI a1, aR (some a0)] h = cK (E mX5_meets [aR (some a0), aI a1] h) fun v h2 => X mX5_even 62 al (v.toList ++ []) h2 := x_cal (as := [aR (some a0), aI a1]) (rest := []) dX5_even_59 (fun _ => rfl) cT_5_96 rfl rfl ho
theorem x_X5_even_62 {z : Int} {al : List AV} {h : AH} : X mX5_even 62 al [aI z] h = some (some (aI z), h) := X_ofR dX5_even_62 rfl
theorem x_X5_even_63 {v1 v2 v3 v4 v5 : AV} {z : Option Nat} {st : List AV} {h : AH} : X mX5_even 63 [aR z, v1, v2, v3, v4, v5] st h = X mX5_even 64 [aR z, v1, v2, v3, v4, v5] (aR z :: st) h := X_of dX5_even_63 rfl
theorem x_X5_even_64 {v0 v2 v3 v4 v5 : AV} {z : Int} {st : List AV} {h : AH} : X mX5_even 64 [v0, aI z, v2, v3, v4, v5] st h = X mX5_even 65 [v0, aI z, v2, v3, v4, v5] (aI z :: st) h := X_of dX5_even_64 rfl
theorem x_X5_even_65 {v0 v1 v3 v4 v5 : AV} {z : Int} {st : List AV} {h : AH} : X mX5_even 65 [v0, v1, aI z, v3, v4, v5] st h = X mX5_even 66 [v0, v1, aI z, v3, v4, v5] (aI z :: st) h := X_of dX5_even_65 rfl
theorem x_X5_even_66 {a0 : Nat} {a1 : Int} {a2 : Int} {al : List AV} {h : AH} (ho : isO h 5 a0 = true) : X mX5_even 66 al [aI a2, aI a1, aR (some a0)] h = cK (E mX5_worthOf [aR (some a0), aI a1, aI a2] h) fun v h2 => X mX5_even 69 al (v.toList ++ []) h2 := x_cal (as := [aR (some a0), aI a1, aI a2]) (rest := []) dX5_even_66 (fun _ => rfl) cT_5_175 rfl rfl ho
theorem x_X5_even_69 {v1 v2 v3 v4 v5 : AV} {z : Option Nat} {st : List AV} {h : AH} : X mX5_even 69 [aR z, v1, v2, v3, v4, v5] st h = X mX5_even 70 [aR z, v1, v2, v3, v4, v5] (aR z :: st) h := X_of dX5_even_69 rfl
theorem x_X5_even_70 {a : Nat} {al st : List AV} {h : AH} : X mX5_even 70 al (aR (some a) :: st) h = gK (rd h 5 a 17) fun v => X mX5_even 73 al (v :: st) h := x_get dX5_even_70 fT_5_140
theorem x_X5_even_73 {v1 v2 v3 v4 v5 : AV} {z : Option Nat} {st : List AV} {h : AH} : X mX5_even 73 [aR z, v1, v2, v3, v4, v5] st h = X mX5_even 74 [aR z, v1, v2, v3, v4, v5] (aR z :: st) h := X_of dX5_even_73 rfl
theorem x_X5_even_74 {a : Nat} {al st : List AV} {h : AH} : X mX5_even 74 al (aR (some a) :: st) h = gK (rd h 5 a 18) fun v => X mX5_even 77 al (v :: st) h := x_get dX5_even_74 fT_5_143
theorem x_X5_even_77 {v0 v1 v2 v4 v5 : AV} {z : Int} {st : List AV} {h : AH} : X mX5_even 77 [v0, v1, v2, aI z, v4, v5] st h = X mX5_even 78 [v0, v1, v2, aI z, v4, v5] (aI z :: st) h := X_of dX5_even_77 rfl
theorem x_X5_even_78 {a : Int} {al st : List AV} {h : AH} : X mX5_even 78 al (aI a :: st) h = X mX5_even 79 al (aJ a :: st) h := X_of dX5_even_78 rfl
theorem x_X5_even_79 {v0 v1 v2 v3 v5 : AV} {z : Int} {st : List AV} {h : AH} : X mX5_even 79 [v0, v1, v2, v3, aI z, v5] st h = X mX5_even 81 [v0, v1, v2, v3, aI z, v5] (aI z :: st) h := X_of dX5_even_79 rfl
theorem x_X5_even_81 {a : Int} {al st : List AV} {h : AH} : X mX5_even 81 al (aI a :: st) h = X mX5_even 82 al (aJ a :: st) h := X_of dX5_even_81 rfl
theorem x_X5_even_82 {a0 : Int} {a1 : Int} {a2 : Int} {a3 : Int} {al : List AV} {h : AH} : X mX5_even 82 al [aJ a3, aJ a2, aJ a1, aJ a0] h = cK (E mX5_compared [aJ a0, aJ a1, aJ a2, aJ a3] h) fun v h2 => X mX5_even 85 al (v.toList ++ []) h2 := x_cal (as := [aJ a0, aJ a1, aJ a2, aJ a3]) (rest := []) dX5_even_82 (fun _ => rfl) cT_5_168 rfl rfl rfl
theorem x_X5_even_85 {v0 v1 v2 v3 v5 : AV} {y : Int} {z : Int} {st : List AV} {h : AH} : X mX5_even 85 [v0, v1, v2, v3, aI y, v5] (aI z :: st) h = X mX5_even 87 [v0, v1, v2, v3, aI y, aI z] st h := X_of dX5_even_85 rfl
theorem x_X5_even_87 {v0 v1 v2 v3 v4 : AV} {z : Int} {st : List AV} {h : AH} : X mX5_even 87 [v0, v1, v2, v3, v4, aI z] st h = X mX5_even 89 [v0, v1, v2, v3, v4, aI z] (aI z :: st) h := X_of dX5_even_87 rfl
theorem x_X5_even_89 {a : Int} {al st : List AV} {h : AH} : X mX5_even 89 al (aI a :: st) h = if a ≤ 0 then X mX5_even 96 al st h else X mX5_even 92 al st h := x_le0 dX5_even_89 rfl
theorem x_X5_even_92 {al st : List AV} {h : AH} : X mX5_even 92 al st h = X mX5_even 93 al (aI 1 :: st) h := X_of dX5_even_92 rfl
theorem x_X5_even_93 {al st : List AV} {h : AH} : X mX5_even 93 al st h = X mX5_even 106 al st h := X_of dX5_even_93 rfl
theorem x_X5_even_96 {v0 v1 v2 v3 v4 : AV} {z : Int} {st : List AV} {h : AH} : X mX5_even 96 [v0, v1, v2, v3, v4, aI z] st h = X mX5_even 98 [v0, v1, v2, v3, v4, aI z] (aI z :: st) h := X_of dX5_even_96 rfl
theorem x_X5_even_98 {a : Int} {al st : List AV} {h : AH} : X mX5_even 98 al (aI a :: st) h = if ¬ a = 0 then X mX5_even 105 al st h else X mX5_even 101 al st h := x_ne0 dX5_even_98 rfl
theorem x_X5_even_101 {al st : List AV} {h : AH} : X mX5_even 101 al st h = X mX5_even 102 al (aI 0 :: st) h := X_of dX5_even_101 rfl
theorem x_X5_even_102 {al st : List AV} {h : AH} : X mX5_even 102 al st h = X mX5_even 106 al st h := X_of dX5_even_102 rfl
theorem x_X5_even_105 {al st : List AV} {h : AH} : X mX5_even 105 al st h = X mX5_even 106 al (aI 2 :: st) h := X_of dX5_even_105 rfl
theorem x_X5_even_106 {z : Int} {al : List AV} {h : AH} : X mX5_even 106 al [aI z] h = some (some (aI z), h) := X_ofR dX5_even_106 rfl
theorem e_X5_better {p0 : Option Nat} {p1 : Int} {p2 : Int} {h : AH} : E mX5_better [aR p0, aI p1, aI p2] h = X mX5_better 0 [aR p0, aI p1, aI p2, aU] [] h := rfl
theorem x_X5_better_0 {v1 v2 v3 : AV} {z : Option Nat} {st : List AV} {h : AH} : X mX5_better 0 [aR z, v1, v2, v3] st h = X mX5_better 1 [aR z, v1, v2, v3] (aR z :: st) h := X_of dX5_better_0 rfl
theorem x_X5_better_1 {v0 v2 v3 : AV} {z : Int} {st : List AV} {h : AH} : X mX5_better 1 [v0, aI z, v2, v3] st h = X mX5_better 2 [v0, aI z, v2, v3] (aI z :: st) h := X_of dX5_better_1 rfl
theorem x_X5_better_2 {v0 v1 v3 : AV} {z : Int} {st : List AV} {h : AH} : X mX5_better 2 [v0, v1, aI z, v3] st h = X mX5_better 3 [v0, v1, aI z, v3] (aI z :: st) h := X_of dX5_better_2 rfl
theorem x_X5_better_3 {a0 : Nat} {a1 : Int} {a2 : Int} {al : List AV} {h : AH} (ho : isO h 5 a0 = true) : X mX5_better 3 al [aI a2, aI a1, aR (some a0)] h = cK (E mX5_need [aR (some a0), aI a1, aI a2] h) fun v h2 => X mX5_better 6 al (v.toList ++ []) h2 := x_cal (as := [aR (some a0), aI a1, aI a2]) (rest := []) dX5_better_3 (fun _ => rfl) cT_5_172 rfl rfl ho
theorem x_X5_better_6 {v0 v1 v3 : AV} {y : Int} {z : Int} {st : List AV} {h : AH} : X mX5_better 6 [v0, v1, aI y, v3] (aI z :: st) h = X mX5_better 7 [v0, v1, aI y, aI z] st h := X_of dX5_better_6 rfl
theorem x_X5_better_7 {v0 v1 v2 : AV} {z : Int} {st : List AV} {h : AH} : X mX5_better 7 [v0, v1, v2, aI z] st h = X mX5_better 8 [v0, v1, v2, aI z] (aI z :: st) h := X_of dX5_better_7 rfl
theorem x_X5_better_8 {a : Int} {al st : List AV} {h : AH} : X mX5_better 8 al (aI a :: st) h = if 0 ≤ a then X mX5_better 13 al st h else X mX5_better 11 al st h := x_ge0 dX5_better_8 rfl
theorem x_X5_better_11 {v0 v1 v2 : AV} {z : Int} {st : List AV} {h : AH} : X mX5_better 11 [v0, v1, v2, aI z] st h = X mX5_better 12 [v0, v1, v2, aI z] (aI z :: st) h := X_of dX5_better_11 rfl
theorem x_X5_better_12 {z : Int} {al : List AV} {h : AH} : X mX5_better 12 al [aI z] h = some (some (aI z), h) := X_ofR dX5_better_12 rfl
theorem x_X5_better_13 {v1 v2 v3 : AV} {z : Option Nat} {st : List AV} {h : AH} : X mX5_better 13 [aR z, v1, v2, v3] st h = X mX5_better 14 [aR z, v1, v2, v3] (aR z :: st) h := X_of dX5_better_13 rfl
theorem x_X5_better_14 {v0 v2 v3 : AV} {z : Int} {st : List AV} {h : AH} : X mX5_better 14 [v0, aI z, v2, v3] st h = X mX5_better 15 [v0, aI z, v2, v3] (aI z :: st) h := X_of dX5_better_14 rfl
theorem x_X5_better_15 {v0 v1 v3 : AV} {z : Int} {st : List AV} {h : AH} : X mX5_better 15 [v0, v1, aI z, v3] st h = X mX5_better 16 [v0, v1, aI z, v3] (aI z :: st) h := X_of dX5_better_15 rfl
theorem x_X5_better_16 {a0 : Nat} {a1 : Int} {a2 : Int} {al : List AV} {h : AH} (ho : isO h 5 a0 = true) : X mX5_better 16 al [aI a2, aI a1, aR (some a0)] h = cK (E mX5_worthOf [aR (some a0), aI a1, aI a2] h) fun v h2 => X mX5_better 19 al (v.toList ++ []) h2 := x_cal (as := [aR (some a0), aI a1, aI a2]) (rest := []) dX5_better_16 (fun _ => rfl) cT_5_175 rfl rfl ho
theorem x_X5_better_19 {v1 v2 v3 : AV} {z : Option Nat} {st : List AV} {h : AH} : X mX5_better 19 [aR z, v1, v2, v3] st h = X mX5_better 20 [aR z, v1, v2, v3] (aR z :: st) h := X_of dX5_better_19 rfl
theorem x_X5_better_20 {v1 v2 v3 : AV} {z : Option Nat} {st : List AV} {h : AH} : X mX5_better 20 [aR z, v1, v2, v3] st h = X mX5_better 21 [aR z, v1, v2, v3] (aR z :: st) h := X_of dX5_better_20 rfl
theorem x_X5_better_21 {a : Nat} {al st : List AV} {h : AH} : X mX5_better 21 al (aR (some a) :: st) h = gK (rd h 5 a 17) fun v => X mX5_better 24 al (v :: st) h := x_get dX5_better_21 fT_5_140
theorem x_X5_better_24 {v1 v2 v3 : AV} {z : Option Nat} {st : List AV} {h : AH} : X mX5_better 24 [aR z, v1, v2, v3] st h = X mX5_better 25 [aR z, v1, v2, v3] (aR z :: st) h := X_of dX5_better_24 rfl
theorem x_X5_better_25 {a : Nat} {al st : List AV} {h : AH} : X mX5_better 25 al (aR (some a) :: st) h = gK (rd h 5 a 18) fun v => X mX5_better 28 al (v :: st) h := x_get dX5_better_25 fT_5_143
theorem x_X5_better_28 {v1 v2 v3 : AV} {z : Option Nat} {st : List AV} {h : AH} : X mX5_better 28 [aR z, v1, v2, v3] st h = X mX5_better 29 [aR z, v1, v2, v3] (aR z :: st) h := X_of dX5_better_28 rfl
theorem x_X5_better_29 {a : Nat} {al st : List AV} {h : AH} : X mX5_better 29 al (aR (some a) :: st) h = gK (rd h 5 a 14) fun v => X mX5_better 32 al (v :: st) h := x_get dX5_better_29 fT_5_35
theorem x_X5_better_32 {al st : List AV} {h : AH} : X mX5_better 32 al st h = X mX5_better 33 al (aI 5 :: st) h := X_of dX5_better_32 rfl
theorem x_X5_better_33 {v0 v2 v3 : AV} {z : Int} {st : List AV} {h : AH} : X mX5_better 33 [v0, aI z, v2, v3] st h = X mX5_better 34 [v0, aI z, v2, v3] (aI z :: st) h := X_of dX5_better_33 rfl
theorem x_X5_better_34 {a b : Int} {al st : List AV} {h : AH} : X mX5_better 34 al (aI b :: aI a :: st) h = X mX5_better 35 al (aI (w32 (a * b)) :: st) h := X_of dX5_better_34 rfl
theorem x_X5_better_35 {v0 v1 v3 : AV} {z : Int} {st : List AV} {h : AH} : X mX5_better 35 [v0, v1, aI z, v3] st h = X mX5_better 36 [v0, v1, aI z, v3] (aI z :: st) h := X_of dX5_better_35 rfl
theorem x_X5_better_36 {a b : Int} {al st : List AV} {h : AH} : X mX5_better 36 al (aI b :: aI a :: st) h = X mX5_better 37 al (aI (w32 (a + b)) :: st) h := X_of dX5_better_36 rfl
theorem x_X5_better_37 {a : Nat} {i : Int} {al st : List AV} {h : AH} : X mX5_better 37 al (aI i :: aR (some a) :: st) h = if 0 ≤ i then gK (rd h 10 a i.toNat) (fun v => X mX5_better 38 al (v :: st) h) else none := x_aldI dX5_better_37
theorem x_X5_better_38 {a : Int} {al st : List AV} {h : AH} : X mX5_better 38 al (aI a :: st) h = X mX5_better 39 al (aJ a :: st) h := X_of dX5_better_38 rfl
theorem x_X5_better_39 {a b : Int} {al st : List AV} {h : AH} : X mX5_better 39 al (aJ b :: aJ a :: st) h = X mX5_better 40 al (aJ (w64 (a * b)) :: st) h := X_of dX5_better_39 rfl
theorem x_X5_better_40 {a b : Int} {al st : List AV} {h : AH} : X mX5_better 40 al (aJ b :: aJ a :: st) h = X mX5_better 41 al (aJ (w64 (a - b)) :: st) h := X_of dX5_better_40 rfl
theorem x_X5_better_41 {v1 v2 v3 : AV} {z : Option Nat} {st : List AV} {h : AH} : X mX5_better 41 [aR z, v1, v2, v3] st h = X mX5_better 42 [aR z, v1, v2, v3] (aR z :: st) h := X_of dX5_better_41 rfl
theorem x_X5_better_42 {a : Nat} {al st : List AV} {h : AH} : X mX5_better 42 al (aR (some a) :: st) h = gK (rd h 5 a 18) fun v => X mX5_better 45 al (v :: st) h := x_get dX5_better_42 fT_5_143
theorem x_X5_better_45 {a0 : Nat} {a1 : Int} {a2 : Int} {al : List AV} {h : AH} (ho : isO h 5 a0 = true) : X mX5_better 45 al [aJ a2, aJ a1, aR (some a0)] h = cK (E mX5_fraction [aR (some a0), aJ a1, aJ a2] h) fun v h2 => X mX5_better 48 al (v.toList ++ []) h2 := x_cal (as := [aR (some a0), aJ a1, aJ a2]) (rest := []) dX5_better_45 (fun _ => rfl) cT_5_160 rfl rfl ho
theorem x_X5_better_48 {v1 v2 v3 : AV} {z : Option Nat} {st : List AV} {h : AH} : X mX5_better 48 [aR z, v1, v2, v3] st h = X mX5_better 49 [aR z, v1, v2, v3] (aR z :: st) h := X_of dX5_better_48 rfl
theorem x_X5_better_49 {a0 : Nat} {al : List AV} {h : AH} (ho : isO h 5 a0 = true) : X mX5_better 49 al [aR (some a0)] h = cK (E mX5_tells [aR (some a0)] h) fun v h2 => X mX5_better 52 al (v.toList ++ []) h2 := x_cal (as := [aR (some a0)]) (rest := []) dX5_better_49 (fun _ => rfl) cT_5_179 rfl rfl ho
theorem x_X5_better_52 {z : Int} {al : List AV} {h : AH} : X mX5_better 52 al [aI z] h = some (some (aI z), h) := X_ofR dX5_better_52 rfl
theorem e_X5_mean {p0 : Option Nat} {p1 : Int} {p2 : Int} {h : AH} : E mX5_mean [aR p0, aI p1, aI p2] h = X mX5_mean 0 [aR p0, aI p1, aI p2, aU, aU, aU, aU] [] h := rfl
theorem x_X5_mean_0 {v1 v2 v3 v4 v5 v6 : AV} {z : Option Nat} {st : List AV} {h : AH} : X mX5_mean 0 [aR z, v1, v2, v3, v4, v5, v6] st h = X mX5_mean 1 [aR z, v1, v2, v3, v4, v5, v6] (aR z :: st) h := X_of dX5_mean_0 rfl
theorem x_X5_mean_1 {v0 v2 v3 v4 v5 v6 : AV} {z : Int} {st : List AV} {h : AH} : X mX5_mean 1 [v0, aI z, v2, v3, v4, v5, v6] st h = X mX5_mean 2 [v0, aI z, v2, v3, v4, v5, v6] (aI z :: st) h := X_of dX5_mean_1 rfl
theorem x_X5_mean_2 {v0 v1 v3 v4 v5 v6 : AV} {z : Int} {st : List AV} {h : AH} : X mX5_mean 2 [v0, v1, aI z, v3, v4, v5, v6] st h = X mX5_mean 3 [v0, v1, aI z, v3, v4, v5, v6] (aI z :: st) h := X_of dX5_mean_2 rfl
theorem x_X5_mean_3 {a0 : Nat} {a1 : Int} {a2 : Int} {al : List AV} {h : AH} (ho : isO h 5 a0 = true) : X mX5_mean 3 al [aI a2, aI a1, aR (some a0)] h = cK (E mX5_need [aR (some a0), aI a1, aI a2] h) fun v h2 => X mX5_mean 6 al (v.toList ++ []) h2 := x_cal (as := [aR (some a0), aI a1, aI a2]) (rest := []) dX5_mean_3 (fun _ => rfl) cT_5_172 rfl rfl ho
theorem x_X5_mean_6 {v0 v1 v3 v4 v5 v6 : AV} {y : Int} {z : Int} {st : List AV} {h : AH} : X mX5_mean 6 [v0, v1, aI y, v3, v4, v5, v6] (aI z :: st) h = X mX5_mean 7 [v0, v1, aI y, aI z, v4, v5, v6] st h := X_of dX5_mean_6 rfl
theorem x_X5_mean_7 {v0 v1 v2 v4 v5 v6 : AV} {z : Int} {st : List AV} {h : AH} : X mX5_mean 7 [v0, v1, v2, aI z, v4, v5, v6] st h = X mX5_mean 8 [v0, v1, v2, aI z, v4, v5, v6] (aI z :: st) h := X_of dX5_mean_7 rfl
theorem x_X5_mean_8 {a : Int} {al st : List AV} {h : AH} : X mX5_mean 8 al (aI a :: st) h = if 0 ≤ a then X mX5_mean 13 al st h else X mX5_mean 11 al st h := x_ge0 dX5_mean_8 rfl
theorem x_X5_mean_11 {v0 v1 v2 v4 v5 v6 : AV} {z : Int} {st : List AV} {h : AH} : X mX5_mean 11 [v0, v1, v2, aI z, v4, v5, v6] st h = X mX5_mean 12 [v0, v1, v2, aI z, v4, v5, v6] (aI z :: st) h := X_of dX5_mean_11 rfl
theorem x_X5_mean_12 {z : Int} {al : List AV} {h : AH} : X mX5_mean 12 al [aI z] h = some (some (aI z), h) := X_ofR dX5_mean_12 rfl
theorem x_X5_mean_13 {al st : List AV} {h : AH} : X mX5_mean 13 al st h = X mX5_mean 14 al (aJ 0 :: st) h := X_of dX5_mean_13 rfl
theorem x_X5_mean_14 {v0 v1 v2 v4 v5 v6 : AV} {y : Int} {z : Int} {st : List AV} {h : AH} : X mX5_mean 14 [v0, v1, v2, aI y, v4, v5, v6] (aJ z :: st) h = X mX5_mean 16 [v0, v1, v2, aI y, aJ z, aU, v6] st h := X_of dX5_mean_14 rfl
theorem x_X5_mean_16 {al st : List AV} {h : AH} : X mX5_mean 16 al st h = X mX5_mean 17 al (aI 0 :: st) h := X_of dX5_mean_16 rfl
theorem x_X5_mean_17 {v0 v1 v2 v3 v4 v6 : AV} {z : Int} {st : List AV} {h : AH} : X mX5_mean 17 [v0, v1, v2, v3, v4, aU, v6] (aI z :: st) h = X mX5_mean 19 [v0, v1, v2, v3, v4, aU, aI z] st h := X_of dX5_mean_17 rfl
theorem x_X5_mean_19 {v0 v1 v2 v3 v4 v5 : AV} {z : Int} {st : List AV} {h : AH} : X mX5_mean 19 [v0, v1, v2, v3, v4, v5, aI z] st h = X mX5_mean 21 [v0, v1, v2, v3, v4, v5, aI z] (aI z :: st) h := X_of dX5_mean_19 rfl
theorem x_X5_mean_21 {v1 v2 v3 v4 v5 v6 : AV} {z : Option Nat} {st : List AV} {h : AH} : X mX5_mean 21 [aR z, v1, v2, v3, v4, v5, v6] st h = X mX5_mean 22 [aR z, v1, v2, v3, v4, v5, v6] (aR z :: st) h := X_of dX5_mean_21 rfl
theorem x_X5_mean_22 {a : Nat} {al st : List AV} {h : AH} : X mX5_mean 22 al (aR (some a) :: st) h = gK (rd h 5 a 12) fun v => X mX5_mean 25 al (v :: st) h := x_get dX5_mean_22 fT_5_29
theorem x_X5_mean_25 {v0 v2 v3 v4 v5 v6 : AV} {z : Int} {st : List AV} {h : AH} : X mX5_mean 25 [v0, aI z, v2, v3, v4, v5, v6] st h = X mX5_mean 26 [v0, aI z, v2, v3, v4, v5, v6] (aI z :: st) h := X_of dX5_mean_25 rfl
theorem x_X5_mean_26 {a : Nat} {i : Int} {al st : List AV} {h : AH} : X mX5_mean 26 al (aI i :: aR (some a) :: st) h = if 0 ≤ i then gK (rd h 10 a i.toNat) (fun v => X mX5_mean 27 al (v :: st) h) else none := x_aldI dX5_mean_26
theorem x_X5_mean_27 {a b : Int} {al st : List AV} {h : AH} : X mX5_mean 27 al (aI b :: aI a :: st) h = if b ≤ a then X mX5_mean 71 al st h else X mX5_mean 30 al st h := x_geC dX5_mean_27 rfl
theorem x_X5_mean_30 {v0 v1 v2 v3 v5 v6 : AV} {z : Int} {st : List AV} {h : AH} : X mX5_mean 30 [v0, v1, v2, v3, aJ z, v5, v6] st h = X mX5_mean 32 [v0, v1, v2, v3, aJ z, v5, v6] (aJ z :: st) h := X_of dX5_mean_30 rfl
theorem x_X5_mean_32 {v1 v2 v3 v4 v5 v6 : AV} {z : Option Nat} {st : List AV} {h : AH} : X mX5_mean 32 [aR z, v1, v2, v3, v4, v5, v6] st h = X mX5_mean 33 [aR z, v1, v2, v3, v4, v5, v6] (aR z :: st) h := X_of dX5_mean_32 rfl
theorem x_X5_mean_33 {a : Nat} {al st : List AV} {h : AH} : X mX5_mean 33 al (aR (some a) :: st) h = gK (rd h 5 a 15) fun v => X mX5_mean 36 al (v :: st) h := x_get dX5_mean_33 fT_5_38
theorem x_X5_mean_36 {al st : List AV} {h : AH} : X mX5_mean 36 al st h = X mX5_mean 38 al (aI 25 :: st) h := X_of dX5_mean_36 rfl
theorem x_X5_mean_38 {v0 v2 v3 v4 v5 v6 : AV} {z : Int} {st : List AV} {h : AH} : X mX5_mean 38 [v0, aI z, v2, v3, v4, v5, v6] st h = X mX5_mean 39 [v0, aI z, v2, v3, v4, v5, v6] (aI z :: st) h := X_of dX5_mean_38 rfl
theorem x_X5_mean_39 {a b : Int} {al st : List AV} {h : AH} : X mX5_mean 39 al (aI b :: aI a :: st) h = X mX5_mean 40 al (aI (w32 (a * b)) :: st) h := X_of dX5_mean_39 rfl
theorem x_X5_mean_40 {al st : List AV} {h : AH} : X mX5_mean 40 al st h = X mX5_mean 41 al (aI 5 :: st) h := X_of dX5_mean_40 rfl
theorem x_X5_mean_41 {v0 v1 v3 v4 v5 v6 : AV} {z : Int} {st : List AV} {h : AH} : X mX5_mean 41 [v0, v1, aI z, v3, v4, v5, v6] st h = X mX5_mean 42 [v0, v1, aI z, v3, v4, v5, v6] (aI z :: st) h := X_of dX5_mean_41 rfl
theorem x_X5_mean_42 {a b : Int} {al st : List AV} {h : AH} : X mX5_mean 42 al (aI b :: aI a :: st) h = X mX5_mean 43 al (aI (w32 (a * b)) :: st) h := X_of dX5_mean_42 rfl
theorem x_X5_mean_43 {a b : Int} {al st : List AV} {h : AH} : X mX5_mean 43 al (aI b :: aI a :: st) h = X mX5_mean 44 al (aI (w32 (a + b)) :: st) h := X_of dX5_mean_43 rfl
theorem x_X5_mean_44 {v0 v1 v2 v3 v4 v5 : AV} {z : Int} {st : List AV} {h : AH} : X mX5_mean 44 [v0, v1, v2, v3, v4, v5, aI z] st h = X mX5_mean 46 [v0, v1, v2, v3, v4, v5, aI z] (aI z :: st) h := X_of dX5_mean_44 rfl
theorem x_X5_mean_46 {a b : Int} {al st : List AV} {h : AH} : X mX5_mean 46 al (aI b :: aI a :: st) h = X mX5_mean 47 al (aI (w32 (a + b)) :: st) h := X_of dX5_mean_46 rfl
theorem x_X5_mean_47 {a : Nat} {i : Int} {al st : List AV} {h : AH} : X mX5_mean 47 al (aI i :: aR (some a) :: st) h = if 0 ≤ i then gK (rd h 10 a i.toNat) (fun v => X mX5_mean 48 al (v :: st) h) else none := x_aldI dX5_mean_47
theorem x_X5_mean_48 {a : Int} {al st : List AV} {h : AH} : X mX5_mean 48 al (aI a :: st) h = X mX5_mean 49 al (aJ a :: st) h := X_of dX5_mean_48 rfl
theorem x_X5_mean_49 {v1 v2 v3 v4 v5 v6 : AV} {z : Option Nat} {st : List AV} {h : AH} : X mX5_mean 49 [aR z, v1, v2, v3, v4, v5, v6] st h = X mX5_mean 50 [aR z, v1, v2, v3, v4, v5, v6] (aR z :: st) h := X_of dX5_mean_49 rfl
theorem x_X5_mean_50 {a : Nat} {al st : List AV} {h : AH} : X mX5_mean 50 al (aR (some a) :: st) h = gK (rd h 5 a 14) fun v => X mX5_mean 53 al (v :: st) h := x_get dX5_mean_50 fT_5_35
theorem x_X5_mean_53 {al st : List AV} {h : AH} : X mX5_mean 53 al st h = X mX5_mean 54 al (aI 5 :: st) h := X_of dX5_mean_53 rfl
theorem x_X5_mean_54 {v0 v2 v3 v4 v5 v6 : AV} {z : Int} {st : List AV} {h : AH} : X mX5_mean 54 [v0, aI z, v2, v3, v4, v5, v6] st h = X mX5_mean 55 [v0, aI z, v2, v3, v4, v5, v6] (aI z :: st) h := X_of dX5_mean_54 rfl
theorem x_X5_mean_55 {a b : Int} {al st : List AV} {h : AH} : X mX5_mean 55 al (aI b :: aI a :: st) h = X mX5_mean 56 al (aI (w32 (a * b)) :: st) h := X_of dX5_mean_55 rfl
theorem x_X5_mean_56 {v0 v1 v2 v3 v4 v5 : AV} {z : Int} {st : List AV} {h : AH} : X mX5_mean 56 [v0, v1, v2, v3, v4, v5, aI z] st h = X mX5_mean 58 [v0, v1, v2, v3, v4, v5, aI z] (aI z :: st) h := X_of dX5_mean_56 rfl
theorem x_X5_mean_58 {a b : Int} {al st : List AV} {h : AH} : X mX5_mean 58 al (aI b :: aI a :: st) h = X mX5_mean 59 al (aI (w32 (a + b)) :: st) h := X_of dX5_mean_58 rfl
theorem x_X5_mean_59 {a : Nat} {i : Int} {al st : List AV} {h : AH} : X mX5_mean 59 al (aI i :: aR (some a) :: st) h = if 0 ≤ i then gK (rd h 10 a i.toNat) (fun v => X mX5_mean 60 al (v :: st) h) else none := x_aldI dX5_mean_59
theorem x_X5_mean_60 {a : Int} {al st : List AV} {h : AH} : X mX5_mean 60 al (aI a :: st) h = X mX5_mean 61 al (aJ a :: st) h := X_of dX5_mean_60 rfl
theorem x_X5_mean_61 {a b : Int} {al st : List AV} {h : AH} : X mX5_mean 61 al (aJ b :: aJ a :: st) h = X mX5_mean 62 al (aJ (w64 (a * b)) :: st) h := X_of dX5_mean_61 rfl
theorem x_X5_mean_62 {a b : Int} {al st : List AV} {h : AH} : X mX5_mean 62 al (aJ b :: aJ a :: st) h = X mX5_mean 63 al (aJ (w64 (a + b)) :: st) h := X_of dX5_mean_62 rfl
theorem x_X5_mean_63 {v0 v1 v2 v4 v5 v6 : AV} {y : Int} {z : Int} {st : List AV} {h : AH} : X mX5_mean 63 [v0, v1, v2, aI y, v4, v5, v6] (aJ z :: st) h = X mX5_mean 65 [v0, v1, v2, aI y, aJ z, aU, v6] st h := X_of dX5_mean_63 rfl
theorem x_X5_mean_65 {v0 v1 v2 v3 v4 : AV} {z : Int} {st : List AV} {h : AH} : X mX5_mean 65 [v0, v1, v2, v3, v4, aU, aI z] st h = X mX5_mean 68 [v0, v1, v2, v3, v4, aU, aI (w32 (z + 1))] st h := X_of dX5_mean_65 rfl
theorem x_X5_mean_68 {al st : List AV} {h : AH} : X mX5_mean 68 al st h = X mX5_mean 19 al st h := X_of dX5_mean_68 rfl
theorem x_X5_mean_71 {v1 v2 v3 v4 v5 v6 : AV} {z : Option Nat} {st : List AV} {h : AH} : X mX5_mean 71 [aR z, v1, v2, v3, v4, v5, v6] st h = X mX5_mean 72 [aR z, v1, v2, v3, v4, v5, v6] (aR z :: st) h := X_of dX5_mean_71 rfl
theorem x_X5_mean_72 {v0 v1 v2 v3 v5 v6 : AV} {z : Int} {st : List AV} {h : AH} : X mX5_mean 72 [v0, v1, v2, v3, aJ z, v5, v6] st h = X mX5_mean 74 [v0, v1, v2, v3, aJ z, v5, v6] (aJ z :: st) h := X_of dX5_mean_72 rfl
theorem x_X5_mean_74 {v1 v2 v3 v4 v5 v6 : AV} {z : Option Nat} {st : List AV} {h : AH} : X mX5_mean 74 [aR z, v1, v2, v3, v4, v5, v6] st h = X mX5_mean 75 [aR z, v1, v2, v3, v4, v5, v6] (aR z :: st) h := X_of dX5_mean_74 rfl
theorem x_X5_mean_75 {v0 v2 v3 v4 v5 v6 : AV} {z : Int} {st : List AV} {h : AH} : X mX5_mean 75 [v0, aI z, v2, v3, v4, v5, v6] st h = X mX5_mean 76 [v0, aI z, v2, v3, v4, v5, v6] (aI z :: st) h := X_of dX5_mean_75 rfl
theorem x_X5_mean_76 {v0 v1 v3 v4 v5 v6 : AV} {z : Int} {st : List AV} {h : AH} : X mX5_mean 76 [v0, v1, aI z, v3, v4, v5, v6] st h = X mX5_mean 77 [v0, v1, aI z, v3, v4, v5, v6] (aI z :: st) h := X_of dX5_mean_76 rfl
theorem x_X5_mean_77 {a0 : Nat} {a1 : Int} {a2 : Int} {r0 : Int} {r1 : Option Nat} {al : List AV} {h : AH} (ho : isO h 5 a0 = true) : X mX5_mean 77 al [aI a2, aI a1, aR (some a0), aJ r0, aR r1] h = cK (E mX5_sum [aR (some a0), aI a1, aI a2] h) fun v h2 => X mX5_mean 80 al (v.toList ++ [aJ r0, aR r1]) h2 := x_cal (as := [aR (some a0), aI a1, aI a2]) (rest := [aJ r0, aR r1]) dX5_mean_77 (fun _ => rfl) cT_5_133 rfl rfl ho
theorem x_X5_mean_80 {a : Int} {al st : List AV} {h : AH} : X mX5_mean 80 al (aI a :: st) h = X mX5_mean 81 al (aJ a :: st) h := X_of dX5_mean_80 rfl
theorem x_X5_mean_81 {a0 : Nat} {a1 : Int} {a2 : Int} {al : List AV} {h : AH} (ho : isO h 5 a0 = true) : X mX5_mean 81 al [aJ a2, aJ a1, aR (some a0)] h = cK (E mX5_fraction [aR (some a0), aJ a1, aJ a2] h) fun v h2 => X mX5_mean 84 al (v.toList ++ []) h2 := x_cal (as := [aR (some a0), aJ a1, aJ a2]) (rest := []) dX5_mean_81 (fun _ => rfl) cT_5_160 rfl rfl ho
theorem x_X5_mean_84 {v1 v2 v3 v4 v5 v6 : AV} {z : Option Nat} {st : List AV} {h : AH} : X mX5_mean 84 [aR z, v1, v2, v3, v4, v5, v6] st h = X mX5_mean 85 [aR z, v1, v2, v3, v4, v5, v6] (aR z :: st) h := X_of dX5_mean_84 rfl
theorem x_X5_mean_85 {a0 : Nat} {al : List AV} {h : AH} (ho : isO h 5 a0 = true) : X mX5_mean 85 al [aR (some a0)] h = cK (E mX5_tells [aR (some a0)] h) fun v h2 => X mX5_mean 88 al (v.toList ++ []) h2 := x_cal (as := [aR (some a0)]) (rest := []) dX5_mean_85 (fun _ => rfl) cT_5_179 rfl rfl ho
theorem x_X5_mean_88 {z : Int} {al : List AV} {h : AH} : X mX5_mean 88 al [aI z] h = some (some (aI z), h) := X_ofR dX5_mean_88 rfl
theorem e_X5_row {p0 : Option Nat} {p1 : Int} {p2 : Int} {h : AH} : E mX5_row [aR p0, aI p1, aI p2] h = X mX5_row 0 [aR p0, aI p1, aI p2, aU, aU, aU, aU, aU, aU, aU] [] h := rfl
theorem x_X5_row_0 {v1 v2 v3 v4 v5 v6 v7 v8 v9 : AV} {z : Option Nat} {st : List AV} {h : AH} : X mX5_row 0 [aR z, v1, v2, v3, v4, v5, v6, v7, v8, v9] st h = X mX5_row 1 [aR z, v1, v2, v3, v4, v5, v6, v7, v8, v9] (aR z :: st) h := X_of dX5_row_0 rfl
theorem x_X5_row_1 {v0 v2 v3 v4 v5 v6 v7 v8 v9 : AV} {z : Int} {st : List AV} {h : AH} : X mX5_row 1 [v0, aI z, v2, v3, v4, v5, v6, v7, v8, v9] st h = X mX5_row 2 [v0, aI z, v2, v3, v4, v5, v6, v7, v8, v9] (aI z :: st) h := X_of dX5_row_1 rfl
theorem x_X5_row_2 {a0 : Nat} {a1 : Int} {al : List AV} {h : AH} (ho : isO h 5 a0 = true) : X mX5_row 2 al [aI a1, aR (some a0)] h = cK (E mX5_isMachine [aR (some a0), aI a1] h) fun v h2 => X mX5_row 5 al (v.toList ++ []) h2 := x_cal (as := [aR (some a0), aI a1]) (rest := []) dX5_row_2 (fun _ => rfl) cT_5_114 rfl rfl ho
theorem x_X5_row_5 {a : Int} {al st : List AV} {h : AH} : X mX5_row 5 al (aI a :: st) h = if ¬ a = 0 then X mX5_row 10 al st h else X mX5_row 8 al st h := x_ne0 dX5_row_5 rfl
theorem x_X5_row_8 {al st : List AV} {h : AH} : X mX5_row 8 al st h = X mX5_row 9 al (aI (-1) :: st) h := X_of dX5_row_8 rfl
theorem x_X5_row_9 {z : Int} {al : List AV} {h : AH} : X mX5_row 9 al [aI z] h = some (some (aI z), h) := X_ofR dX5_row_9 rfl
theorem x_X5_row_10 {v1 v2 v3 v4 v5 v6 v7 v8 v9 : AV} {z : Option Nat} {st : List AV} {h : AH} : X mX5_row 10 [aR z, v1, v2, v3, v4, v5, v6, v7, v8, v9] st h = X mX5_row 11 [aR z, v1, v2, v3, v4, v5, v6, v7, v8, v9] (aR z :: st) h := X_of dX5_row_10 rfl
theorem x_X5_row_11 {v0 v2 v3 v4 v5 v6 v7 v8 v9 : AV} {z : Int} {st : List AV} {h : AH} : X mX5_row 11 [v0, aI z, v2, v3, v4, v5, v6, v7, v8, v9] st h = X mX5_row 12 [v0, aI z, v2, v3, v4, v5, v6, v7, v8, v9] (aI z :: st) h := X_of dX5_row_11 rfl
theorem x_X5_row_12 {a0 : Nat} {a1 : Int} {al : List AV} {h : AH} (ho : isO h 5 a0 = true) : X mX5_row 12 al [aI a1, aR (some a0)] h = cK (E mX5_isAgeing [aR (some a0), aI a1] h) fun v h2 => X mX5_row 15 al (v.toList ++ []) h2 := x_cal (as := [aR (some a0), aI a1]) (rest := []) dX5_row_12 (fun _ => rfl) cT_5_130 rfl rfl ho
theorem x_X5_row_15 {a : Int} {al st : List AV} {h : AH} : X mX5_row 15 al (aI a :: st) h = if ¬ a = 0 then X mX5_row 24 al st h else X mX5_row 18 al st h := x_ne0 dX5_row_15 rfl
theorem x_X5_row_18 {v1 v2 v3 v4 v5 v6 v7 v8 v9 : AV} {z : Option Nat} {st : List AV} {h : AH} : X mX5_row 18 [aR z, v1, v2, v3, v4, v5, v6, v7, v8, v9] st h = X mX5_row 19 [aR z, v1, v2, v3, v4, v5, v6, v7, v8, v9] (aR z :: st) h := X_of dX5_row_18 rfl
theorem x_X5_row_19 {al st : List AV} {h : AH} : X mX5_row 19 al st h = X mX5_row 20 al (aI 3 :: st) h := X_of dX5_row_19 rfl
theorem x_X5_row_20 {a0 : Nat} {a1 : Int} {al : List AV} {h : AH} (ho : isO h 5 a0 = true) : X mX5_row 20 al [aI a1, aR (some a0)] h = cK (E mX5_meets [aR (some a0), aI a1] h) fun v h2 => X mX5_row 23 al (v.toList ++ []) h2 := x_cal (as := [aR (some a0), aI a1]) (rest := []) dX5_row_20 (fun _ => rfl) cT_5_96 rfl rfl ho
theorem x_X5_row_23 {z : Int} {al : List AV} {h : AH} : X mX5_row 23 al [aI z] h = some (some (aI z), h) := X_ofR dX5_row_23 rfl
theorem x_X5_row_24 {v1 v2 v3 v4 v5 v6 v7 v8 v9 : AV} {z : Option Nat} {st : List AV} {h : AH} : X mX5_row 24 [aR z, v1, v2, v3, v4, v5, v6, v7, v8, v9] st h = X mX5_row 25 [aR z, v1, v2, v3, v4, v5, v6, v7, v8, v9] (aR z :: st) h := X_of dX5_row_24 rfl
theorem x_X5_row_25 {v0 v2 v3 v4 v5 v6 v7 v8 v9 : AV} {z : Int} {st : List AV} {h : AH} : X mX5_row 25 [v0, aI z, v2, v3, v4, v5, v6, v7, v8, v9] st h = X mX5_row 26 [v0, aI z, v2, v3, v4, v5, v6, v7, v8, v9] (aI z :: st) h := X_of dX5_row_25 rfl
theorem x_X5_row_26 {v0 v1 v3 v4 v5 v6 v7 v8 v9 : AV} {z : Int} {st : List AV} {h : AH} : X mX5_row 26 [v0, v1, aI z, v3, v4, v5, v6, v7, v8, v9] st h = X mX5_row 27 [v0, v1, aI z, v3, v4, v5, v6, v7, v8, v9] (aI z :: st) h := X_of dX5_row_26 rfl
theorem x_X5_row_27 {a0 : Nat} {a1 : Int} {a2 : Int} {al : List AV} {h : AH} (ho : isO h 5 a0 = true) : X mX5_row 27 al [aI a2, aI a1, aR (some a0)] h = cK (E mX5_isState [aR (some a0), aI a1, aI a2] h) fun v h2 => X mX5_row 30 al (v.toList ++ []) h2 := x_cal (as := [aR (some a0), aI a1, aI a2]) (rest := []) dX5_row_27 (fun _ => rfl) cT_5_121 rfl rfl ho
theorem x_X5_row_30 {a : Int} {al st : List AV} {h : AH} : X mX5_row 30 al (aI a :: st) h = if ¬ a = 0 then X mX5_row 39 al st h else X mX5_row 33 al st h := x_ne0 dX5_row_30 rfl
theorem x_X5_row_33 {v1 v2 v3 v4 v5 v6 v7 v8 v9 : AV} {z : Option Nat} {st : List AV} {h : AH} : X mX5_row 33 [aR z, v1, v2, v3, v4, v5, v6, v7, v8, v9] st h = X mX5_row 34 [aR z, v1, v2, v3, v4, v5, v6, v7, v8, v9] (aR z :: st) h := X_of dX5_row_33 rfl
theorem x_X5_row_34 {al st : List AV} {h : AH} : X mX5_row 34 al st h = X mX5_row 35 al (aI 2 :: st) h := X_of dX5_row_34 rfl
theorem x_X5_row_35 {a0 : Nat} {a1 : Int} {al : List AV} {h : AH} (ho : isO h 5 a0 = true) : X mX5_row 35 al [aI a1, aR (some a0)] h = cK (E mX5_meets [aR (some a0), aI a1] h) fun v h2 => X mX5_row 38 al (v.toList ++ []) h2 := x_cal (as := [aR (some a0), aI a1]) (rest := []) dX5_row_35 (fun _ => rfl) cT_5_96 rfl rfl ho
theorem x_X5_row_38 {z : Int} {al : List AV} {h : AH} : X mX5_row 38 al [aI z] h = some (some (aI z), h) := X_ofR dX5_row_38 rfl
theorem x_X5_row_39 {al st : List AV} {h : AH} : X mX5_row 39 al st h = X mX5_row 40 al (aI 0 :: st) h := X_of dX5_row_39 rfl
theorem x_X5_row_40 {v0 v1 v3 v4 v5 v6 v7 v8 v9 : AV} {y : Int} {z : Int} {st : List AV} {h : AH} : X mX5_row 40 [v0, v1, aI y, v3, v4, v5, v6, v7, v8, v9] (aI z :: st) h = X mX5_row 41 [v0, v1, aI y, aI z, v4, v5, v6, v7, v8, v9] st h := X_of dX5_row_40 rfl
theorem x_X5_row_41 {al st : List AV} {h : AH} : X mX5_row 41 al st h = X mX5_row 42 al (aJ 0 :: st) h := X_of dX5_row_41 rfl
theorem x_X5_row_42 {v0 v1 v2 v4 v5 v6 v7 v8 v9 : AV} {y : Int} {z : Int} {st : List AV} {h : AH} : X mX5_row 42 [v0, v1, v2, aI y, v4, v5, v6, v7, v8, v9] (aJ z :: st) h = X mX5_row 44 [v0, v1, v2, aI y, aJ z, aU, v6, v7, v8, v9] st h := X_of dX5_row_42 rfl
theorem x_X5_row_44 {al st : List AV} {h : AH} : X mX5_row 44 al st h = X mX5_row 45 al (aJ 1 :: st) h := X_of dX5_row_44 rfl
theorem x_X5_row_45 {v0 v1 v2 v3 v4 v6 v7 v8 v9 : AV} {z : Int} {st : List AV} {h : AH} : X mX5_row 45 [v0, v1, v2, v3, v4, aU, v6, v7, v8, v9] (aJ z :: st) h = X mX5_row 47 [v0, v1, v2, v3, v4, aU, aJ z, aU, v8, v9] st h := X_of dX5_row_45 rfl
theorem x_X5_row_47 {al st : List AV} {h : AH} : X mX5_row 47 al st h = X mX5_row 48 al (aI 0 :: st) h := X_of dX5_row_47 rfl
theorem x_X5_row_48 {v0 v1 v2 v3 v4 v5 v6 v8 v9 : AV} {z : Int} {st : List AV} {h : AH} : X mX5_row 48 [v0, v1, v2, v3, v4, v5, v6, aU, v8, v9] (aI z :: st) h = X mX5_row 50 [v0, v1, v2, v3, v4, v5, v6, aU, aI z, v9] st h := X_of dX5_row_48 rfl
theorem x_X5_row_50 {al st : List AV} {h : AH} : X mX5_row 50 al st h = X mX5_row 51 al (aI 1 :: st) h := X_of dX5_row_50 rfl
theorem x_X5_row_51 {v0 v1 v2 v3 v4 v5 v6 v7 v9 : AV} {y : Int} {z : Int} {st : List AV} {h : AH} : X mX5_row 51 [v0, v1, v2, v3, v4, v5, v6, v7, aI y, v9] (aI z :: st) h = X mX5_row 53 [v0, v1, v2, v3, v4, v5, v6, v7, aI y, aI z] st h := X_of dX5_row_51 rfl
theorem x_X5_row_53 {v0 v1 v3 v4 v5 v6 v7 v8 v9 : AV} {z : Int} {st : List AV} {h : AH} : X mX5_row 53 [v0, v1, aI z, v3, v4, v5, v6, v7, v8, v9] st h = X mX5_row 54 [v0, v1, aI z, v3, v4, v5, v6, v7, v8, v9] (aI z :: st) h := X_of dX5_row_53 rfl
theorem x_X5_row_54 {v0 v1 v2 v3 v4 v5 v6 v7 v8 : AV} {z : Int} {st : List AV} {h : AH} : X mX5_row 54 [v0, v1, v2, v3, v4, v5, v6, v7, v8, aI z] st h = X mX5_row 56 [v0, v1, v2, v3, v4, v5, v6, v7, v8, aI z] (aI z :: st) h := X_of dX5_row_54 rfl
theorem x_X5_row_56 {a b : Int} {al st : List AV} {h : AH} : X mX5_row 56 al (aI b :: aI a :: st) h = X mX5_row 57 al (aI (w32 (a + b)) :: st) h := X_of dX5_row_56 rfl
theorem x_X5_row_57 {v1 v2 v3 v4 v5 v6 v7 v8 v9 : AV} {z : Option Nat} {st : List AV} {h : AH} : X mX5_row 57 [aR z, v1, v2, v3, v4, v5, v6, v7, v8, v9] st h = X mX5_row 58 [aR z, v1, v2, v3, v4, v5, v6, v7, v8, v9] (aR z :: st) h := X_of dX5_row_57 rfl
theorem x_X5_row_58 {a : Nat} {al st : List AV} {h : AH} : X mX5_row 58 al (aR (some a) :: st) h = gK (rd h 5 a 12) fun v => X mX5_row 61 al (v :: st) h := x_get dX5_row_58 fT_5_29
theorem x_X5_row_61 {v0 v2 v3 v4 v5 v6 v7 v8 v9 : AV} {z : Int} {st : List AV} {h : AH} : X mX5_row 61 [v0, aI z, v2, v3, v4, v5, v6, v7, v8, v9] st h = X mX5_row 62 [v0, aI z, v2, v3, v4, v5, v6, v7, v8, v9] (aI z :: st) h := X_of dX5_row_61 rfl
theorem x_X5_row_62 {a : Nat} {i : Int} {al st : List AV} {h : AH} : X mX5_row 62 al (aI i :: aR (some a) :: st) h = if 0 ≤ i then gK (rd h 10 a i.toNat) (fun v => X mX5_row 63 al (v :: st) h) else none := x_aldI dX5_row_62
theorem x_X5_row_63 {a b : Int} {al st : List AV} {h : AH} : X mX5_row 63 al (aI b :: aI a :: st) h = if b < a then X mX5_row 130 al st h else X mX5_row 66 al st h := x_gtC dX5_row_63 rfl
theorem x_X5_row_66 {v0 v1 v2 v3 v4 v5 v6 v7 v9 : AV} {z : Int} {st : List AV} {h : AH} : X mX5_row 66 [v0, v1, v2, v3, v4, v5, v6, v7, aI z, v9] st h = X mX5_row 68 [v0, v1, v2, v3, v4, v5, v6, v7, aI z, v9] (aI z :: st) h := X_of dX5_row_66 rfl
theorem x_X5_row_68 {al st : List AV} {h : AH} : X mX5_row 68 al st h = X mX5_row 69 al (aI 1 :: st) h := X_of dX5_row_68 rfl
theorem x_X5_row_69 {v0 v1 v3 v4 v5 v6 v7 v8 v9 : AV} {z : Int} {st : List AV} {h : AH} : X mX5_row 69 [v0, v1, aI z, v3, v4, v5, v6, v7, v8, v9] st h = X mX5_row 70 [v0, v1, aI z, v3, v4, v5, v6, v7, v8, v9] (aI z :: st) h := X_of dX5_row_69 rfl
theorem x_X5_row_70 {v0 v1 v2 v3 v4 v5 v6 v7 v8 : AV} {z : Int} {st : List AV} {h : AH} : X mX5_row 70 [v0, v1, v2, v3, v4, v5, v6, v7, v8, aI z] st h = X mX5_row 72 [v0, v1, v2, v3, v4, v5, v6, v7, v8, aI z] (aI z :: st) h := X_of dX5_row_70 rfl
theorem x_X5_row_72 {a b : Int} {al st : List AV} {h : AH} : X mX5_row 72 al (aI b :: aI a :: st) h = X mX5_row 73 al (aI (w32 (a + b)) :: st) h := X_of dX5_row_72 rfl
theorem x_X5_row_73 {al st : List AV} {h : AH} : X mX5_row 73 al st h = X mX5_row 74 al (aI 1 :: st) h := X_of dX5_row_73 rfl
theorem x_X5_row_74 {a b : Int} {al st : List AV} {h : AH} : X mX5_row 74 al (aI b :: aI a :: st) h = X mX5_row 75 al (aI (w32 (a - b)) :: st) h := X_of dX5_row_74 rfl
theorem x_X5_row_75 {a b : Int} {al st : List AV} {h : AH} : X mX5_row 75 al (aI b :: aI a :: st) h = X mX5_row 76 al (aI (fShl a b) :: st) h := X_of dX5_row_75 rfl
theorem x_X5_row_76 {a b : Int} {al st : List AV} {h : AH} : X mX5_row 76 al (aI b :: aI a :: st) h = X mX5_row 77 al (aI (fOr a b) :: st) h := X_of dX5_row_76 rfl
theorem x_X5_row_77 {v0 v1 v2 v3 v4 v5 v6 v8 v9 : AV} {z : Int} {st : List AV} {h : AH} : X mX5_row 77 [v0, v1, v2, v3, v4, v5, v6, aU, v8, v9] (aI z :: st) h = X mX5_row 79 [v0, v1, v2, v3, v4, v5, v6, aU, aI z, v9] st h := X_of dX5_row_77 rfl
theorem x_X5_row_79 {v1 v2 v3 v4 v5 v6 v7 v8 v9 : AV} {z : Option Nat} {st : List AV} {h : AH} : X mX5_row 79 [aR z, v1, v2, v3, v4, v5, v6, v7, v8, v9] st h = X mX5_row 80 [aR z, v1, v2, v3, v4, v5, v6, v7, v8, v9] (aR z :: st) h := X_of dX5_row_79 rfl
theorem x_X5_row_80 {v0 v2 v3 v4 v5 v6 v7 v8 v9 : AV} {z : Int} {st : List AV} {h : AH} : X mX5_row 80 [v0, aI z, v2, v3, v4, v5, v6, v7, v8, v9] st h = X mX5_row 81 [v0, aI z, v2, v3, v4, v5, v6, v7, v8, v9] (aI z :: st) h := X_of dX5_row_80 rfl
theorem x_X5_row_81 {v0 v1 v3 v4 v5 v6 v7 v8 v9 : AV} {z : Int} {st : List AV} {h : AH} : X mX5_row 81 [v0, v1, aI z, v3, v4, v5, v6, v7, v8, v9] st h = X mX5_row 82 [v0, v1, aI z, v3, v4, v5, v6, v7, v8, v9] (aI z :: st) h := X_of dX5_row_81 rfl
theorem x_X5_row_82 {v0 v1 v2 v3 v4 v5 v6 v7 v9 : AV} {z : Int} {st : List AV} {h : AH} : X mX5_row 82 [v0, v1, v2, v3, v4, v5, v6, v7, aI z, v9] st h = X mX5_row 84 [v0, v1, v2, v3, v4, v5, v6, v7, aI z, v9] (aI z :: st) h := X_of dX5_row_82 rfl
theorem x_X5_row_84 {a0 : Nat} {a1 : Int} {a2 : Int} {a3 : Int} {al : List AV} {h : AH} (ho : isO h 5 a0 = true) : X mX5_row 84 al [aI a3, aI a2, aI a1, aR (some a0)] h = cK (E mX5_value [aR (some a0), aI a1, aI a2, aI a3] h) fun v h2 => X mX5_row 87 al (v.toList ++ []) h2 := x_cal (as := [aR (some a0), aI a1, aI a2, aI a3]) (rest := []) dX5_row_84 (fun _ => rfl) cT_5_164 rfl rfl ho
theorem x_X5_row_87 {v0 v1 v2 v4 v5 v6 v7 v8 v9 : AV} {z : Int} {st : List AV} {h : AH} : X mX5_row 87 [v0, v1, v2, aI z, v4, v5, v6, v7, v8, v9] st h = X mX5_row 88 [v0, v1, v2, aI z, v4, v5, v6, v7, v8, v9] (aI z :: st) h := X_of dX5_row_87 rfl
theorem x_X5_row_88 {a : Int} {al st : List AV} {h : AH} : X mX5_row 88 al (aI a :: st) h = if a = 0 then X mX5_row 109 al st h else X mX5_row 91 al st h := x_eq0 dX5_row_88 rfl
theorem x_X5_row_91 {v1 v2 v3 v4 v5 v6 v7 v8 v9 : AV} {z : Option Nat} {st : List AV} {h : AH} : X mX5_row 91 [aR z, v1, v2, v3, v4, v5, v6, v7, v8, v9] st h = X mX5_row 92 [aR z, v1, v2, v3, v4, v5, v6, v7, v8, v9] (aR z :: st) h := X_of dX5_row_91 rfl
theorem x_X5_row_92 {a : Nat} {al st : List AV} {h : AH} : X mX5_row 92 al (aR (some a) :: st) h = gK (rd h 5 a 17) fun v => X mX5_row 95 al (v :: st) h := x_get dX5_row_92 fT_5_140
theorem x_X5_row_95 {v1 v2 v3 v4 v5 v6 v7 v8 v9 : AV} {z : Option Nat} {st : List AV} {h : AH} : X mX5_row 95 [aR z, v1, v2, v3, v4, v5, v6, v7, v8, v9] st h = X mX5_row 96 [aR z, v1, v2, v3, v4, v5, v6, v7, v8, v9] (aR z :: st) h := X_of dX5_row_95 rfl
theorem x_X5_row_96 {a : Nat} {al st : List AV} {h : AH} : X mX5_row 96 al (aR (some a) :: st) h = gK (rd h 5 a 18) fun v => X mX5_row 99 al (v :: st) h := x_get dX5_row_96 fT_5_143
theorem x_X5_row_99 {v0 v1 v2 v3 v5 v6 v7 v8 v9 : AV} {z : Int} {st : List AV} {h : AH} : X mX5_row 99 [v0, v1, v2, v3, aJ z, v5, v6, v7, v8, v9] st h = X mX5_row 101 [v0, v1, v2, v3, aJ z, v5, v6, v7, v8, v9] (aJ z :: st) h := X_of dX5_row_99 rfl
theorem x_X5_row_101 {v0 v1 v2 v3 v4 v5 v7 v8 v9 : AV} {z : Int} {st : List AV} {h : AH} : X mX5_row 101 [v0, v1, v2, v3, v4, v5, aJ z, v7, v8, v9] st h = X mX5_row 103 [v0, v1, v2, v3, v4, v5, aJ z, v7, v8, v9] (aJ z :: st) h := X_of dX5_row_101 rfl
theorem x_X5_row_103 {a0 : Int} {a1 : Int} {a2 : Int} {a3 : Int} {al : List AV} {h : AH} : X mX5_row 103 al [aJ a3, aJ a2, aJ a1, aJ a0] h = cK (E mX5_compared [aJ a0, aJ a1, aJ a2, aJ a3] h) fun v h2 => X mX5_row 106 al (v.toList ++ []) h2 := x_cal (as := [aJ a0, aJ a1, aJ a2, aJ a3]) (rest := []) dX5_row_103 (fun _ => rfl) cT_5_168 rfl rfl rfl
theorem x_X5_row_106 {a : Int} {al st : List AV} {h : AH} : X mX5_row 106 al (aI a :: st) h = if a ≤ 0 then X mX5_row 124 al st h else X mX5_row 109 al st h := x_le0 dX5_row_106 rfl
theorem x_X5_row_109 {v0 v1 v2 v3 v4 v5 v6 v7 v8 : AV} {z : Int} {st : List AV} {h : AH} : X mX5_row 109 [v0, v1, v2, v3, v4, v5, v6, v7, v8, aI z] st h = X mX5_row 111 [v0, v1, v2, v3, v4, v5, v6, v7, v8, aI z] (aI z :: st) h := X_of dX5_row_109 rfl
theorem x_X5_row_111 {v0 v1 v3 v4 v5 v6 v7 v8 v9 : AV} {y : Int} {z : Int} {st : List AV} {h : AH} : X mX5_row 111 [v0, v1, aI y, v3, v4, v5, v6, v7, v8, v9] (aI z :: st) h = X mX5_row 112 [v0, v1, aI y, aI z, v4, v5, v6, v7, v8, v9] st h := X_of dX5_row_111 rfl
theorem x_X5_row_112 {v1 v2 v3 v4 v5 v6 v7 v8 v9 : AV} {z : Option Nat} {st : List AV} {h : AH} : X mX5_row 112 [aR z, v1, v2, v3, v4, v5, v6, v7, v8, v9] st h = X mX5_row 113 [aR z, v1, v2, v3, v4, v5, v6, v7, v8, v9] (aR z :: st) h := X_of dX5_row_112 rfl
theorem x_X5_row_113 {a : Nat} {al st : List AV} {h : AH} : X mX5_row 113 al (aR (some a) :: st) h = gK (rd h 5 a 17) fun v => X mX5_row 116 al (v :: st) h := x_get dX5_row_113 fT_5_140
theorem x_X5_row_116 {v0 v1 v2 v4 v5 v6 v7 v8 v9 : AV} {y : Int} {z : Int} {st : List AV} {h : AH} : X mX5_row 116 [v0, v1, v2, aI y, v4, v5, v6, v7, v8, v9] (aJ z :: st) h = X mX5_row 118 [v0, v1, v2, aI y, aJ z, aU, v6, v7, v8, v9] st h := X_of dX5_row_116 rfl
theorem x_X5_row_118 {v1 v2 v3 v4 v5 v6 v7 v8 v9 : AV} {z : Option Nat} {st : List AV} {h : AH} : X mX5_row 118 [aR z, v1, v2, v3, v4, v5, v6, v7, v8, v9] st h = X mX5_row 119 [aR z, v1, v2, v3, v4, v5, v6, v7, v8, v9] (aR z :: st) h := X_of dX5_row_118 rfl
theorem x_X5_row_119 {a : Nat} {al st : List AV} {h : AH} : X mX5_row 119 al (aR (some a) :: st) h = gK (rd h 5 a 18) fun v => X mX5_row 122 al (v :: st) h := x_get dX5_row_119 fT_5_143
theorem x_X5_row_122 {v0 v1 v2 v3 v4 v6 v7 v8 v9 : AV} {z : Int} {st : List AV} {h : AH} : X mX5_row 122 [v0, v1, v2, v3, v4, aU, v6, v7, v8, v9] (aJ z :: st) h = X mX5_row 124 [v0, v1, v2, v3, v4, aU, aJ z, aU, v8, v9] st h := X_of dX5_row_122 rfl
theorem x_X5_row_124 {v0 v1 v2 v3 v4 v5 v6 v7 : AV} {y : Int} {z : Int} {st : List AV} {h : AH} : X mX5_row 124 [v0, v1, v2, v3, v4, v5, v6, v7, aI y, aI z] st h = X mX5_row 127 [v0, v1, v2, v3, v4, v5, v6, v7, aI y, aI (w32 (z + 1))] st h := X_of dX5_row_124 rfl
theorem x_X5_row_127 {al st : List AV} {h : AH} : X mX5_row 127 al st h = X mX5_row 53 al st h := X_of dX5_row_127 rfl
theorem x_X5_row_130 {v0 v1 v2 v4 v5 v6 v7 v8 v9 : AV} {z : Int} {st : List AV} {h : AH} : X mX5_row 130 [v0, v1, v2, aI z, v4, v5, v6, v7, v8, v9] st h = X mX5_row 131 [v0, v1, v2, aI z, v4, v5, v6, v7, v8, v9] (aI z :: st) h := X_of dX5_row_130 rfl
theorem x_X5_row_131 {z : Int} {al : List AV} {h : AH} : X mX5_row 131 al [aI z] h = some (some (aI z), h) := X_ofR dX5_row_131 rfl
theorem e_X5_least {p0 : Option Nat} {p1 : Int} {h : AH} : E mX5_least [aR p0, aI p1] h = X mX5_least 0 [aR p0, aI p1, aU, aU] [] h := rfl
theorem x_X5_least_0 {v1 v2 v3 : AV} {z : Option Nat} {st : List AV} {h : AH} : X mX5_least 0 [aR z, v1, v2, v3] st h = X mX5_least 1 [aR z, v1, v2, v3] (aR z :: st) h := X_of dX5_least_0 rfl
theorem x_X5_least_1 {v0 v2 v3 : AV} {z : Int} {st : List AV} {h : AH} : X mX5_least 1 [v0, aI z, v2, v3] st h = X mX5_least 2 [v0, aI z, v2, v3] (aI z :: st) h := X_of dX5_least_1 rfl
theorem x_X5_least_2 {a0 : Nat} {a1 : Int} {al : List AV} {h : AH} (ho : isO h 5 a0 = true) : X mX5_least 2 al [aI a1, aR (some a0)] h = cK (E mX5_isMachine [aR (some a0), aI a1] h) fun v h2 => X mX5_least 5 al (v.toList ++ []) h2 := x_cal (as := [aR (some a0), aI a1]) (rest := []) dX5_least_2 (fun _ => rfl) cT_5_114 rfl rfl ho
theorem x_X5_least_5 {a : Int} {al st : List AV} {h : AH} : X mX5_least 5 al (aI a :: st) h = if ¬ a = 0 then X mX5_least 10 al st h else X mX5_least 8 al st h := x_ne0 dX5_least_5 rfl
theorem x_X5_least_8 {al st : List AV} {h : AH} : X mX5_least 8 al st h = X mX5_least 9 al (aI (-1) :: st) h := X_of dX5_least_8 rfl
theorem x_X5_least_9 {z : Int} {al : List AV} {h : AH} : X mX5_least 9 al [aI z] h = some (some (aI z), h) := X_ofR dX5_least_9 rfl
theorem x_X5_least_10 {v1 v2 v3 : AV} {z : Option Nat} {st : List AV} {h : AH} : X mX5_least 10 [aR z, v1, v2, v3] st h = X mX5_least 11 [aR z, v1, v2, v3] (aR z :: st) h := X_of dX5_least_10 rfl
theorem x_X5_least_11 {v0 v2 v3 : AV} {z : Int} {st : List AV} {h : AH} : X mX5_least 11 [v0, aI z, v2, v3] st h = X mX5_least 12 [v0, aI z, v2, v3] (aI z :: st) h := X_of dX5_least_11 rfl
theorem x_X5_least_12 {a0 : Nat} {a1 : Int} {al : List AV} {h : AH} (ho : isO h 5 a0 = true) : X mX5_least 12 al [aI a1, aR (some a0)] h = cK (E mX5_layWorths [aR (some a0), aI a1] h) fun v h2 => X mX5_least 15 al (v.toList ++ []) h2 := x_cal (as := [aR (some a0), aI a1]) (rest := []) dX5_least_12 (fun _ => rfl) cT_5_185 rfl rfl ho
theorem x_X5_least_15 {al st : List AV} {h : AH} : X mX5_least 15 al st h = X mX5_least 16 al (aI 0 :: st) h := X_of dX5_least_15 rfl
theorem x_X5_least_16 {v0 v2 v3 : AV} {y : Int} {z : Int} {st : List AV} {h : AH} : X mX5_least 16 [v0, aI y, v2, v3] (aI z :: st) h = X mX5_least 17 [v0, aI y, aI z, v3] st h := X_of dX5_least_16 rfl
theorem x_X5_least_17 {al st : List AV} {h : AH} : X mX5_least 17 al st h = X mX5_least 18 al (aI 1 :: st) h := X_of dX5_least_17 rfl
theorem x_X5_least_18 {v0 v1 v3 : AV} {y : Int} {z : Int} {st : List AV} {h : AH} : X mX5_least 18 [v0, v1, aI y, v3] (aI z :: st) h = X mX5_least 19 [v0, v1, aI y, aI z] st h := X_of dX5_least_18 rfl
theorem x_X5_least_19 {v0 v1 v2 : AV} {z : Int} {st : List AV} {h : AH} : X mX5_least 19 [v0, v1, v2, aI z] st h = X mX5_least 20 [v0, v1, v2, aI z] (aI z :: st) h := X_of dX5_least_19 rfl
theorem x_X5_least_20 {v1 v2 v3 : AV} {z : Option Nat} {st : List AV} {h : AH} : X mX5_least 20 [aR z, v1, v2, v3] st h = X mX5_least 21 [aR z, v1, v2, v3] (aR z :: st) h := X_of dX5_least_20 rfl
theorem x_X5_least_21 {a : Nat} {al st : List AV} {h : AH} : X mX5_least 21 al (aR (some a) :: st) h = gK (rd h 5 a 12) fun v => X mX5_least 24 al (v :: st) h := x_get dX5_least_21 fT_5_29
theorem x_X5_least_24 {v0 v2 v3 : AV} {z : Int} {st : List AV} {h : AH} : X mX5_least 24 [v0, aI z, v2, v3] st h = X mX5_least 25 [v0, aI z, v2, v3] (aI z :: st) h := X_of dX5_least_24 rfl
theorem x_X5_least_25 {a : Nat} {i : Int} {al st : List AV} {h : AH} : X mX5_least 25 al (aI i :: aR (some a) :: st) h = if 0 ≤ i then gK (rd h 10 a i.toNat) (fun v => X mX5_least 26 al (v :: st) h) else none := x_aldI dX5_least_25
theorem x_X5_least_26 {a b : Int} {al st : List AV} {h : AH} : X mX5_least 26 al (aI b :: aI a :: st) h = if b ≤ a then X mX5_least 50 al st h else X mX5_least 29 al st h := x_geC dX5_least_26 rfl
theorem x_X5_least_29 {v1 v2 v3 : AV} {z : Option Nat} {st : List AV} {h : AH} : X mX5_least 29 [aR z, v1, v2, v3] st h = X mX5_least 30 [aR z, v1, v2, v3] (aR z :: st) h := X_of dX5_least_29 rfl
theorem x_X5_least_30 {v0 v1 v2 : AV} {z : Int} {st : List AV} {h : AH} : X mX5_least 30 [v0, v1, v2, aI z] st h = X mX5_least 31 [v0, v1, v2, aI z] (aI z :: st) h := X_of dX5_least_30 rfl
theorem x_X5_least_31 {v0 v1 v3 : AV} {z : Int} {st : List AV} {h : AH} : X mX5_least 31 [v0, v1, aI z, v3] st h = X mX5_least 32 [v0, v1, aI z, v3] (aI z :: st) h := X_of dX5_least_31 rfl
theorem x_X5_least_32 {a0 : Nat} {a1 : Int} {a2 : Int} {al : List AV} {h : AH} (ho : isO h 5 a0 = true) : X mX5_least 32 al [aI a2, aI a1, aR (some a0)] h = cK (E mX5_between [aR (some a0), aI a1, aI a2] h) fun v h2 => X mX5_least 35 al (v.toList ++ []) h2 := x_cal (as := [aR (some a0), aI a1, aI a2]) (rest := []) dX5_least_32 (fun _ => rfl) cT_5_189 rfl rfl ho
theorem x_X5_least_35 {a : Int} {al st : List AV} {h : AH} : X mX5_least 35 al (aI a :: st) h = if 0 ≤ a then X mX5_least 42 al st h else X mX5_least 38 al st h := x_ge0 dX5_least_35 rfl
theorem x_X5_least_38 {v0 v1 v2 : AV} {z : Int} {st : List AV} {h : AH} : X mX5_least 38 [v0, v1, v2, aI z] st h = X mX5_least 39 [v0, v1, v2, aI z] (aI z :: st) h := X_of dX5_least_38 rfl
theorem x_X5_least_39 {al st : List AV} {h : AH} : X mX5_least 39 al st h = X mX5_least 43 al st h := X_of dX5_least_39 rfl
theorem x_X5_least_42 {v0 v1 v3 : AV} {z : Int} {st : List AV} {h : AH} : X mX5_least 42 [v0, v1, aI z, v3] st h = X mX5_least 43 [v0, v1, aI z, v3] (aI z :: st) h := X_of dX5_least_42 rfl
theorem x_X5_least_43 {v0 v2 v3 : AV} {y : Int} {z : Int} {st : List AV} {h : AH} : X mX5_least 43 [v0, aI y, v2, v3] (aI z :: st) h = X mX5_least 44 [v0, aI y, aI z, v3] st h := X_of dX5_least_43 rfl
theorem x_X5_least_44 {v0 v1 : AV} {y : Int} {z : Int} {st : List AV} {h : AH} : X mX5_least 44 [v0, v1, aI y, aI z] st h = X mX5_least 47 [v0, v1, aI y, aI (w32 (z + 1))] st h := X_of dX5_least_44 rfl
theorem x_X5_least_47 {al st : List AV} {h : AH} : X mX5_least 47 al st h = X mX5_least 19 al st h := X_of dX5_least_47 rfl
theorem x_X5_least_50 {v1 v2 v3 : AV} {z : Option Nat} {st : List AV} {h : AH} : X mX5_least 50 [aR z, v1, v2, v3] st h = X mX5_least 51 [aR z, v1, v2, v3] (aR z :: st) h := X_of dX5_least_50 rfl
theorem x_X5_least_51 {v1 v2 v3 : AV} {z : Option Nat} {st : List AV} {h : AH} : X mX5_least 51 [aR z, v1, v2, v3] st h = X mX5_least 52 [aR z, v1, v2, v3] (aR z :: st) h := X_of dX5_least_51 rfl
theorem x_X5_least_52 {a : Nat} {al st : List AV} {h : AH} : X mX5_least 52 al (aR (some a) :: st) h = gK (rd h 5 a 23) fun v => X mX5_least 55 al (v :: st) h := x_get dX5_least_52 fT_5_50
theorem x_X5_least_55 {v0 v1 v3 : AV} {z : Int} {st : List AV} {h : AH} : X mX5_least 55 [v0, v1, aI z, v3] st h = X mX5_least 56 [v0, v1, aI z, v3] (aI z :: st) h := X_of dX5_least_55 rfl
theorem x_X5_least_56 {a : Nat} {i : Int} {al st : List AV} {h : AH} : X mX5_least 56 al (aI i :: aR (some a) :: st) h = if 0 ≤ i then gK (rd h 11 a i.toNat) (fun v => X mX5_least 57 al (v :: st) h) else none := x_aldJ dX5_least_56
theorem x_X5_least_57 {a : Nat} {z : Int} {al st : List AV} {h : AH} : X mX5_least 57 al (aJ z :: aR (some a) :: st) h = pK (rd h 5 a 17) (X mX5_least 60 al st (wr h 5 a 17 (aJ z))) := x_put dX5_least_57 fT_5_140 rfl rfl
theorem x_X5_least_60 {v1 v2 v3 : AV} {z : Option Nat} {st : List AV} {h : AH} : X mX5_least 60 [aR z, v1, v2, v3] st h = X mX5_least 61 [aR z, v1, v2, v3] (aR z :: st) h := X_of dX5_least_60 rfl
theorem x_X5_least_61 {v1 v2 v3 : AV} {z : Option Nat} {st : List AV} {h : AH} : X mX5_least 61 [aR z, v1, v2, v3] st h = X mX5_least 62 [aR z, v1, v2, v3] (aR z :: st) h := X_of dX5_least_61 rfl
theorem x_X5_least_62 {a : Nat} {al st : List AV} {h : AH} : X mX5_least 62 al (aR (some a) :: st) h = gK (rd h 5 a 24) fun v => X mX5_least 65 al (v :: st) h := x_get dX5_least_62 fT_5_53
theorem x_X5_least_65 {v0 v1 v3 : AV} {z : Int} {st : List AV} {h : AH} : X mX5_least 65 [v0, v1, aI z, v3] st h = X mX5_least 66 [v0, v1, aI z, v3] (aI z :: st) h := X_of dX5_least_65 rfl
theorem x_X5_least_66 {a : Nat} {i : Int} {al st : List AV} {h : AH} : X mX5_least 66 al (aI i :: aR (some a) :: st) h = if 0 ≤ i then gK (rd h 11 a i.toNat) (fun v => X mX5_least 67 al (v :: st) h) else none := x_aldJ dX5_least_66
theorem x_X5_least_67 {a : Nat} {z : Int} {al st : List AV} {h : AH} : X mX5_least 67 al (aJ z :: aR (some a) :: st) h = pK (rd h 5 a 18) (X mX5_least 70 al st (wr h 5 a 18 (aJ z))) := x_put dX5_least_67 fT_5_143 rfl rfl
theorem x_X5_least_70 {v1 v2 v3 : AV} {z : Option Nat} {st : List AV} {h : AH} : X mX5_least 70 [aR z, v1, v2, v3] st h = X mX5_least 71 [aR z, v1, v2, v3] (aR z :: st) h := X_of dX5_least_70 rfl
theorem x_X5_least_71 {a0 : Nat} {al : List AV} {h : AH} (ho : isO h 5 a0 = true) : X mX5_least 71 al [aR (some a0)] h = cK (E mX5_tells [aR (some a0)] h) fun v h2 => X mX5_least 74 al (v.toList ++ []) h2 := x_cal (as := [aR (some a0)]) (rest := []) dX5_least_71 (fun _ => rfl) cT_5_179 rfl rfl ho
theorem x_X5_least_74 {z : Int} {al : List AV} {h : AH} : X mX5_least 74 al [aI z] h = some (some (aI z), h) := X_ofR dX5_least_74 rfl
theorem e_X5_compare {p0 : Option Nat} {p1 : Int} {p2 : Int} {p3 : Int} {p4 : Int} {h : AH} : E mX5_compare [aR p0, aI p1, aI p2, aI p3, aI p4] h = X mX5_compare 0 [aR p0, aI p1, aI p2, aI p3, aI p4, aU, aU, aU, aU, aU] [] h := rfl
theorem x_X5_compare_0 {v1 v2 v3 v4 v5 v6 v7 v8 v9 : AV} {z : Option Nat} {st : List AV} {h : AH} : X mX5_compare 0 [aR z, v1, v2, v3, v4, v5, v6, v7, v8, v9] st h = X mX5_compare 1 [aR z, v1, v2, v3, v4, v5, v6, v7, v8, v9] (aR z :: st) h := X_of dX5_compare_0 rfl
theorem x_X5_compare_1 {v0 v2 v3 v4 v5 v6 v7 v8 v9 : AV} {z : Int} {st : List AV} {h : AH} : X mX5_compare 1 [v0, aI z, v2, v3, v4, v5, v6, v7, v8, v9] st h = X mX5_compare 2 [v0, aI z, v2, v3, v4, v5, v6, v7, v8, v9] (aI z :: st) h := X_of dX5_compare_1 rfl
theorem x_X5_compare_2 {a0 : Nat} {a1 : Int} {al : List AV} {h : AH} (ho : isO h 5 a0 = true) : X mX5_compare 2 al [aI a1, aR (some a0)] h = cK (E mX5_isMachine [aR (some a0), aI a1] h) fun v h2 => X mX5_compare 5 al (v.toList ++ []) h2 := x_cal (as := [aR (some a0), aI a1]) (rest := []) dX5_compare_2 (fun _ => rfl) cT_5_114 rfl rfl ho
theorem x_X5_compare_5 {a : Int} {al st : List AV} {h : AH} : X mX5_compare 5 al (aI a :: st) h = if a = 0 then X mX5_compare 16 al st h else X mX5_compare 8 al st h := x_eq0 dX5_compare_5 rfl
theorem x_X5_compare_8 {v1 v2 v3 v4 v5 v6 v7 v8 v9 : AV} {z : Option Nat} {st : List AV} {h : AH} : X mX5_compare 8 [aR z, v1, v2, v3, v4, v5, v6, v7, v8, v9] st h = X mX5_compare 9 [aR z, v1, v2, v3, v4, v5, v6, v7, v8, v9] (aR z :: st) h := X_of dX5_compare_8 rfl
theorem x_X5_compare_9 {v0 v1 v2 v4 v5 v6 v7 v8 v9 : AV} {z : Int} {st : List AV} {h : AH} : X mX5_compare 9 [v0, v1, v2, aI z, v4, v5, v6, v7, v8, v9] st h = X mX5_compare 10 [v0, v1, v2, aI z, v4, v5, v6, v7, v8, v9] (aI z :: st) h := X_of dX5_compare_9 rfl
theorem x_X5_compare_10 {a0 : Nat} {a1 : Int} {al : List AV} {h : AH} (ho : isO h 5 a0 = true) : X mX5_compare 10 al [aI a1, aR (some a0)] h = cK (E mX5_isMachine [aR (some a0), aI a1] h) fun v h2 => X mX5_compare 13 al (v.toList ++ []) h2 := x_cal (as := [aR (some a0), aI a1]) (rest := []) dX5_compare_10 (fun _ => rfl) cT_5_114 rfl rfl ho
theorem x_X5_compare_13 {a : Int} {al st : List AV} {h : AH} : X mX5_compare 13 al (aI a :: st) h = if ¬ a = 0 then X mX5_compare 18 al st h else X mX5_compare 16 al st h := x_ne0 dX5_compare_13 rfl
theorem x_X5_compare_16 {al st : List AV} {h : AH} : X mX5_compare 16 al st h = X mX5_compare 17 al (aI (-1) :: st) h := X_of dX5_compare_16 rfl
theorem x_X5_compare_17 {z : Int} {al : List AV} {h : AH} : X mX5_compare 17 al [aI z] h = some (some (aI z), h) := X_ofR dX5_compare_17 rfl
theorem x_X5_compare_18 {v1 v2 v3 v4 v5 v6 v7 v8 v9 : AV} {z : Option Nat} {st : List AV} {h : AH} : X mX5_compare 18 [aR z, v1, v2, v3, v4, v5, v6, v7, v8, v9] st h = X mX5_compare 19 [aR z, v1, v2, v3, v4, v5, v6, v7, v8, v9] (aR z :: st) h := X_of dX5_compare_18 rfl
theorem x_X5_compare_19 {v0 v2 v3 v4 v5 v6 v7 v8 v9 : AV} {z : Int} {st : List AV} {h : AH} : X mX5_compare 19 [v0, aI z, v2, v3, v4, v5, v6, v7, v8, v9] st h = X mX5_compare 20 [v0, aI z, v2, v3, v4, v5, v6, v7, v8, v9] (aI z :: st) h := X_of dX5_compare_19 rfl
theorem x_X5_compare_20 {v0 v1 v3 v4 v5 v6 v7 v8 v9 : AV} {z : Int} {st : List AV} {h : AH} : X mX5_compare 20 [v0, v1, aI z, v3, v4, v5, v6, v7, v8, v9] st h = X mX5_compare 21 [v0, v1, aI z, v3, v4, v5, v6, v7, v8, v9] (aI z :: st) h := X_of dX5_compare_20 rfl
theorem x_X5_compare_21 {a0 : Nat} {a1 : Int} {a2 : Int} {al : List AV} {h : AH} (ho : isO h 5 a0 = true) : X mX5_compare 21 al [aI a2, aI a1, aR (some a0)] h = cK (E mX5_isState [aR (some a0), aI a1, aI a2] h) fun v h2 => X mX5_compare 24 al (v.toList ++ []) h2 := x_cal (as := [aR (some a0), aI a1, aI a2]) (rest := []) dX5_compare_21 (fun _ => rfl) cT_5_121 rfl rfl ho
theorem x_X5_compare_24 {a : Int} {al st : List AV} {h : AH} : X mX5_compare 24 al (aI a :: st) h = if a = 0 then X mX5_compare 37 al st h else X mX5_compare 27 al st h := x_eq0 dX5_compare_24 rfl
theorem x_X5_compare_27 {v1 v2 v3 v4 v5 v6 v7 v8 v9 : AV} {z : Option Nat} {st : List AV} {h : AH} : X mX5_compare 27 [aR z, v1, v2, v3, v4, v5, v6, v7, v8, v9] st h = X mX5_compare 28 [aR z, v1, v2, v3, v4, v5, v6, v7, v8, v9] (aR z :: st) h := X_of dX5_compare_27 rfl
theorem x_X5_compare_28 {v0 v1 v2 v4 v5 v6 v7 v8 v9 : AV} {z : Int} {st : List AV} {h : AH} : X mX5_compare 28 [v0, v1, v2, aI z, v4, v5, v6, v7, v8, v9] st h = X mX5_compare 29 [v0, v1, v2, aI z, v4, v5, v6, v7, v8, v9] (aI z :: st) h := X_of dX5_compare_28 rfl
theorem x_X5_compare_29 {v0 v1 v2 v3 v5 v6 v7 v8 v9 : AV} {z : Int} {st : List AV} {h : AH} : X mX5_compare 29 [v0, v1, v2, v3, aI z, v5, v6, v7, v8, v9] st h = X mX5_compare 31 [v0, v1, v2, v3, aI z, v5, v6, v7, v8, v9] (aI z :: st) h := X_of dX5_compare_29 rfl
theorem x_X5_compare_31 {a0 : Nat} {a1 : Int} {a2 : Int} {al : List AV} {h : AH} (ho : isO h 5 a0 = true) : X mX5_compare 31 al [aI a2, aI a1, aR (some a0)] h = cK (E mX5_isState [aR (some a0), aI a1, aI a2] h) fun v h2 => X mX5_compare 34 al (v.toList ++ []) h2 := x_cal (as := [aR (some a0), aI a1, aI a2]) (rest := []) dX5_compare_31 (fun _ => rfl) cT_5_121 rfl rfl ho
theorem x_X5_compare_34 {a : Int} {al st : List AV} {h : AH} : X mX5_compare 34 al (aI a :: st) h = if ¬ a = 0 then X mX5_compare 43 al st h else X mX5_compare 37 al st h := x_ne0 dX5_compare_34 rfl
theorem x_X5_compare_37 {v1 v2 v3 v4 v5 v6 v7 v8 v9 : AV} {z : Option Nat} {st : List AV} {h : AH} : X mX5_compare 37 [aR z, v1, v2, v3, v4, v5, v6, v7, v8, v9] st h = X mX5_compare 38 [aR z, v1, v2, v3, v4, v5, v6, v7, v8, v9] (aR z :: st) h := X_of dX5_compare_37 rfl
theorem x_X5_compare_38 {al st : List AV} {h : AH} : X mX5_compare 38 al st h = X mX5_compare 39 al (aI 2 :: st) h := X_of dX5_compare_38 rfl
theorem x_X5_compare_39 {a0 : Nat} {a1 : Int} {al : List AV} {h : AH} (ho : isO h 5 a0 = true) : X mX5_compare 39 al [aI a1, aR (some a0)] h = cK (E mX5_meets [aR (some a0), aI a1] h) fun v h2 => X mX5_compare 42 al (v.toList ++ []) h2 := x_cal (as := [aR (some a0), aI a1]) (rest := []) dX5_compare_39 (fun _ => rfl) cT_5_96 rfl rfl ho
theorem x_X5_compare_42 {z : Int} {al : List AV} {h : AH} : X mX5_compare 42 al [aI z] h = some (some (aI z), h) := X_ofR dX5_compare_42 rfl
theorem x_X5_compare_43 {v1 v2 v3 v4 v5 v6 v7 v8 v9 : AV} {z : Option Nat} {st : List AV} {h : AH} : X mX5_compare 43 [aR z, v1, v2, v3, v4, v5, v6, v7, v8, v9] st h = X mX5_compare 44 [aR z, v1, v2, v3, v4, v5, v6, v7, v8, v9] (aR z :: st) h := X_of dX5_compare_43 rfl
theorem x_X5_compare_44 {v0 v2 v3 v4 v5 v6 v7 v8 v9 : AV} {z : Int} {st : List AV} {h : AH} : X mX5_compare 44 [v0, aI z, v2, v3, v4, v5, v6, v7, v8, v9] st h = X mX5_compare 45 [v0, aI z, v2, v3, v4, v5, v6, v7, v8, v9] (aI z :: st) h := X_of dX5_compare_44 rfl
theorem x_X5_compare_45 {v0 v1 v3 v4 v5 v6 v7 v8 v9 : AV} {z : Int} {st : List AV} {h : AH} : X mX5_compare 45 [v0, v1, aI z, v3, v4, v5, v6, v7, v8, v9] st h = X mX5_compare 46 [v0, v1, aI z, v3, v4, v5, v6, v7, v8, v9] (aI z :: st) h := X_of dX5_compare_45 rfl
theorem x_X5_compare_46 {a0 : Nat} {a1 : Int} {a2 : Int} {al : List AV} {h : AH} (ho : isO h 5 a0 = true) : X mX5_compare 46 al [aI a2, aI a1, aR (some a0)] h = cK (E mX5_worthOf [aR (some a0), aI a1, aI a2] h) fun v h2 => X mX5_compare 49 al (v.toList ++ []) h2 := x_cal (as := [aR (some a0), aI a1, aI a2]) (rest := []) dX5_compare_46 (fun _ => rfl) cT_5_175 rfl rfl ho
theorem x_X5_compare_49 {v1 v2 v3 v4 v5 v6 v7 v8 v9 : AV} {z : Option Nat} {st : List AV} {h : AH} : X mX5_compare 49 [aR z, v1, v2, v3, v4, v5, v6, v7, v8, v9] st h = X mX5_compare 50 [aR z, v1, v2, v3, v4, v5, v6, v7, v8, v9] (aR z :: st) h := X_of dX5_compare_49 rfl
theorem x_X5_compare_50 {a : Nat} {al st : List AV} {h : AH} : X mX5_compare 50 al (aR (some a) :: st) h = gK (rd h 5 a 17) fun v => X mX5_compare 53 al (v :: st) h := x_get dX5_compare_50 fT_5_140
theorem x_X5_compare_53 {v0 v1 v2 v3 v5 v6 v7 v8 v9 : AV} {y : Int} {z : Int} {st : List AV} {h : AH} : X mX5_compare 53 [v0, v1, v2, v3, aI y, v5, v6, v7, v8, v9] (aJ z :: st) h = X mX5_compare 55 [v0, v1, v2, v3, aI y, aJ z, aU, v7, v8, v9] st h := X_of dX5_compare_53 rfl
theorem x_X5_compare_55 {v1 v2 v3 v4 v5 v6 v7 v8 v9 : AV} {z : Option Nat} {st : List AV} {h : AH} : X mX5_compare 55 [aR z, v1, v2, v3, v4, v5, v6, v7, v8, v9] st h = X mX5_compare 56 [aR z, v1, v2, v3, v4, v5, v6, v7, v8, v9] (aR z :: st) h := X_of dX5_compare_55 rfl
theorem x_X5_compare_56 {a : Nat} {al st : List AV} {h : AH} : X mX5_compare 56 al (aR (some a) :: st) h = gK (rd h 5 a 18) fun v => X mX5_compare 59 al (v :: st) h := x_get dX5_compare_56 fT_5_143
theorem x_X5_compare_59 {v0 v1 v2 v3 v4 v5 v7 v8 v9 : AV} {z : Int} {st : List AV} {h : AH} : X mX5_compare 59 [v0, v1, v2, v3, v4, v5, aU, v7, v8, v9] (aJ z :: st) h = X mX5_compare 61 [v0, v1, v2, v3, v4, v5, aU, aJ z, aU, v9] st h := X_of dX5_compare_59 rfl
theorem x_X5_compare_61 {v1 v2 v3 v4 v5 v6 v7 v8 v9 : AV} {z : Option Nat} {st : List AV} {h : AH} : X mX5_compare 61 [aR z, v1, v2, v3, v4, v5, v6, v7, v8, v9] st h = X mX5_compare 62 [aR z, v1, v2, v3, v4, v5, v6, v7, v8, v9] (aR z :: st) h := X_of dX5_compare_61 rfl
theorem x_X5_compare_62 {v0 v1 v2 v4 v5 v6 v7 v8 v9 : AV} {z : Int} {st : List AV} {h : AH} : X mX5_compare 62 [v0, v1, v2, aI z, v4, v5, v6, v7, v8, v9] st h = X mX5_compare 63 [v0, v1, v2, aI z, v4, v5, v6, v7, v8, v9] (aI z :: st) h := X_of dX5_compare_62 rfl
theorem x_X5_compare_63 {v0 v1 v2 v3 v5 v6 v7 v8 v9 : AV} {z : Int} {st : List AV} {h : AH} : X mX5_compare 63 [v0, v1, v2, v3, aI z, v5, v6, v7, v8, v9] st h = X mX5_compare 65 [v0, v1, v2, v3, aI z, v5, v6, v7, v8, v9] (aI z :: st) h := X_of dX5_compare_63 rfl
theorem x_X5_compare_65 {a0 : Nat} {a1 : Int} {a2 : Int} {al : List AV} {h : AH} (ho : isO h 5 a0 = true) : X mX5_compare 65 al [aI a2, aI a1, aR (some a0)] h = cK (E mX5_worthOf [aR (some a0), aI a1, aI a2] h) fun v h2 => X mX5_compare 68 al (v.toList ++ []) h2 := x_cal (as := [aR (some a0), aI a1, aI a2]) (rest := []) dX5_compare_65 (fun _ => rfl) cT_5_175 rfl rfl ho
theorem x_X5_compare_68 {v0 v1 v2 v3 v4 v6 v7 v8 v9 : AV} {z : Int} {st : List AV} {h : AH} : X mX5_compare 68 [v0, v1, v2, v3, v4, aJ z, v6, v7, v8, v9] st h = X mX5_compare 70 [v0, v1, v2, v3, v4, aJ z, v6, v7, v8, v9] (aJ z :: st) h := X_of dX5_compare_68 rfl
theorem x_X5_compare_70 {v0 v1 v2 v3 v4 v5 v6 v8 v9 : AV} {z : Int} {st : List AV} {h : AH} : X mX5_compare 70 [v0, v1, v2, v3, v4, v5, v6, aJ z, v8, v9] st h = X mX5_compare 72 [v0, v1, v2, v3, v4, v5, v6, aJ z, v8, v9] (aJ z :: st) h := X_of dX5_compare_70 rfl
theorem x_X5_compare_72 {v1 v2 v3 v4 v5 v6 v7 v8 v9 : AV} {z : Option Nat} {st : List AV} {h : AH} : X mX5_compare 72 [aR z, v1, v2, v3, v4, v5, v6, v7, v8, v9] st h = X mX5_compare 73 [aR z, v1, v2, v3, v4, v5, v6, v7, v8, v9] (aR z :: st) h := X_of dX5_compare_72 rfl
theorem x_X5_compare_73 {a : Nat} {al st : List AV} {h : AH} : X mX5_compare 73 al (aR (some a) :: st) h = gK (rd h 5 a 17) fun v => X mX5_compare 76 al (v :: st) h := x_get dX5_compare_73 fT_5_140
theorem x_X5_compare_76 {v1 v2 v3 v4 v5 v6 v7 v8 v9 : AV} {z : Option Nat} {st : List AV} {h : AH} : X mX5_compare 76 [aR z, v1, v2, v3, v4, v5, v6, v7, v8, v9] st h = X mX5_compare 77 [aR z, v1, v2, v3, v4, v5, v6, v7, v8, v9] (aR z :: st) h := X_of dX5_compare_76 rfl
theorem x_X5_compare_77 {a : Nat} {al st : List AV} {h : AH} : X mX5_compare 77 al (aR (some a) :: st) h = gK (rd h 5 a 18) fun v => X mX5_compare 80 al (v :: st) h := x_get dX5_compare_77 fT_5_143
theorem x_X5_compare_80 {a0 : Int} {a1 : Int} {a2 : Int} {a3 : Int} {al : List AV} {h : AH} : X mX5_compare 80 al [aJ a3, aJ a2, aJ a1, aJ a0] h = cK (E mX5_compared [aJ a0, aJ a1, aJ a2, aJ a3] h) fun v h2 => X mX5_compare 83 al (v.toList ++ []) h2 := x_cal (as := [aJ a0, aJ a1, aJ a2, aJ a3]) (rest := []) dX5_compare_80 (fun _ => rfl) cT_5_168 rfl rfl rfl
theorem x_X5_compare_83 {v0 v1 v2 v3 v4 v5 v6 v7 v9 : AV} {z : Int} {st : List AV} {h : AH} : X mX5_compare 83 [v0, v1, v2, v3, v4, v5, v6, v7, aU, v9] (aI z :: st) h = X mX5_compare 85 [v0, v1, v2, v3, v4, v5, v6, v7, aU, aI z] st h := X_of dX5_compare_83 rfl
theorem x_X5_compare_85 {v0 v1 v2 v3 v4 v5 v6 v7 v8 : AV} {z : Int} {st : List AV} {h : AH} : X mX5_compare 85 [v0, v1, v2, v3, v4, v5, v6, v7, v8, aI z] st h = X mX5_compare 87 [v0, v1, v2, v3, v4, v5, v6, v7, v8, aI z] (aI z :: st) h := X_of dX5_compare_85 rfl
theorem x_X5_compare_87 {a : Int} {al st : List AV} {h : AH} : X mX5_compare 87 al (aI a :: st) h = if a ≤ 0 then X mX5_compare 94 al st h else X mX5_compare 90 al st h := x_le0 dX5_compare_87 rfl
theorem x_X5_compare_90 {al st : List AV} {h : AH} : X mX5_compare 90 al st h = X mX5_compare 91 al (aI 1 :: st) h := X_of dX5_compare_90 rfl
theorem x_X5_compare_91 {al st : List AV} {h : AH} : X mX5_compare 91 al st h = X mX5_compare 104 al st h := X_of dX5_compare_91 rfl
theorem x_X5_compare_94 {v0 v1 v2 v3 v4 v5 v6 v7 v8 : AV} {z : Int} {st : List AV} {h : AH} : X mX5_compare 94 [v0, v1, v2, v3, v4, v5, v6, v7, v8, aI z] st h = X mX5_compare 96 [v0, v1, v2, v3, v4, v5, v6, v7, v8, aI z] (aI z :: st) h := X_of dX5_compare_94 rfl
theorem x_X5_compare_96 {a : Int} {al st : List AV} {h : AH} : X mX5_compare 96 al (aI a :: st) h = if ¬ a = 0 then X mX5_compare 103 al st h else X mX5_compare 99 al st h := x_ne0 dX5_compare_96 rfl
theorem x_X5_compare_99 {al st : List AV} {h : AH} : X mX5_compare 99 al st h = X mX5_compare 100 al (aI 0 :: st) h := X_of dX5_compare_99 rfl
theorem x_X5_compare_100 {al st : List AV} {h : AH} : X mX5_compare 100 al st h = X mX5_compare 104 al st h := X_of dX5_compare_100 rfl
theorem x_X5_compare_103 {al st : List AV} {h : AH} : X mX5_compare 103 al st h = X mX5_compare 104 al (aI 2 :: st) h := X_of dX5_compare_103 rfl
theorem x_X5_compare_104 {z : Int} {al : List AV} {h : AH} : X mX5_compare 104 al [aI z] h = some (some (aI z), h) := X_ofR dX5_compare_104 rfl
theorem e_X5_seed {p0 : Option Nat} {p1 : Int} {h : AH} : E mX5_seed [aR p0, aI p1] h = X mX5_seed 0 [aR p0, aI p1, aU] [] h := rfl
theorem x_X5_seed_0 {v0 v2 : AV} {z : Int} {st : List AV} {h : AH} : X mX5_seed 0 [v0, aI z, v2] st h = X mX5_seed 1 [v0, aI z, v2] (aI z :: st) h := X_of dX5_seed_0 rfl
theorem x_X5_seed_1 {a : Int} {al st : List AV} {h : AH} : X mX5_seed 1 al (aI a :: st) h = if 0 ≤ a then X mX5_seed 6 al st h else X mX5_seed 4 al st h := x_ge0 dX5_seed_1 rfl
theorem x_X5_seed_4 {al st : List AV} {h : AH} : X mX5_seed 4 al st h = X mX5_seed 5 al (aI (-1) :: st) h := X_of dX5_seed_4 rfl
theorem x_X5_seed_5 {z : Int} {al : List AV} {h : AH} : X mX5_seed 5 al [aI z] h = some (some (aI z), h) := X_ofR dX5_seed_5 rfl
theorem x_X5_seed_6 {v1 v2 : AV} {z : Option Nat} {st : List AV} {h : AH} : X mX5_seed 6 [aR z, v1, v2] st h = X mX5_seed 7 [aR z, v1, v2] (aR z :: st) h := X_of dX5_seed_6 rfl
theorem x_X5_seed_7 {a : Nat} {al st : List AV} {h : AH} : X mX5_seed 7 al (aR (some a) :: st) h = gK (rd h 5 a 26) fun v => X mX5_seed 10 al (v :: st) h := x_get dX5_seed_7 fT_5_69
theorem x_X5_seed_10 {v0 v2 : AV} {y : Int} {z : Int} {st : List AV} {h : AH} : X mX5_seed 10 [v0, aI y, v2] (aI z :: st) h = X mX5_seed 11 [v0, aI y, aI z] st h := X_of dX5_seed_10 rfl
theorem x_X5_seed_11 {v1 v2 : AV} {z : Option Nat} {st : List AV} {h : AH} : X mX5_seed 11 [aR z, v1, v2] st h = X mX5_seed 12 [aR z, v1, v2] (aR z :: st) h := X_of dX5_seed_11 rfl
theorem x_X5_seed_12 {v0 v2 : AV} {z : Int} {st : List AV} {h : AH} : X mX5_seed 12 [v0, aI z, v2] st h = X mX5_seed 13 [v0, aI z, v2] (aI z :: st) h := X_of dX5_seed_12 rfl
theorem x_X5_seed_13 {a : Nat} {z : Int} {al st : List AV} {h : AH} : X mX5_seed 13 al (aI z :: aR (some a) :: st) h = pK (rd h 5 a 26) (X mX5_seed 16 al st (wr h 5 a 26 (aI z))) := x_put dX5_seed_13 fT_5_69 rfl rfl
theorem x_X5_seed_16 {v0 v1 : AV} {z : Int} {st : List AV} {h : AH} : X mX5_seed 16 [v0, v1, aI z] st h = X mX5_seed 17 [v0, v1, aI z] (aI z :: st) h := X_of dX5_seed_16 rfl
theorem x_X5_seed_17 {z : Int} {al : List AV} {h : AH} : X mX5_seed 17 al [aI z] h = some (some (aI z), h) := X_ofR dX5_seed_17 rfl
theorem e_X5_best {p0 : Option Nat} {h : AH} : E mX5_best [aR p0] h = X mX5_best 0 [aR p0, aU, aU, aU, aU, aU, aU] [] h := rfl
theorem x_X5_best_0 {al st : List AV} {h : AH} : X mX5_best 0 al st h = X mX5_best 2 al (aI (-9) :: st) h := X_of dX5_best_0 rfl
theorem x_X5_best_2 {v1 v2 v3 v4 v5 v6 : AV} {y : Option Nat} {z : Int} {st : List AV} {h : AH} : X mX5_best 2 [aR y, v1, v2, v3, v4, v5, v6] (aI z :: st) h = X mX5_best 3 [aR y, aI z, v2, v3, v4, v5, v6] st h := X_of dX5_best_2 rfl
theorem x_X5_best_3 {al st : List AV} {h : AH} : X mX5_best 3 al st h = X mX5_best 4 al (aJ 0 :: st) h := X_of dX5_best_3 rfl
theorem x_X5_best_4 {v0 v2 v3 v4 v5 v6 : AV} {y : Int} {z : Int} {st : List AV} {h : AH} : X mX5_best 4 [v0, aI y, v2, v3, v4, v5, v6] (aJ z :: st) h = X mX5_best 5 [v0, aI y, aJ z, aU, v4, v5, v6] st h := X_of dX5_best_4 rfl
theorem x_X5_best_5 {al st : List AV} {h : AH} : X mX5_best 5 al st h = X mX5_best 6 al (aJ 1 :: st) h := X_of dX5_best_5 rfl
theorem x_X5_best_6 {v0 v1 v2 v4 v5 v6 : AV} {z : Int} {st : List AV} {h : AH} : X mX5_best 6 [v0, v1, v2, aU, v4, v5, v6] (aJ z :: st) h = X mX5_best 8 [v0, v1, v2, aU, aJ z, aU, v6] st h := X_of dX5_best_6 rfl
theorem x_X5_best_8 {al st : List AV} {h : AH} : X mX5_best 8 al st h = X mX5_best 9 al (aI 0 :: st) h := X_of dX5_best_8 rfl
theorem x_X5_best_9 {v0 v1 v2 v3 v4 v6 : AV} {z : Int} {st : List AV} {h : AH} : X mX5_best 9 [v0, v1, v2, v3, v4, aU, v6] (aI z :: st) h = X mX5_best 11 [v0, v1, v2, v3, v4, aU, aI z] st h := X_of dX5_best_9 rfl
theorem x_X5_best_11 {v0 v1 v2 v3 v4 v5 : AV} {z : Int} {st : List AV} {h : AH} : X mX5_best 11 [v0, v1, v2, v3, v4, v5, aI z] st h = X mX5_best 13 [v0, v1, v2, v3, v4, v5, aI z] (aI z :: st) h := X_of dX5_best_11 rfl
theorem x_X5_best_13 {v1 v2 v3 v4 v5 v6 : AV} {z : Option Nat} {st : List AV} {h : AH} : X mX5_best 13 [aR z, v1, v2, v3, v4, v5, v6] st h = X mX5_best 14 [aR z, v1, v2, v3, v4, v5, v6] (aR z :: st) h := X_of dX5_best_13 rfl
theorem x_X5_best_14 {a : Nat} {al st : List AV} {h : AH} : X mX5_best 14 al (aR (some a) :: st) h = gK (rd h 5 a 10) fun v => X mX5_best 17 al (v :: st) h := x_get dX5_best_14 fT_5_111
theorem x_X5_best_17 {a b : Int} {al st : List AV} {h : AH} : X mX5_best 17 al (aI b :: aI a :: st) h = if b ≤ a then X mX5_best 76 al st h else X mX5_best 20 al st h := x_geC dX5_best_17 rfl
theorem x_X5_best_20 {v1 v2 v3 v4 v5 v6 : AV} {z : Option Nat} {st : List AV} {h : AH} : X mX5_best 20 [aR z, v1, v2, v3, v4, v5, v6] st h = X mX5_best 21 [aR z, v1, v2, v3, v4, v5, v6] (aR z :: st) h := X_of dX5_best_20 rfl
theorem x_X5_best_21 {v0 v1 v2 v3 v4 v5 : AV} {z : Int} {st : List AV} {h : AH} : X mX5_best 21 [v0, v1, v2, v3, v4, v5, aI z] st h = X mX5_best 23 [v0, v1, v2, v3, v4, v5, aI z] (aI z :: st) h := X_of dX5_best_21 rfl
theorem x_X5_best_23 {v1 v2 v3 v4 v5 v6 : AV} {z : Option Nat} {st : List AV} {h : AH} : X mX5_best 23 [aR z, v1, v2, v3, v4, v5, v6] st h = X mX5_best 24 [aR z, v1, v2, v3, v4, v5, v6] (aR z :: st) h := X_of dX5_best_23 rfl
theorem x_X5_best_24 {a : Nat} {al st : List AV} {h : AH} : X mX5_best 24 al (aR (some a) :: st) h = gK (rd h 5 a 13) fun v => X mX5_best 27 al (v :: st) h := x_get dX5_best_24 fT_5_32
theorem x_X5_best_27 {v0 v1 v2 v3 v4 v5 : AV} {z : Int} {st : List AV} {h : AH} : X mX5_best 27 [v0, v1, v2, v3, v4, v5, aI z] st h = X mX5_best 29 [v0, v1, v2, v3, v4, v5, aI z] (aI z :: st) h := X_of dX5_best_27 rfl
theorem x_X5_best_29 {a : Nat} {i : Int} {al st : List AV} {h : AH} : X mX5_best 29 al (aI i :: aR (some a) :: st) h = if 0 ≤ i then gK (rd h 10 a i.toNat) (fun v => X mX5_best 30 al (v :: st) h) else none := x_aldI dX5_best_29
theorem x_X5_best_30 {a0 : Nat} {a1 : Int} {a2 : Int} {al : List AV} {h : AH} (ho : isO h 5 a0 = true) : X mX5_best 30 al [aI a2, aI a1, aR (some a0)] h = cK (E mX5_worthOf [aR (some a0), aI a1, aI a2] h) fun v h2 => X mX5_best 33 al (v.toList ++ []) h2 := x_cal (as := [aR (some a0), aI a1, aI a2]) (rest := []) dX5_best_30 (fun _ => rfl) cT_5_175 rfl rfl ho
theorem x_X5_best_33 {v0 v2 v3 v4 v5 v6 : AV} {z : Int} {st : List AV} {h : AH} : X mX5_best 33 [v0, aI z, v2, v3, v4, v5, v6] st h = X mX5_best 34 [v0, aI z, v2, v3, v4, v5, v6] (aI z :: st) h := X_of dX5_best_33 rfl
theorem x_X5_best_34 {al st : List AV} {h : AH} : X mX5_best 34 al st h = X mX5_best 36 al (aI (-9) :: st) h := X_of dX5_best_34 rfl
theorem x_X5_best_36 {a b : Int} {al st : List AV} {h : AH} : X mX5_best 36 al (aI b :: aI a :: st) h = if a = b then X mX5_best 56 al st h else X mX5_best 39 al st h := x_eqC dX5_best_36 rfl
theorem x_X5_best_39 {v1 v2 v3 v4 v5 v6 : AV} {z : Option Nat} {st : List AV} {h : AH} : X mX5_best 39 [aR z, v1, v2, v3, v4, v5, v6] st h = X mX5_best 40 [aR z, v1, v2, v3, v4, v5, v6] (aR z :: st) h := X_of dX5_best_39 rfl
theorem x_X5_best_40 {a : Nat} {al st : List AV} {h : AH} : X mX5_best 40 al (aR (some a) :: st) h = gK (rd h 5 a 17) fun v => X mX5_best 43 al (v :: st) h := x_get dX5_best_40 fT_5_140
theorem x_X5_best_43 {v1 v2 v3 v4 v5 v6 : AV} {z : Option Nat} {st : List AV} {h : AH} : X mX5_best 43 [aR z, v1, v2, v3, v4, v5, v6] st h = X mX5_best 44 [aR z, v1, v2, v3, v4, v5, v6] (aR z :: st) h := X_of dX5_best_43 rfl
theorem x_X5_best_44 {a : Nat} {al st : List AV} {h : AH} : X mX5_best 44 al (aR (some a) :: st) h = gK (rd h 5 a 18) fun v => X mX5_best 47 al (v :: st) h := x_get dX5_best_44 fT_5_143
theorem x_X5_best_47 {v0 v1 v3 v4 v5 v6 : AV} {z : Int} {st : List AV} {h : AH} : X mX5_best 47 [v0, v1, aJ z, v3, v4, v5, v6] st h = X mX5_best 48 [v0, v1, aJ z, v3, v4, v5, v6] (aJ z :: st) h := X_of dX5_best_47 rfl
theorem x_X5_best_48 {v0 v1 v2 v3 v5 v6 : AV} {z : Int} {st : List AV} {h : AH} : X mX5_best 48 [v0, v1, v2, v3, aJ z, v5, v6] st h = X mX5_best 50 [v0, v1, v2, v3, aJ z, v5, v6] (aJ z :: st) h := X_of dX5_best_48 rfl
theorem x_X5_best_50 {a0 : Int} {a1 : Int} {a2 : Int} {a3 : Int} {al : List AV} {h : AH} : X mX5_best 50 al [aJ a3, aJ a2, aJ a1, aJ a0] h = cK (E mX5_compared [aJ a0, aJ a1, aJ a2, aJ a3] h) fun v h2 => X mX5_best 53 al (v.toList ++ []) h2 := x_cal (as := [aJ a0, aJ a1, aJ a2, aJ a3]) (rest := []) dX5_best_50 (fun _ => rfl) cT_5_168 rfl rfl rfl
theorem x_X5_best_53 {a : Int} {al st : List AV} {h : AH} : X mX5_best 53 al (aI a :: st) h = if a ≤ 0 then X mX5_best 70 al st h else X mX5_best 56 al st h := x_le0 dX5_best_53 rfl
theorem x_X5_best_56 {v0 v1 v2 v3 v4 v5 : AV} {z : Int} {st : List AV} {h : AH} : X mX5_best 56 [v0, v1, v2, v3, v4, v5, aI z] st h = X mX5_best 58 [v0, v1, v2, v3, v4, v5, aI z] (aI z :: st) h := X_of dX5_best_56 rfl
theorem x_X5_best_58 {v1 v2 v3 v4 v5 v6 : AV} {y : Option Nat} {z : Int} {st : List AV} {h : AH} : X mX5_best 58 [aR y, v1, v2, v3, v4, v5, v6] (aI z :: st) h = X mX5_best 59 [aR y, aI z, v2, v3, v4, v5, v6] st h := X_of dX5_best_58 rfl
theorem x_X5_best_59 {v1 v2 v3 v4 v5 v6 : AV} {z : Option Nat} {st : List AV} {h : AH} : X mX5_best 59 [aR z, v1, v2, v3, v4, v5, v6] st h = X mX5_best 60 [aR z, v1, v2, v3, v4, v5, v6] (aR z :: st) h := X_of dX5_best_59 rfl
theorem x_X5_best_60 {a : Nat} {al st : List AV} {h : AH} : X mX5_best 60 al (aR (some a) :: st) h = gK (rd h 5 a 17) fun v => X mX5_best 63 al (v :: st) h := x_get dX5_best_60 fT_5_140
theorem x_X5_best_63 {v0 v2 v3 v4 v5 v6 : AV} {y : Int} {z : Int} {st : List AV} {h : AH} : X mX5_best 63 [v0, aI y, v2, v3, v4, v5, v6] (aJ z :: st) h = X mX5_best 64 [v0, aI y, aJ z, aU, v4, v5, v6] st h := X_of dX5_best_63 rfl
theorem x_X5_best_64 {v1 v2 v3 v4 v5 v6 : AV} {z : Option Nat} {st : List AV} {h : AH} : X mX5_best 64 [aR z, v1, v2, v3, v4, v5, v6] st h = X mX5_best 65 [aR z, v1, v2, v3, v4, v5, v6] (aR z :: st) h := X_of dX5_best_64 rfl
theorem x_X5_best_65 {a : Nat} {al st : List AV} {h : AH} : X mX5_best 65 al (aR (some a) :: st) h = gK (rd h 5 a 18) fun v => X mX5_best 68 al (v :: st) h := x_get dX5_best_65 fT_5_143
theorem x_X5_best_68 {v0 v1 v2 v4 v5 v6 : AV} {z : Int} {st : List AV} {h : AH} : X mX5_best 68 [v0, v1, v2, aU, v4, v5, v6] (aJ z :: st) h = X mX5_best 70 [v0, v1, v2, aU, aJ z, aU, v6] st h := X_of dX5_best_68 rfl
theorem x_X5_best_70 {v0 v1 v2 v3 v4 : AV} {z : Int} {st : List AV} {h : AH} : X mX5_best 70 [v0, v1, v2, v3, v4, aU, aI z] st h = X mX5_best 73 [v0, v1, v2, v3, v4, aU, aI (w32 (z + 1))] st h := X_of dX5_best_70 rfl
theorem x_X5_best_73 {al st : List AV} {h : AH} : X mX5_best 73 al st h = X mX5_best 11 al st h := X_of dX5_best_73 rfl
theorem x_X5_best_76 {v0 v2 v3 v4 v5 v6 : AV} {z : Int} {st : List AV} {h : AH} : X mX5_best 76 [v0, aI z, v2, v3, v4, v5, v6] st h = X mX5_best 77 [v0, aI z, v2, v3, v4, v5, v6] (aI z :: st) h := X_of dX5_best_76 rfl
theorem x_X5_best_77 {z : Int} {al : List AV} {h : AH} : X mX5_best 77 al [aI z] h = some (some (aI z), h) := X_ofR dX5_best_77 rfl
theorem e_X5_works {p0 : Option Nat} {p1 : Int} {h : AH} : E mX5_works [aR p0, aI p1] h = X mX5_works 0 [aR p0, aI p1, aU, aU, aU, aU, aU] [] h := rfl
theorem x_X5_works_0 {v1 v2 v3 v4 v5 v6 : AV} {z : Option Nat} {st : List AV} {h : AH} : X mX5_works 0 [aR z, v1, v2, v3, v4, v5, v6] st h = X mX5_works 1 [aR z, v1, v2, v3, v4, v5, v6] (aR z :: st) h := X_of dX5_works_0 rfl
theorem x_X5_works_1 {a : Nat} {al st : List AV} {h : AH} : X mX5_works 1 al (aR (some a) :: st) h = gK (rd h 5 a 13) fun v => X mX5_works 4 al (v :: st) h := x_get dX5_works_1 fT_5_32
theorem x_X5_works_4 {v0 v2 v3 v4 v5 v6 : AV} {z : Int} {st : List AV} {h : AH} : X mX5_works 4 [v0, aI z, v2, v3, v4, v5, v6] st h = X mX5_works 5 [v0, aI z, v2, v3, v4, v5, v6] (aI z :: st) h := X_of dX5_works_4 rfl
theorem x_X5_works_5 {a : Nat} {i : Int} {al st : List AV} {h : AH} : X mX5_works 5 al (aI i :: aR (some a) :: st) h = if 0 ≤ i then gK (rd h 10 a i.toNat) (fun v => X mX5_works 6 al (v :: st) h) else none := x_aldI dX5_works_5
theorem x_X5_works_6 {v0 v2 v3 v4 v5 v6 : AV} {y : Int} {z : Int} {st : List AV} {h : AH} : X mX5_works 6 [v0, aI y, v2, v3, v4, v5, v6] (aI z :: st) h = X mX5_works 7 [v0, aI y, aI z, v3, v4, v5, v6] st h := X_of dX5_works_6 rfl
theorem x_X5_works_7 {v1 v2 v3 v4 v5 v6 : AV} {z : Option Nat} {st : List AV} {h : AH} : X mX5_works 7 [aR z, v1, v2, v3, v4, v5, v6] st h = X mX5_works 8 [aR z, v1, v2, v3, v4, v5, v6] (aR z :: st) h := X_of dX5_works_7 rfl
theorem x_X5_works_8 {a : Nat} {al st : List AV} {h : AH} : X mX5_works 8 al (aR (some a) :: st) h = gK (rd h 5 a 14) fun v => X mX5_works 11 al (v :: st) h := x_get dX5_works_8 fT_5_35
theorem x_X5_works_11 {al st : List AV} {h : AH} : X mX5_works 11 al st h = X mX5_works 12 al (aI 5 :: st) h := X_of dX5_works_11 rfl
theorem x_X5_works_12 {v0 v2 v3 v4 v5 v6 : AV} {z : Int} {st : List AV} {h : AH} : X mX5_works 12 [v0, aI z, v2, v3, v4, v5, v6] st h = X mX5_works 13 [v0, aI z, v2, v3, v4, v5, v6] (aI z :: st) h := X_of dX5_works_12 rfl
theorem x_X5_works_13 {a b : Int} {al st : List AV} {h : AH} : X mX5_works 13 al (aI b :: aI a :: st) h = X mX5_works 14 al (aI (w32 (a * b)) :: st) h := X_of dX5_works_13 rfl
theorem x_X5_works_14 {v0 v1 v3 v4 v5 v6 : AV} {z : Int} {st : List AV} {h : AH} : X mX5_works 14 [v0, v1, aI z, v3, v4, v5, v6] st h = X mX5_works 15 [v0, v1, aI z, v3, v4, v5, v6] (aI z :: st) h := X_of dX5_works_14 rfl
theorem x_X5_works_15 {a b : Int} {al st : List AV} {h : AH} : X mX5_works 15 al (aI b :: aI a :: st) h = X mX5_works 16 al (aI (w32 (a + b)) :: st) h := X_of dX5_works_15 rfl
theorem x_X5_works_16 {a : Nat} {i : Int} {al st : List AV} {h : AH} : X mX5_works 16 al (aI i :: aR (some a) :: st) h = if 0 ≤ i then gK (rd h 10 a i.toNat) (fun v => X mX5_works 17 al (v :: st) h) else none := x_aldI dX5_works_16
theorem x_X5_works_17 {v0 v1 v3 v4 v5 v6 : AV} {y : Int} {z : Int} {st : List AV} {h : AH} : X mX5_works 17 [v0, v1, aI y, v3, v4, v5, v6] (aI z :: st) h = X mX5_works 18 [v0, v1, aI y, aI z, v4, v5, v6] st h := X_of dX5_works_17 rfl
theorem x_X5_works_18 {v1 v2 v3 v4 v5 v6 : AV} {z : Option Nat} {st : List AV} {h : AH} : X mX5_works 18 [aR z, v1, v2, v3, v4, v5, v6] st h = X mX5_works 19 [aR z, v1, v2, v3, v4, v5, v6] (aR z :: st) h := X_of dX5_works_18 rfl
theorem x_X5_works_19 {z : Option Nat} {al st : List AV} {h : AH} : X mX5_works 19 al (aR z :: st) h = X mX5_works 20 al (aR z :: aR z :: st) h := X_of dX5_works_19 rfl
theorem x_X5_works_20 {a : Nat} {al st : List AV} {h : AH} : X mX5_works 20 al (aR (some a) :: st) h = gK (rd h 5 a 27) fun v => X mX5_works 23 al (v :: st) h := x_get dX5_works_20 fT_5_196
theorem x_X5_works_23 {v0 v1 v2 v4 v5 v6 : AV} {z : Int} {st : List AV} {h : AH} : X mX5_works 23 [v0, v1, v2, aI z, v4, v5, v6] st h = X mX5_works 24 [v0, v1, v2, aI z, v4, v5, v6] (aI z :: st) h := X_of dX5_works_23 rfl
theorem x_X5_works_24 {a : Int} {al st : List AV} {h : AH} : X mX5_works 24 al (aI a :: st) h = X mX5_works 25 al (aJ a :: st) h := X_of dX5_works_24 rfl
theorem x_X5_works_25 {a b : Int} {al st : List AV} {h : AH} : X mX5_works 25 al (aJ b :: aJ a :: st) h = X mX5_works 26 al (aJ (w64 (a + b)) :: st) h := X_of dX5_works_25 rfl
theorem x_X5_works_26 {a : Nat} {z : Int} {al st : List AV} {h : AH} : X mX5_works 26 al (aJ z :: aR (some a) :: st) h = pK (rd h 5 a 27) (X mX5_works 29 al st (wr h 5 a 27 (aJ z))) := x_put dX5_works_26 fT_5_196 rfl rfl
theorem x_X5_works_29 {v1 v2 v3 v4 v5 v6 : AV} {z : Option Nat} {st : List AV} {h : AH} : X mX5_works 29 [aR z, v1, v2, v3, v4, v5, v6] st h = X mX5_works 30 [aR z, v1, v2, v3, v4, v5, v6] (aR z :: st) h := X_of dX5_works_29 rfl
theorem x_X5_works_30 {a : Nat} {al st : List AV} {h : AH} : X mX5_works 30 al (aR (some a) :: st) h = gK (rd h 5 a 16) fun v => X mX5_works 33 al (v :: st) h := x_get dX5_works_30 fT_5_41
theorem x_X5_works_33 {v0 v2 v3 v4 v5 v6 : AV} {z : Int} {st : List AV} {h : AH} : X mX5_works 33 [v0, aI z, v2, v3, v4, v5, v6] st h = X mX5_works 34 [v0, aI z, v2, v3, v4, v5, v6] (aI z :: st) h := X_of dX5_works_33 rfl
theorem x_X5_works_34 {z : Int} {r : Option Nat} {al st : List AV} {h : AH} : X mX5_works 34 al (aI z :: aR r :: st) h = X mX5_works 35 al (aI z :: aR r :: aI z :: aR r :: st) h := X_of dX5_works_34 rfl
theorem x_X5_works_35 {a : Nat} {i : Int} {al st : List AV} {h : AH} : X mX5_works 35 al (aI i :: aR (some a) :: st) h = if 0 ≤ i then gK (rd h 10 a i.toNat) (fun v => X mX5_works 36 al (v :: st) h) else none := x_aldI dX5_works_35
theorem x_X5_works_36 {al st : List AV} {h : AH} : X mX5_works 36 al st h = X mX5_works 37 al (aI 1 :: st) h := X_of dX5_works_36 rfl
theorem x_X5_works_37 {a b : Int} {al st : List AV} {h : AH} : X mX5_works 37 al (aI b :: aI a :: st) h = X mX5_works 38 al (aI (w32 (a + b)) :: st) h := X_of dX5_works_37 rfl
theorem x_X5_works_38 {a : Nat} {i z : Int} {al st : List AV} {h : AH} : X mX5_works 38 al (aI z :: aI i :: aR (some a) :: st) h = if 0 ≤ i then pK (rd h 10 a i.toNat) (X mX5_works 39 al st (wr h 10 a i.toNat (aI z))) else none := x_astI dX5_works_38
theorem x_X5_works_39 {v1 v2 v3 v4 v5 v6 : AV} {z : Option Nat} {st : List AV} {h : AH} : X mX5_works 39 [aR z, v1, v2, v3, v4, v5, v6] st h = X mX5_works 40 [aR z, v1, v2, v3, v4, v5, v6] (aR z :: st) h := X_of dX5_works_39 rfl
theorem x_X5_works_40 {v1 v2 v3 v4 v5 v6 : AV} {z : Option Nat} {st : List AV} {h : AH} : X mX5_works 40 [aR z, v1, v2, v3, v4, v5, v6] st h = X mX5_works 41 [aR z, v1, v2, v3, v4, v5, v6] (aR z :: st) h := X_of dX5_works_40 rfl
theorem x_X5_works_41 {a : Nat} {al st : List AV} {h : AH} : X mX5_works 41 al (aR (some a) :: st) h = gK (rd h 5 a 26) fun v => X mX5_works 44 al (v :: st) h := x_get dX5_works_41 fT_5_69
theorem x_X5_works_44 {a : Int} {al st : List AV} {h : AH} : X mX5_works 44 al (aI a :: st) h = X mX5_works 45 al (aJ a :: st) h := X_of dX5_works_44 rfl
theorem x_X5_works_45 {al st : List AV} {h : AH} : X mX5_works 45 al st h = X mX5_works 48 al (aJ 1103515245 :: st) h := X_of dX5_works_45 rfl
theorem x_X5_works_48 {a b : Int} {al st : List AV} {h : AH} : X mX5_works 48 al (aJ b :: aJ a :: st) h = X mX5_works 49 al (aJ (w64 (a * b)) :: st) h := X_of dX5_works_48 rfl
theorem x_X5_works_49 {al st : List AV} {h : AH} : X mX5_works 49 al st h = X mX5_works 52 al (aJ 12345 :: st) h := X_of dX5_works_49 rfl
theorem x_X5_works_52 {a b : Int} {al st : List AV} {h : AH} : X mX5_works 52 al (aJ b :: aJ a :: st) h = X mX5_works 53 al (aJ (w64 (a + b)) :: st) h := X_of dX5_works_52 rfl
theorem x_X5_works_53 {al st : List AV} {h : AH} : X mX5_works 53 al st h = X mX5_works 56 al (aJ 2147483648 :: st) h := X_of dX5_works_53 rfl
theorem x_X5_works_56 {a b : Int} {al st : List AV} {h : AH} : X mX5_works 56 al (aJ b :: aJ a :: st) h = if b = 0 then none else X mX5_works 57 al (aJ (a.tmod b) :: st) h := x_remJ dX5_works_56
theorem x_X5_works_57 {a : Int} {al st : List AV} {h : AH} : X mX5_works 57 al (aJ a :: st) h = X mX5_works 58 al (aI (w32 a) :: st) h := X_of dX5_works_57 rfl
theorem x_X5_works_58 {a : Nat} {z : Int} {al st : List AV} {h : AH} : X mX5_works 58 al (aI z :: aR (some a) :: st) h = pK (rd h 5 a 26) (X mX5_works 61 al st (wr h 5 a 26 (aI z))) := x_put dX5_works_58 fT_5_69 rfl rfl
theorem x_X5_works_61 {v1 v2 v3 v4 v5 v6 : AV} {z : Option Nat} {st : List AV} {h : AH} : X mX5_works 61 [aR z, v1, v2, v3, v4, v5, v6] st h = X mX5_works 62 [aR z, v1, v2, v3, v4, v5, v6] (aR z :: st) h := X_of dX5_works_61 rfl
theorem x_X5_works_62 {a : Nat} {al st : List AV} {h : AH} : X mX5_works 62 al (aR (some a) :: st) h = gK (rd h 5 a 26) fun v => X mX5_works 65 al (v :: st) h := x_get dX5_works_62 fT_5_69
theorem x_X5_works_65 {al st : List AV} {h : AH} : X mX5_works 65 al st h = X mX5_works 67 al (aI 65536 :: st) h := X_of dX5_works_65 rfl
theorem x_X5_works_67 {a b : Int} {al st : List AV} {h : AH} : X mX5_works 67 al (aI b :: aI a :: st) h = if b = 0 then none else X mX5_works 68 al (aI (w32 (a.tdiv b)) :: st) h := x_div dX5_works_67
theorem x_X5_works_68 {v1 v2 v3 v4 v5 v6 : AV} {z : Option Nat} {st : List AV} {h : AH} : X mX5_works 68 [aR z, v1, v2, v3, v4, v5, v6] st h = X mX5_works 69 [aR z, v1, v2, v3, v4, v5, v6] (aR z :: st) h := X_of dX5_works_68 rfl
theorem x_X5_works_69 {v0 v2 v3 v4 v5 v6 : AV} {z : Int} {st : List AV} {h : AH} : X mX5_works 69 [v0, aI z, v2, v3, v4, v5, v6] st h = X mX5_works 70 [v0, aI z, v2, v3, v4, v5, v6] (aI z :: st) h := X_of dX5_works_69 rfl
theorem x_X5_works_70 {v0 v1 v3 v4 v5 v6 : AV} {z : Int} {st : List AV} {h : AH} : X mX5_works 70 [v0, v1, aI z, v3, v4, v5, v6] st h = X mX5_works 71 [v0, v1, aI z, v3, v4, v5, v6] (aI z :: st) h := X_of dX5_works_70 rfl
theorem x_X5_works_71 {a0 : Nat} {a1 : Int} {a2 : Int} {r0 : Int} {al : List AV} {h : AH} (ho : isO h 5 a0 = true) : X mX5_works 71 al [aI a2, aI a1, aR (some a0), aI r0] h = cK (E mX5_sum [aR (some a0), aI a1, aI a2] h) fun v h2 => X mX5_works 74 al (v.toList ++ [aI r0]) h2 := x_cal (as := [aR (some a0), aI a1, aI a2]) (rest := [aI r0]) dX5_works_71 (fun _ => rfl) cT_5_133 rfl rfl ho
theorem x_X5_works_74 {a b : Int} {al st : List AV} {h : AH} : X mX5_works 74 al (aI b :: aI a :: st) h = if b = 0 then none else X mX5_works 75 al (aI (a.tmod b) :: st) h := x_rem dX5_works_74
theorem x_X5_works_75 {v0 v1 v2 v4 v5 v6 : AV} {y : Int} {z : Int} {st : List AV} {h : AH} : X mX5_works 75 [v0, v1, v2, aI y, v4, v5, v6] (aI z :: st) h = X mX5_works 77 [v0, v1, v2, aI y, aI z, v5, v6] st h := X_of dX5_works_75 rfl
theorem x_X5_works_77 {al st : List AV} {h : AH} : X mX5_works 77 al st h = X mX5_works 78 al (aI 0 :: st) h := X_of dX5_works_77 rfl
theorem x_X5_works_78 {v0 v1 v2 v3 v5 v6 : AV} {y : Int} {z : Int} {st : List AV} {h : AH} : X mX5_works 78 [v0, v1, v2, v3, aI y, v5, v6] (aI z :: st) h = X mX5_works 80 [v0, v1, v2, v3, aI y, aI z, v6] st h := X_of dX5_works_78 rfl
theorem x_X5_works_80 {v1 v2 v3 v4 v5 v6 : AV} {z : Option Nat} {st : List AV} {h : AH} : X mX5_works 80 [aR z, v1, v2, v3, v4, v5, v6] st h = X mX5_works 81 [aR z, v1, v2, v3, v4, v5, v6] (aR z :: st) h := X_of dX5_works_80 rfl
theorem x_X5_works_81 {a : Nat} {al st : List AV} {h : AH} : X mX5_works 81 al (aR (some a) :: st) h = gK (rd h 5 a 15) fun v => X mX5_works 84 al (v :: st) h := x_get dX5_works_81 fT_5_38
theorem x_X5_works_84 {al st : List AV} {h : AH} : X mX5_works 84 al st h = X mX5_works 86 al (aI 25 :: st) h := X_of dX5_works_84 rfl
theorem x_X5_works_86 {v0 v2 v3 v4 v5 v6 : AV} {z : Int} {st : List AV} {h : AH} : X mX5_works 86 [v0, aI z, v2, v3, v4, v5, v6] st h = X mX5_works 87 [v0, aI z, v2, v3, v4, v5, v6] (aI z :: st) h := X_of dX5_works_86 rfl
theorem x_X5_works_87 {a b : Int} {al st : List AV} {h : AH} : X mX5_works 87 al (aI b :: aI a :: st) h = X mX5_works 88 al (aI (w32 (a * b)) :: st) h := X_of dX5_works_87 rfl
theorem x_X5_works_88 {al st : List AV} {h : AH} : X mX5_works 88 al st h = X mX5_works 89 al (aI 5 :: st) h := X_of dX5_works_88 rfl
theorem x_X5_works_89 {v0 v1 v3 v4 v5 v6 : AV} {z : Int} {st : List AV} {h : AH} : X mX5_works 89 [v0, v1, aI z, v3, v4, v5, v6] st h = X mX5_works 90 [v0, v1, aI z, v3, v4, v5, v6] (aI z :: st) h := X_of dX5_works_89 rfl
theorem x_X5_works_90 {a b : Int} {al st : List AV} {h : AH} : X mX5_works 90 al (aI b :: aI a :: st) h = X mX5_works 91 al (aI (w32 (a * b)) :: st) h := X_of dX5_works_90 rfl
theorem x_X5_works_91 {a b : Int} {al st : List AV} {h : AH} : X mX5_works 91 al (aI b :: aI a :: st) h = X mX5_works 92 al (aI (w32 (a + b)) :: st) h := X_of dX5_works_91 rfl
theorem x_X5_works_92 {a : Nat} {i : Int} {al st : List AV} {h : AH} : X mX5_works 92 al (aI i :: aR (some a) :: st) h = if 0 ≤ i then gK (rd h 10 a i.toNat) (fun v => X mX5_works 93 al (v :: st) h) else none := x_aldI dX5_works_92
theorem x_X5_works_93 {v0 v1 v2 v3 v4 v6 : AV} {y : Int} {z : Int} {st : List AV} {h : AH} : X mX5_works 93 [v0, v1, v2, v3, v4, aI y, v6] (aI z :: st) h = X mX5_works 95 [v0, v1, v2, v3, v4, aI y, aI z] st h := X_of dX5_works_93 rfl
theorem x_X5_works_95 {v0 v1 v2 v3 v4 v5 : AV} {z : Int} {st : List AV} {h : AH} : X mX5_works 95 [v0, v1, v2, v3, v4, v5, aI z] st h = X mX5_works 97 [v0, v1, v2, v3, v4, v5, aI z] (aI z :: st) h := X_of dX5_works_95 rfl
theorem x_X5_works_97 {v0 v1 v2 v3 v5 v6 : AV} {z : Int} {st : List AV} {h : AH} : X mX5_works 97 [v0, v1, v2, v3, aI z, v5, v6] st h = X mX5_works 99 [v0, v1, v2, v3, aI z, v5, v6] (aI z :: st) h := X_of dX5_works_97 rfl
theorem x_X5_works_99 {a b : Int} {al st : List AV} {h : AH} : X mX5_works 99 al (aI b :: aI a :: st) h = if b < a then X mX5_works 129 al st h else X mX5_works 102 al st h := x_gtC dX5_works_99 rfl
theorem x_X5_works_102 {v0 v1 v2 v3 v6 : AV} {y : Int} {z : Int} {st : List AV} {h : AH} : X mX5_works 102 [v0, v1, v2, v3, aI y, aI z, v6] st h = X mX5_works 105 [v0, v1, v2, v3, aI y, aI (w32 (z + 1)), v6] st h := X_of dX5_works_102 rfl
theorem x_X5_works_105 {v0 v1 v2 v3 v4 v5 : AV} {z : Int} {st : List AV} {h : AH} : X mX5_works 105 [v0, v1, v2, v3, v4, v5, aI z] st h = X mX5_works 107 [v0, v1, v2, v3, v4, v5, aI z] (aI z :: st) h := X_of dX5_works_105 rfl
theorem x_X5_works_107 {v1 v2 v3 v4 v5 v6 : AV} {z : Option Nat} {st : List AV} {h : AH} : X mX5_works 107 [aR z, v1, v2, v3, v4, v5, v6] st h = X mX5_works 108 [aR z, v1, v2, v3, v4, v5, v6] (aR z :: st) h := X_of dX5_works_107 rfl
theorem x_X5_works_108 {a : Nat} {al st : List AV} {h : AH} : X mX5_works 108 al (aR (some a) :: st) h = gK (rd h 5 a 15) fun v => X mX5_works 111 al (v :: st) h := x_get dX5_works_108 fT_5_38
theorem x_X5_works_111 {al st : List AV} {h : AH} : X mX5_works 111 al st h = X mX5_works 113 al (aI 25 :: st) h := X_of dX5_works_111 rfl
theorem x_X5_works_113 {v0 v2 v3 v4 v5 v6 : AV} {z : Int} {st : List AV} {h : AH} : X mX5_works 113 [v0, aI z, v2, v3, v4, v5, v6] st h = X mX5_works 114 [v0, aI z, v2, v3, v4, v5, v6] (aI z :: st) h := X_of dX5_works_113 rfl
theorem x_X5_works_114 {a b : Int} {al st : List AV} {h : AH} : X mX5_works 114 al (aI b :: aI a :: st) h = X mX5_works 115 al (aI (w32 (a * b)) :: st) h := X_of dX5_works_114 rfl
theorem x_X5_works_115 {al st : List AV} {h : AH} : X mX5_works 115 al st h = X mX5_works 116 al (aI 5 :: st) h := X_of dX5_works_115 rfl
theorem x_X5_works_116 {v0 v1 v3 v4 v5 v6 : AV} {z : Int} {st : List AV} {h : AH} : X mX5_works 116 [v0, v1, aI z, v3, v4, v5, v6] st h = X mX5_works 117 [v0, v1, aI z, v3, v4, v5, v6] (aI z :: st) h := X_of dX5_works_116 rfl
theorem x_X5_works_117 {a b : Int} {al st : List AV} {h : AH} : X mX5_works 117 al (aI b :: aI a :: st) h = X mX5_works 118 al (aI (w32 (a * b)) :: st) h := X_of dX5_works_117 rfl
theorem x_X5_works_118 {a b : Int} {al st : List AV} {h : AH} : X mX5_works 118 al (aI b :: aI a :: st) h = X mX5_works 119 al (aI (w32 (a + b)) :: st) h := X_of dX5_works_118 rfl
theorem x_X5_works_119 {v0 v1 v2 v3 v4 v6 : AV} {z : Int} {st : List AV} {h : AH} : X mX5_works 119 [v0, v1, v2, v3, v4, aI z, v6] st h = X mX5_works 121 [v0, v1, v2, v3, v4, aI z, v6] (aI z :: st) h := X_of dX5_works_119 rfl
theorem x_X5_works_121 {a b : Int} {al st : List AV} {h : AH} : X mX5_works 121 al (aI b :: aI a :: st) h = X mX5_works 122 al (aI (w32 (a + b)) :: st) h := X_of dX5_works_121 rfl
theorem x_X5_works_122 {a : Nat} {i : Int} {al st : List AV} {h : AH} : X mX5_works 122 al (aI i :: aR (some a) :: st) h = if 0 ≤ i then gK (rd h 10 a i.toNat) (fun v => X mX5_works 123 al (v :: st) h) else none := x_aldI dX5_works_122
theorem x_X5_works_123 {a b : Int} {al st : List AV} {h : AH} : X mX5_works 123 al (aI b :: aI a :: st) h = X mX5_works 124 al (aI (w32 (a + b)) :: st) h := X_of dX5_works_123 rfl
theorem x_X5_works_124 {v0 v1 v2 v3 v4 v6 : AV} {y : Int} {z : Int} {st : List AV} {h : AH} : X mX5_works 124 [v0, v1, v2, v3, v4, aI y, v6] (aI z :: st) h = X mX5_works 126 [v0, v1, v2, v3, v4, aI y, aI z] st h := X_of dX5_works_124 rfl
theorem x_X5_works_126 {al st : List AV} {h : AH} : X mX5_works 126 al st h = X mX5_works 95 al st h := X_of dX5_works_126 rfl
theorem x_X5_works_129 {v1 v2 v3 v4 v5 v6 : AV} {z : Option Nat} {st : List AV} {h : AH} : X mX5_works 129 [aR z, v1, v2, v3, v4, v5, v6] st h = X mX5_works 130 [aR z, v1, v2, v3, v4, v5, v6] (aR z :: st) h := X_of dX5_works_129 rfl
theorem x_X5_works_130 {a : Nat} {al st : List AV} {h : AH} : X mX5_works 130 al (aR (some a) :: st) h = gK (rd h 5 a 13) fun v => X mX5_works 133 al (v :: st) h := x_get dX5_works_130 fT_5_32
theorem x_X5_works_133 {v0 v2 v3 v4 v5 v6 : AV} {z : Int} {st : List AV} {h : AH} : X mX5_works 133 [v0, aI z, v2, v3, v4, v5, v6] st h = X mX5_works 134 [v0, aI z, v2, v3, v4, v5, v6] (aI z :: st) h := X_of dX5_works_133 rfl
theorem x_X5_works_134 {v0 v1 v2 v3 v4 v6 : AV} {z : Int} {st : List AV} {h : AH} : X mX5_works 134 [v0, v1, v2, v3, v4, aI z, v6] st h = X mX5_works 136 [v0, v1, v2, v3, v4, aI z, v6] (aI z :: st) h := X_of dX5_works_134 rfl
theorem x_X5_works_136 {a : Nat} {i z : Int} {al st : List AV} {h : AH} : X mX5_works 136 al (aI z :: aI i :: aR (some a) :: st) h = if 0 ≤ i then pK (rd h 10 a i.toNat) (X mX5_works 137 al st (wr h 10 a i.toNat (aI z))) else none := x_astI dX5_works_136
theorem x_X5_works_137 {v0 v1 v2 v4 v5 v6 : AV} {z : Int} {st : List AV} {h : AH} : X mX5_works 137 [v0, v1, v2, aI z, v4, v5, v6] st h = X mX5_works 138 [v0, v1, v2, aI z, v4, v5, v6] (aI z :: st) h := X_of dX5_works_137 rfl
theorem x_X5_works_138 {z : Int} {al : List AV} {h : AH} : X mX5_works 138 al [aI z] h = some (some (aI z), h) := X_ofR dX5_works_138 rfl
theorem e_X5_work {p0 : Option Nat} {p1 : Int} {h : AH} : E mX5_work [aR p0, aI p1] h = X mX5_work 0 [aR p0, aI p1, aU] [] h := rfl
theorem x_X5_work_0 {v1 v2 : AV} {z : Option Nat} {st : List AV} {h : AH} : X mX5_work 0 [aR z, v1, v2] st h = X mX5_work 1 [aR z, v1, v2] (aR z :: st) h := X_of dX5_work_0 rfl
theorem x_X5_work_1 {v0 v2 : AV} {z : Int} {st : List AV} {h : AH} : X mX5_work 1 [v0, aI z, v2] st h = X mX5_work 2 [v0, aI z, v2] (aI z :: st) h := X_of dX5_work_1 rfl
theorem x_X5_work_2 {a0 : Nat} {a1 : Int} {al : List AV} {h : AH} (ho : isO h 5 a0 = true) : X mX5_work 2 al [aI a1, aR (some a0)] h = cK (E mX5_isMachine [aR (some a0), aI a1] h) fun v h2 => X mX5_work 5 al (v.toList ++ []) h2 := x_cal (as := [aR (some a0), aI a1]) (rest := []) dX5_work_2 (fun _ => rfl) cT_5_114 rfl rfl ho
theorem x_X5_work_5 {a : Int} {al st : List AV} {h : AH} : X mX5_work 5 al (aI a :: st) h = if ¬ a = 0 then X mX5_work 10 al st h else X mX5_work 8 al st h := x_ne0 dX5_work_5 rfl
theorem x_X5_work_8 {al st : List AV} {h : AH} : X mX5_work 8 al st h = X mX5_work 9 al (aI (-1) :: st) h := X_of dX5_work_8 rfl
theorem x_X5_work_9 {z : Int} {al : List AV} {h : AH} : X mX5_work 9 al [aI z] h = some (some (aI z), h) := X_ofR dX5_work_9 rfl
theorem x_X5_work_10 {v1 v2 : AV} {z : Option Nat} {st : List AV} {h : AH} : X mX5_work 10 [aR z, v1, v2] st h = X mX5_work 11 [aR z, v1, v2] (aR z :: st) h := X_of dX5_work_10 rfl
theorem x_X5_work_11 {v0 v2 : AV} {z : Int} {st : List AV} {h : AH} : X mX5_work 11 [v0, aI z, v2] st h = X mX5_work 12 [v0, aI z, v2] (aI z :: st) h := X_of dX5_work_11 rfl
theorem x_X5_work_12 {a0 : Nat} {a1 : Int} {al : List AV} {h : AH} (ho : isO h 5 a0 = true) : X mX5_work 12 al [aI a1, aR (some a0)] h = cK (E mX5_works [aR (some a0), aI a1] h) fun v h2 => X mX5_work 15 al (v.toList ++ []) h2 := x_cal (as := [aR (some a0), aI a1]) (rest := []) dX5_work_12 (fun _ => rfl) cT_5_206 rfl rfl ho
theorem x_X5_work_15 {v0 v2 : AV} {y : Int} {z : Int} {st : List AV} {h : AH} : X mX5_work 15 [v0, aI y, v2] (aI z :: st) h = X mX5_work 16 [v0, aI y, aI z] st h := X_of dX5_work_15 rfl
theorem x_X5_work_16 {v1 v2 : AV} {z : Option Nat} {st : List AV} {h : AH} : X mX5_work 16 [aR z, v1, v2] st h = X mX5_work 17 [aR z, v1, v2] (aR z :: st) h := X_of dX5_work_16 rfl
theorem x_X5_work_17 {a : Nat} {al st : List AV} {h : AH} : X mX5_work 17 al (aR (some a) :: st) h = gK (rd h 5 a 13) fun v => X mX5_work 20 al (v :: st) h := x_get dX5_work_17 fT_5_32
theorem x_X5_work_20 {v0 v2 : AV} {z : Int} {st : List AV} {h : AH} : X mX5_work 20 [v0, aI z, v2] st h = X mX5_work 21 [v0, aI z, v2] (aI z :: st) h := X_of dX5_work_20 rfl
theorem x_X5_work_21 {a : Nat} {i : Int} {al st : List AV} {h : AH} : X mX5_work 21 al (aI i :: aR (some a) :: st) h = if 0 ≤ i then gK (rd h 10 a i.toNat) (fun v => X mX5_work 22 al (v :: st) h) else none := x_aldI dX5_work_21
theorem x_X5_work_22 {z : Int} {al : List AV} {h : AH} : X mX5_work 22 al [aI z] h = some (some (aI z), h) := X_ofR dX5_work_22 rfl
theorem e_X5_run {p0 : Option Nat} {p1 : Int} {h : AH} : E mX5_run [aR p0, aI p1] h = X mX5_run 0 [aR p0, aI p1, aU, aU, aU] [] h := rfl
theorem x_X5_run_0 {v0 v2 v3 v4 : AV} {z : Int} {st : List AV} {h : AH} : X mX5_run 0 [v0, aI z, v2, v3, v4] st h = X mX5_run 1 [v0, aI z, v2, v3, v4] (aI z :: st) h := X_of dX5_run_0 rfl
theorem x_X5_run_1 {a : Int} {al st : List AV} {h : AH} : X mX5_run 1 al (aI a :: st) h = X mX5_run 2 al (aJ a :: st) h := X_of dX5_run_1 rfl
theorem x_X5_run_2 {al st : List AV} {h : AH} : X mX5_run 2 al st h = X mX5_run 3 al (aJ 0 :: st) h := X_of dX5_run_2 rfl
theorem x_X5_run_3 {al st : List AV} {h : AH} : X mX5_run 3 al st h = X mX5_run 6 al (aJ 500 :: st) h := X_of dX5_run_3 rfl
theorem x_X5_run_6 {a0 : Int} {a1 : Int} {a2 : Int} {al : List AV} {h : AH} : X mX5_run 6 al [aJ a2, aJ a1, aJ a0] h = cK (E mX5_in [aJ a0, aJ a1, aJ a2] h) fun v h2 => X mX5_run 9 al (v.toList ++ []) h2 := x_cal (as := [aJ a0, aJ a1, aJ a2]) (rest := []) dX5_run_6 (fun _ => rfl) cT_5_81 rfl rfl rfl
theorem x_X5_run_9 {a : Int} {al st : List AV} {h : AH} : X mX5_run 9 al (aI a :: st) h = if ¬ a = 0 then X mX5_run 15 al st h else X mX5_run 12 al st h := x_ne0 dX5_run_9 rfl
theorem x_X5_run_12 {al st : List AV} {h : AH} : X mX5_run 12 al st h = X mX5_run 14 al (aI (-1000000) :: st) h := X_of dX5_run_12 rfl
theorem x_X5_run_14 {z : Int} {al : List AV} {h : AH} : X mX5_run 14 al [aI z] h = some (some (aI z), h) := X_ofR dX5_run_14 rfl
theorem x_X5_run_15 {v1 v2 v3 v4 : AV} {z : Option Nat} {st : List AV} {h : AH} : X mX5_run 15 [aR z, v1, v2, v3, v4] st h = X mX5_run 16 [aR z, v1, v2, v3, v4] (aR z :: st) h := X_of dX5_run_15 rfl
theorem x_X5_run_16 {a : Nat} {al st : List AV} {h : AH} : X mX5_run 16 al (aR (some a) :: st) h = gK (rd h 5 a 10) fun v => X mX5_run 19 al (v :: st) h := x_get dX5_run_16 fT_5_111
theorem x_X5_run_19 {a : Int} {al st : List AV} {h : AH} : X mX5_run 19 al (aI a :: st) h = if ¬ a = 0 then X mX5_run 25 al st h else X mX5_run 22 al st h := x_ne0 dX5_run_19 rfl
theorem x_X5_run_22 {al st : List AV} {h : AH} : X mX5_run 22 al st h = X mX5_run 24 al (aI (-1000004) :: st) h := X_of dX5_run_22 rfl
theorem x_X5_run_24 {z : Int} {al : List AV} {h : AH} : X mX5_run 24 al [aI z] h = some (some (aI z), h) := X_ofR dX5_run_24 rfl
theorem x_X5_run_25 {al st : List AV} {h : AH} : X mX5_run 25 al st h = X mX5_run 26 al (aI 0 :: st) h := X_of dX5_run_25 rfl
theorem x_X5_run_26 {v0 v2 v3 v4 : AV} {y : Int} {z : Int} {st : List AV} {h : AH} : X mX5_run 26 [v0, aI y, v2, v3, v4] (aI z :: st) h = X mX5_run 27 [v0, aI y, aI z, v3, v4] st h := X_of dX5_run_26 rfl
theorem x_X5_run_27 {v1 v2 v3 v4 : AV} {z : Option Nat} {st : List AV} {h : AH} : X mX5_run 27 [aR z, v1, v2, v3, v4] st h = X mX5_run 28 [aR z, v1, v2, v3, v4] (aR z :: st) h := X_of dX5_run_27 rfl
theorem x_X5_run_28 {v0 v2 v3 v4 : AV} {z : Int} {st : List AV} {h : AH} : X mX5_run 28 [v0, aI z, v2, v3, v4] st h = X mX5_run 29 [v0, aI z, v2, v3, v4] (aI z :: st) h := X_of dX5_run_28 rfl
theorem x_X5_run_29 {a : Nat} {z : Int} {al st : List AV} {h : AH} : X mX5_run 29 al (aI z :: aR (some a) :: st) h = pK (rd h 5 a 28) (X mX5_run 32 al st (wr h 5 a 28 (aI z))) := x_put dX5_run_29 fT_5_213 rfl rfl
theorem x_X5_run_32 {al st : List AV} {h : AH} : X mX5_run 32 al st h = X mX5_run 33 al (aI 0 :: st) h := X_of dX5_run_32 rfl
theorem x_X5_run_33 {v0 v1 v3 v4 : AV} {y : Int} {z : Int} {st : List AV} {h : AH} : X mX5_run 33 [v0, v1, aI y, v3, v4] (aI z :: st) h = X mX5_run 34 [v0, v1, aI y, aI z, v4] st h := X_of dX5_run_33 rfl
theorem x_X5_run_34 {v0 v1 v2 v4 : AV} {z : Int} {st : List AV} {h : AH} : X mX5_run 34 [v0, v1, v2, aI z, v4] st h = X mX5_run 35 [v0, v1, v2, aI z, v4] (aI z :: st) h := X_of dX5_run_34 rfl
theorem x_X5_run_35 {v0 v2 v3 v4 : AV} {z : Int} {st : List AV} {h : AH} : X mX5_run 35 [v0, aI z, v2, v3, v4] st h = X mX5_run 36 [v0, aI z, v2, v3, v4] (aI z :: st) h := X_of dX5_run_35 rfl
theorem x_X5_run_36 {a b : Int} {al st : List AV} {h : AH} : X mX5_run 36 al (aI b :: aI a :: st) h = if b ≤ a then X mX5_run 75 al st h else X mX5_run 39 al st h := x_geC dX5_run_36 rfl
theorem x_X5_run_39 {v1 v2 v3 v4 : AV} {z : Option Nat} {st : List AV} {h : AH} : X mX5_run 39 [aR z, v1, v2, v3, v4] st h = X mX5_run 40 [aR z, v1, v2, v3, v4] (aR z :: st) h := X_of dX5_run_39 rfl
theorem x_X5_run_40 {a0 : Nat} {al : List AV} {h : AH} (ho : isO h 5 a0 = true) : X mX5_run 40 al [aR (some a0)] h = cK (E mX5_best [aR (some a0)] h) fun v h2 => X mX5_run 43 al (v.toList ++ []) h2 := x_cal (as := [aR (some a0)]) (rest := []) dX5_run_40 (fun _ => rfl) cT_5_216 rfl rfl ho
theorem x_X5_run_43 {v0 v1 v2 v4 : AV} {y : Int} {z : Int} {st : List AV} {h : AH} : X mX5_run 43 [v0, v1, v2, aI y, v4] (aI z :: st) h = X mX5_run 45 [v0, v1, v2, aI y, aI z] st h := X_of dX5_run_43 rfl
theorem x_X5_run_45 {v0 v1 v3 v4 : AV} {z : Int} {st : List AV} {h : AH} : X mX5_run 45 [v0, v1, aI z, v3, v4] st h = X mX5_run 46 [v0, v1, aI z, v3, v4] (aI z :: st) h := X_of dX5_run_45 rfl
theorem x_X5_run_46 {v1 v2 v3 v4 : AV} {z : Option Nat} {st : List AV} {h : AH} : X mX5_run 46 [aR z, v1, v2, v3, v4] st h = X mX5_run 47 [aR z, v1, v2, v3, v4] (aR z :: st) h := X_of dX5_run_46 rfl
theorem x_X5_run_47 {v0 v1 v2 v3 : AV} {z : Int} {st : List AV} {h : AH} : X mX5_run 47 [v0, v1, v2, v3, aI z] st h = X mX5_run 49 [v0, v1, v2, v3, aI z] (aI z :: st) h := X_of dX5_run_47 rfl
theorem x_X5_run_49 {a0 : Nat} {a1 : Int} {r0 : Int} {al : List AV} {h : AH} (ho : isO h 5 a0 = true) : X mX5_run 49 al [aI a1, aR (some a0), aI r0] h = cK (E mX5_works [aR (some a0), aI a1] h) fun v h2 => X mX5_run 52 al (v.toList ++ [aI r0]) h2 := x_cal (as := [aR (some a0), aI a1]) (rest := [aI r0]) dX5_run_49 (fun _ => rfl) cT_5_206 rfl rfl ho
theorem x_X5_run_52 {a b : Int} {al st : List AV} {h : AH} : X mX5_run 52 al (aI b :: aI a :: st) h = X mX5_run 53 al (aI (w32 (a + b)) :: st) h := X_of dX5_run_52 rfl
theorem x_X5_run_53 {v0 v2 v3 v4 : AV} {y : Int} {z : Int} {st : List AV} {h : AH} : X mX5_run 53 [v0, aI y, v2, v3, v4] (aI z :: st) h = X mX5_run 54 [v0, aI y, aI z, v3, v4] st h := X_of dX5_run_53 rfl
theorem x_X5_run_54 {v0 v1 v2 v4 : AV} {z : Int} {st : List AV} {h : AH} : X mX5_run 54 [v0, v1, v2, aI z, v4] st h = X mX5_run 55 [v0, v1, v2, aI z, v4] (aI z :: st) h := X_of dX5_run_54 rfl
theorem x_X5_run_55 {al st : List AV} {h : AH} : X mX5_run 55 al st h = X mX5_run 58 al (aI 200 :: st) h := X_of dX5_run_55 rfl
theorem x_X5_run_58 {a b : Int} {al st : List AV} {h : AH} : X mX5_run 58 al (aI b :: aI a :: st) h = if b ≤ a then X mX5_run 69 al st h else X mX5_run 61 al st h := x_geC dX5_run_58 rfl
theorem x_X5_run_61 {v1 v2 v3 v4 : AV} {z : Option Nat} {st : List AV} {h : AH} : X mX5_run 61 [aR z, v1, v2, v3, v4] st h = X mX5_run 62 [aR z, v1, v2, v3, v4] (aR z :: st) h := X_of dX5_run_61 rfl
theorem x_X5_run_62 {a : Nat} {al st : List AV} {h : AH} : X mX5_run 62 al (aR (some a) :: st) h = gK (rd h 5 a 29) fun v => X mX5_run 65 al (v :: st) h := x_get dX5_run_62 fT_5_59
theorem x_X5_run_65 {v0 v1 v2 v4 : AV} {z : Int} {st : List AV} {h : AH} : X mX5_run 65 [v0, v1, v2, aI z, v4] st h = X mX5_run 66 [v0, v1, v2, aI z, v4] (aI z :: st) h := X_of dX5_run_65 rfl
theorem x_X5_run_66 {v0 v1 v2 v3 : AV} {z : Int} {st : List AV} {h : AH} : X mX5_run 66 [v0, v1, v2, v3, aI z] st h = X mX5_run 68 [v0, v1, v2, v3, aI z] (aI z :: st) h := X_of dX5_run_66 rfl
theorem x_X5_run_68 {a : Nat} {i z : Int} {al st : List AV} {h : AH} : X mX5_run 68 al (aI z :: aI i :: aR (some a) :: st) h = if 0 ≤ i then pK (rd h 10 a i.toNat) (X mX5_run 69 al st (wr h 10 a i.toNat (aI z))) else none := x_astI dX5_run_68
theorem x_X5_run_69 {v0 v1 v4 : AV} {y : Int} {z : Int} {st : List AV} {h : AH} : X mX5_run 69 [v0, v1, aI y, aI z, v4] st h = X mX5_run 72 [v0, v1, aI y, aI (w32 (z + 1)), v4] st h := X_of dX5_run_69 rfl
theorem x_X5_run_72 {al st : List AV} {h : AH} : X mX5_run 72 al st h = X mX5_run 34 al st h := X_of dX5_run_72 rfl
theorem x_X5_run_75 {v0 v1 v3 v4 : AV} {z : Int} {st : List AV} {h : AH} : X mX5_run 75 [v0, v1, aI z, v3, v4] st h = X mX5_run 76 [v0, v1, aI z, v3, v4] (aI z :: st) h := X_of dX5_run_75 rfl
theorem x_X5_run_76 {z : Int} {al : List AV} {h : AH} : X mX5_run 76 al [aI z] h = some (some (aI z), h) := X_ofR dX5_run_76 rfl
theorem e_X5_step {p0 : Option Nat} {p1 : Int} {h : AH} : E mX5_step [aR p0, aI p1] h = X mX5_step 0 [aR p0, aI p1] [] h := rfl
theorem x_X5_step_0 {v0 : AV} {z : Int} {st : List AV} {h : AH} : X mX5_step 0 [v0, aI z] st h = X mX5_step 1 [v0, aI z] (aI z :: st) h := X_of dX5_step_0 rfl
theorem x_X5_step_1 {a : Int} {al st : List AV} {h : AH} : X mX5_step 1 al (aI a :: st) h = X mX5_step 2 al (aJ a :: st) h := X_of dX5_step_1 rfl
theorem x_X5_step_2 {al st : List AV} {h : AH} : X mX5_step 2 al st h = X mX5_step 3 al (aJ 0 :: st) h := X_of dX5_step_2 rfl
theorem x_X5_step_3 {v1 : AV} {z : Option Nat} {st : List AV} {h : AH} : X mX5_step 3 [aR z, v1] st h = X mX5_step 4 [aR z, v1] (aR z :: st) h := X_of dX5_step_3 rfl
theorem x_X5_step_4 {a : Nat} {al st : List AV} {h : AH} : X mX5_step 4 al (aR (some a) :: st) h = gK (rd h 5 a 28) fun v => X mX5_step 7 al (v :: st) h := x_get dX5_step_4 fT_5_213
theorem x_X5_step_7 {al st : List AV} {h : AH} : X mX5_step 7 al st h = X mX5_step 10 al (aI 200 :: st) h := X_of dX5_step_7 rfl
theorem x_X5_step_10 {a b : Int} {al st : List AV} {h : AH} : X mX5_step 10 al (aI b :: aI a :: st) h = if b ≤ a then X mX5_step 20 al st h else X mX5_step 13 al st h := x_geC dX5_step_10 rfl
theorem x_X5_step_13 {v1 : AV} {z : Option Nat} {st : List AV} {h : AH} : X mX5_step 13 [aR z, v1] st h = X mX5_step 14 [aR z, v1] (aR z :: st) h := X_of dX5_step_13 rfl
theorem x_X5_step_14 {a : Nat} {al st : List AV} {h : AH} : X mX5_step 14 al (aR (some a) :: st) h = gK (rd h 5 a 28) fun v => X mX5_step 17 al (v :: st) h := x_get dX5_step_14 fT_5_213
theorem x_X5_step_17 {al st : List AV} {h : AH} : X mX5_step 17 al st h = X mX5_step 23 al st h := X_of dX5_step_17 rfl
theorem x_X5_step_20 {al st : List AV} {h : AH} : X mX5_step 20 al st h = X mX5_step 23 al (aI 200 :: st) h := X_of dX5_step_20 rfl
theorem x_X5_step_23 {al st : List AV} {h : AH} : X mX5_step 23 al st h = X mX5_step 24 al (aI 1 :: st) h := X_of dX5_step_23 rfl
theorem x_X5_step_24 {a b : Int} {al st : List AV} {h : AH} : X mX5_step 24 al (aI b :: aI a :: st) h = X mX5_step 25 al (aI (w32 (a - b)) :: st) h := X_of dX5_step_24 rfl
theorem x_X5_step_25 {a : Int} {al st : List AV} {h : AH} : X mX5_step 25 al (aI a :: st) h = X mX5_step 26 al (aJ a :: st) h := X_of dX5_step_25 rfl
theorem x_X5_step_26 {a0 : Int} {a1 : Int} {a2 : Int} {al : List AV} {h : AH} : X mX5_step 26 al [aJ a2, aJ a1, aJ a0] h = cK (E mX5_in [aJ a0, aJ a1, aJ a2] h) fun v h2 => X mX5_step 29 al (v.toList ++ []) h2 := x_cal (as := [aJ a0, aJ a1, aJ a2]) (rest := []) dX5_step_26 (fun _ => rfl) cT_5_81 rfl rfl rfl
theorem x_X5_step_29 {a : Int} {al st : List AV} {h : AH} : X mX5_step 29 al (aI a :: st) h = if a = 0 then X mX5_step 41 al st h else X mX5_step 32 al st h := x_eq0 dX5_step_29 rfl
theorem x_X5_step_32 {v1 : AV} {z : Option Nat} {st : List AV} {h : AH} : X mX5_step 32 [aR z, v1] st h = X mX5_step 33 [aR z, v1] (aR z :: st) h := X_of dX5_step_32 rfl
theorem x_X5_step_33 {a : Nat} {al st : List AV} {h : AH} : X mX5_step 33 al (aR (some a) :: st) h = gK (rd h 5 a 29) fun v => X mX5_step 36 al (v :: st) h := x_get dX5_step_33 fT_5_59
theorem x_X5_step_36 {v0 : AV} {z : Int} {st : List AV} {h : AH} : X mX5_step 36 [v0, aI z] st h = X mX5_step 37 [v0, aI z] (aI z :: st) h := X_of dX5_step_36 rfl
theorem x_X5_step_37 {a : Nat} {i : Int} {al st : List AV} {h : AH} : X mX5_step 37 al (aI i :: aR (some a) :: st) h = if 0 ≤ i then gK (rd h 10 a i.toNat) (fun v => X mX5_step 38 al (v :: st) h) else none := x_aldI dX5_step_37
theorem x_X5_step_38 {al st : List AV} {h : AH} : X mX5_step 38 al st h = X mX5_step 43 al st h := X_of dX5_step_38 rfl
theorem x_X5_step_41 {al st : List AV} {h : AH} : X mX5_step 41 al st h = X mX5_step 43 al (aI (-9) :: st) h := X_of dX5_step_41 rfl
theorem x_X5_step_43 {z : Int} {al : List AV} {h : AH} : X mX5_step 43 al [aI z] h = some (some (aI z), h) := X_ofR dX5_step_43 rfl
theorem e_X5_worked {p0 : Option Nat} {p1 : Int} {h : AH} : E mX5_worked [aR p0, aI p1] h = X mX5_worked 0 [aR p0, aI p1] [] h := rfl
theorem x_X5_worked_0 {v1 : AV} {z : Option Nat} {st : List AV} {h : AH} : X mX5_worked 0 [aR z, v1] st h = X mX5_worked 1 [aR z, v1] (aR z :: st) h := X_of dX5_worked_0 rfl
theorem x_X5_worked_1 {v0 : AV} {z : Int} {st : List AV} {h : AH} : X mX5_worked 1 [v0, aI z] st h = X mX5_worked 2 [v0, aI z] (aI z :: st) h := X_of dX5_worked_1 rfl
theorem x_X5_worked_2 {a0 : Nat} {a1 : Int} {al : List AV} {h : AH} (ho : isO h 5 a0 = true) : X mX5_worked 2 al [aI a1, aR (some a0)] h = cK (E mX5_isMachine [aR (some a0), aI a1] h) fun v h2 => X mX5_worked 5 al (v.toList ++ []) h2 := x_cal (as := [aR (some a0), aI a1]) (rest := []) dX5_worked_2 (fun _ => rfl) cT_5_114 rfl rfl ho
theorem x_X5_worked_5 {a : Int} {al st : List AV} {h : AH} : X mX5_worked 5 al (aI a :: st) h = if a = 0 then X mX5_worked 17 al st h else X mX5_worked 8 al st h := x_eq0 dX5_worked_5 rfl
theorem x_X5_worked_8 {v1 : AV} {z : Option Nat} {st : List AV} {h : AH} : X mX5_worked 8 [aR z, v1] st h = X mX5_worked 9 [aR z, v1] (aR z :: st) h := X_of dX5_worked_8 rfl
theorem x_X5_worked_9 {a : Nat} {al st : List AV} {h : AH} : X mX5_worked 9 al (aR (some a) :: st) h = gK (rd h 5 a 16) fun v => X mX5_worked 12 al (v :: st) h := x_get dX5_worked_9 fT_5_41
theorem x_X5_worked_12 {v0 : AV} {z : Int} {st : List AV} {h : AH} : X mX5_worked 12 [v0, aI z] st h = X mX5_worked 13 [v0, aI z] (aI z :: st) h := X_of dX5_worked_12 rfl
theorem x_X5_worked_13 {a : Nat} {i : Int} {al st : List AV} {h : AH} : X mX5_worked 13 al (aI i :: aR (some a) :: st) h = if 0 ≤ i then gK (rd h 10 a i.toNat) (fun v => X mX5_worked 14 al (v :: st) h) else none := x_aldI dX5_worked_13
theorem x_X5_worked_14 {al st : List AV} {h : AH} : X mX5_worked 14 al st h = X mX5_worked 18 al st h := X_of dX5_worked_14 rfl
theorem x_X5_worked_17 {al st : List AV} {h : AH} : X mX5_worked 17 al st h = X mX5_worked 18 al (aI (-1) :: st) h := X_of dX5_worked_17 rfl
theorem x_X5_worked_18 {z : Int} {al : List AV} {h : AH} : X mX5_worked 18 al [aI z] h = some (some (aI z), h) := X_ofR dX5_worked_18 rfl
theorem e_X5_paid {p0 : Option Nat} {h : AH} : E mX5_paid [aR p0] h = X mX5_paid 0 [aR p0] [] h := rfl
theorem x_X5_paid_0 {z : Option Nat} {st : List AV} {h : AH} : X mX5_paid 0 [aR z] st h = X mX5_paid 1 [aR z] (aR z :: st) h := X_of dX5_paid_0 rfl
theorem x_X5_paid_1 {a : Nat} {al st : List AV} {h : AH} : X mX5_paid 1 al (aR (some a) :: st) h = gK (rd h 5 a 27) fun v => X mX5_paid 4 al (v :: st) h := x_get dX5_paid_1 fT_5_196
theorem x_X5_paid_4 {z : Int} {al : List AV} {h : AH} : X mX5_paid 4 al [aJ z] h = some (some (aJ z), h) := X_ofR dX5_paid_4 rfl
theorem e_X5_fail {p0 : Option Nat} {p1 : Int} {p2 : Int} {h : AH} : E mX5_fail [aR p0, aI p1, aI p2] h = X mX5_fail 0 [aR p0, aI p1, aI p2] [] h := rfl
theorem x_X5_fail_0 {v1 v2 : AV} {z : Option Nat} {st : List AV} {h : AH} : X mX5_fail 0 [aR z, v1, v2] st h = X mX5_fail 1 [aR z, v1, v2] (aR z :: st) h := X_of dX5_fail_0 rfl
theorem x_X5_fail_1 {v0 v2 : AV} {z : Int} {st : List AV} {h : AH} : X mX5_fail 1 [v0, aI z, v2] st h = X mX5_fail 2 [v0, aI z, v2] (aI z :: st) h := X_of dX5_fail_1 rfl
theorem x_X5_fail_2 {a0 : Nat} {a1 : Int} {al : List AV} {h : AH} (ho : isO h 5 a0 = true) : X mX5_fail 2 al [aI a1, aR (some a0)] h = cK (E mX5_isMachine [aR (some a0), aI a1] h) fun v h2 => X mX5_fail 5 al (v.toList ++ []) h2 := x_cal (as := [aR (some a0), aI a1]) (rest := []) dX5_fail_2 (fun _ => rfl) cT_5_114 rfl rfl ho
theorem x_X5_fail_5 {a : Int} {al st : List AV} {h : AH} : X mX5_fail 5 al (aI a :: st) h = if a = 0 then X mX5_fail 20 al st h else X mX5_fail 8 al st h := x_eq0 dX5_fail_5 rfl
theorem x_X5_fail_8 {v0 v1 : AV} {z : Int} {st : List AV} {h : AH} : X mX5_fail 8 [v0, v1, aI z] st h = X mX5_fail 9 [v0, v1, aI z] (aI z :: st) h := X_of dX5_fail_8 rfl
theorem x_X5_fail_9 {a : Int} {al st : List AV} {h : AH} : X mX5_fail 9 al (aI a :: st) h = X mX5_fail 10 al (aJ a :: st) h := X_of dX5_fail_9 rfl
theorem x_X5_fail_10 {al st : List AV} {h : AH} : X mX5_fail 10 al st h = X mX5_fail 11 al (aJ 0 :: st) h := X_of dX5_fail_10 rfl
theorem x_X5_fail_11 {al st : List AV} {h : AH} : X mX5_fail 11 al st h = X mX5_fail 14 al (aJ 2 :: st) h := X_of dX5_fail_11 rfl
theorem x_X5_fail_14 {a0 : Int} {a1 : Int} {a2 : Int} {al : List AV} {h : AH} : X mX5_fail 14 al [aJ a2, aJ a1, aJ a0] h = cK (E mX5_in [aJ a0, aJ a1, aJ a2] h) fun v h2 => X mX5_fail 17 al (v.toList ++ []) h2 := x_cal (as := [aJ a0, aJ a1, aJ a2]) (rest := []) dX5_fail_14 (fun _ => rfl) cT_5_81 rfl rfl rfl
theorem x_X5_fail_17 {a : Int} {al st : List AV} {h : AH} : X mX5_fail 17 al (aI a :: st) h = if ¬ a = 0 then X mX5_fail 24 al st h else X mX5_fail 20 al st h := x_ne0 dX5_fail_17 rfl
theorem x_X5_fail_20 {al st : List AV} {h : AH} : X mX5_fail 20 al st h = X mX5_fail 21 al (aI (-1) :: st) h := X_of dX5_fail_20 rfl
theorem x_X5_fail_21 {al st : List AV} {h : AH} : X mX5_fail 21 al st h = X mX5_fail 47 al st h := X_of dX5_fail_21 rfl
theorem x_X5_fail_24 {v0 v1 : AV} {z : Int} {st : List AV} {h : AH} : X mX5_fail 24 [v0, v1, aI z] st h = X mX5_fail 25 [v0, v1, aI z] (aI z :: st) h := X_of dX5_fail_24 rfl
theorem x_X5_fail_25 {al st : List AV} {h : AH} : X mX5_fail 25 al st h = X mX5_fail 26 al (aI 1 :: st) h := X_of dX5_fail_25 rfl
theorem x_X5_fail_26 {a b : Int} {al st : List AV} {h : AH} : X mX5_fail 26 al (aI b :: aI a :: st) h = if ¬ a = b then X mX5_fail 33 al st h else X mX5_fail 29 al st h := x_neC dX5_fail_26 rfl
theorem x_X5_fail_29 {al st : List AV} {h : AH} : X mX5_fail 29 al st h = X mX5_fail 30 al (aI 2 :: st) h := X_of dX5_fail_29 rfl
theorem x_X5_fail_30 {al st : List AV} {h : AH} : X mX5_fail 30 al st h = X mX5_fail 47 al st h := X_of dX5_fail_30 rfl
theorem x_X5_fail_33 {v1 v2 : AV} {z : Option Nat} {st : List AV} {h : AH} : X mX5_fail 33 [aR z, v1, v2] st h = X mX5_fail 34 [aR z, v1, v2] (aR z :: st) h := X_of dX5_fail_33 rfl
theorem x_X5_fail_34 {v0 v1 : AV} {z : Int} {st : List AV} {h : AH} : X mX5_fail 34 [v0, v1, aI z] st h = X mX5_fail 35 [v0, v1, aI z] (aI z :: st) h := X_of dX5_fail_34 rfl
theorem x_X5_fail_35 {a : Int} {al st : List AV} {h : AH} : X mX5_fail 35 al (aI a :: st) h = if ¬ a = 0 then X mX5_fail 43 al st h else X mX5_fail 38 al st h := x_ne0 dX5_fail_35 rfl
theorem x_X5_fail_38 {al st : List AV} {h : AH} : X mX5_fail 38 al st h = X mX5_fail 40 al (aI 6 :: st) h := X_of dX5_fail_38 rfl
theorem x_X5_fail_40 {al st : List AV} {h : AH} : X mX5_fail 40 al st h = X mX5_fail 44 al st h := X_of dX5_fail_40 rfl
theorem x_X5_fail_43 {al st : List AV} {h : AH} : X mX5_fail 43 al st h = X mX5_fail 44 al (aI 2 :: st) h := X_of dX5_fail_43 rfl
theorem x_X5_fail_44 {a0 : Nat} {a1 : Int} {al : List AV} {h : AH} (ho : isO h 5 a0 = true) : X mX5_fail 44 al [aI a1, aR (some a0)] h = cK (E mX5_meets [aR (some a0), aI a1] h) fun v h2 => X mX5_fail 47 al (v.toList ++ []) h2 := x_cal (as := [aR (some a0), aI a1]) (rest := []) dX5_fail_44 (fun _ => rfl) cT_5_96 rfl rfl ho
theorem x_X5_fail_47 {z : Int} {al : List AV} {h : AH} : X mX5_fail 47 al [aI z] h = some (some (aI z), h) := X_ofR dX5_fail_47 rfl
theorem e_X5_count {p0 : Option Nat} {p1 : Int} {h : AH} : E mX5_count [aR p0, aI p1] h = X mX5_count 0 [aR p0, aI p1] [] h := rfl
theorem x_X5_count_0 {v0 : AV} {z : Int} {st : List AV} {h : AH} : X mX5_count 0 [v0, aI z] st h = X mX5_count 1 [v0, aI z] (aI z :: st) h := X_of dX5_count_0 rfl
theorem x_X5_count_1 {a : Int} {al st : List AV} {h : AH} : X mX5_count 1 al (aI a :: st) h = if a = 0 then X mX5_count 36 al st h else if a = 1 then X mX5_count 41 al st h else if a = 2 then X mX5_count 46 al st h else if a = 3 then X mX5_count 51 al st h else if a = 4 then X mX5_count 56 al st h else X mX5_count 61 al st h := by
  by_cases h0 : a = 0
  · rw [if_pos h0]
    subst h0
    exact X_of dX5_count_1 rfl
  rw [if_neg h0]
  by_cases h1 : a = 1
  · rw [if_pos h1]
    subst h1
    exact X_of dX5_count_1 rfl
  rw [if_neg h1]
  by_cases h2 : a = 2
  · rw [if_pos h2]
    subst h2
    exact X_of dX5_count_1 rfl
  rw [if_neg h2]
  by_cases h3 : a = 3
  · rw [if_pos h3]
    subst h3
    exact X_of dX5_count_1 rfl
  rw [if_neg h3]
  by_cases h4 : a = 4
  · rw [if_pos h4]
    subst h4
    exact X_of dX5_count_1 rfl
  rw [if_neg h4]
  refine X_of dX5_count_1 ?_
  show hTab 60 0 4 #[35, 40, 45, 50, 55] 1 al (aI a :: st) h = _
  unfold hTab
  simp only [if_pos (show a < 0 ∨ 4 < a by omega)]
  rfl
theorem x_X5_count_36 {v1 : AV} {z : Option Nat} {st : List AV} {h : AH} : X mX5_count 36 [aR z, v1] st h = X mX5_count 37 [aR z, v1] (aR z :: st) h := X_of dX5_count_36 rfl
theorem x_X5_count_37 {a : Nat} {al st : List AV} {h : AH} : X mX5_count 37 al (aR (some a) :: st) h = gK (rd h 5 a 10) fun v => X mX5_count 40 al (v :: st) h := x_get dX5_count_37 fT_5_111
theorem x_X5_count_40 {z : Int} {al : List AV} {h : AH} : X mX5_count 40 al [aI z] h = some (some (aI z), h) := X_ofR dX5_count_40 rfl
theorem x_X5_count_41 {v1 : AV} {z : Option Nat} {st : List AV} {h : AH} : X mX5_count 41 [aR z, v1] st h = X mX5_count 42 [aR z, v1] (aR z :: st) h := X_of dX5_count_41 rfl
theorem x_X5_count_42 {a : Nat} {al st : List AV} {h : AH} : X mX5_count 42 al (aR (some a) :: st) h = gK (rd h 5 a 4) fun v => X mX5_count 45 al (v :: st) h := x_get dX5_count_42 fT_5_91
theorem x_X5_count_45 {z : Int} {al : List AV} {h : AH} : X mX5_count 45 al [aI z] h = some (some (aI z), h) := X_ofR dX5_count_45 rfl
theorem x_X5_count_46 {v1 : AV} {z : Option Nat} {st : List AV} {h : AH} : X mX5_count 46 [aR z, v1] st h = X mX5_count 47 [aR z, v1] (aR z :: st) h := X_of dX5_count_46 rfl
theorem x_X5_count_47 {a : Nat} {al st : List AV} {h : AH} : X mX5_count 47 al (aR (some a) :: st) h = gK (rd h 5 a 2) fun v => X mX5_count 50 al (v :: st) h := x_get dX5_count_47 fT_5_62
theorem x_X5_count_50 {z : Int} {al : List AV} {h : AH} : X mX5_count 50 al [aI z] h = some (some (aI z), h) := X_ofR dX5_count_50 rfl
theorem x_X5_count_51 {v1 : AV} {z : Option Nat} {st : List AV} {h : AH} : X mX5_count 51 [aR z, v1] st h = X mX5_count 52 [aR z, v1] (aR z :: st) h := X_of dX5_count_51 rfl
theorem x_X5_count_52 {a : Nat} {al st : List AV} {h : AH} : X mX5_count 52 al (aR (some a) :: st) h = gK (rd h 5 a 3) fun v => X mX5_count 55 al (v :: st) h := x_get dX5_count_52 fT_5_66
theorem x_X5_count_55 {z : Int} {al : List AV} {h : AH} : X mX5_count 55 al [aI z] h = some (some (aI z), h) := X_ofR dX5_count_55 rfl
theorem x_X5_count_56 {v1 : AV} {z : Option Nat} {st : List AV} {h : AH} : X mX5_count 56 [aR z, v1] st h = X mX5_count 57 [aR z, v1] (aR z :: st) h := X_of dX5_count_56 rfl
theorem x_X5_count_57 {a : Nat} {al st : List AV} {h : AH} : X mX5_count 57 al (aR (some a) :: st) h = gK (rd h 5 a 26) fun v => X mX5_count 60 al (v :: st) h := x_get dX5_count_57 fT_5_69
theorem x_X5_count_60 {z : Int} {al : List AV} {h : AH} : X mX5_count 60 al [aI z] h = some (some (aI z), h) := X_ofR dX5_count_60 rfl
theorem x_X5_count_61 {al st : List AV} {h : AH} : X mX5_count 61 al st h = X mX5_count 62 al (aI (-1) :: st) h := X_of dX5_count_61 rfl
theorem x_X5_count_62 {z : Int} {al : List AV} {h : AH} : X mX5_count 62 al [aI z] h = some (some (aI z), h) := X_ofR dX5_count_62 rfl
theorem e_X5_digest {p0 : Option Nat} {h : AH} : E mX5_digest [aR p0] h = X mX5_digest 0 [aR p0, aU, aU, aU, aU, aU] [] h := rfl
theorem x_X5_digest_0 {al st : List AV} {h : AH} : X mX5_digest 0 al st h = X mX5_digest 3 al (aJ 31 :: st) h := X_of dX5_digest_0 rfl
theorem x_X5_digest_3 {al st : List AV} {h : AH} : X mX5_digest 3 al st h = X mX5_digest 6 al (aJ 31 :: st) h := X_of dX5_digest_3 rfl
theorem x_X5_digest_6 {al st : List AV} {h : AH} : X mX5_digest 6 al st h = X mX5_digest 9 al (aJ 527 :: st) h := X_of dX5_digest_6 rfl
theorem x_X5_digest_9 {v1 v2 v3 v4 v5 : AV} {z : Option Nat} {st : List AV} {h : AH} : X mX5_digest 9 [aR z, v1, v2, v3, v4, v5] st h = X mX5_digest 10 [aR z, v1, v2, v3, v4, v5] (aR z :: st) h := X_of dX5_digest_9 rfl
theorem x_X5_digest_10 {a : Nat} {al st : List AV} {h : AH} : X mX5_digest 10 al (aR (some a) :: st) h = gK (rd h 5 a 2) fun v => X mX5_digest 13 al (v :: st) h := x_get dX5_digest_10 fT_5_62
theorem x_X5_digest_13 {a : Int} {al st : List AV} {h : AH} : X mX5_digest 13 al (aI a :: st) h = X mX5_digest 14 al (aJ a :: st) h := X_of dX5_digest_13 rfl
theorem x_X5_digest_14 {a b : Int} {al st : List AV} {h : AH} : X mX5_digest 14 al (aJ b :: aJ a :: st) h = X mX5_digest 15 al (aJ (w64 (a + b)) :: st) h := X_of dX5_digest_14 rfl
theorem x_X5_digest_15 {a b : Int} {al st : List AV} {h : AH} : X mX5_digest 15 al (aJ b :: aJ a :: st) h = X mX5_digest 16 al (aJ (w64 (a * b)) :: st) h := X_of dX5_digest_15 rfl
theorem x_X5_digest_16 {v1 v2 v3 v4 v5 : AV} {z : Option Nat} {st : List AV} {h : AH} : X mX5_digest 16 [aR z, v1, v2, v3, v4, v5] st h = X mX5_digest 17 [aR z, v1, v2, v3, v4, v5] (aR z :: st) h := X_of dX5_digest_16 rfl
theorem x_X5_digest_17 {a : Nat} {al st : List AV} {h : AH} : X mX5_digest 17 al (aR (some a) :: st) h = gK (rd h 5 a 3) fun v => X mX5_digest 20 al (v :: st) h := x_get dX5_digest_17 fT_5_66
theorem x_X5_digest_20 {a : Int} {al st : List AV} {h : AH} : X mX5_digest 20 al (aI a :: st) h = X mX5_digest 21 al (aJ a :: st) h := X_of dX5_digest_20 rfl
theorem x_X5_digest_21 {a b : Int} {al st : List AV} {h : AH} : X mX5_digest 21 al (aJ b :: aJ a :: st) h = X mX5_digest 22 al (aJ (w64 (a + b)) :: st) h := X_of dX5_digest_21 rfl
theorem x_X5_digest_22 {a b : Int} {al st : List AV} {h : AH} : X mX5_digest 22 al (aJ b :: aJ a :: st) h = X mX5_digest 23 al (aJ (w64 (a * b)) :: st) h := X_of dX5_digest_22 rfl
theorem x_X5_digest_23 {v1 v2 v3 v4 v5 : AV} {z : Option Nat} {st : List AV} {h : AH} : X mX5_digest 23 [aR z, v1, v2, v3, v4, v5] st h = X mX5_digest 24 [aR z, v1, v2, v3, v4, v5] (aR z :: st) h := X_of dX5_digest_23 rfl
theorem x_X5_digest_24 {a : Nat} {al st : List AV} {h : AH} : X mX5_digest 24 al (aR (some a) :: st) h = gK (rd h 5 a 26) fun v => X mX5_digest 27 al (v :: st) h := x_get dX5_digest_24 fT_5_69
theorem x_X5_digest_27 {a : Int} {al st : List AV} {h : AH} : X mX5_digest 27 al (aI a :: st) h = X mX5_digest 28 al (aJ a :: st) h := X_of dX5_digest_27 rfl
theorem x_X5_digest_28 {a b : Int} {al st : List AV} {h : AH} : X mX5_digest 28 al (aJ b :: aJ a :: st) h = X mX5_digest 29 al (aJ (w64 (a + b)) :: st) h := X_of dX5_digest_28 rfl
theorem x_X5_digest_29 {v1 v2 v3 v4 v5 : AV} {y : Option Nat} {z : Int} {st : List AV} {h : AH} : X mX5_digest 29 [aR y, v1, v2, v3, v4, v5] (aJ z :: st) h = X mX5_digest 30 [aR y, aJ z, aU, v3, v4, v5] st h := X_of dX5_digest_29 rfl
theorem x_X5_digest_30 {al st : List AV} {h : AH} : X mX5_digest 30 al st h = X mX5_digest 31 al (aI 0 :: st) h := X_of dX5_digest_30 rfl
theorem x_X5_digest_31 {v0 v1 v3 v4 v5 : AV} {z : Int} {st : List AV} {h : AH} : X mX5_digest 31 [v0, v1, aU, v3, v4, v5] (aI z :: st) h = X mX5_digest 32 [v0, v1, aU, aI z, v4, v5] st h := X_of dX5_digest_31 rfl
theorem x_X5_digest_32 {v0 v1 v2 v4 v5 : AV} {z : Int} {st : List AV} {h : AH} : X mX5_digest 32 [v0, v1, v2, aI z, v4, v5] st h = X mX5_digest 33 [v0, v1, v2, aI z, v4, v5] (aI z :: st) h := X_of dX5_digest_32 rfl
theorem x_X5_digest_33 {v1 v2 v3 v4 v5 : AV} {z : Option Nat} {st : List AV} {h : AH} : X mX5_digest 33 [aR z, v1, v2, v3, v4, v5] st h = X mX5_digest 34 [aR z, v1, v2, v3, v4, v5] (aR z :: st) h := X_of dX5_digest_33 rfl
theorem x_X5_digest_34 {a : Nat} {al st : List AV} {h : AH} : X mX5_digest 34 al (aR (some a) :: st) h = gK (rd h 5 a 10) fun v => X mX5_digest 37 al (v :: st) h := x_get dX5_digest_34 fT_5_111
theorem x_X5_digest_37 {a b : Int} {al st : List AV} {h : AH} : X mX5_digest 37 al (aI b :: aI a :: st) h = if b ≤ a then X mX5_digest 168 al st h else X mX5_digest 40 al st h := x_geC dX5_digest_37 rfl
theorem x_X5_digest_40 {al st : List AV} {h : AH} : X mX5_digest 40 al st h = X mX5_digest 43 al (aJ 31 :: st) h := X_of dX5_digest_40 rfl
theorem x_X5_digest_43 {al st : List AV} {h : AH} : X mX5_digest 43 al st h = X mX5_digest 46 al (aJ 31 :: st) h := X_of dX5_digest_43 rfl
theorem x_X5_digest_46 {al st : List AV} {h : AH} : X mX5_digest 46 al st h = X mX5_digest 49 al (aJ 31 :: st) h := X_of dX5_digest_46 rfl
theorem x_X5_digest_49 {v0 v2 v3 v4 v5 : AV} {z : Int} {st : List AV} {h : AH} : X mX5_digest 49 [v0, aJ z, v2, v3, v4, v5] st h = X mX5_digest 50 [v0, aJ z, v2, v3, v4, v5] (aJ z :: st) h := X_of dX5_digest_49 rfl
theorem x_X5_digest_50 {a b : Int} {al st : List AV} {h : AH} : X mX5_digest 50 al (aJ b :: aJ a :: st) h = X mX5_digest 51 al (aJ (w64 (a * b)) :: st) h := X_of dX5_digest_50 rfl
theorem x_X5_digest_51 {v1 v2 v3 v4 v5 : AV} {z : Option Nat} {st : List AV} {h : AH} : X mX5_digest 51 [aR z, v1, v2, v3, v4, v5] st h = X mX5_digest 52 [aR z, v1, v2, v3, v4, v5] (aR z :: st) h := X_of dX5_digest_51 rfl
theorem x_X5_digest_52 {a : Nat} {al st : List AV} {h : AH} : X mX5_digest 52 al (aR (some a) :: st) h = gK (rd h 5 a 11) fun v => X mX5_digest 55 al (v :: st) h := x_get dX5_digest_52 fT_5_26
theorem x_X5_digest_55 {v0 v1 v2 v4 v5 : AV} {z : Int} {st : List AV} {h : AH} : X mX5_digest 55 [v0, v1, v2, aI z, v4, v5] st h = X mX5_digest 56 [v0, v1, v2, aI z, v4, v5] (aI z :: st) h := X_of dX5_digest_55 rfl
theorem x_X5_digest_56 {a : Nat} {i : Int} {al st : List AV} {h : AH} : X mX5_digest 56 al (aI i :: aR (some a) :: st) h = if 0 ≤ i then gK (rd h 10 a i.toNat) (fun v => X mX5_digest 57 al (v :: st) h) else none := x_aldI dX5_digest_56
theorem x_X5_digest_57 {a : Int} {al st : List AV} {h : AH} : X mX5_digest 57 al (aI a :: st) h = X mX5_digest 58 al (aJ a :: st) h := X_of dX5_digest_57 rfl
theorem x_X5_digest_58 {a b : Int} {al st : List AV} {h : AH} : X mX5_digest 58 al (aJ b :: aJ a :: st) h = X mX5_digest 59 al (aJ (w64 (a + b)) :: st) h := X_of dX5_digest_58 rfl
theorem x_X5_digest_59 {a b : Int} {al st : List AV} {h : AH} : X mX5_digest 59 al (aJ b :: aJ a :: st) h = X mX5_digest 60 al (aJ (w64 (a * b)) :: st) h := X_of dX5_digest_59 rfl
theorem x_X5_digest_60 {v1 v2 v3 v4 v5 : AV} {z : Option Nat} {st : List AV} {h : AH} : X mX5_digest 60 [aR z, v1, v2, v3, v4, v5] st h = X mX5_digest 61 [aR z, v1, v2, v3, v4, v5] (aR z :: st) h := X_of dX5_digest_60 rfl
theorem x_X5_digest_61 {a : Nat} {al st : List AV} {h : AH} : X mX5_digest 61 al (aR (some a) :: st) h = gK (rd h 5 a 12) fun v => X mX5_digest 64 al (v :: st) h := x_get dX5_digest_61 fT_5_29
theorem x_X5_digest_64 {v0 v1 v2 v4 v5 : AV} {z : Int} {st : List AV} {h : AH} : X mX5_digest 64 [v0, v1, v2, aI z, v4, v5] st h = X mX5_digest 65 [v0, v1, v2, aI z, v4, v5] (aI z :: st) h := X_of dX5_digest_64 rfl
theorem x_X5_digest_65 {a : Nat} {i : Int} {al st : List AV} {h : AH} : X mX5_digest 65 al (aI i :: aR (some a) :: st) h = if 0 ≤ i then gK (rd h 10 a i.toNat) (fun v => X mX5_digest 66 al (v :: st) h) else none := x_aldI dX5_digest_65
theorem x_X5_digest_66 {a : Int} {al st : List AV} {h : AH} : X mX5_digest 66 al (aI a :: st) h = X mX5_digest 67 al (aJ a :: st) h := X_of dX5_digest_66 rfl
theorem x_X5_digest_67 {a b : Int} {al st : List AV} {h : AH} : X mX5_digest 67 al (aJ b :: aJ a :: st) h = X mX5_digest 68 al (aJ (w64 (a + b)) :: st) h := X_of dX5_digest_67 rfl
theorem x_X5_digest_68 {a b : Int} {al st : List AV} {h : AH} : X mX5_digest 68 al (aJ b :: aJ a :: st) h = X mX5_digest 69 al (aJ (w64 (a * b)) :: st) h := X_of dX5_digest_68 rfl
theorem x_X5_digest_69 {v1 v2 v3 v4 v5 : AV} {z : Option Nat} {st : List AV} {h : AH} : X mX5_digest 69 [aR z, v1, v2, v3, v4, v5] st h = X mX5_digest 70 [aR z, v1, v2, v3, v4, v5] (aR z :: st) h := X_of dX5_digest_69 rfl
theorem x_X5_digest_70 {a : Nat} {al st : List AV} {h : AH} : X mX5_digest 70 al (aR (some a) :: st) h = gK (rd h 5 a 13) fun v => X mX5_digest 73 al (v :: st) h := x_get dX5_digest_70 fT_5_32
theorem x_X5_digest_73 {v0 v1 v2 v4 v5 : AV} {z : Int} {st : List AV} {h : AH} : X mX5_digest 73 [v0, v1, v2, aI z, v4, v5] st h = X mX5_digest 74 [v0, v1, v2, aI z, v4, v5] (aI z :: st) h := X_of dX5_digest_73 rfl
theorem x_X5_digest_74 {a : Nat} {i : Int} {al st : List AV} {h : AH} : X mX5_digest 74 al (aI i :: aR (some a) :: st) h = if 0 ≤ i then gK (rd h 10 a i.toNat) (fun v => X mX5_digest 75 al (v :: st) h) else none := x_aldI dX5_digest_74
theorem x_X5_digest_75 {a : Int} {al st : List AV} {h : AH} : X mX5_digest 75 al (aI a :: st) h = X mX5_digest 76 al (aJ a :: st) h := X_of dX5_digest_75 rfl
theorem x_X5_digest_76 {a b : Int} {al st : List AV} {h : AH} : X mX5_digest 76 al (aJ b :: aJ a :: st) h = X mX5_digest 77 al (aJ (w64 (a + b)) :: st) h := X_of dX5_digest_76 rfl
theorem x_X5_digest_77 {v1 v2 v3 v4 v5 : AV} {y : Option Nat} {z : Int} {st : List AV} {h : AH} : X mX5_digest 77 [aR y, v1, v2, v3, v4, v5] (aJ z :: st) h = X mX5_digest 78 [aR y, aJ z, aU, v3, v4, v5] st h := X_of dX5_digest_77 rfl
theorem x_X5_digest_78 {al st : List AV} {h : AH} : X mX5_digest 78 al st h = X mX5_digest 79 al (aI 0 :: st) h := X_of dX5_digest_78 rfl
theorem x_X5_digest_79 {v0 v1 v2 v4 v5 : AV} {y : Int} {z : Int} {st : List AV} {h : AH} : X mX5_digest 79 [v0, v1, v2, aI y, v4, v5] (aI z :: st) h = X mX5_digest 81 [v0, v1, v2, aI y, aI z, v5] st h := X_of dX5_digest_79 rfl
theorem x_X5_digest_81 {v0 v1 v2 v3 v5 : AV} {z : Int} {st : List AV} {h : AH} : X mX5_digest 81 [v0, v1, v2, v3, aI z, v5] st h = X mX5_digest 83 [v0, v1, v2, v3, aI z, v5] (aI z :: st) h := X_of dX5_digest_81 rfl
theorem x_X5_digest_83 {v1 v2 v3 v4 v5 : AV} {z : Option Nat} {st : List AV} {h : AH} : X mX5_digest 83 [aR z, v1, v2, v3, v4, v5] st h = X mX5_digest 84 [aR z, v1, v2, v3, v4, v5] (aR z :: st) h := X_of dX5_digest_83 rfl
theorem x_X5_digest_84 {a : Nat} {al st : List AV} {h : AH} : X mX5_digest 84 al (aR (some a) :: st) h = gK (rd h 5 a 12) fun v => X mX5_digest 87 al (v :: st) h := x_get dX5_digest_84 fT_5_29
theorem x_X5_digest_87 {v0 v1 v2 v4 v5 : AV} {z : Int} {st : List AV} {h : AH} : X mX5_digest 87 [v0, v1, v2, aI z, v4, v5] st h = X mX5_digest 88 [v0, v1, v2, aI z, v4, v5] (aI z :: st) h := X_of dX5_digest_87 rfl
theorem x_X5_digest_88 {a : Nat} {i : Int} {al st : List AV} {h : AH} : X mX5_digest 88 al (aI i :: aR (some a) :: st) h = if 0 ≤ i then gK (rd h 10 a i.toNat) (fun v => X mX5_digest 89 al (v :: st) h) else none := x_aldI dX5_digest_88
theorem x_X5_digest_89 {a b : Int} {al st : List AV} {h : AH} : X mX5_digest 89 al (aI b :: aI a :: st) h = if b ≤ a then X mX5_digest 162 al st h else X mX5_digest 92 al st h := x_geC dX5_digest_89 rfl
theorem x_X5_digest_92 {al st : List AV} {h : AH} : X mX5_digest 92 al st h = X mX5_digest 95 al (aJ 31 :: st) h := X_of dX5_digest_92 rfl
theorem x_X5_digest_95 {v0 v2 v3 v4 v5 : AV} {z : Int} {st : List AV} {h : AH} : X mX5_digest 95 [v0, aJ z, v2, v3, v4, v5] st h = X mX5_digest 96 [v0, aJ z, v2, v3, v4, v5] (aJ z :: st) h := X_of dX5_digest_95 rfl
theorem x_X5_digest_96 {a b : Int} {al st : List AV} {h : AH} : X mX5_digest 96 al (aJ b :: aJ a :: st) h = X mX5_digest 97 al (aJ (w64 (a * b)) :: st) h := X_of dX5_digest_96 rfl
theorem x_X5_digest_97 {v1 v2 v3 v4 v5 : AV} {z : Option Nat} {st : List AV} {h : AH} : X mX5_digest 97 [aR z, v1, v2, v3, v4, v5] st h = X mX5_digest 98 [aR z, v1, v2, v3, v4, v5] (aR z :: st) h := X_of dX5_digest_97 rfl
theorem x_X5_digest_98 {a : Nat} {al st : List AV} {h : AH} : X mX5_digest 98 al (aR (some a) :: st) h = gK (rd h 5 a 14) fun v => X mX5_digest 101 al (v :: st) h := x_get dX5_digest_98 fT_5_35
theorem x_X5_digest_101 {al st : List AV} {h : AH} : X mX5_digest 101 al st h = X mX5_digest 102 al (aI 5 :: st) h := X_of dX5_digest_101 rfl
theorem x_X5_digest_102 {v0 v1 v2 v4 v5 : AV} {z : Int} {st : List AV} {h : AH} : X mX5_digest 102 [v0, v1, v2, aI z, v4, v5] st h = X mX5_digest 103 [v0, v1, v2, aI z, v4, v5] (aI z :: st) h := X_of dX5_digest_102 rfl
theorem x_X5_digest_103 {a b : Int} {al st : List AV} {h : AH} : X mX5_digest 103 al (aI b :: aI a :: st) h = X mX5_digest 104 al (aI (w32 (a * b)) :: st) h := X_of dX5_digest_103 rfl
theorem x_X5_digest_104 {v0 v1 v2 v3 v5 : AV} {z : Int} {st : List AV} {h : AH} : X mX5_digest 104 [v0, v1, v2, v3, aI z, v5] st h = X mX5_digest 106 [v0, v1, v2, v3, aI z, v5] (aI z :: st) h := X_of dX5_digest_104 rfl
theorem x_X5_digest_106 {a b : Int} {al st : List AV} {h : AH} : X mX5_digest 106 al (aI b :: aI a :: st) h = X mX5_digest 107 al (aI (w32 (a + b)) :: st) h := X_of dX5_digest_106 rfl
theorem x_X5_digest_107 {a : Nat} {i : Int} {al st : List AV} {h : AH} : X mX5_digest 107 al (aI i :: aR (some a) :: st) h = if 0 ≤ i then gK (rd h 10 a i.toNat) (fun v => X mX5_digest 108 al (v :: st) h) else none := x_aldI dX5_digest_107
theorem x_X5_digest_108 {a : Int} {al st : List AV} {h : AH} : X mX5_digest 108 al (aI a :: st) h = X mX5_digest 109 al (aJ a :: st) h := X_of dX5_digest_108 rfl
theorem x_X5_digest_109 {a b : Int} {al st : List AV} {h : AH} : X mX5_digest 109 al (aJ b :: aJ a :: st) h = X mX5_digest 110 al (aJ (w64 (a + b)) :: st) h := X_of dX5_digest_109 rfl
theorem x_X5_digest_110 {v1 v2 v3 v4 v5 : AV} {y : Option Nat} {z : Int} {st : List AV} {h : AH} : X mX5_digest 110 [aR y, v1, v2, v3, v4, v5] (aJ z :: st) h = X mX5_digest 111 [aR y, aJ z, aU, v3, v4, v5] st h := X_of dX5_digest_110 rfl
theorem x_X5_digest_111 {al st : List AV} {h : AH} : X mX5_digest 111 al st h = X mX5_digest 112 al (aI 0 :: st) h := X_of dX5_digest_111 rfl
theorem x_X5_digest_112 {v0 v1 v2 v3 v5 : AV} {y : Int} {z : Int} {st : List AV} {h : AH} : X mX5_digest 112 [v0, v1, v2, v3, aI y, v5] (aI z :: st) h = X mX5_digest 114 [v0, v1, v2, v3, aI y, aI z] st h := X_of dX5_digest_112 rfl
theorem x_X5_digest_114 {v0 v1 v2 v3 v4 : AV} {z : Int} {st : List AV} {h : AH} : X mX5_digest 114 [v0, v1, v2, v3, v4, aI z] st h = X mX5_digest 116 [v0, v1, v2, v3, v4, aI z] (aI z :: st) h := X_of dX5_digest_114 rfl
theorem x_X5_digest_116 {v1 v2 v3 v4 v5 : AV} {z : Option Nat} {st : List AV} {h : AH} : X mX5_digest 116 [aR z, v1, v2, v3, v4, v5] st h = X mX5_digest 117 [aR z, v1, v2, v3, v4, v5] (aR z :: st) h := X_of dX5_digest_116 rfl
theorem x_X5_digest_117 {a : Nat} {al st : List AV} {h : AH} : X mX5_digest 117 al (aR (some a) :: st) h = gK (rd h 5 a 12) fun v => X mX5_digest 120 al (v :: st) h := x_get dX5_digest_117 fT_5_29
theorem x_X5_digest_120 {v0 v1 v2 v4 v5 : AV} {z : Int} {st : List AV} {h : AH} : X mX5_digest 120 [v0, v1, v2, aI z, v4, v5] st h = X mX5_digest 121 [v0, v1, v2, aI z, v4, v5] (aI z :: st) h := X_of dX5_digest_120 rfl
theorem x_X5_digest_121 {a : Nat} {i : Int} {al st : List AV} {h : AH} : X mX5_digest 121 al (aI i :: aR (some a) :: st) h = if 0 ≤ i then gK (rd h 10 a i.toNat) (fun v => X mX5_digest 122 al (v :: st) h) else none := x_aldI dX5_digest_121
theorem x_X5_digest_122 {a b : Int} {al st : List AV} {h : AH} : X mX5_digest 122 al (aI b :: aI a :: st) h = if b ≤ a then X mX5_digest 156 al st h else X mX5_digest 125 al st h := x_geC dX5_digest_122 rfl
theorem x_X5_digest_125 {al st : List AV} {h : AH} : X mX5_digest 125 al st h = X mX5_digest 128 al (aJ 31 :: st) h := X_of dX5_digest_125 rfl
theorem x_X5_digest_128 {v0 v2 v3 v4 v5 : AV} {z : Int} {st : List AV} {h : AH} : X mX5_digest 128 [v0, aJ z, v2, v3, v4, v5] st h = X mX5_digest 129 [v0, aJ z, v2, v3, v4, v5] (aJ z :: st) h := X_of dX5_digest_128 rfl
theorem x_X5_digest_129 {a b : Int} {al st : List AV} {h : AH} : X mX5_digest 129 al (aJ b :: aJ a :: st) h = X mX5_digest 130 al (aJ (w64 (a * b)) :: st) h := X_of dX5_digest_129 rfl
theorem x_X5_digest_130 {v1 v2 v3 v4 v5 : AV} {z : Option Nat} {st : List AV} {h : AH} : X mX5_digest 130 [aR z, v1, v2, v3, v4, v5] st h = X mX5_digest 131 [aR z, v1, v2, v3, v4, v5] (aR z :: st) h := X_of dX5_digest_130 rfl
theorem x_X5_digest_131 {a : Nat} {al st : List AV} {h : AH} : X mX5_digest 131 al (aR (some a) :: st) h = gK (rd h 5 a 15) fun v => X mX5_digest 134 al (v :: st) h := x_get dX5_digest_131 fT_5_38
theorem x_X5_digest_134 {al st : List AV} {h : AH} : X mX5_digest 134 al st h = X mX5_digest 136 al (aI 25 :: st) h := X_of dX5_digest_134 rfl
theorem x_X5_digest_136 {v0 v1 v2 v4 v5 : AV} {z : Int} {st : List AV} {h : AH} : X mX5_digest 136 [v0, v1, v2, aI z, v4, v5] st h = X mX5_digest 137 [v0, v1, v2, aI z, v4, v5] (aI z :: st) h := X_of dX5_digest_136 rfl
theorem x_X5_digest_137 {a b : Int} {al st : List AV} {h : AH} : X mX5_digest 137 al (aI b :: aI a :: st) h = X mX5_digest 138 al (aI (w32 (a * b)) :: st) h := X_of dX5_digest_137 rfl
theorem x_X5_digest_138 {al st : List AV} {h : AH} : X mX5_digest 138 al st h = X mX5_digest 139 al (aI 5 :: st) h := X_of dX5_digest_138 rfl
theorem x_X5_digest_139 {v0 v1 v2 v3 v5 : AV} {z : Int} {st : List AV} {h : AH} : X mX5_digest 139 [v0, v1, v2, v3, aI z, v5] st h = X mX5_digest 141 [v0, v1, v2, v3, aI z, v5] (aI z :: st) h := X_of dX5_digest_139 rfl
theorem x_X5_digest_141 {a b : Int} {al st : List AV} {h : AH} : X mX5_digest 141 al (aI b :: aI a :: st) h = X mX5_digest 142 al (aI (w32 (a * b)) :: st) h := X_of dX5_digest_141 rfl
theorem x_X5_digest_142 {a b : Int} {al st : List AV} {h : AH} : X mX5_digest 142 al (aI b :: aI a :: st) h = X mX5_digest 143 al (aI (w32 (a + b)) :: st) h := X_of dX5_digest_142 rfl
theorem x_X5_digest_143 {v0 v1 v2 v3 v4 : AV} {z : Int} {st : List AV} {h : AH} : X mX5_digest 143 [v0, v1, v2, v3, v4, aI z] st h = X mX5_digest 145 [v0, v1, v2, v3, v4, aI z] (aI z :: st) h := X_of dX5_digest_143 rfl
theorem x_X5_digest_145 {a b : Int} {al st : List AV} {h : AH} : X mX5_digest 145 al (aI b :: aI a :: st) h = X mX5_digest 146 al (aI (w32 (a + b)) :: st) h := X_of dX5_digest_145 rfl
theorem x_X5_digest_146 {a : Nat} {i : Int} {al st : List AV} {h : AH} : X mX5_digest 146 al (aI i :: aR (some a) :: st) h = if 0 ≤ i then gK (rd h 10 a i.toNat) (fun v => X mX5_digest 147 al (v :: st) h) else none := x_aldI dX5_digest_146
theorem x_X5_digest_147 {a : Int} {al st : List AV} {h : AH} : X mX5_digest 147 al (aI a :: st) h = X mX5_digest 148 al (aJ a :: st) h := X_of dX5_digest_147 rfl
theorem x_X5_digest_148 {a b : Int} {al st : List AV} {h : AH} : X mX5_digest 148 al (aJ b :: aJ a :: st) h = X mX5_digest 149 al (aJ (w64 (a + b)) :: st) h := X_of dX5_digest_148 rfl
theorem x_X5_digest_149 {v1 v2 v3 v4 v5 : AV} {y : Option Nat} {z : Int} {st : List AV} {h : AH} : X mX5_digest 149 [aR y, v1, v2, v3, v4, v5] (aJ z :: st) h = X mX5_digest 150 [aR y, aJ z, aU, v3, v4, v5] st h := X_of dX5_digest_149 rfl
theorem x_X5_digest_150 {v0 v1 v2 v3 : AV} {y : Int} {z : Int} {st : List AV} {h : AH} : X mX5_digest 150 [v0, v1, v2, v3, aI y, aI z] st h = X mX5_digest 153 [v0, v1, v2, v3, aI y, aI (w32 (z + 1))] st h := X_of dX5_digest_150 rfl
theorem x_X5_digest_153 {al st : List AV} {h : AH} : X mX5_digest 153 al st h = X mX5_digest 114 al st h := X_of dX5_digest_153 rfl
theorem x_X5_digest_156 {v0 v1 v2 v5 : AV} {y : Int} {z : Int} {st : List AV} {h : AH} : X mX5_digest 156 [v0, v1, v2, aI y, aI z, v5] st h = X mX5_digest 159 [v0, v1, v2, aI y, aI (w32 (z + 1)), v5] st h := X_of dX5_digest_156 rfl
theorem x_X5_digest_159 {al st : List AV} {h : AH} : X mX5_digest 159 al st h = X mX5_digest 81 al st h := X_of dX5_digest_159 rfl
theorem x_X5_digest_162 {v0 v1 v4 v5 : AV} {z : Int} {st : List AV} {h : AH} : X mX5_digest 162 [v0, v1, aU, aI z, v4, v5] st h = X mX5_digest 165 [v0, v1, aU, aI (w32 (z + 1)), v4, v5] st h := X_of dX5_digest_162 rfl
theorem x_X5_digest_165 {al st : List AV} {h : AH} : X mX5_digest 165 al st h = X mX5_digest 32 al st h := X_of dX5_digest_165 rfl
theorem x_X5_digest_168 {al st : List AV} {h : AH} : X mX5_digest 168 al st h = X mX5_digest 169 al (aI 0 :: st) h := X_of dX5_digest_168 rfl
theorem x_X5_digest_169 {v0 v1 v3 v4 v5 : AV} {z : Int} {st : List AV} {h : AH} : X mX5_digest 169 [v0, v1, aU, v3, v4, v5] (aI z :: st) h = X mX5_digest 170 [v0, v1, aU, aI z, v4, v5] st h := X_of dX5_digest_169 rfl
theorem x_X5_digest_170 {v0 v1 v2 v4 v5 : AV} {z : Int} {st : List AV} {h : AH} : X mX5_digest 170 [v0, v1, v2, aI z, v4, v5] st h = X mX5_digest 171 [v0, v1, v2, aI z, v4, v5] (aI z :: st) h := X_of dX5_digest_170 rfl
theorem x_X5_digest_171 {v1 v2 v3 v4 v5 : AV} {z : Option Nat} {st : List AV} {h : AH} : X mX5_digest 171 [aR z, v1, v2, v3, v4, v5] st h = X mX5_digest 172 [aR z, v1, v2, v3, v4, v5] (aR z :: st) h := X_of dX5_digest_171 rfl
theorem x_X5_digest_172 {a : Nat} {al st : List AV} {h : AH} : X mX5_digest 172 al (aR (some a) :: st) h = gK (rd h 5 a 4) fun v => X mX5_digest 175 al (v :: st) h := x_get dX5_digest_172 fT_5_91
theorem x_X5_digest_175 {a b : Int} {al st : List AV} {h : AH} : X mX5_digest 175 al (aI b :: aI a :: st) h = if b ≤ a then X mX5_digest 250 al st h else X mX5_digest 178 al st h := x_geC dX5_digest_175 rfl
theorem x_X5_digest_178 {al st : List AV} {h : AH} : X mX5_digest 178 al st h = X mX5_digest 181 al (aJ 31 :: st) h := X_of dX5_digest_178 rfl
theorem x_X5_digest_181 {v0 v2 v3 v4 v5 : AV} {z : Int} {st : List AV} {h : AH} : X mX5_digest 181 [v0, aJ z, v2, v3, v4, v5] st h = X mX5_digest 182 [v0, aJ z, v2, v3, v4, v5] (aJ z :: st) h := X_of dX5_digest_181 rfl
theorem x_X5_digest_182 {a b : Int} {al st : List AV} {h : AH} : X mX5_digest 182 al (aJ b :: aJ a :: st) h = X mX5_digest 183 al (aJ (w64 (a * b)) :: st) h := X_of dX5_digest_182 rfl
theorem x_X5_digest_183 {v1 v2 v3 v4 v5 : AV} {z : Option Nat} {st : List AV} {h : AH} : X mX5_digest 183 [aR z, v1, v2, v3, v4, v5] st h = X mX5_digest 184 [aR z, v1, v2, v3, v4, v5] (aR z :: st) h := X_of dX5_digest_183 rfl
theorem x_X5_digest_184 {a : Nat} {al st : List AV} {h : AH} : X mX5_digest 184 al (aR (some a) :: st) h = gK (rd h 5 a 6) fun v => X mX5_digest 187 al (v :: st) h := x_get dX5_digest_184 fT_5_16
theorem x_X5_digest_187 {v0 v1 v2 v4 v5 : AV} {z : Int} {st : List AV} {h : AH} : X mX5_digest 187 [v0, v1, v2, aI z, v4, v5] st h = X mX5_digest 188 [v0, v1, v2, aI z, v4, v5] (aI z :: st) h := X_of dX5_digest_187 rfl
theorem x_X5_digest_188 {a : Nat} {i : Int} {al st : List AV} {h : AH} : X mX5_digest 188 al (aI i :: aR (some a) :: st) h = if 0 ≤ i then gK (rd h 10 a i.toNat) (fun v => X mX5_digest 189 al (v :: st) h) else none := x_aldI dX5_digest_188
theorem x_X5_digest_189 {a : Int} {al st : List AV} {h : AH} : X mX5_digest 189 al (aI a :: st) h = if 0 ≤ a then X mX5_digest 196 al st h else X mX5_digest 192 al st h := x_ge0 dX5_digest_189 rfl
theorem x_X5_digest_192 {al st : List AV} {h : AH} : X mX5_digest 192 al st h = X mX5_digest 193 al (aI (-1) :: st) h := X_of dX5_digest_192 rfl
theorem x_X5_digest_193 {al st : List AV} {h : AH} : X mX5_digest 193 al st h = X mX5_digest 202 al st h := X_of dX5_digest_193 rfl
theorem x_X5_digest_196 {v1 v2 v3 v4 v5 : AV} {z : Option Nat} {st : List AV} {h : AH} : X mX5_digest 196 [aR z, v1, v2, v3, v4, v5] st h = X mX5_digest 197 [aR z, v1, v2, v3, v4, v5] (aR z :: st) h := X_of dX5_digest_196 rfl
theorem x_X5_digest_197 {a : Nat} {al st : List AV} {h : AH} : X mX5_digest 197 al (aR (some a) :: st) h = gK (rd h 5 a 6) fun v => X mX5_digest 200 al (v :: st) h := x_get dX5_digest_197 fT_5_16
theorem x_X5_digest_200 {v0 v1 v2 v4 v5 : AV} {z : Int} {st : List AV} {h : AH} : X mX5_digest 200 [v0, v1, v2, aI z, v4, v5] st h = X mX5_digest 201 [v0, v1, v2, aI z, v4, v5] (aI z :: st) h := X_of dX5_digest_200 rfl
theorem x_X5_digest_201 {a : Nat} {i : Int} {al st : List AV} {h : AH} : X mX5_digest 201 al (aI i :: aR (some a) :: st) h = if 0 ≤ i then gK (rd h 10 a i.toNat) (fun v => X mX5_digest 202 al (v :: st) h) else none := x_aldI dX5_digest_201
theorem x_X5_digest_202 {a : Int} {al st : List AV} {h : AH} : X mX5_digest 202 al (aI a :: st) h = X mX5_digest 203 al (aJ a :: st) h := X_of dX5_digest_202 rfl
theorem x_X5_digest_203 {a b : Int} {al st : List AV} {h : AH} : X mX5_digest 203 al (aJ b :: aJ a :: st) h = X mX5_digest 204 al (aJ (w64 (a + b)) :: st) h := X_of dX5_digest_203 rfl
theorem x_X5_digest_204 {v1 v2 v3 v4 v5 : AV} {y : Option Nat} {z : Int} {st : List AV} {h : AH} : X mX5_digest 204 [aR y, v1, v2, v3, v4, v5] (aJ z :: st) h = X mX5_digest 205 [aR y, aJ z, aU, v3, v4, v5] st h := X_of dX5_digest_204 rfl
theorem x_X5_digest_205 {al st : List AV} {h : AH} : X mX5_digest 205 al st h = X mX5_digest 206 al (aI 0 :: st) h := X_of dX5_digest_205 rfl
theorem x_X5_digest_206 {v0 v1 v2 v4 v5 : AV} {y : Int} {z : Int} {st : List AV} {h : AH} : X mX5_digest 206 [v0, v1, v2, aI y, v4, v5] (aI z :: st) h = X mX5_digest 208 [v0, v1, v2, aI y, aI z, v5] st h := X_of dX5_digest_206 rfl
theorem x_X5_digest_208 {v0 v1 v2 v3 v5 : AV} {z : Int} {st : List AV} {h : AH} : X mX5_digest 208 [v0, v1, v2, v3, aI z, v5] st h = X mX5_digest 210 [v0, v1, v2, v3, aI z, v5] (aI z :: st) h := X_of dX5_digest_208 rfl
theorem x_X5_digest_210 {v1 v2 v3 v4 v5 : AV} {z : Option Nat} {st : List AV} {h : AH} : X mX5_digest 210 [aR z, v1, v2, v3, v4, v5] st h = X mX5_digest 211 [aR z, v1, v2, v3, v4, v5] (aR z :: st) h := X_of dX5_digest_210 rfl
theorem x_X5_digest_211 {a : Nat} {al st : List AV} {h : AH} : X mX5_digest 211 al (aR (some a) :: st) h = gK (rd h 5 a 6) fun v => X mX5_digest 214 al (v :: st) h := x_get dX5_digest_211 fT_5_16
theorem x_X5_digest_214 {v0 v1 v2 v4 v5 : AV} {z : Int} {st : List AV} {h : AH} : X mX5_digest 214 [v0, v1, v2, aI z, v4, v5] st h = X mX5_digest 215 [v0, v1, v2, aI z, v4, v5] (aI z :: st) h := X_of dX5_digest_214 rfl
theorem x_X5_digest_215 {a : Nat} {i : Int} {al st : List AV} {h : AH} : X mX5_digest 215 al (aI i :: aR (some a) :: st) h = if 0 ≤ i then gK (rd h 10 a i.toNat) (fun v => X mX5_digest 216 al (v :: st) h) else none := x_aldI dX5_digest_215
theorem x_X5_digest_216 {a b : Int} {al st : List AV} {h : AH} : X mX5_digest 216 al (aI b :: aI a :: st) h = if b ≤ a then X mX5_digest 244 al st h else X mX5_digest 219 al st h := x_geC dX5_digest_216 rfl
theorem x_X5_digest_219 {al st : List AV} {h : AH} : X mX5_digest 219 al st h = X mX5_digest 222 al (aJ 31 :: st) h := X_of dX5_digest_219 rfl
theorem x_X5_digest_222 {v0 v2 v3 v4 v5 : AV} {z : Int} {st : List AV} {h : AH} : X mX5_digest 222 [v0, aJ z, v2, v3, v4, v5] st h = X mX5_digest 223 [v0, aJ z, v2, v3, v4, v5] (aJ z :: st) h := X_of dX5_digest_222 rfl
theorem x_X5_digest_223 {a b : Int} {al st : List AV} {h : AH} : X mX5_digest 223 al (aJ b :: aJ a :: st) h = X mX5_digest 224 al (aJ (w64 (a * b)) :: st) h := X_of dX5_digest_223 rfl
theorem x_X5_digest_224 {v1 v2 v3 v4 v5 : AV} {z : Option Nat} {st : List AV} {h : AH} : X mX5_digest 224 [aR z, v1, v2, v3, v4, v5] st h = X mX5_digest 225 [aR z, v1, v2, v3, v4, v5] (aR z :: st) h := X_of dX5_digest_224 rfl
theorem x_X5_digest_225 {a : Nat} {al st : List AV} {h : AH} : X mX5_digest 225 al (aR (some a) :: st) h = gK (rd h 5 a 7) fun v => X mX5_digest 228 al (v :: st) h := x_get dX5_digest_225 fT_5_19
theorem x_X5_digest_228 {al st : List AV} {h : AH} : X mX5_digest 228 al st h = X mX5_digest 230 al (aI 24 :: st) h := X_of dX5_digest_228 rfl
theorem x_X5_digest_230 {v0 v1 v2 v4 v5 : AV} {z : Int} {st : List AV} {h : AH} : X mX5_digest 230 [v0, v1, v2, aI z, v4, v5] st h = X mX5_digest 231 [v0, v1, v2, aI z, v4, v5] (aI z :: st) h := X_of dX5_digest_230 rfl
theorem x_X5_digest_231 {a b : Int} {al st : List AV} {h : AH} : X mX5_digest 231 al (aI b :: aI a :: st) h = X mX5_digest 232 al (aI (w32 (a * b)) :: st) h := X_of dX5_digest_231 rfl
theorem x_X5_digest_232 {v0 v1 v2 v3 v5 : AV} {z : Int} {st : List AV} {h : AH} : X mX5_digest 232 [v0, v1, v2, v3, aI z, v5] st h = X mX5_digest 234 [v0, v1, v2, v3, aI z, v5] (aI z :: st) h := X_of dX5_digest_232 rfl
theorem x_X5_digest_234 {a b : Int} {al st : List AV} {h : AH} : X mX5_digest 234 al (aI b :: aI a :: st) h = X mX5_digest 235 al (aI (w32 (a + b)) :: st) h := X_of dX5_digest_234 rfl
theorem x_X5_digest_235 {a : Nat} {i : Int} {al st : List AV} {h : AH} : X mX5_digest 235 al (aI i :: aR (some a) :: st) h = if 0 ≤ i then gK (rd h 11 a i.toNat) (fun v => X mX5_digest 236 al (v :: st) h) else none := x_aldJ dX5_digest_235
theorem x_X5_digest_236 {a b : Int} {al st : List AV} {h : AH} : X mX5_digest 236 al (aJ b :: aJ a :: st) h = X mX5_digest 237 al (aJ (w64 (a + b)) :: st) h := X_of dX5_digest_236 rfl
theorem x_X5_digest_237 {v1 v2 v3 v4 v5 : AV} {y : Option Nat} {z : Int} {st : List AV} {h : AH} : X mX5_digest 237 [aR y, v1, v2, v3, v4, v5] (aJ z :: st) h = X mX5_digest 238 [aR y, aJ z, aU, v3, v4, v5] st h := X_of dX5_digest_237 rfl
theorem x_X5_digest_238 {v0 v1 v2 v5 : AV} {y : Int} {z : Int} {st : List AV} {h : AH} : X mX5_digest 238 [v0, v1, v2, aI y, aI z, v5] st h = X mX5_digest 241 [v0, v1, v2, aI y, aI (w32 (z + 1)), v5] st h := X_of dX5_digest_238 rfl
theorem x_X5_digest_241 {al st : List AV} {h : AH} : X mX5_digest 241 al st h = X mX5_digest 208 al st h := X_of dX5_digest_241 rfl
theorem x_X5_digest_244 {v0 v1 v4 v5 : AV} {z : Int} {st : List AV} {h : AH} : X mX5_digest 244 [v0, v1, aU, aI z, v4, v5] st h = X mX5_digest 247 [v0, v1, aU, aI (w32 (z + 1)), v4, v5] st h := X_of dX5_digest_244 rfl
theorem x_X5_digest_247 {al st : List AV} {h : AH} : X mX5_digest 247 al st h = X mX5_digest 170 al st h := X_of dX5_digest_247 rfl
theorem x_X5_digest_250 {v0 v2 v3 v4 v5 : AV} {z : Int} {st : List AV} {h : AH} : X mX5_digest 250 [v0, aJ z, v2, v3, v4, v5] st h = X mX5_digest 251 [v0, aJ z, v2, v3, v4, v5] (aJ z :: st) h := X_of dX5_digest_250 rfl
theorem x_X5_digest_251 {z : Int} {al : List AV} {h : AH} : X mX5_digest 251 al [aJ z] h = some (some (aJ z), h) := X_ofR dX5_digest_251 rfl
