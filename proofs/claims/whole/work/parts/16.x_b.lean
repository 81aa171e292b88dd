theorem e_X4_init {p0 : Option Nat} {h : AH} : E mX4_init [aR p0] h = X mX4_init 0 [aR p0] [] h := rfl
theorem x_X4_init_0 {z : Option Nat} {st : List AV} {h : AH} : X mX4_init 0 [aR z] st h = X mX4_init 1 [aR z] (aR z :: st) h := X_of dX4_init_0 rfl
theorem x_X4_init_1 {a : Nat} {al : List AV} {h : AH} : X mX4_init 1 al [aR (some a)] h = X mX4_init 4 al [] h := X_of dX4_init_1 rfl
theorem x_X4_init_4 {z : Option Nat} {st : List AV} {h : AH} : X mX4_init 4 [aR z] st h = X mX4_init 5 [aR z] (aR z :: st) h := X_of dX4_init_4 rfl
theorem x_X4_init_5 {al st : List AV} {h : AH} : X mX4_init 5 al st h = X mX4_init 7 al (aI 16 :: st) h := X_of dX4_init_5 rfl
theorem x_X4_init_7 {n : Int} {al st : List AV} {h : AH} : X mX4_init 7 al (aI n :: st) h = if 0 ≤ n ∧ n ≤ 1000 then X mX4_init 10 al (aR (some h.length) :: st) (h ++ [(12, List.replicate n.toNat (aR none))]) else none := x_nwr dX4_init_7 aT_4_9
theorem x_X4_init_10 {a : Nat} {z : Option Nat} {al st : List AV} {h : AH} : X mX4_init 10 al (aR z :: aR (some a) :: st) h = pK (rd h 4 a 0) (X mX4_init 13 al st (wr h 4 a 0 (aR z))) := x_put dX4_init_10 fT_4_11 rfl rfl
theorem x_X4_init_13 {z : Option Nat} {st : List AV} {h : AH} : X mX4_init 13 [aR z] st h = X mX4_init 14 [aR z] (aR z :: st) h := X_of dX4_init_13 rfl
theorem x_X4_init_14 {al st : List AV} {h : AH} : X mX4_init 14 al st h = X mX4_init 16 al (aI 12 :: st) h := X_of dX4_init_14 rfl
theorem x_X4_init_16 {n : Int} {al st : List AV} {h : AH} : X mX4_init 16 al (aI n :: st) h = if 0 ≤ n ∧ n ≤ 1000 then X mX4_init 19 al (aR (some h.length) :: st) (h ++ [(13, List.replicate n.toNat (aR none))]) else none := x_nwr dX4_init_16 aT_4_15
theorem x_X4_init_19 {a : Nat} {z : Option Nat} {al st : List AV} {h : AH} : X mX4_init 19 al (aR z :: aR (some a) :: st) h = pK (rd h 4 a 1) (X mX4_init 22 al st (wr h 4 a 1 (aR z))) := x_put dX4_init_19 fT_4_17 rfl rfl
theorem x_X4_init_22 {z : Option Nat} {st : List AV} {h : AH} : X mX4_init 22 [aR z] st h = X mX4_init 23 [aR z] (aR z :: st) h := X_of dX4_init_22 rfl
set_option maxRecDepth 20000 in
theorem x_X4_init_23 {al st : List AV} {h : AH} : X mX4_init 23 al st h = X mX4_init 26 al (aR (some h.length) :: st) (h ++ [(2, [aR none, aR none, aR none, aR none])]) := x_new dX4_init_23 nT_4_21 dfl_2
theorem x_X4_init_26 {z : Option Nat} {al st : List AV} {h : AH} : X mX4_init 26 al (aR z :: st) h = X mX4_init 27 al (aR z :: aR z :: st) h := X_of dX4_init_26 rfl
theorem x_X4_init_27 {a0 : Nat} {r0 : Option Nat} {r1 : Option Nat} {al : List AV} {h : AH} : X mX4_init 27 al [aR (some a0), aR r0, aR r1] h = cK (E mX2_init [aR (some a0)] h) fun v h2 => X mX4_init 30 al (v.toList ++ [aR r0, aR r1]) h2 := x_cal (as := [aR (some a0)]) (rest := [aR r0, aR r1]) dX4_init_27 (fun _ => rfl) cT_4_23 rfl rfl rfl
theorem x_X4_init_30 {a : Nat} {z : Option Nat} {al st : List AV} {h : AH} : X mX4_init 30 al (aR z :: aR (some a) :: st) h = pK (rd h 4 a 2) (X mX4_init 33 al st (wr h 4 a 2 (aR z))) := x_put dX4_init_30 fT_4_24 rfl rfl
theorem x_X4_init_33 {z : Option Nat} {st : List AV} {h : AH} : X mX4_init 33 [aR z] st h = X mX4_init 34 [aR z] (aR z :: st) h := X_of dX4_init_33 rfl
set_option maxRecDepth 20000 in
theorem x_X4_init_34 {al st : List AV} {h : AH} : X mX4_init 34 al st h = X mX4_init 37 al (aR (some h.length) :: st) (h ++ [(0, [aJ 0, aJ 0])]) := x_new dX4_init_34 nT_4_28 dfl_0
theorem x_X4_init_37 {z : Option Nat} {al st : List AV} {h : AH} : X mX4_init 37 al (aR z :: st) h = X mX4_init 38 al (aR z :: aR z :: st) h := X_of dX4_init_37 rfl
theorem x_X4_init_38 {a0 : Nat} {r0 : Option Nat} {r1 : Option Nat} {al : List AV} {h : AH} : X mX4_init 38 al [aR (some a0), aR r0, aR r1] h = cK (E mX0_init [aR (some a0)] h) fun v h2 => X mX4_init 41 al (v.toList ++ [aR r0, aR r1]) h2 := x_cal (as := [aR (some a0)]) (rest := [aR r0, aR r1]) dX4_init_38 (fun _ => rfl) cT_4_30 rfl rfl rfl
theorem x_X4_init_41 {a : Nat} {z : Option Nat} {al st : List AV} {h : AH} : X mX4_init 41 al (aR z :: aR (some a) :: st) h = pK (rd h 4 a 3) (X mX4_init 44 al st (wr h 4 a 3 (aR z))) := x_put dX4_init_41 fT_4_31 rfl rfl
theorem x_X4_init_44 {z : Option Nat} {st : List AV} {h : AH} : X mX4_init 44 [aR z] st h = X mX4_init 45 [aR z] (aR z :: st) h := X_of dX4_init_44 rfl
theorem x_X4_init_45 {al st : List AV} {h : AH} : X mX4_init 45 al st h = X mX4_init 47 al (aI 7 :: st) h := X_of dX4_init_45 rfl
theorem x_X4_init_47 {n : Int} {al st : List AV} {h : AH} : X mX4_init 47 al (aI n :: st) h = if 0 ≤ n ∧ n ≤ 1000 then X mX4_init 49 al (aR (some h.length) :: st) (h ++ [(10, List.replicate n.toNat (aI 0))]) else none := x_nwa dX4_init_47 rfl
theorem x_X4_init_49 {a : Nat} {z : Option Nat} {al st : List AV} {h : AH} : X mX4_init 49 al (aR z :: aR (some a) :: st) h = pK (rd h 4 a 4) (X mX4_init 52 al st (wr h 4 a 4 (aR z))) := x_put dX4_init_49 fT_4_35 rfl rfl
theorem x_X4_init_52 {z : Option Nat} {st : List AV} {h : AH} : X mX4_init 52 [aR z] st h = X mX4_init 53 [aR z] (aR z :: st) h := X_of dX4_init_52 rfl
theorem x_X4_init_53 {al st : List AV} {h : AH} : X mX4_init 53 al st h = X mX4_init 56 al (aI 200 :: st) h := X_of dX4_init_53 rfl
theorem x_X4_init_56 {n : Int} {al st : List AV} {h : AH} : X mX4_init 56 al (aI n :: st) h = if 0 ≤ n ∧ n ≤ 1000 then X mX4_init 58 al (aR (some h.length) :: st) (h ++ [(10, List.replicate n.toNat (aI 0))]) else none := x_nwa dX4_init_56 rfl
theorem x_X4_init_58 {a : Nat} {z : Option Nat} {al st : List AV} {h : AH} : X mX4_init 58 al (aR z :: aR (some a) :: st) h = pK (rd h 4 a 5) (X mX4_init 61 al st (wr h 4 a 5 (aR z))) := x_put dX4_init_58 fT_4_39 rfl rfl
theorem x_X4_init_61 {z : Option Nat} {st : List AV} {h : AH} : X mX4_init 61 [aR z] st h = X mX4_init 62 [aR z] (aR z :: st) h := X_of dX4_init_61 rfl
theorem x_X4_init_62 {al st : List AV} {h : AH} : X mX4_init 62 al st h = X mX4_init 63 al (aI 0 :: st) h := X_of dX4_init_62 rfl
theorem x_X4_init_63 {a : Nat} {z : Int} {al st : List AV} {h : AH} : X mX4_init 63 al (aI z :: aR (some a) :: st) h = pK (rd h 4 a 6) (X mX4_init 66 al st (wr h 4 a 6 (aI z))) := x_put dX4_init_63 fT_4_42 rfl rfl
theorem x_X4_init_66 {z : Option Nat} {st : List AV} {h : AH} : X mX4_init 66 [aR z] st h = X mX4_init 67 [aR z] (aR z :: st) h := X_of dX4_init_66 rfl
theorem x_X4_init_67 {al st : List AV} {h : AH} : X mX4_init 67 al st h = X mX4_init 68 al (aI 0 :: st) h := X_of dX4_init_67 rfl
theorem x_X4_init_68 {a : Nat} {z : Int} {al st : List AV} {h : AH} : X mX4_init 68 al (aI z :: aR (some a) :: st) h = pK (rd h 4 a 7) (X mX4_init 71 al st (wr h 4 a 7 (aI z))) := x_put dX4_init_68 fT_4_46 rfl rfl
theorem x_X4_init_71 {z : Option Nat} {st : List AV} {h : AH} : X mX4_init 71 [aR z] st h = X mX4_init 72 [aR z] (aR z :: st) h := X_of dX4_init_71 rfl
theorem x_X4_init_72 {al st : List AV} {h : AH} : X mX4_init 72 al st h = X mX4_init 73 al (aI 1 :: st) h := X_of dX4_init_72 rfl
theorem x_X4_init_73 {a : Nat} {z : Int} {al st : List AV} {h : AH} : X mX4_init 73 al (aI z :: aR (some a) :: st) h = pK (rd h 4 a 8) (X mX4_init 76 al st (wr h 4 a 8 (aI z))) := x_put dX4_init_73 fT_4_49 rfl rfl
theorem x_X4_init_76 {z : Option Nat} {st : List AV} {h : AH} : X mX4_init 76 [aR z] st h = X mX4_init 77 [aR z] (aR z :: st) h := X_of dX4_init_76 rfl
theorem x_X4_init_77 {al st : List AV} {h : AH} : X mX4_init 77 al st h = X mX4_init 78 al (aI 2 :: st) h := X_of dX4_init_77 rfl
theorem x_X4_init_78 {a : Nat} {z : Int} {al st : List AV} {h : AH} : X mX4_init 78 al (aI z :: aR (some a) :: st) h = pK (rd h 4 a 9) (X mX4_init 81 al st (wr h 4 a 9 (aI z))) := x_put dX4_init_78 fT_4_52 rfl rfl
theorem x_X4_init_81 {z : Option Nat} {st : List AV} {h : AH} : X mX4_init 81 [aR z] st h = X mX4_init 82 [aR z] (aR z :: st) h := X_of dX4_init_81 rfl
theorem x_X4_init_82 {al st : List AV} {h : AH} : X mX4_init 82 al st h = X mX4_init 83 al (aI 1 :: st) h := X_of dX4_init_82 rfl
theorem x_X4_init_83 {a : Nat} {z : Int} {al st : List AV} {h : AH} : X mX4_init 83 al (aI z :: aR (some a) :: st) h = pK (rd h 4 a 10) (X mX4_init 86 al st (wr h 4 a 10 (aI z))) := x_put dX4_init_83 fT_4_55 rfl rfl
theorem x_X4_init_86 {z : Option Nat} {st : List AV} {h : AH} : X mX4_init 86 [aR z] st h = X mX4_init 87 [aR z] (aR z :: st) h := X_of dX4_init_86 rfl
theorem x_X4_init_87 {al st : List AV} {h : AH} : X mX4_init 87 al st h = X mX4_init 88 al (aI 0 :: st) h := X_of dX4_init_87 rfl
theorem x_X4_init_88 {a : Nat} {z : Int} {al st : List AV} {h : AH} : X mX4_init 88 al (aI z :: aR (some a) :: st) h = pK (rd h 4 a 11) (X mX4_init 91 al st (wr h 4 a 11 (aI z))) := x_put dX4_init_88 fT_4_58 rfl rfl
theorem x_X4_init_91 {z : Option Nat} {st : List AV} {h : AH} : X mX4_init 91 [aR z] st h = X mX4_init 92 [aR z] (aR z :: st) h := X_of dX4_init_91 rfl
theorem x_X4_init_92 {al st : List AV} {h : AH} : X mX4_init 92 al st h = X mX4_init 93 al (aI 0 :: st) h := X_of dX4_init_92 rfl
theorem x_X4_init_93 {a : Nat} {z : Int} {al st : List AV} {h : AH} : X mX4_init 93 al (aI z :: aR (some a) :: st) h = pK (rd h 4 a 12) (X mX4_init 96 al st (wr h 4 a 12 (aI z))) := x_put dX4_init_93 fT_4_61 rfl rfl
theorem x_X4_init_96 {z : Option Nat} {st : List AV} {h : AH} : X mX4_init 96 [aR z] st h = X mX4_init 97 [aR z] (aR z :: st) h := X_of dX4_init_96 rfl
theorem x_X4_init_97 {al st : List AV} {h : AH} : X mX4_init 97 al st h = X mX4_init 98 al (aJ 0 :: st) h := X_of dX4_init_97 rfl
theorem x_X4_init_98 {a : Nat} {z : Int} {al st : List AV} {h : AH} : X mX4_init 98 al (aJ z :: aR (some a) :: st) h = pK (rd h 4 a 13) (X mX4_init 101 al st (wr h 4 a 13 (aJ z))) := x_put dX4_init_98 fT_4_64 rfl rfl
theorem x_X4_init_101 {z : Option Nat} {st : List AV} {h : AH} : X mX4_init 101 [aR z] st h = X mX4_init 102 [aR z] (aR z :: st) h := X_of dX4_init_101 rfl
theorem x_X4_init_102 {al st : List AV} {h : AH} : X mX4_init 102 al st h = X mX4_init 103 al (aJ 0 :: st) h := X_of dX4_init_102 rfl
theorem x_X4_init_103 {a : Nat} {z : Int} {al st : List AV} {h : AH} : X mX4_init 103 al (aJ z :: aR (some a) :: st) h = pK (rd h 4 a 14) (X mX4_init 106 al st (wr h 4 a 14 (aJ z))) := x_put dX4_init_103 fT_4_68 rfl rfl
theorem x_X4_init_106 {al : List AV} {h : AH} : X mX4_init 106 al [] h = some (none, h) := X_ofR dX4_init_106 rfl
theorem e_X4_share {p0 : Option Nat} {p1 : Int} {p2 : Int} {h : AH} : E mX4_share [aR p0, aI p1, aI p2] h = X mX4_share 0 [aR p0, aI p1, aI p2, aU, aU] [] h := rfl
theorem x_X4_share_0 {v0 v2 v3 v4 : AV} {z : Int} {st : List AV} {h : AH} : X mX4_share 0 [v0, aI z, v2, v3, v4] st h = X mX4_share 1 [v0, aI z, v2, v3, v4] (aI z :: st) h := X_of dX4_share_0 rfl
theorem x_X4_share_1 {al st : List AV} {h : AH} : X mX4_share 1 al st h = X mX4_share 2 al (aI 1 :: st) h := X_of dX4_share_1 rfl
theorem x_X4_share_2 {a b : Int} {al st : List AV} {h : AH} : X mX4_share 2 al (aI b :: aI a :: st) h = if a < b then X mX4_share 16 al st h else X mX4_share 5 al st h := x_ltC dX4_share_2 rfl
theorem x_X4_share_5 {v0 v2 v3 v4 : AV} {z : Int} {st : List AV} {h : AH} : X mX4_share 5 [v0, aI z, v2, v3, v4] st h = X mX4_share 6 [v0, aI z, v2, v3, v4] (aI z :: st) h := X_of dX4_share_5 rfl
theorem x_X4_share_6 {v0 v1 v3 v4 : AV} {z : Int} {st : List AV} {h : AH} : X mX4_share 6 [v0, v1, aI z, v3, v4] st h = X mX4_share 7 [v0, v1, aI z, v3, v4] (aI z :: st) h := X_of dX4_share_6 rfl
theorem x_X4_share_7 {a b : Int} {al st : List AV} {h : AH} : X mX4_share 7 al (aI b :: aI a :: st) h = if b ≤ a then X mX4_share 16 al st h else X mX4_share 10 al st h := x_geC dX4_share_7 rfl
theorem x_X4_share_10 {v0 v1 v3 v4 : AV} {z : Int} {st : List AV} {h : AH} : X mX4_share 10 [v0, v1, aI z, v3, v4] st h = X mX4_share 11 [v0, v1, aI z, v3, v4] (aI z :: st) h := X_of dX4_share_10 rfl
theorem x_X4_share_11 {al st : List AV} {h : AH} : X mX4_share 11 al st h = X mX4_share 13 al (aI 8 :: st) h := X_of dX4_share_11 rfl
theorem x_X4_share_13 {a b : Int} {al st : List AV} {h : AH} : X mX4_share 13 al (aI b :: aI a :: st) h = if a ≤ b then X mX4_share 18 al st h else X mX4_share 16 al st h := x_leC dX4_share_13 rfl
theorem x_X4_share_16 {al st : List AV} {h : AH} : X mX4_share 16 al st h = X mX4_share 17 al (aI (-1) :: st) h := X_of dX4_share_16 rfl
theorem x_X4_share_17 {z : Int} {al : List AV} {h : AH} : X mX4_share 17 al [aI z] h = some (some (aI z), h) := X_ofR dX4_share_17 rfl
theorem x_X4_share_18 {v1 v2 v3 v4 : AV} {z : Option Nat} {st : List AV} {h : AH} : X mX4_share 18 [aR z, v1, v2, v3, v4] st h = X mX4_share 19 [aR z, v1, v2, v3, v4] (aR z :: st) h := X_of dX4_share_18 rfl
theorem x_X4_share_19 {v0 v2 v3 v4 : AV} {z : Int} {st : List AV} {h : AH} : X mX4_share 19 [v0, aI z, v2, v3, v4] st h = X mX4_share 20 [v0, aI z, v2, v3, v4] (aI z :: st) h := X_of dX4_share_19 rfl
theorem x_X4_share_20 {a : Nat} {z : Int} {al st : List AV} {h : AH} : X mX4_share 20 al (aI z :: aR (some a) :: st) h = pK (rd h 4 a 8) (X mX4_share 23 al st (wr h 4 a 8 (aI z))) := x_put dX4_share_20 fT_4_49 rfl rfl
theorem x_X4_share_23 {v1 v2 v3 v4 : AV} {z : Option Nat} {st : List AV} {h : AH} : X mX4_share 23 [aR z, v1, v2, v3, v4] st h = X mX4_share 24 [aR z, v1, v2, v3, v4] (aR z :: st) h := X_of dX4_share_23 rfl
theorem x_X4_share_24 {v0 v1 v3 v4 : AV} {z : Int} {st : List AV} {h : AH} : X mX4_share 24 [v0, v1, aI z, v3, v4] st h = X mX4_share 25 [v0, v1, aI z, v3, v4] (aI z :: st) h := X_of dX4_share_24 rfl
theorem x_X4_share_25 {a : Nat} {z : Int} {al st : List AV} {h : AH} : X mX4_share 25 al (aI z :: aR (some a) :: st) h = pK (rd h 4 a 9) (X mX4_share 28 al st (wr h 4 a 9 (aI z))) := x_put dX4_share_25 fT_4_52 rfl rfl
theorem x_X4_share_28 {al st : List AV} {h : AH} : X mX4_share 28 al st h = X mX4_share 29 al (aI 0 :: st) h := X_of dX4_share_28 rfl
theorem x_X4_share_29 {v0 v1 v3 v4 : AV} {y : Int} {z : Int} {st : List AV} {h : AH} : X mX4_share 29 [v0, v1, aI y, v3, v4] (aI z :: st) h = X mX4_share 30 [v0, v1, aI y, aI z, v4] st h := X_of dX4_share_29 rfl
theorem x_X4_share_30 {v0 v1 v2 v4 : AV} {z : Int} {st : List AV} {h : AH} : X mX4_share 30 [v0, v1, v2, aI z, v4] st h = X mX4_share 31 [v0, v1, v2, aI z, v4] (aI z :: st) h := X_of dX4_share_30 rfl
theorem x_X4_share_31 {v1 v2 v3 v4 : AV} {z : Option Nat} {st : List AV} {h : AH} : X mX4_share 31 [aR z, v1, v2, v3, v4] st h = X mX4_share 32 [aR z, v1, v2, v3, v4] (aR z :: st) h := X_of dX4_share_31 rfl
theorem x_X4_share_32 {a : Nat} {al st : List AV} {h : AH} : X mX4_share 32 al (aR (some a) :: st) h = gK (rd h 4 a 6) fun v => X mX4_share 35 al (v :: st) h := x_get dX4_share_32 fT_4_42
theorem x_X4_share_35 {a b : Int} {al st : List AV} {h : AH} : X mX4_share 35 al (aI b :: aI a :: st) h = if b ≤ a then X mX4_share 62 al st h else X mX4_share 38 al st h := x_geC dX4_share_35 rfl
theorem x_X4_share_38 {v1 v2 v3 v4 : AV} {z : Option Nat} {st : List AV} {h : AH} : X mX4_share 38 [aR z, v1, v2, v3, v4] st h = X mX4_share 39 [aR z, v1, v2, v3, v4] (aR z :: st) h := X_of dX4_share_38 rfl
theorem x_X4_share_39 {v0 v1 v2 v4 : AV} {z : Int} {st : List AV} {h : AH} : X mX4_share 39 [v0, v1, v2, aI z, v4] st h = X mX4_share 40 [v0, v1, v2, aI z, v4] (aI z :: st) h := X_of dX4_share_39 rfl
theorem x_X4_share_40 {a0 : Nat} {a1 : Int} {al : List AV} {h : AH} (ho : isO h 4 a0 = true) : X mX4_share 40 al [aI a1, aR (some a0)] h = cK (E mX4_machineAt [aR (some a0), aI a1] h) fun v h2 => X mX4_share 43 al (v.toList ++ []) h2 := x_cal (as := [aR (some a0), aI a1]) (rest := []) dX4_share_40 (fun _ => rfl) cT_4_71 rfl rfl ho
theorem x_X4_share_43 {v0 v1 v2 v4 : AV} {y : Int} {z : Option Nat} {st : List AV} {h : AH} : X mX4_share 43 [v0, v1, v2, aI y, v4] (aR z :: st) h = X mX4_share 45 [v0, v1, v2, aI y, aR z] st h := X_of dX4_share_43 rfl
theorem x_X4_share_45 {v0 v1 v2 v3 : AV} {z : Option Nat} {st : List AV} {h : AH} : X mX4_share 45 [v0, v1, v2, v3, aR z] st h = X mX4_share 47 [v0, v1, v2, v3, aR z] (aR z :: st) h := X_of dX4_share_45 rfl
theorem x_X4_share_47n {al st : List AV} {h : AH} : X mX4_share 47 al (aR none :: st) h = X mX4_share 56 al st h := X_of dX4_share_47 rfl
theorem x_X4_share_47s {a : Nat} {al st : List AV} {h : AH} : X mX4_share 47 al (aR (some a) :: st) h = X mX4_share 50 al st h := X_of dX4_share_47 rfl
theorem x_X4_share_50 {v0 v1 v2 v3 : AV} {z : Option Nat} {st : List AV} {h : AH} : X mX4_share 50 [v0, v1, v2, v3, aR z] st h = X mX4_share 52 [v0, v1, v2, v3, aR z] (aR z :: st) h := X_of dX4_share_50 rfl
theorem x_X4_share_52 {al st : List AV} {h : AH} : X mX4_share 52 al st h = X mX4_share 53 al (aI 0 :: st) h := X_of dX4_share_52 rfl
theorem x_X4_share_53_0 {a : Nat} {al st : List AV} {h : AH} : X mX4_share 53 al (aI 0 :: aR (some a) :: st) h = pK (rd h 1 a 5) (X mX4_share 56 al st (wr h 1 a 5 (aI 0))) := x_put dX4_share_53 fT_4_75 rfl rfl
theorem x_X4_share_53_1 {a : Nat} {al st : List AV} {h : AH} : X mX4_share 53 al (aI 1 :: aR (some a) :: st) h = pK (rd h 1 a 5) (X mX4_share 56 al st (wr h 1 a 5 (aI 1))) := x_put dX4_share_53 fT_4_75 rfl rfl
theorem x_X4_share_56 {v0 v1 v4 : AV} {y : Int} {z : Int} {st : List AV} {h : AH} : X mX4_share 56 [v0, v1, aI y, aI z, v4] st h = X mX4_share 59 [v0, v1, aI y, aI (w32 (z + 1)), v4] st h := X_of dX4_share_56 rfl
theorem x_X4_share_59 {al st : List AV} {h : AH} : X mX4_share 59 al st h = X mX4_share 30 al st h := X_of dX4_share_59 rfl
theorem x_X4_share_62 {al st : List AV} {h : AH} : X mX4_share 62 al st h = X mX4_share 63 al (aI 1 :: st) h := X_of dX4_share_62 rfl
theorem x_X4_share_63 {z : Int} {al : List AV} {h : AH} : X mX4_share 63 al [aI z] h = some (some (aI z), h) := X_ofR dX4_share_63 rfl
theorem e_X4_sheet {p0 : Option Nat} {p1 : Int} {p2 : Int} {h : AH} : E mX4_sheet [aR p0, aI p1, aI p2] h = X mX4_sheet 0 [aR p0, aI p1, aI p2] [] h := rfl
theorem x_X4_sheet_0 {v0 v2 : AV} {z : Int} {st : List AV} {h : AH} : X mX4_sheet 0 [v0, aI z, v2] st h = X mX4_sheet 1 [v0, aI z, v2] (aI z :: st) h := X_of dX4_sheet_0 rfl
theorem x_X4_sheet_1 {a : Int} {al st : List AV} {h : AH} : X mX4_sheet 1 al (aI a :: st) h = if a < 0 then X mX4_sheet 15 al st h else X mX4_sheet 4 al st h := x_lt0 dX4_sheet_1 rfl
theorem x_X4_sheet_4 {v0 v2 : AV} {z : Int} {st : List AV} {h : AH} : X mX4_sheet 4 [v0, aI z, v2] st h = X mX4_sheet 5 [v0, aI z, v2] (aI z :: st) h := X_of dX4_sheet_4 rfl
theorem x_X4_sheet_5 {al st : List AV} {h : AH} : X mX4_sheet 5 al st h = X mX4_sheet 6 al (aI 3 :: st) h := X_of dX4_sheet_5 rfl
theorem x_X4_sheet_6 {a b : Int} {al st : List AV} {h : AH} : X mX4_sheet 6 al (aI b :: aI a :: st) h = if b < a then X mX4_sheet 15 al st h else X mX4_sheet 9 al st h := x_gtC dX4_sheet_6 rfl
theorem x_X4_sheet_9 {v0 v1 : AV} {z : Int} {st : List AV} {h : AH} : X mX4_sheet 9 [v0, v1, aI z] st h = X mX4_sheet 10 [v0, v1, aI z] (aI z :: st) h := X_of dX4_sheet_9 rfl
theorem x_X4_sheet_10 {al st : List AV} {h : AH} : X mX4_sheet 10 al st h = X mX4_sheet 12 al (aI 24 :: st) h := X_of dX4_sheet_10 rfl
theorem x_X4_sheet_12 {a b : Int} {al st : List AV} {h : AH} : X mX4_sheet 12 al (aI b :: aI a :: st) h = if a ≤ b then X mX4_sheet 17 al st h else X mX4_sheet 15 al st h := x_leC dX4_sheet_12 rfl
theorem x_X4_sheet_15 {al st : List AV} {h : AH} : X mX4_sheet 15 al st h = X mX4_sheet 16 al (aI (-1) :: st) h := X_of dX4_sheet_15 rfl
theorem x_X4_sheet_16 {z : Int} {al : List AV} {h : AH} : X mX4_sheet 16 al [aI z] h = some (some (aI z), h) := X_ofR dX4_sheet_16 rfl
theorem x_X4_sheet_17 {v1 v2 : AV} {z : Option Nat} {st : List AV} {h : AH} : X mX4_sheet 17 [aR z, v1, v2] st h = X mX4_sheet 18 [aR z, v1, v2] (aR z :: st) h := X_of dX4_sheet_17 rfl
theorem x_X4_sheet_18 {a : Nat} {al st : List AV} {h : AH} : X mX4_sheet 18 al (aR (some a) :: st) h = gK (rd h 4 a 7) fun v => X mX4_sheet 21 al (v :: st) h := x_get dX4_sheet_18 fT_4_46
theorem x_X4_sheet_21 {a : Int} {al st : List AV} {h : AH} : X mX4_sheet 21 al (aI a :: st) h = if a < 0 then X mX4_sheet 36 al st h else X mX4_sheet 24 al st h := x_lt0 dX4_sheet_21 rfl
theorem x_X4_sheet_24 {v1 v2 : AV} {z : Option Nat} {st : List AV} {h : AH} : X mX4_sheet 24 [aR z, v1, v2] st h = X mX4_sheet 25 [aR z, v1, v2] (aR z :: st) h := X_of dX4_sheet_24 rfl
theorem x_X4_sheet_25 {a : Nat} {al st : List AV} {h : AH} : X mX4_sheet 25 al (aR (some a) :: st) h = gK (rd h 4 a 7) fun v => X mX4_sheet 28 al (v :: st) h := x_get dX4_sheet_25 fT_4_46
theorem x_X4_sheet_28 {v1 v2 : AV} {z : Option Nat} {st : List AV} {h : AH} : X mX4_sheet 28 [aR z, v1, v2] st h = X mX4_sheet 29 [aR z, v1, v2] (aR z :: st) h := X_of dX4_sheet_28 rfl
theorem x_X4_sheet_29 {a : Nat} {al st : List AV} {h : AH} : X mX4_sheet 29 al (aR (some a) :: st) h = gK (rd h 4 a 1) fun v => X mX4_sheet 32 al (v :: st) h := x_get dX4_sheet_29 fT_4_17
theorem x_X4_sheet_32 {a : Nat} {al st : List AV} {h : AH} : X mX4_sheet 32 al (aR (some a) :: st) h = gL (ln h a) fun n => X mX4_sheet 33 al (aI n :: st) h := x_len dX4_sheet_32
theorem x_X4_sheet_33 {a b : Int} {al st : List AV} {h : AH} : X mX4_sheet 33 al (aI b :: aI a :: st) h = if a < b then X mX4_sheet 39 al st h else X mX4_sheet 36 al st h := x_ltC dX4_sheet_33 rfl
theorem x_X4_sheet_36 {al st : List AV} {h : AH} : X mX4_sheet 36 al st h = X mX4_sheet 38 al (aI (-2) :: st) h := X_of dX4_sheet_36 rfl
theorem x_X4_sheet_38 {z : Int} {al : List AV} {h : AH} : X mX4_sheet 38 al [aI z] h = some (some (aI z), h) := X_ofR dX4_sheet_38 rfl
theorem x_X4_sheet_39 {v0 v1 : AV} {z : Int} {st : List AV} {h : AH} : X mX4_sheet 39 [v0, v1, aI z] st h = X mX4_sheet 40 [v0, v1, aI z] (aI z :: st) h := X_of dX4_sheet_39 rfl
theorem x_X4_sheet_40 {a : Int} {al st : List AV} {h : AH} : X mX4_sheet 40 al (aI a :: st) h = if 0 ≤ a then X mX4_sheet 49 al st h else X mX4_sheet 43 al st h := x_ge0 dX4_sheet_40 rfl
theorem x_X4_sheet_43 {v1 v2 : AV} {z : Option Nat} {st : List AV} {h : AH} : X mX4_sheet 43 [aR z, v1, v2] st h = X mX4_sheet 44 [aR z, v1, v2] (aR z :: st) h := X_of dX4_sheet_43 rfl
theorem x_X4_sheet_44 {al st : List AV} {h : AH} : X mX4_sheet 44 al st h = X mX4_sheet 45 al (aI 5 :: st) h := X_of dX4_sheet_44 rfl
theorem x_X4_sheet_45 {a0 : Nat} {a1 : Int} {al : List AV} {h : AH} (ho : isO h 4 a0 = true) : X mX4_sheet 45 al [aI a1, aR (some a0)] h = cK (E mX4_found [aR (some a0), aI a1] h) fun v h2 => X mX4_sheet 48 al (v.toList ++ []) h2 := x_cal (as := [aR (some a0), aI a1]) (rest := []) dX4_sheet_45 (fun _ => rfl) cT_4_79 rfl rfl ho
theorem x_X4_sheet_48 {z : Int} {al : List AV} {h : AH} : X mX4_sheet 48 al [aI z] h = some (some (aI z), h) := X_ofR dX4_sheet_48 rfl
theorem x_X4_sheet_49 {v1 v2 : AV} {z : Option Nat} {st : List AV} {h : AH} : X mX4_sheet 49 [aR z, v1, v2] st h = X mX4_sheet 50 [aR z, v1, v2] (aR z :: st) h := X_of dX4_sheet_49 rfl
theorem x_X4_sheet_50 {a : Nat} {al st : List AV} {h : AH} : X mX4_sheet 50 al (aR (some a) :: st) h = gK (rd h 4 a 1) fun v => X mX4_sheet 53 al (v :: st) h := x_get dX4_sheet_50 fT_4_17
theorem x_X4_sheet_53 {v1 v2 : AV} {z : Option Nat} {st : List AV} {h : AH} : X mX4_sheet 53 [aR z, v1, v2] st h = X mX4_sheet 54 [aR z, v1, v2] (aR z :: st) h := X_of dX4_sheet_53 rfl
theorem x_X4_sheet_54 {a : Nat} {al st : List AV} {h : AH} : X mX4_sheet 54 al (aR (some a) :: st) h = gK (rd h 4 a 7) fun v => X mX4_sheet 57 al (v :: st) h := x_get dX4_sheet_54 fT_4_46
set_option maxRecDepth 20000 in
theorem x_X4_sheet_57 {al st : List AV} {h : AH} : X mX4_sheet 57 al st h = X mX4_sheet 60 al (aR (some h.length) :: st) (h ++ [(3, [aI 0, aR none, aI 0])]) := x_new dX4_sheet_57 nT_4_15 dfl_3
theorem x_X4_sheet_60 {z : Option Nat} {al st : List AV} {h : AH} : X mX4_sheet 60 al (aR z :: st) h = X mX4_sheet 61 al (aR z :: aR z :: st) h := X_of dX4_sheet_60 rfl
theorem x_X4_sheet_61 {v0 v2 : AV} {z : Int} {st : List AV} {h : AH} : X mX4_sheet 61 [v0, aI z, v2] st h = X mX4_sheet 62 [v0, aI z, v2] (aI z :: st) h := X_of dX4_sheet_61 rfl
theorem x_X4_sheet_62 {v0 v1 : AV} {z : Int} {st : List AV} {h : AH} : X mX4_sheet 62 [v0, v1, aI z] st h = X mX4_sheet 63 [v0, v1, aI z] (aI z :: st) h := X_of dX4_sheet_62 rfl
theorem x_X4_sheet_63 {a0 : Nat} {a1 : Int} {a2 : Int} {r0 : Option Nat} {r1 : Int} {r2 : Option Nat} {al : List AV} {h : AH} : X mX4_sheet 63 al [aI a2, aI a1, aR (some a0), aR r0, aI r1, aR r2] h = cK (E mX3_init [aR (some a0), aI a1, aI a2] h) fun v h2 => X mX4_sheet 66 al (v.toList ++ [aR r0, aI r1, aR r2]) h2 := x_cal (as := [aR (some a0), aI a1, aI a2]) (rest := [aR r0, aI r1, aR r2]) dX4_sheet_63 (fun _ => rfl) cT_4_83 rfl rfl rfl
theorem x_X4_sheet_66 {a b : Nat} {i : Int} {al st : List AV} {h : AH} (ht : tagR h a = 13) (ho : isO h 3 b = true) : X mX4_sheet 66 al (aR (some b) :: aI i :: aR (some a) :: st) h = if 0 ≤ i then pK (rd h 13 a i.toNat) (X mX4_sheet 67 al st (wr h 13 a i.toNat (aR (some b)))) else none := x_astR dX4_sheet_66 ht (by decide) ho
theorem x_X4_sheet_67 {v1 v2 : AV} {z : Option Nat} {st : List AV} {h : AH} : X mX4_sheet 67 [aR z, v1, v2] st h = X mX4_sheet 68 [aR z, v1, v2] (aR z :: st) h := X_of dX4_sheet_67 rfl
theorem x_X4_sheet_68 {z : Option Nat} {al st : List AV} {h : AH} : X mX4_sheet 68 al (aR z :: st) h = X mX4_sheet 69 al (aR z :: aR z :: st) h := X_of dX4_sheet_68 rfl
theorem x_X4_sheet_69 {a : Nat} {al st : List AV} {h : AH} : X mX4_sheet 69 al (aR (some a) :: st) h = gK (rd h 4 a 7) fun v => X mX4_sheet 72 al (v :: st) h := x_get dX4_sheet_69 fT_4_46
theorem x_X4_sheet_72 {al st : List AV} {h : AH} : X mX4_sheet 72 al st h = X mX4_sheet 73 al (aI 1 :: st) h := X_of dX4_sheet_72 rfl
theorem x_X4_sheet_73 {a b : Int} {al st : List AV} {h : AH} : X mX4_sheet 73 al (aI b :: aI a :: st) h = X mX4_sheet 74 al (aI (w32 (a + b)) :: st) h := X_of dX4_sheet_73 rfl
theorem x_X4_sheet_74 {a : Nat} {z : Int} {al st : List AV} {h : AH} : X mX4_sheet 74 al (aI z :: aR (some a) :: st) h = pK (rd h 4 a 7) (X mX4_sheet 77 al st (wr h 4 a 7 (aI z))) := x_put dX4_sheet_74 fT_4_46 rfl rfl
theorem x_X4_sheet_77 {v1 v2 : AV} {z : Option Nat} {st : List AV} {h : AH} : X mX4_sheet 77 [aR z, v1, v2] st h = X mX4_sheet 78 [aR z, v1, v2] (aR z :: st) h := X_of dX4_sheet_77 rfl
theorem x_X4_sheet_78 {a : Nat} {al st : List AV} {h : AH} : X mX4_sheet 78 al (aR (some a) :: st) h = gK (rd h 4 a 7) fun v => X mX4_sheet 81 al (v :: st) h := x_get dX4_sheet_78 fT_4_46
theorem x_X4_sheet_81 {al st : List AV} {h : AH} : X mX4_sheet 81 al st h = X mX4_sheet 82 al (aI 1 :: st) h := X_of dX4_sheet_81 rfl
theorem x_X4_sheet_82 {a b : Int} {al st : List AV} {h : AH} : X mX4_sheet 82 al (aI b :: aI a :: st) h = X mX4_sheet 83 al (aI (w32 (a - b)) :: st) h := X_of dX4_sheet_82 rfl
theorem x_X4_sheet_83 {z : Int} {al : List AV} {h : AH} : X mX4_sheet 83 al [aI z] h = some (some (aI z), h) := X_ofR dX4_sheet_83 rfl
theorem e_X4_tear {p0 : Option Nat} {p1 : Int} {h : AH} : E mX4_tear [aR p0, aI p1] h = X mX4_tear 0 [aR p0, aI p1, aU] [] h := rfl
theorem x_X4_tear_0 {v1 v2 : AV} {z : Option Nat} {st : List AV} {h : AH} : X mX4_tear 0 [aR z, v1, v2] st h = X mX4_tear 1 [aR z, v1, v2] (aR z :: st) h := X_of dX4_tear_0 rfl
theorem x_X4_tear_1 {v0 v2 : AV} {z : Int} {st : List AV} {h : AH} : X mX4_tear 1 [v0, aI z, v2] st h = X mX4_tear 2 [v0, aI z, v2] (aI z :: st) h := X_of dX4_tear_1 rfl
theorem x_X4_tear_2 {a0 : Nat} {a1 : Int} {al : List AV} {h : AH} (ho : isO h 4 a0 = true) : X mX4_tear 2 al [aI a1, aR (some a0)] h = cK (E mX4_sheetAt [aR (some a0), aI a1] h) fun v h2 => X mX4_tear 5 al (v.toList ++ []) h2 := x_cal (as := [aR (some a0), aI a1]) (rest := []) dX4_tear_2 (fun _ => rfl) cT_4_86 rfl rfl ho
theorem x_X4_tear_5 {v0 v2 : AV} {y : Int} {z : Option Nat} {st : List AV} {h : AH} : X mX4_tear 5 [v0, aI y, v2] (aR z :: st) h = X mX4_tear 6 [v0, aI y, aR z] st h := X_of dX4_tear_5 rfl
theorem x_X4_tear_6 {v0 v1 : AV} {z : Option Nat} {st : List AV} {h : AH} : X mX4_tear 6 [v0, v1, aR z] st h = X mX4_tear 7 [v0, v1, aR z] (aR z :: st) h := X_of dX4_tear_6 rfl
theorem x_X4_tear_7n {al st : List AV} {h : AH} : X mX4_tear 7 al (aR none :: st) h = X mX4_tear 10 al st h := X_of dX4_tear_7 rfl
theorem x_X4_tear_7s {a : Nat} {al st : List AV} {h : AH} : X mX4_tear 7 al (aR (some a) :: st) h = X mX4_tear 12 al st h := X_of dX4_tear_7 rfl
theorem x_X4_tear_10 {al st : List AV} {h : AH} : X mX4_tear 10 al st h = X mX4_tear 11 al (aI (-1) :: st) h := X_of dX4_tear_10 rfl
theorem x_X4_tear_11 {z : Int} {al : List AV} {h : AH} : X mX4_tear 11 al [aI z] h = some (some (aI z), h) := X_ofR dX4_tear_11 rfl
theorem x_X4_tear_12 {v0 v1 : AV} {z : Option Nat} {st : List AV} {h : AH} : X mX4_tear 12 [v0, v1, aR z] st h = X mX4_tear 13 [v0, v1, aR z] (aR z :: st) h := X_of dX4_tear_12 rfl
theorem x_X4_tear_13 {a : Nat} {al st : List AV} {h : AH} : X mX4_tear 13 al (aR (some a) :: st) h = gK (rd h 3 a 2) fun v => X mX4_tear 16 al (v :: st) h := x_get dX4_tear_13 fT_4_90
theorem x_X4_tear_16 {a : Int} {al st : List AV} {h : AH} : X mX4_tear 16 al (aI a :: st) h = if a = 0 then X mX4_tear 25 al st h else X mX4_tear 19 al st h := x_eq0 dX4_tear_16 rfl
theorem x_X4_tear_19 {v1 v2 : AV} {z : Option Nat} {st : List AV} {h : AH} : X mX4_tear 19 [aR z, v1, v2] st h = X mX4_tear 20 [aR z, v1, v2] (aR z :: st) h := X_of dX4_tear_19 rfl
theorem x_X4_tear_20 {al st : List AV} {h : AH} : X mX4_tear 20 al st h = X mX4_tear 21 al (aI 1 :: st) h := X_of dX4_tear_20 rfl
theorem x_X4_tear_21 {a0 : Nat} {a1 : Int} {al : List AV} {h : AH} (ho : isO h 4 a0 = true) : X mX4_tear 21 al [aI a1, aR (some a0)] h = cK (E mX4_found [aR (some a0), aI a1] h) fun v h2 => X mX4_tear 24 al (v.toList ++ []) h2 := x_cal (as := [aR (some a0), aI a1]) (rest := []) dX4_tear_21 (fun _ => rfl) cT_4_79 rfl rfl ho
theorem x_X4_tear_24 {z : Int} {al : List AV} {h : AH} : X mX4_tear 24 al [aI z] h = some (some (aI z), h) := X_ofR dX4_tear_24 rfl
theorem x_X4_tear_25 {v0 v1 : AV} {z : Option Nat} {st : List AV} {h : AH} : X mX4_tear 25 [v0, v1, aR z] st h = X mX4_tear 26 [v0, v1, aR z] (aR z :: st) h := X_of dX4_tear_25 rfl
theorem x_X4_tear_26 {al st : List AV} {h : AH} : X mX4_tear 26 al st h = X mX4_tear 27 al (aI 1 :: st) h := X_of dX4_tear_26 rfl
theorem x_X4_tear_27_0 {a : Nat} {al st : List AV} {h : AH} : X mX4_tear 27 al (aI 0 :: aR (some a) :: st) h = pK (rd h 3 a 2) (X mX4_tear 30 al st (wr h 3 a 2 (aI 0))) := x_put dX4_tear_27 fT_4_90 rfl rfl
theorem x_X4_tear_27_1 {a : Nat} {al st : List AV} {h : AH} : X mX4_tear 27 al (aI 1 :: aR (some a) :: st) h = pK (rd h 3 a 2) (X mX4_tear 30 al st (wr h 3 a 2 (aI 1))) := x_put dX4_tear_27 fT_4_90 rfl rfl
theorem x_X4_tear_30 {al st : List AV} {h : AH} : X mX4_tear 30 al st h = X mX4_tear 31 al (aI 1 :: st) h := X_of dX4_tear_30 rfl
theorem x_X4_tear_31 {z : Int} {al : List AV} {h : AH} : X mX4_tear 31 al [aI z] h = some (some (aI z), h) := X_ofR dX4_tear_31 rfl
theorem e_X4_lay {p0 : Option Nat} {p1 : Int} {p2 : Int} {p3 : Int} {h : AH} : E mX4_lay [aR p0, aI p1, aI p2, aJ p3] h = X mX4_lay 0 [aR p0, aI p1, aI p2, aJ p3, aU, aU] [] h := rfl
theorem x_X4_lay_0 {v1 v2 v3 v4 v5 : AV} {z : Option Nat} {st : List AV} {h : AH} : X mX4_lay 0 [aR z, v1, v2, v3, v4, v5] st h = X mX4_lay 1 [aR z, v1, v2, v3, v4, v5] (aR z :: st) h := X_of dX4_lay_0 rfl
theorem x_X4_lay_1 {v0 v2 v3 v4 v5 : AV} {z : Int} {st : List AV} {h : AH} : X mX4_lay 1 [v0, aI z, v2, v3, v4, v5] st h = X mX4_lay 2 [v0, aI z, v2, v3, v4, v5] (aI z :: st) h := X_of dX4_lay_1 rfl
theorem x_X4_lay_2 {a0 : Nat} {a1 : Int} {al : List AV} {h : AH} (ho : isO h 4 a0 = true) : X mX4_lay 2 al [aI a1, aR (some a0)] h = cK (E mX4_sheetAt [aR (some a0), aI a1] h) fun v h2 => X mX4_lay 5 al (v.toList ++ []) h2 := x_cal (as := [aR (some a0), aI a1]) (rest := []) dX4_lay_2 (fun _ => rfl) cT_4_86 rfl rfl ho
theorem x_X4_lay_5 {v0 v1 v2 v3 v5 : AV} {z : Option Nat} {st : List AV} {h : AH} : X mX4_lay 5 [v0, v1, v2, v3, aU, v5] (aR z :: st) h = X mX4_lay 7 [v0, v1, v2, v3, aU, aR z] st h := X_of dX4_lay_5 rfl
theorem x_X4_lay_7 {v0 v1 v2 v3 v4 : AV} {z : Option Nat} {st : List AV} {h : AH} : X mX4_lay 7 [v0, v1, v2, v3, v4, aR z] st h = X mX4_lay 9 [v0, v1, v2, v3, v4, aR z] (aR z :: st) h := X_of dX4_lay_7 rfl
theorem x_X4_lay_9n {al st : List AV} {h : AH} : X mX4_lay 9 al (aR none :: st) h = X mX4_lay 12 al st h := X_of dX4_lay_9 rfl
theorem x_X4_lay_9s {a : Nat} {al st : List AV} {h : AH} : X mX4_lay 9 al (aR (some a) :: st) h = X mX4_lay 14 al st h := X_of dX4_lay_9 rfl
theorem x_X4_lay_12 {al st : List AV} {h : AH} : X mX4_lay 12 al st h = X mX4_lay 13 al (aI (-1) :: st) h := X_of dX4_lay_12 rfl
theorem x_X4_lay_13 {z : Int} {al : List AV} {h : AH} : X mX4_lay 13 al [aI z] h = some (some (aI z), h) := X_ofR dX4_lay_13 rfl
theorem x_X4_lay_14 {v0 v1 v2 v3 v4 : AV} {z : Option Nat} {st : List AV} {h : AH} : X mX4_lay 14 [v0, v1, v2, v3, v4, aR z] st h = X mX4_lay 16 [v0, v1, v2, v3, v4, aR z] (aR z :: st) h := X_of dX4_lay_14 rfl
theorem x_X4_lay_16 {a : Nat} {al st : List AV} {h : AH} : X mX4_lay 16 al (aR (some a) :: st) h = gK (rd h 3 a 2) fun v => X mX4_lay 19 al (v :: st) h := x_get dX4_lay_16 fT_4_90
theorem x_X4_lay_19 {a : Int} {al st : List AV} {h : AH} : X mX4_lay 19 al (aI a :: st) h = if a = 0 then X mX4_lay 28 al st h else X mX4_lay 22 al st h := x_eq0 dX4_lay_19 rfl
theorem x_X4_lay_22 {v1 v2 v3 v4 v5 : AV} {z : Option Nat} {st : List AV} {h : AH} : X mX4_lay 22 [aR z, v1, v2, v3, v4, v5] st h = X mX4_lay 23 [aR z, v1, v2, v3, v4, v5] (aR z :: st) h := X_of dX4_lay_22 rfl
theorem x_X4_lay_23 {al st : List AV} {h : AH} : X mX4_lay 23 al st h = X mX4_lay 24 al (aI 1 :: st) h := X_of dX4_lay_23 rfl
theorem x_X4_lay_24 {a0 : Nat} {a1 : Int} {al : List AV} {h : AH} (ho : isO h 4 a0 = true) : X mX4_lay 24 al [aI a1, aR (some a0)] h = cK (E mX4_found [aR (some a0), aI a1] h) fun v h2 => X mX4_lay 27 al (v.toList ++ []) h2 := x_cal (as := [aR (some a0), aI a1]) (rest := []) dX4_lay_24 (fun _ => rfl) cT_4_79 rfl rfl ho
theorem x_X4_lay_27 {z : Int} {al : List AV} {h : AH} : X mX4_lay 27 al [aI z] h = some (some (aI z), h) := X_ofR dX4_lay_27 rfl
theorem x_X4_lay_28 {v0 v1 v2 v3 v4 : AV} {z : Option Nat} {st : List AV} {h : AH} : X mX4_lay 28 [v0, v1, v2, v3, v4, aR z] st h = X mX4_lay 30 [v0, v1, v2, v3, v4, aR z] (aR z :: st) h := X_of dX4_lay_28 rfl
theorem x_X4_lay_30 {v0 v1 v3 v4 v5 : AV} {z : Int} {st : List AV} {h : AH} : X mX4_lay 30 [v0, v1, aI z, v3, v4, v5] st h = X mX4_lay 31 [v0, v1, aI z, v3, v4, v5] (aI z :: st) h := X_of dX4_lay_30 rfl
theorem x_X4_lay_31 {al st : List AV} {h : AH} : X mX4_lay 31 al st h = X mX4_lay 32 al (aI 1 :: st) h := X_of dX4_lay_31 rfl
theorem x_X4_lay_32 {a0 : Nat} {a1 : Int} {a2 : Int} {al : List AV} {h : AH} (ho : isO h 3 a0 = true) : X mX4_lay 32 al [aI a2, aI a1, aR (some a0)] h = cK (E mX3_hasPlaces [aR (some a0), aI a1, aI a2] h) fun v h2 => X mX4_lay 35 al (v.toList ++ []) h2 := x_cal (as := [aR (some a0), aI a1, aI a2]) (rest := []) dX4_lay_32 (fun _ => rfl) cT_4_93 rfl rfl ho
theorem x_X4_lay_35 {a : Int} {al st : List AV} {h : AH} : X mX4_lay 35 al (aI a :: st) h = if ¬ a = 0 then X mX4_lay 44 al st h else X mX4_lay 38 al st h := x_ne0 dX4_lay_35 rfl
theorem x_X4_lay_38 {v1 v2 v3 v4 v5 : AV} {z : Option Nat} {st : List AV} {h : AH} : X mX4_lay 38 [aR z, v1, v2, v3, v4, v5] st h = X mX4_lay 39 [aR z, v1, v2, v3, v4, v5] (aR z :: st) h := X_of dX4_lay_38 rfl
theorem x_X4_lay_39 {al st : List AV} {h : AH} : X mX4_lay 39 al st h = X mX4_lay 40 al (aI 2 :: st) h := X_of dX4_lay_39 rfl
theorem x_X4_lay_40 {a0 : Nat} {a1 : Int} {al : List AV} {h : AH} (ho : isO h 4 a0 = true) : X mX4_lay 40 al [aI a1, aR (some a0)] h = cK (E mX4_found [aR (some a0), aI a1] h) fun v h2 => X mX4_lay 43 al (v.toList ++ []) h2 := x_cal (as := [aR (some a0), aI a1]) (rest := []) dX4_lay_40 (fun _ => rfl) cT_4_79 rfl rfl ho
theorem x_X4_lay_43 {z : Int} {al : List AV} {h : AH} : X mX4_lay 43 al [aI z] h = some (some (aI z), h) := X_ofR dX4_lay_43 rfl
theorem x_X4_lay_44 {v0 v1 v2 v3 v4 : AV} {z : Option Nat} {st : List AV} {h : AH} : X mX4_lay 44 [v0, v1, v2, v3, v4, aR z] st h = X mX4_lay 46 [v0, v1, v2, v3, v4, aR z] (aR z :: st) h := X_of dX4_lay_44 rfl
theorem x_X4_lay_46 {v0 v1 v3 v4 v5 : AV} {z : Int} {st : List AV} {h : AH} : X mX4_lay 46 [v0, v1, aI z, v3, v4, v5] st h = X mX4_lay 47 [v0, v1, aI z, v3, v4, v5] (aI z :: st) h := X_of dX4_lay_46 rfl
theorem x_X4_lay_47 {v0 v1 v2 v4 v5 : AV} {z : Int} {st : List AV} {h : AH} : X mX4_lay 47 [v0, v1, v2, aJ z, v4, v5] st h = X mX4_lay 48 [v0, v1, v2, aJ z, v4, v5] (aJ z :: st) h := X_of dX4_lay_47 rfl
theorem x_X4_lay_48 {a0 : Nat} {a1 : Int} {a2 : Int} {al : List AV} {h : AH} (ho : isO h 3 a0 = true) : X mX4_lay 48 al [aJ a2, aI a1, aR (some a0)] h = cK (E mX3_put [aR (some a0), aI a1, aJ a2] h) fun v h2 => X mX4_lay 51 al (v.toList ++ []) h2 := x_cal (as := [aR (some a0), aI a1, aJ a2]) (rest := []) dX4_lay_48 (fun _ => rfl) cT_4_97 rfl rfl ho
theorem x_X4_lay_51 {al st : List AV} {h : AH} : X mX4_lay 51 al st h = X mX4_lay 52 al (aI 1 :: st) h := X_of dX4_lay_51 rfl
theorem x_X4_lay_52 {z : Int} {al : List AV} {h : AH} : X mX4_lay 52 al [aI z] h = some (some (aI z), h) := X_ofR dX4_lay_52 rfl
theorem e_X4_get {p0 : Option Nat} {p1 : Int} {p2 : Int} {h : AH} : E mX4_get [aR p0, aI p1, aI p2] h = X mX4_get 0 [aR p0, aI p1, aI p2, aU] [] h := rfl
theorem x_X4_get_0 {v1 v2 v3 : AV} {z : Option Nat} {st : List AV} {h : AH} : X mX4_get 0 [aR z, v1, v2, v3] st h = X mX4_get 1 [aR z, v1, v2, v3] (aR z :: st) h := X_of dX4_get_0 rfl
theorem x_X4_get_1 {v0 v2 v3 : AV} {z : Int} {st : List AV} {h : AH} : X mX4_get 1 [v0, aI z, v2, v3] st h = X mX4_get 2 [v0, aI z, v2, v3] (aI z :: st) h := X_of dX4_get_1 rfl
theorem x_X4_get_2 {a0 : Nat} {a1 : Int} {al : List AV} {h : AH} (ho : isO h 4 a0 = true) : X mX4_get 2 al [aI a1, aR (some a0)] h = cK (E mX4_sheetAt [aR (some a0), aI a1] h) fun v h2 => X mX4_get 5 al (v.toList ++ []) h2 := x_cal (as := [aR (some a0), aI a1]) (rest := []) dX4_get_2 (fun _ => rfl) cT_4_86 rfl rfl ho
theorem x_X4_get_5 {v0 v1 v3 : AV} {y : Int} {z : Option Nat} {st : List AV} {h : AH} : X mX4_get 5 [v0, v1, aI y, v3] (aR z :: st) h = X mX4_get 6 [v0, v1, aI y, aR z] st h := X_of dX4_get_5 rfl
theorem x_X4_get_6 {v0 v1 v2 : AV} {z : Option Nat} {st : List AV} {h : AH} : X mX4_get 6 [v0, v1, v2, aR z] st h = X mX4_get 7 [v0, v1, v2, aR z] (aR z :: st) h := X_of dX4_get_6 rfl
theorem x_X4_get_7n {al st : List AV} {h : AH} : X mX4_get 7 al (aR none :: st) h = X mX4_get 10 al st h := X_of dX4_get_7 rfl
theorem x_X4_get_7s {a : Nat} {al st : List AV} {h : AH} : X mX4_get 7 al (aR (some a) :: st) h = X mX4_get 12 al st h := X_of dX4_get_7 rfl
theorem x_X4_get_10 {al st : List AV} {h : AH} : X mX4_get 10 al st h = X mX4_get 11 al (aI (-1) :: st) h := X_of dX4_get_10 rfl
theorem x_X4_get_11 {z : Int} {al : List AV} {h : AH} : X mX4_get 11 al [aI z] h = some (some (aI z), h) := X_ofR dX4_get_11 rfl
theorem x_X4_get_12 {v0 v1 v2 : AV} {z : Option Nat} {st : List AV} {h : AH} : X mX4_get 12 [v0, v1, v2, aR z] st h = X mX4_get 13 [v0, v1, v2, aR z] (aR z :: st) h := X_of dX4_get_12 rfl
theorem x_X4_get_13 {a : Nat} {al st : List AV} {h : AH} : X mX4_get 13 al (aR (some a) :: st) h = gK (rd h 3 a 2) fun v => X mX4_get 16 al (v :: st) h := x_get dX4_get_13 fT_4_90
theorem x_X4_get_16 {a : Int} {al st : List AV} {h : AH} : X mX4_get 16 al (aI a :: st) h = if a = 0 then X mX4_get 25 al st h else X mX4_get 19 al st h := x_eq0 dX4_get_16 rfl
theorem x_X4_get_19 {v1 v2 v3 : AV} {z : Option Nat} {st : List AV} {h : AH} : X mX4_get 19 [aR z, v1, v2, v3] st h = X mX4_get 20 [aR z, v1, v2, v3] (aR z :: st) h := X_of dX4_get_19 rfl
theorem x_X4_get_20 {al st : List AV} {h : AH} : X mX4_get 20 al st h = X mX4_get 21 al (aI 1 :: st) h := X_of dX4_get_20 rfl
theorem x_X4_get_21 {a0 : Nat} {a1 : Int} {al : List AV} {h : AH} (ho : isO h 4 a0 = true) : X mX4_get 21 al [aI a1, aR (some a0)] h = cK (E mX4_found [aR (some a0), aI a1] h) fun v h2 => X mX4_get 24 al (v.toList ++ []) h2 := x_cal (as := [aR (some a0), aI a1]) (rest := []) dX4_get_21 (fun _ => rfl) cT_4_79 rfl rfl ho
theorem x_X4_get_24 {z : Int} {al : List AV} {h : AH} : X mX4_get 24 al [aI z] h = some (some (aI z), h) := X_ofR dX4_get_24 rfl
theorem x_X4_get_25 {v0 v1 v2 : AV} {z : Option Nat} {st : List AV} {h : AH} : X mX4_get 25 [v0, v1, v2, aR z] st h = X mX4_get 26 [v0, v1, v2, aR z] (aR z :: st) h := X_of dX4_get_25 rfl
theorem x_X4_get_26 {v0 v1 v3 : AV} {z : Int} {st : List AV} {h : AH} : X mX4_get 26 [v0, v1, aI z, v3] st h = X mX4_get 27 [v0, v1, aI z, v3] (aI z :: st) h := X_of dX4_get_26 rfl
theorem x_X4_get_27 {al st : List AV} {h : AH} : X mX4_get 27 al st h = X mX4_get 28 al (aI 1 :: st) h := X_of dX4_get_27 rfl
theorem x_X4_get_28 {a0 : Nat} {a1 : Int} {a2 : Int} {al : List AV} {h : AH} (ho : isO h 3 a0 = true) : X mX4_get 28 al [aI a2, aI a1, aR (some a0)] h = cK (E mX3_hasPlaces [aR (some a0), aI a1, aI a2] h) fun v h2 => X mX4_get 31 al (v.toList ++ []) h2 := x_cal (as := [aR (some a0), aI a1, aI a2]) (rest := []) dX4_get_28 (fun _ => rfl) cT_4_93 rfl rfl ho
theorem x_X4_get_31 {a : Int} {al st : List AV} {h : AH} : X mX4_get 31 al (aI a :: st) h = if ¬ a = 0 then X mX4_get 40 al st h else X mX4_get 34 al st h := x_ne0 dX4_get_31 rfl
theorem x_X4_get_34 {v1 v2 v3 : AV} {z : Option Nat} {st : List AV} {h : AH} : X mX4_get 34 [aR z, v1, v2, v3] st h = X mX4_get 35 [aR z, v1, v2, v3] (aR z :: st) h := X_of dX4_get_34 rfl
theorem x_X4_get_35 {al st : List AV} {h : AH} : X mX4_get 35 al st h = X mX4_get 36 al (aI 2 :: st) h := X_of dX4_get_35 rfl
theorem x_X4_get_36 {a0 : Nat} {a1 : Int} {al : List AV} {h : AH} (ho : isO h 4 a0 = true) : X mX4_get 36 al [aI a1, aR (some a0)] h = cK (E mX4_found [aR (some a0), aI a1] h) fun v h2 => X mX4_get 39 al (v.toList ++ []) h2 := x_cal (as := [aR (some a0), aI a1]) (rest := []) dX4_get_36 (fun _ => rfl) cT_4_79 rfl rfl ho
theorem x_X4_get_39 {z : Int} {al : List AV} {h : AH} : X mX4_get 39 al [aI z] h = some (some (aI z), h) := X_ofR dX4_get_39 rfl
theorem x_X4_get_40 {v1 v2 v3 : AV} {z : Option Nat} {st : List AV} {h : AH} : X mX4_get 40 [aR z, v1, v2, v3] st h = X mX4_get 41 [aR z, v1, v2, v3] (aR z :: st) h := X_of dX4_get_40 rfl
theorem x_X4_get_41 {v0 v1 v2 : AV} {z : Option Nat} {st : List AV} {h : AH} : X mX4_get 41 [v0, v1, v2, aR z] st h = X mX4_get 42 [v0, v1, v2, aR z] (aR z :: st) h := X_of dX4_get_41 rfl
theorem x_X4_get_42 {v0 v1 v3 : AV} {z : Int} {st : List AV} {h : AH} : X mX4_get 42 [v0, v1, aI z, v3] st h = X mX4_get 43 [v0, v1, aI z, v3] (aI z :: st) h := X_of dX4_get_42 rfl
theorem x_X4_get_43 {a0 : Nat} {a1 : Int} {r0 : Option Nat} {al : List AV} {h : AH} (ho : isO h 3 a0 = true) : X mX4_get 43 al [aI a1, aR (some a0), aR r0] h = cK (E mX3_placeAt [aR (some a0), aI a1] h) fun v h2 => X mX4_get 46 al (v.toList ++ [aR r0]) h2 := x_cal (as := [aR (some a0), aI a1]) (rest := [aR r0]) dX4_get_43 (fun _ => rfl) cT_4_101 rfl rfl ho
theorem x_X4_get_46 {a : Nat} {z : Int} {al st : List AV} {h : AH} : X mX4_get 46 al (aJ z :: aR (some a) :: st) h = pK (rd h 4 a 13) (X mX4_get 49 al st (wr h 4 a 13 (aJ z))) := x_put dX4_get_46 fT_4_64 rfl rfl
theorem x_X4_get_49 {al st : List AV} {h : AH} : X mX4_get 49 al st h = X mX4_get 50 al (aI 1 :: st) h := X_of dX4_get_49 rfl
theorem x_X4_get_50 {z : Int} {al : List AV} {h : AH} : X mX4_get 50 al [aI z] h = some (some (aI z), h) := X_ofR dX4_get_50 rfl
theorem e_X4_copy {p0 : Option Nat} {p1 : Int} {p2 : Int} {p3 : Int} {p4 : Int} {p5 : Int} {h : AH} : E mX4_copy [aR p0, aI p1, aI p2, aI p3, aI p4, aI p5] h = X mX4_copy 0 [aR p0, aI p1, aI p2, aI p3, aI p4, aI p5, aU, aU] [] h := rfl
theorem x_X4_copy_0 {v1 v2 v3 v4 v5 v6 v7 : AV} {z : Option Nat} {st : List AV} {h : AH} : X mX4_copy 0 [aR z, v1, v2, v3, v4, v5, v6, v7] st h = X mX4_copy 1 [aR z, v1, v2, v3, v4, v5, v6, v7] (aR z :: st) h := X_of dX4_copy_0 rfl
theorem x_X4_copy_1 {v0 v2 v3 v4 v5 v6 v7 : AV} {z : Int} {st : List AV} {h : AH} : X mX4_copy 1 [v0, aI z, v2, v3, v4, v5, v6, v7] st h = X mX4_copy 2 [v0, aI z, v2, v3, v4, v5, v6, v7] (aI z :: st) h := X_of dX4_copy_1 rfl
theorem x_X4_copy_2 {a0 : Nat} {a1 : Int} {al : List AV} {h : AH} (ho : isO h 4 a0 = true) : X mX4_copy 2 al [aI a1, aR (some a0)] h = cK (E mX4_sheetAt [aR (some a0), aI a1] h) fun v h2 => X mX4_copy 5 al (v.toList ++ []) h2 := x_cal (as := [aR (some a0), aI a1]) (rest := []) dX4_copy_2 (fun _ => rfl) cT_4_86 rfl rfl ho
theorem x_X4_copy_5 {v0 v1 v2 v3 v4 v6 v7 : AV} {y : Int} {z : Option Nat} {st : List AV} {h : AH} : X mX4_copy 5 [v0, v1, v2, v3, v4, aI y, v6, v7] (aR z :: st) h = X mX4_copy 7 [v0, v1, v2, v3, v4, aI y, aR z, v7] st h := X_of dX4_copy_5 rfl
theorem x_X4_copy_7 {v1 v2 v3 v4 v5 v6 v7 : AV} {z : Option Nat} {st : List AV} {h : AH} : X mX4_copy 7 [aR z, v1, v2, v3, v4, v5, v6, v7] st h = X mX4_copy 8 [aR z, v1, v2, v3, v4, v5, v6, v7] (aR z :: st) h := X_of dX4_copy_7 rfl
theorem x_X4_copy_8 {v0 v1 v2 v4 v5 v6 v7 : AV} {z : Int} {st : List AV} {h : AH} : X mX4_copy 8 [v0, v1, v2, aI z, v4, v5, v6, v7] st h = X mX4_copy 9 [v0, v1, v2, aI z, v4, v5, v6, v7] (aI z :: st) h := X_of dX4_copy_8 rfl
theorem x_X4_copy_9 {a0 : Nat} {a1 : Int} {al : List AV} {h : AH} (ho : isO h 4 a0 = true) : X mX4_copy 9 al [aI a1, aR (some a0)] h = cK (E mX4_sheetAt [aR (some a0), aI a1] h) fun v h2 => X mX4_copy 12 al (v.toList ++ []) h2 := x_cal (as := [aR (some a0), aI a1]) (rest := []) dX4_copy_9 (fun _ => rfl) cT_4_86 rfl rfl ho
theorem x_X4_copy_12 {v0 v1 v2 v3 v4 v5 v7 : AV} {y : Option Nat} {z : Option Nat} {st : List AV} {h : AH} : X mX4_copy 12 [v0, v1, v2, v3, v4, v5, aR y, v7] (aR z :: st) h = X mX4_copy 14 [v0, v1, v2, v3, v4, v5, aR y, aR z] st h := X_of dX4_copy_12 rfl
theorem x_X4_copy_14 {v0 v1 v2 v3 v4 v5 v7 : AV} {z : Option Nat} {st : List AV} {h : AH} : X mX4_copy 14 [v0, v1, v2, v3, v4, v5, aR z, v7] st h = X mX4_copy 16 [v0, v1, v2, v3, v4, v5, aR z, v7] (aR z :: st) h := X_of dX4_copy_14 rfl
theorem x_X4_copy_16n {al st : List AV} {h : AH} : X mX4_copy 16 al (aR none :: st) h = X mX4_copy 24 al st h := X_of dX4_copy_16 rfl
theorem x_X4_copy_16s {a : Nat} {al st : List AV} {h : AH} : X mX4_copy 16 al (aR (some a) :: st) h = X mX4_copy 19 al st h := X_of dX4_copy_16 rfl
theorem x_X4_copy_19 {v0 v1 v2 v3 v4 v5 v6 : AV} {z : Option Nat} {st : List AV} {h : AH} : X mX4_copy 19 [v0, v1, v2, v3, v4, v5, v6, aR z] st h = X mX4_copy 21 [v0, v1, v2, v3, v4, v5, v6, aR z] (aR z :: st) h := X_of dX4_copy_19 rfl
theorem x_X4_copy_21n {al st : List AV} {h : AH} : X mX4_copy 21 al (aR none :: st) h = X mX4_copy 24 al st h := X_of dX4_copy_21 rfl
theorem x_X4_copy_21s {a : Nat} {al st : List AV} {h : AH} : X mX4_copy 21 al (aR (some a) :: st) h = X mX4_copy 26 al st h := X_of dX4_copy_21 rfl
theorem x_X4_copy_24 {al st : List AV} {h : AH} : X mX4_copy 24 al st h = X mX4_copy 25 al (aI (-1) :: st) h := X_of dX4_copy_24 rfl
theorem x_X4_copy_25 {z : Int} {al : List AV} {h : AH} : X mX4_copy 25 al [aI z] h = some (some (aI z), h) := X_ofR dX4_copy_25 rfl
theorem x_X4_copy_26 {v0 v1 v2 v3 v4 v5 v7 : AV} {z : Option Nat} {st : List AV} {h : AH} : X mX4_copy 26 [v0, v1, v2, v3, v4, v5, aR z, v7] st h = X mX4_copy 28 [v0, v1, v2, v3, v4, v5, aR z, v7] (aR z :: st) h := X_of dX4_copy_26 rfl
theorem x_X4_copy_28 {a : Nat} {al st : List AV} {h : AH} : X mX4_copy 28 al (aR (some a) :: st) h = gK (rd h 3 a 2) fun v => X mX4_copy 31 al (v :: st) h := x_get dX4_copy_28 fT_4_90
theorem x_X4_copy_31 {a : Int} {al st : List AV} {h : AH} : X mX4_copy 31 al (aI a :: st) h = if ¬ a = 0 then X mX4_copy 42 al st h else X mX4_copy 34 al st h := x_ne0 dX4_copy_31 rfl
theorem x_X4_copy_34 {v0 v1 v2 v3 v4 v5 v6 : AV} {z : Option Nat} {st : List AV} {h : AH} : X mX4_copy 34 [v0, v1, v2, v3, v4, v5, v6, aR z] st h = X mX4_copy 36 [v0, v1, v2, v3, v4, v5, v6, aR z] (aR z :: st) h := X_of dX4_copy_34 rfl
theorem x_X4_copy_36 {a : Nat} {al st : List AV} {h : AH} : X mX4_copy 36 al (aR (some a) :: st) h = gK (rd h 3 a 2) fun v => X mX4_copy 39 al (v :: st) h := x_get dX4_copy_36 fT_4_90
theorem x_X4_copy_39 {a : Int} {al st : List AV} {h : AH} : X mX4_copy 39 al (aI a :: st) h = if a = 0 then X mX4_copy 48 al st h else X mX4_copy 42 al st h := x_eq0 dX4_copy_39 rfl
theorem x_X4_copy_42 {v1 v2 v3 v4 v5 v6 v7 : AV} {z : Option Nat} {st : List AV} {h : AH} : X mX4_copy 42 [aR z, v1, v2, v3, v4, v5, v6, v7] st h = X mX4_copy 43 [aR z, v1, v2, v3, v4, v5, v6, v7] (aR z :: st) h := X_of dX4_copy_42 rfl
theorem x_X4_copy_43 {al st : List AV} {h : AH} : X mX4_copy 43 al st h = X mX4_copy 44 al (aI 1 :: st) h := X_of dX4_copy_43 rfl
theorem x_X4_copy_44 {a0 : Nat} {a1 : Int} {al : List AV} {h : AH} (ho : isO h 4 a0 = true) : X mX4_copy 44 al [aI a1, aR (some a0)] h = cK (E mX4_found [aR (some a0), aI a1] h) fun v h2 => X mX4_copy 47 al (v.toList ++ []) h2 := x_cal (as := [aR (some a0), aI a1]) (rest := []) dX4_copy_44 (fun _ => rfl) cT_4_79 rfl rfl ho
theorem x_X4_copy_47 {z : Int} {al : List AV} {h : AH} : X mX4_copy 47 al [aI z] h = some (some (aI z), h) := X_ofR dX4_copy_47 rfl
theorem x_X4_copy_48 {v0 v1 v2 v3 v4 v5 v7 : AV} {z : Option Nat} {st : List AV} {h : AH} : X mX4_copy 48 [v0, v1, v2, v3, v4, v5, aR z, v7] st h = X mX4_copy 50 [v0, v1, v2, v3, v4, v5, aR z, v7] (aR z :: st) h := X_of dX4_copy_48 rfl
theorem x_X4_copy_50 {a : Nat} {al st : List AV} {h : AH} : X mX4_copy 50 al (aR (some a) :: st) h = gK (rd h 3 a 0) fun v => X mX4_copy 53 al (v :: st) h := x_get dX4_copy_50 fT_4_105
theorem x_X4_copy_53 {v0 v1 v2 v3 v4 v5 v6 : AV} {z : Option Nat} {st : List AV} {h : AH} : X mX4_copy 53 [v0, v1, v2, v3, v4, v5, v6, aR z] st h = X mX4_copy 55 [v0, v1, v2, v3, v4, v5, v6, aR z] (aR z :: st) h := X_of dX4_copy_53 rfl
theorem x_X4_copy_55 {a : Nat} {al st : List AV} {h : AH} : X mX4_copy 55 al (aR (some a) :: st) h = gK (rd h 3 a 0) fun v => X mX4_copy 58 al (v :: st) h := x_get dX4_copy_55 fT_4_105
theorem x_X4_copy_58 {a b : Int} {al st : List AV} {h : AH} : X mX4_copy 58 al (aI b :: aI a :: st) h = if a = b then X mX4_copy 67 al st h else X mX4_copy 61 al st h := x_eqC dX4_copy_58 rfl
theorem x_X4_copy_61 {v1 v2 v3 v4 v5 v6 v7 : AV} {z : Option Nat} {st : List AV} {h : AH} : X mX4_copy 61 [aR z, v1, v2, v3, v4, v5, v6, v7] st h = X mX4_copy 62 [aR z, v1, v2, v3, v4, v5, v6, v7] (aR z :: st) h := X_of dX4_copy_61 rfl
theorem x_X4_copy_62 {al st : List AV} {h : AH} : X mX4_copy 62 al st h = X mX4_copy 63 al (aI 3 :: st) h := X_of dX4_copy_62 rfl
theorem x_X4_copy_63 {a0 : Nat} {a1 : Int} {al : List AV} {h : AH} (ho : isO h 4 a0 = true) : X mX4_copy 63 al [aI a1, aR (some a0)] h = cK (E mX4_found [aR (some a0), aI a1] h) fun v h2 => X mX4_copy 66 al (v.toList ++ []) h2 := x_cal (as := [aR (some a0), aI a1]) (rest := []) dX4_copy_63 (fun _ => rfl) cT_4_79 rfl rfl ho
theorem x_X4_copy_66 {z : Int} {al : List AV} {h : AH} : X mX4_copy 66 al [aI z] h = some (some (aI z), h) := X_ofR dX4_copy_66 rfl
theorem x_X4_copy_67 {v0 v1 v2 v3 v4 v5 v7 : AV} {z : Option Nat} {st : List AV} {h : AH} : X mX4_copy 67 [v0, v1, v2, v3, v4, v5, aR z, v7] st h = X mX4_copy 69 [v0, v1, v2, v3, v4, v5, aR z, v7] (aR z :: st) h := X_of dX4_copy_67 rfl
theorem x_X4_copy_69 {v0 v1 v3 v4 v5 v6 v7 : AV} {z : Int} {st : List AV} {h : AH} : X mX4_copy 69 [v0, v1, aI z, v3, v4, v5, v6, v7] st h = X mX4_copy 70 [v0, v1, aI z, v3, v4, v5, v6, v7] (aI z :: st) h := X_of dX4_copy_69 rfl
theorem x_X4_copy_70 {v0 v1 v2 v3 v4 v6 v7 : AV} {z : Int} {st : List AV} {h : AH} : X mX4_copy 70 [v0, v1, v2, v3, v4, aI z, v6, v7] st h = X mX4_copy 72 [v0, v1, v2, v3, v4, aI z, v6, v7] (aI z :: st) h := X_of dX4_copy_70 rfl
theorem x_X4_copy_72 {a0 : Nat} {a1 : Int} {a2 : Int} {al : List AV} {h : AH} (ho : isO h 3 a0 = true) : X mX4_copy 72 al [aI a2, aI a1, aR (some a0)] h = cK (E mX3_hasPlaces [aR (some a0), aI a1, aI a2] h) fun v h2 => X mX4_copy 75 al (v.toList ++ []) h2 := x_cal (as := [aR (some a0), aI a1, aI a2]) (rest := []) dX4_copy_72 (fun _ => rfl) cT_4_93 rfl rfl ho
theorem x_X4_copy_75 {a : Int} {al st : List AV} {h : AH} : X mX4_copy 75 al (aI a :: st) h = if a = 0 then X mX4_copy 90 al st h else X mX4_copy 78 al st h := x_eq0 dX4_copy_75 rfl
theorem x_X4_copy_78 {v0 v1 v2 v3 v4 v5 v6 : AV} {z : Option Nat} {st : List AV} {h : AH} : X mX4_copy 78 [v0, v1, v2, v3, v4, v5, v6, aR z] st h = X mX4_copy 80 [v0, v1, v2, v3, v4, v5, v6, aR z] (aR z :: st) h := X_of dX4_copy_78 rfl
theorem x_X4_copy_80 {v0 v1 v2 v3 v5 v6 v7 : AV} {z : Int} {st : List AV} {h : AH} : X mX4_copy 80 [v0, v1, v2, v3, aI z, v5, v6, v7] st h = X mX4_copy 82 [v0, v1, v2, v3, aI z, v5, v6, v7] (aI z :: st) h := X_of dX4_copy_80 rfl
theorem x_X4_copy_82 {v0 v1 v2 v3 v4 v6 v7 : AV} {z : Int} {st : List AV} {h : AH} : X mX4_copy 82 [v0, v1, v2, v3, v4, aI z, v6, v7] st h = X mX4_copy 84 [v0, v1, v2, v3, v4, aI z, v6, v7] (aI z :: st) h := X_of dX4_copy_82 rfl
theorem x_X4_copy_84 {a0 : Nat} {a1 : Int} {a2 : Int} {al : List AV} {h : AH} (ho : isO h 3 a0 = true) : X mX4_copy 84 al [aI a2, aI a1, aR (some a0)] h = cK (E mX3_hasPlaces [aR (some a0), aI a1, aI a2] h) fun v h2 => X mX4_copy 87 al (v.toList ++ []) h2 := x_cal (as := [aR (some a0), aI a1, aI a2]) (rest := []) dX4_copy_84 (fun _ => rfl) cT_4_93 rfl rfl ho
theorem x_X4_copy_87 {a : Int} {al st : List AV} {h : AH} : X mX4_copy 87 al (aI a :: st) h = if ¬ a = 0 then X mX4_copy 96 al st h else X mX4_copy 90 al st h := x_ne0 dX4_copy_87 rfl
theorem x_X4_copy_90 {v1 v2 v3 v4 v5 v6 v7 : AV} {z : Option Nat} {st : List AV} {h : AH} : X mX4_copy 90 [aR z, v1, v2, v3, v4, v5, v6, v7] st h = X mX4_copy 91 [aR z, v1, v2, v3, v4, v5, v6, v7] (aR z :: st) h := X_of dX4_copy_90 rfl
theorem x_X4_copy_91 {al st : List AV} {h : AH} : X mX4_copy 91 al st h = X mX4_copy 92 al (aI 2 :: st) h := X_of dX4_copy_91 rfl
theorem x_X4_copy_92 {a0 : Nat} {a1 : Int} {al : List AV} {h : AH} (ho : isO h 4 a0 = true) : X mX4_copy 92 al [aI a1, aR (some a0)] h = cK (E mX4_found [aR (some a0), aI a1] h) fun v h2 => X mX4_copy 95 al (v.toList ++ []) h2 := x_cal (as := [aR (some a0), aI a1]) (rest := []) dX4_copy_92 (fun _ => rfl) cT_4_79 rfl rfl ho
theorem x_X4_copy_95 {z : Int} {al : List AV} {h : AH} : X mX4_copy 95 al [aI z] h = some (some (aI z), h) := X_ofR dX4_copy_95 rfl
theorem x_X4_copy_96 {v0 v1 v2 v3 v4 v5 v7 : AV} {z : Option Nat} {st : List AV} {h : AH} : X mX4_copy 96 [v0, v1, v2, v3, v4, v5, aR z, v7] st h = X mX4_copy 98 [v0, v1, v2, v3, v4, v5, aR z, v7] (aR z :: st) h := X_of dX4_copy_96 rfl
theorem x_X4_copy_98 {a : Nat} {al st : List AV} {h : AH} : X mX4_copy 98 al (aR (some a) :: st) h = gK (rd h 3 a 1) fun v => X mX4_copy 101 al (v :: st) h := x_get dX4_copy_98 fT_4_108
theorem x_X4_copy_101 {v0 v1 v3 v4 v5 v6 v7 : AV} {z : Int} {st : List AV} {h : AH} : X mX4_copy 101 [v0, v1, aI z, v3, v4, v5, v6, v7] st h = X mX4_copy 102 [v0, v1, aI z, v3, v4, v5, v6, v7] (aI z :: st) h := X_of dX4_copy_101 rfl
theorem x_X4_copy_102 {v0 v1 v2 v3 v4 v5 v6 : AV} {z : Option Nat} {st : List AV} {h : AH} : X mX4_copy 102 [v0, v1, v2, v3, v4, v5, v6, aR z] st h = X mX4_copy 104 [v0, v1, v2, v3, v4, v5, v6, aR z] (aR z :: st) h := X_of dX4_copy_102 rfl
theorem x_X4_copy_104 {a : Nat} {al st : List AV} {h : AH} : X mX4_copy 104 al (aR (some a) :: st) h = gK (rd h 3 a 1) fun v => X mX4_copy 107 al (v :: st) h := x_get dX4_copy_104 fT_4_108
theorem x_X4_copy_107 {v0 v1 v2 v3 v5 v6 v7 : AV} {z : Int} {st : List AV} {h : AH} : X mX4_copy 107 [v0, v1, v2, v3, aI z, v5, v6, v7] st h = X mX4_copy 109 [v0, v1, v2, v3, aI z, v5, v6, v7] (aI z :: st) h := X_of dX4_copy_107 rfl
theorem x_X4_copy_109 {v0 v1 v2 v3 v4 v6 v7 : AV} {z : Int} {st : List AV} {h : AH} : X mX4_copy 109 [v0, v1, v2, v3, v4, aI z, v6, v7] st h = X mX4_copy 111 [v0, v1, v2, v3, v4, aI z, v6, v7] (aI z :: st) h := X_of dX4_copy_109 rfl
theorem x_X4_copy_111 {n dp sp : Int} {d s : Nat} {al : List AV} {h : AH} {vs ws : List AV} (hs : h[s]? = some (11, vs)) (hd : h[d]? = some (11, ws)) (h1 : 0 ≤ n ∧ 0 ≤ dp ∧ 0 ≤ sp ∧ sp + n ≤ vs.length ∧ dp + n ≤ ws.length) : X mX4_copy 111 al [aI n, aI dp, aR (some d), aI sp, aR (some s)] h = X mX4_copy 114 al [] (h.set d (11, cpL vs ws sp.toNat dp.toNat n.toNat)) := by
  refine X_of dX4_copy_111 ?_
  show hCpy 111 al [aI n, aI dp, aR (some d), aI sp, aR (some s)] h = _
  unfold hCpy
  simp only [hs, hd]
  rw [if_pos ⟨trivial, trivial, h1.1, h1.2.1, h1.2.2.1, h1.2.2.2.1, h1.2.2.2.2, by decide⟩]
theorem x_X4_copy_114 {al st : List AV} {h : AH} : X mX4_copy 114 al st h = X mX4_copy 115 al (aI 1 :: st) h := X_of dX4_copy_114 rfl
theorem x_X4_copy_115 {z : Int} {al : List AV} {h : AH} : X mX4_copy 115 al [aI z] h = some (some (aI z), h) := X_ofR dX4_copy_115 rfl
theorem e_X4_machine {p0 : Option Nat} {p1 : Int} {p2 : Int} {h : AH} : E mX4_machine [aR p0, aI p1, aI p2] h = X mX4_machine 0 [aR p0, aI p1, aI p2] [] h := rfl
theorem x_X4_machine_0 {v0 v2 : AV} {z : Int} {st : List AV} {h : AH} : X mX4_machine 0 [v0, aI z, v2] st h = X mX4_machine 1 [v0, aI z, v2] (aI z :: st) h := X_of dX4_machine_0 rfl
theorem x_X4_machine_1 {a : Int} {al st : List AV} {h : AH} : X mX4_machine 1 al (aI a :: st) h = if a < 0 then X mX4_machine 14 al st h else X mX4_machine 4 al st h := x_lt0 dX4_machine_1 rfl
theorem x_X4_machine_4 {v0 v2 : AV} {z : Int} {st : List AV} {h : AH} : X mX4_machine 4 [v0, aI z, v2] st h = X mX4_machine 5 [v0, aI z, v2] (aI z :: st) h := X_of dX4_machine_4 rfl
theorem x_X4_machine_5 {al st : List AV} {h : AH} : X mX4_machine 5 al st h = X mX4_machine 6 al (aI 3 :: st) h := X_of dX4_machine_5 rfl
theorem x_X4_machine_6 {a b : Int} {al st : List AV} {h : AH} : X mX4_machine 6 al (aI b :: aI a :: st) h = if b < a then X mX4_machine 14 al st h else X mX4_machine 9 al st h := x_gtC dX4_machine_6 rfl
theorem x_X4_machine_9 {v0 v1 : AV} {z : Int} {st : List AV} {h : AH} : X mX4_machine 9 [v0, v1, aI z] st h = X mX4_machine 10 [v0, v1, aI z] (aI z :: st) h := X_of dX4_machine_9 rfl
theorem x_X4_machine_10 {al st : List AV} {h : AH} : X mX4_machine 10 al st h = X mX4_machine 11 al (aI 5 :: st) h := X_of dX4_machine_10 rfl
theorem x_X4_machine_11 {a b : Int} {al st : List AV} {h : AH} : X mX4_machine 11 al (aI b :: aI a :: st) h = if a ≤ b then X mX4_machine 16 al st h else X mX4_machine 14 al st h := x_leC dX4_machine_11 rfl
theorem x_X4_machine_14 {al st : List AV} {h : AH} : X mX4_machine 14 al st h = X mX4_machine 15 al (aI (-1) :: st) h := X_of dX4_machine_14 rfl
theorem x_X4_machine_15 {z : Int} {al : List AV} {h : AH} : X mX4_machine 15 al [aI z] h = some (some (aI z), h) := X_ofR dX4_machine_15 rfl
theorem x_X4_machine_16 {v0 v1 : AV} {z : Int} {st : List AV} {h : AH} : X mX4_machine 16 [v0, v1, aI z] st h = X mX4_machine 17 [v0, v1, aI z] (aI z :: st) h := X_of dX4_machine_16 rfl
theorem x_X4_machine_17 {a : Int} {al st : List AV} {h : AH} : X mX4_machine 17 al (aI a :: st) h = if a < 0 then X mX4_machine 30 al st h else X mX4_machine 20 al st h := x_lt0 dX4_machine_17 rfl
theorem x_X4_machine_20 {v0 v2 : AV} {z : Int} {st : List AV} {h : AH} : X mX4_machine 20 [v0, aI z, v2] st h = X mX4_machine 21 [v0, aI z, v2] (aI z :: st) h := X_of dX4_machine_20 rfl
theorem x_X4_machine_21 {v0 v1 : AV} {z : Int} {st : List AV} {h : AH} : X mX4_machine 21 [v0, v1, aI z] st h = X mX4_machine 22 [v0, v1, aI z] (aI z :: st) h := X_of dX4_machine_21 rfl
theorem x_X4_machine_22 {a0 : Int} {a1 : Int} {al : List AV} {h : AH} : X mX4_machine 22 al [aI a1, aI a0] h = cK (E mX4_fits [aI a0, aI a1] h) fun v h2 => X mX4_machine 25 al (v.toList ++ []) h2 := x_cal (as := [aI a0, aI a1]) (rest := []) dX4_machine_22 (fun _ => rfl) cT_4_118 rfl rfl rfl
theorem x_X4_machine_25 {a : Int} {al st : List AV} {h : AH} : X mX4_machine 25 al (aI a :: st) h = if ¬ a = 0 then X mX4_machine 30 al st h else X mX4_machine 28 al st h := x_ne0 dX4_machine_25 rfl
theorem x_X4_machine_28 {al st : List AV} {h : AH} : X mX4_machine 28 al st h = X mX4_machine 29 al (aI (-1) :: st) h := X_of dX4_machine_28 rfl
theorem x_X4_machine_29 {z : Int} {al : List AV} {h : AH} : X mX4_machine 29 al [aI z] h = some (some (aI z), h) := X_ofR dX4_machine_29 rfl
theorem x_X4_machine_30 {v1 v2 : AV} {z : Option Nat} {st : List AV} {h : AH} : X mX4_machine 30 [aR z, v1, v2] st h = X mX4_machine 31 [aR z, v1, v2] (aR z :: st) h := X_of dX4_machine_30 rfl
theorem x_X4_machine_31 {a : Nat} {al st : List AV} {h : AH} : X mX4_machine 31 al (aR (some a) :: st) h = gK (rd h 4 a 6) fun v => X mX4_machine 34 al (v :: st) h := x_get dX4_machine_31 fT_4_42
theorem x_X4_machine_34 {a : Int} {al st : List AV} {h : AH} : X mX4_machine 34 al (aI a :: st) h = if a < 0 then X mX4_machine 49 al st h else X mX4_machine 37 al st h := x_lt0 dX4_machine_34 rfl
theorem x_X4_machine_37 {v1 v2 : AV} {z : Option Nat} {st : List AV} {h : AH} : X mX4_machine 37 [aR z, v1, v2] st h = X mX4_machine 38 [aR z, v1, v2] (aR z :: st) h := X_of dX4_machine_37 rfl
theorem x_X4_machine_38 {a : Nat} {al st : List AV} {h : AH} : X mX4_machine 38 al (aR (some a) :: st) h = gK (rd h 4 a 6) fun v => X mX4_machine 41 al (v :: st) h := x_get dX4_machine_38 fT_4_42
theorem x_X4_machine_41 {v1 v2 : AV} {z : Option Nat} {st : List AV} {h : AH} : X mX4_machine 41 [aR z, v1, v2] st h = X mX4_machine 42 [aR z, v1, v2] (aR z :: st) h := X_of dX4_machine_41 rfl
theorem x_X4_machine_42 {a : Nat} {al st : List AV} {h : AH} : X mX4_machine 42 al (aR (some a) :: st) h = gK (rd h 4 a 0) fun v => X mX4_machine 45 al (v :: st) h := x_get dX4_machine_42 fT_4_11
theorem x_X4_machine_45 {a : Nat} {al st : List AV} {h : AH} : X mX4_machine 45 al (aR (some a) :: st) h = gL (ln h a) fun n => X mX4_machine 46 al (aI n :: st) h := x_len dX4_machine_45
theorem x_X4_machine_46 {a b : Int} {al st : List AV} {h : AH} : X mX4_machine 46 al (aI b :: aI a :: st) h = if a < b then X mX4_machine 52 al st h else X mX4_machine 49 al st h := x_ltC dX4_machine_46 rfl
theorem x_X4_machine_49 {al st : List AV} {h : AH} : X mX4_machine 49 al st h = X mX4_machine 51 al (aI (-2) :: st) h := X_of dX4_machine_49 rfl
theorem x_X4_machine_51 {z : Int} {al : List AV} {h : AH} : X mX4_machine 51 al [aI z] h = some (some (aI z), h) := X_ofR dX4_machine_51 rfl
theorem x_X4_machine_52 {v0 v1 : AV} {z : Int} {st : List AV} {h : AH} : X mX4_machine 52 [v0, v1, aI z] st h = X mX4_machine 53 [v0, v1, aI z] (aI z :: st) h := X_of dX4_machine_52 rfl
theorem x_X4_machine_53 {a : Int} {al st : List AV} {h : AH} : X mX4_machine 53 al (aI a :: st) h = if 0 ≤ a then X mX4_machine 62 al st h else X mX4_machine 56 al st h := x_ge0 dX4_machine_53 rfl
theorem x_X4_machine_56 {v1 v2 : AV} {z : Option Nat} {st : List AV} {h : AH} : X mX4_machine 56 [aR z, v1, v2] st h = X mX4_machine 57 [aR z, v1, v2] (aR z :: st) h := X_of dX4_machine_56 rfl
theorem x_X4_machine_57 {al st : List AV} {h : AH} : X mX4_machine 57 al st h = X mX4_machine 58 al (aI 5 :: st) h := X_of dX4_machine_57 rfl
theorem x_X4_machine_58 {a0 : Nat} {a1 : Int} {al : List AV} {h : AH} (ho : isO h 4 a0 = true) : X mX4_machine 58 al [aI a1, aR (some a0)] h = cK (E mX4_found [aR (some a0), aI a1] h) fun v h2 => X mX4_machine 61 al (v.toList ++ []) h2 := x_cal (as := [aR (some a0), aI a1]) (rest := []) dX4_machine_58 (fun _ => rfl) cT_4_79 rfl rfl ho
theorem x_X4_machine_61 {z : Int} {al : List AV} {h : AH} : X mX4_machine 61 al [aI z] h = some (some (aI z), h) := X_ofR dX4_machine_61 rfl
theorem x_X4_machine_62 {v1 v2 : AV} {z : Option Nat} {st : List AV} {h : AH} : X mX4_machine 62 [aR z, v1, v2] st h = X mX4_machine 63 [aR z, v1, v2] (aR z :: st) h := X_of dX4_machine_62 rfl
theorem x_X4_machine_63 {a : Nat} {al st : List AV} {h : AH} : X mX4_machine 63 al (aR (some a) :: st) h = gK (rd h 4 a 0) fun v => X mX4_machine 66 al (v :: st) h := x_get dX4_machine_63 fT_4_11
theorem x_X4_machine_66 {v1 v2 : AV} {z : Option Nat} {st : List AV} {h : AH} : X mX4_machine 66 [aR z, v1, v2] st h = X mX4_machine 67 [aR z, v1, v2] (aR z :: st) h := X_of dX4_machine_66 rfl
theorem x_X4_machine_67 {a : Nat} {al st : List AV} {h : AH} : X mX4_machine 67 al (aR (some a) :: st) h = gK (rd h 4 a 6) fun v => X mX4_machine 70 al (v :: st) h := x_get dX4_machine_67 fT_4_42
set_option maxRecDepth 20000 in
theorem x_X4_machine_70 {al st : List AV} {h : AH} : X mX4_machine 70 al st h = X mX4_machine 73 al (aR (some h.length) :: st) (h ++ [(1, [aI 0, aI 0, aR none, aR none, aR none, aI 0, aI 0, aI 0])]) := x_new dX4_machine_70 nT_4_9 dfl_1
theorem x_X4_machine_73 {z : Option Nat} {al st : List AV} {h : AH} : X mX4_machine 73 al (aR z :: st) h = X mX4_machine 74 al (aR z :: aR z :: st) h := X_of dX4_machine_73 rfl
theorem x_X4_machine_74 {v0 v2 : AV} {z : Int} {st : List AV} {h : AH} : X mX4_machine 74 [v0, aI z, v2] st h = X mX4_machine 75 [v0, aI z, v2] (aI z :: st) h := X_of dX4_machine_74 rfl
theorem x_X4_machine_75 {v0 v1 : AV} {z : Int} {st : List AV} {h : AH} : X mX4_machine 75 [v0, v1, aI z] st h = X mX4_machine 76 [v0, v1, aI z] (aI z :: st) h := X_of dX4_machine_75 rfl
theorem x_X4_machine_76 {a0 : Nat} {a1 : Int} {a2 : Int} {r0 : Option Nat} {r1 : Int} {r2 : Option Nat} {al : List AV} {h : AH} : X mX4_machine 76 al [aI a2, aI a1, aR (some a0), aR r0, aI r1, aR r2] h = cK (E mX1_init [aR (some a0), aI a1, aI a2] h) fun v h2 => X mX4_machine 79 al (v.toList ++ [aR r0, aI r1, aR r2]) h2 := x_cal (as := [aR (some a0), aI a1, aI a2]) (rest := [aR r0, aI r1, aR r2]) dX4_machine_76 (fun _ => rfl) cT_4_121 rfl rfl rfl
theorem x_X4_machine_79 {a b : Nat} {i : Int} {al st : List AV} {h : AH} (ht : tagR h a = 12) (ho : isO h 1 b = true) : X mX4_machine 79 al (aR (some b) :: aI i :: aR (some a) :: st) h = if 0 ≤ i then pK (rd h 12 a i.toNat) (X mX4_machine 80 al st (wr h 12 a i.toNat (aR (some b)))) else none := x_astR dX4_machine_79 ht (by decide) ho
theorem x_X4_machine_80 {v1 v2 : AV} {z : Option Nat} {st : List AV} {h : AH} : X mX4_machine 80 [aR z, v1, v2] st h = X mX4_machine 81 [aR z, v1, v2] (aR z :: st) h := X_of dX4_machine_80 rfl
theorem x_X4_machine_81 {z : Option Nat} {al st : List AV} {h : AH} : X mX4_machine 81 al (aR z :: st) h = X mX4_machine 82 al (aR z :: aR z :: st) h := X_of dX4_machine_81 rfl
theorem x_X4_machine_82 {a : Nat} {al st : List AV} {h : AH} : X mX4_machine 82 al (aR (some a) :: st) h = gK (rd h 4 a 6) fun v => X mX4_machine 85 al (v :: st) h := x_get dX4_machine_82 fT_4_42
theorem x_X4_machine_85 {al st : List AV} {h : AH} : X mX4_machine 85 al st h = X mX4_machine 86 al (aI 1 :: st) h := X_of dX4_machine_85 rfl
theorem x_X4_machine_86 {a b : Int} {al st : List AV} {h : AH} : X mX4_machine 86 al (aI b :: aI a :: st) h = X mX4_machine 87 al (aI (w32 (a + b)) :: st) h := X_of dX4_machine_86 rfl
theorem x_X4_machine_87 {a : Nat} {z : Int} {al st : List AV} {h : AH} : X mX4_machine 87 al (aI z :: aR (some a) :: st) h = pK (rd h 4 a 6) (X mX4_machine 90 al st (wr h 4 a 6 (aI z))) := x_put dX4_machine_87 fT_4_42 rfl rfl
theorem x_X4_machine_90 {v1 v2 : AV} {z : Option Nat} {st : List AV} {h : AH} : X mX4_machine 90 [aR z, v1, v2] st h = X mX4_machine 91 [aR z, v1, v2] (aR z :: st) h := X_of dX4_machine_90 rfl
theorem x_X4_machine_91 {a : Nat} {al st : List AV} {h : AH} : X mX4_machine 91 al (aR (some a) :: st) h = gK (rd h 4 a 6) fun v => X mX4_machine 94 al (v :: st) h := x_get dX4_machine_91 fT_4_42
theorem x_X4_machine_94 {al st : List AV} {h : AH} : X mX4_machine 94 al st h = X mX4_machine 95 al (aI 1 :: st) h := X_of dX4_machine_94 rfl
theorem x_X4_machine_95 {a b : Int} {al st : List AV} {h : AH} : X mX4_machine 95 al (aI b :: aI a :: st) h = X mX4_machine 96 al (aI (w32 (a - b)) :: st) h := X_of dX4_machine_95 rfl
theorem x_X4_machine_96 {z : Int} {al : List AV} {h : AH} : X mX4_machine 96 al [aI z] h = some (some (aI z), h) := X_ofR dX4_machine_96 rfl
theorem e_X4_is {p0 : Option Nat} {p1 : Int} {p2 : Int} {h : AH} : E mX4_is [aR p0, aI p1, aI p2] h = X mX4_is 0 [aR p0, aI p1, aI p2, aU] [] h := rfl
theorem x_X4_is_0 {v1 v2 v3 : AV} {z : Option Nat} {st : List AV} {h : AH} : X mX4_is 0 [aR z, v1, v2, v3] st h = X mX4_is 1 [aR z, v1, v2, v3] (aR z :: st) h := X_of dX4_is_0 rfl
theorem x_X4_is_1 {v0 v2 v3 : AV} {z : Int} {st : List AV} {h : AH} : X mX4_is 1 [v0, aI z, v2, v3] st h = X mX4_is 2 [v0, aI z, v2, v3] (aI z :: st) h := X_of dX4_is_1 rfl
theorem x_X4_is_2 {a0 : Nat} {a1 : Int} {al : List AV} {h : AH} (ho : isO h 4 a0 = true) : X mX4_is 2 al [aI a1, aR (some a0)] h = cK (E mX4_machineAt [aR (some a0), aI a1] h) fun v h2 => X mX4_is 5 al (v.toList ++ []) h2 := x_cal (as := [aR (some a0), aI a1]) (rest := []) dX4_is_2 (fun _ => rfl) cT_4_71 rfl rfl ho
theorem x_X4_is_5 {v0 v1 v3 : AV} {y : Int} {z : Option Nat} {st : List AV} {h : AH} : X mX4_is 5 [v0, v1, aI y, v3] (aR z :: st) h = X mX4_is 6 [v0, v1, aI y, aR z] st h := X_of dX4_is_5 rfl
theorem x_X4_is_6 {v0 v1 v2 : AV} {z : Option Nat} {st : List AV} {h : AH} : X mX4_is 6 [v0, v1, v2, aR z] st h = X mX4_is 7 [v0, v1, v2, aR z] (aR z :: st) h := X_of dX4_is_6 rfl
theorem x_X4_is_7n {al st : List AV} {h : AH} : X mX4_is 7 al (aR none :: st) h = X mX4_is 19 al st h := X_of dX4_is_7 rfl
theorem x_X4_is_7s {a : Nat} {al st : List AV} {h : AH} : X mX4_is 7 al (aR (some a) :: st) h = X mX4_is 10 al st h := X_of dX4_is_7 rfl
theorem x_X4_is_10 {v0 v1 v3 : AV} {z : Int} {st : List AV} {h : AH} : X mX4_is 10 [v0, v1, aI z, v3] st h = X mX4_is 11 [v0, v1, aI z, v3] (aI z :: st) h := X_of dX4_is_10 rfl
theorem x_X4_is_11 {a : Int} {al st : List AV} {h : AH} : X mX4_is 11 al (aI a :: st) h = if a < 0 then X mX4_is 19 al st h else X mX4_is 14 al st h := x_lt0 dX4_is_11 rfl
theorem x_X4_is_14 {v0 v1 v3 : AV} {z : Int} {st : List AV} {h : AH} : X mX4_is 14 [v0, v1, aI z, v3] st h = X mX4_is 15 [v0, v1, aI z, v3] (aI z :: st) h := X_of dX4_is_14 rfl
theorem x_X4_is_15 {al st : List AV} {h : AH} : X mX4_is 15 al st h = X mX4_is 16 al (aI 3 :: st) h := X_of dX4_is_15 rfl
theorem x_X4_is_16 {a b : Int} {al st : List AV} {h : AH} : X mX4_is 16 al (aI b :: aI a :: st) h = if a ≤ b then X mX4_is 21 al st h else X mX4_is 19 al st h := x_leC dX4_is_16 rfl
theorem x_X4_is_19 {al st : List AV} {h : AH} : X mX4_is 19 al st h = X mX4_is 20 al (aI (-1) :: st) h := X_of dX4_is_19 rfl
theorem x_X4_is_20 {z : Int} {al : List AV} {h : AH} : X mX4_is 20 al [aI z] h = some (some (aI z), h) := X_ofR dX4_is_20 rfl
theorem x_X4_is_21 {v0 v1 v2 : AV} {z : Option Nat} {st : List AV} {h : AH} : X mX4_is 21 [v0, v1, v2, aR z] st h = X mX4_is 22 [v0, v1, v2, aR z] (aR z :: st) h := X_of dX4_is_21 rfl
theorem x_X4_is_22 {v0 v1 v3 : AV} {z : Int} {st : List AV} {h : AH} : X mX4_is 22 [v0, v1, aI z, v3] st h = X mX4_is 23 [v0, v1, aI z, v3] (aI z :: st) h := X_of dX4_is_22 rfl
theorem x_X4_is_23 {a0 : Nat} {a1 : Int} {al : List AV} {h : AH} (ho : isO h 1 a0 = true) : X mX4_is 23 al [aI a1, aR (some a0)] h = cK (E mX1_isUnder [aR (some a0), aI a1] h) fun v h2 => X mX4_is 26 al (v.toList ++ []) h2 := x_cal (as := [aR (some a0), aI a1]) (rest := []) dX4_is_23 (fun _ => rfl) cT_4_122 rfl rfl ho
theorem x_X4_is_26 {a : Int} {al st : List AV} {h : AH} : X mX4_is 26 al (aI a :: st) h = if a = 0 then X mX4_is 33 al st h else X mX4_is 29 al st h := x_eq0 dX4_is_26 rfl
theorem x_X4_is_29 {al st : List AV} {h : AH} : X mX4_is 29 al st h = X mX4_is 30 al (aI 1 :: st) h := X_of dX4_is_29 rfl
theorem x_X4_is_30 {al st : List AV} {h : AH} : X mX4_is 30 al st h = X mX4_is 34 al st h := X_of dX4_is_30 rfl
theorem x_X4_is_33 {al st : List AV} {h : AH} : X mX4_is 33 al st h = X mX4_is 34 al (aI 0 :: st) h := X_of dX4_is_33 rfl
theorem x_X4_is_34 {z : Int} {al : List AV} {h : AH} : X mX4_is 34 al [aI z] h = some (some (aI z), h) := X_ofR dX4_is_34 rfl
theorem e_X4_told {p0 : Option Nat} {p1 : Int} {p2 : Int} {h : AH} : E mX4_told [aR p0, aI p1, aI p2] h = X mX4_told 0 [aR p0, aI p1, aI p2, aU] [] h := rfl
theorem x_X4_told_0 {v1 v2 v3 : AV} {z : Option Nat} {st : List AV} {h : AH} : X mX4_told 0 [aR z, v1, v2, v3] st h = X mX4_told 1 [aR z, v1, v2, v3] (aR z :: st) h := X_of dX4_told_0 rfl
theorem x_X4_told_1 {v0 v2 v3 : AV} {z : Int} {st : List AV} {h : AH} : X mX4_told 1 [v0, aI z, v2, v3] st h = X mX4_told 2 [v0, aI z, v2, v3] (aI z :: st) h := X_of dX4_told_1 rfl
theorem x_X4_told_2 {a0 : Nat} {a1 : Int} {al : List AV} {h : AH} (ho : isO h 4 a0 = true) : X mX4_told 2 al [aI a1, aR (some a0)] h = cK (E mX4_machineAt [aR (some a0), aI a1] h) fun v h2 => X mX4_told 5 al (v.toList ++ []) h2 := x_cal (as := [aR (some a0), aI a1]) (rest := []) dX4_told_2 (fun _ => rfl) cT_4_71 rfl rfl ho
theorem x_X4_told_5 {v0 v1 v3 : AV} {y : Int} {z : Option Nat} {st : List AV} {h : AH} : X mX4_told 5 [v0, v1, aI y, v3] (aR z :: st) h = X mX4_told 6 [v0, v1, aI y, aR z] st h := X_of dX4_told_5 rfl
theorem x_X4_told_6 {v0 v1 v2 : AV} {z : Option Nat} {st : List AV} {h : AH} : X mX4_told 6 [v0, v1, v2, aR z] st h = X mX4_told 7 [v0, v1, v2, aR z] (aR z :: st) h := X_of dX4_told_6 rfl
theorem x_X4_told_7n {al st : List AV} {h : AH} : X mX4_told 7 al (aR none :: st) h = X mX4_told 10 al st h := X_of dX4_told_7 rfl
theorem x_X4_told_7s {a : Nat} {al st : List AV} {h : AH} : X mX4_told 7 al (aR (some a) :: st) h = X mX4_told 12 al st h := X_of dX4_told_7 rfl
theorem x_X4_told_10 {al st : List AV} {h : AH} : X mX4_told 10 al st h = X mX4_told 11 al (aI (-1) :: st) h := X_of dX4_told_10 rfl
theorem x_X4_told_11 {z : Int} {al : List AV} {h : AH} : X mX4_told 11 al [aI z] h = some (some (aI z), h) := X_ofR dX4_told_11 rfl
theorem x_X4_told_12 {v0 v1 v3 : AV} {z : Int} {st : List AV} {h : AH} : X mX4_told 12 [v0, v1, aI z, v3] st h = X mX4_told 13 [v0, v1, aI z, v3] (aI z :: st) h := X_of dX4_told_12 rfl
theorem x_X4_told_13 {a : Int} {al st : List AV} {h : AH} : X mX4_told 13 al (aI a :: st) h = if a = 0 then X mX4_told 40 al st h else if a = 1 then X mX4_told 45 al st h else if a = 2 then X mX4_told 50 al st h else X mX4_told 55 al st h := by
  by_cases h0 : a = 0
  · rw [if_pos h0]
    subst h0
    exact X_of dX4_told_13 rfl
  rw [if_neg h0]
  by_cases h1 : a = 1
  · rw [if_pos h1]
    subst h1
    exact X_of dX4_told_13 rfl
  rw [if_neg h1]
  by_cases h2 : a = 2
  · rw [if_pos h2]
    subst h2
    exact X_of dX4_told_13 rfl
  rw [if_neg h2]
  refine X_of dX4_told_13 ?_
  show hTab 42 0 2 #[27, 32, 37] 13 al (aI a :: st) h = _
  unfold hTab
  simp only [if_pos (show a < 0 ∨ 2 < a by omega)]
  rfl
theorem x_X4_told_40 {v0 v1 v2 : AV} {z : Option Nat} {st : List AV} {h : AH} : X mX4_told 40 [v0, v1, v2, aR z] st h = X mX4_told 41 [v0, v1, v2, aR z] (aR z :: st) h := X_of dX4_told_40 rfl
theorem x_X4_told_41 {a : Nat} {al st : List AV} {h : AH} : X mX4_told 41 al (aR (some a) :: st) h = gK (rd h 1 a 0) fun v => X mX4_told 44 al (v :: st) h := x_get dX4_told_41 fT_4_126
theorem x_X4_told_44 {z : Int} {al : List AV} {h : AH} : X mX4_told 44 al [aI z] h = some (some (aI z), h) := X_ofR dX4_told_44 rfl
theorem x_X4_told_45 {v0 v1 v2 : AV} {z : Option Nat} {st : List AV} {h : AH} : X mX4_told 45 [v0, v1, v2, aR z] st h = X mX4_told 46 [v0, v1, v2, aR z] (aR z :: st) h := X_of dX4_told_45 rfl
theorem x_X4_told_46 {a : Nat} {al st : List AV} {h : AH} : X mX4_told 46 al (aR (some a) :: st) h = gK (rd h 1 a 1) fun v => X mX4_told 49 al (v :: st) h := x_get dX4_told_46 fT_4_127
theorem x_X4_told_49 {z : Int} {al : List AV} {h : AH} : X mX4_told 49 al [aI z] h = some (some (aI z), h) := X_ofR dX4_told_49 rfl
theorem x_X4_told_50 {v0 v1 v2 : AV} {z : Option Nat} {st : List AV} {h : AH} : X mX4_told 50 [v0, v1, v2, aR z] st h = X mX4_told 51 [v0, v1, v2, aR z] (aR z :: st) h := X_of dX4_told_50 rfl
theorem x_X4_told_51 {a : Nat} {al st : List AV} {h : AH} : X mX4_told 51 al (aR (some a) :: st) h = gK (rd h 1 a 6) fun v => X mX4_told 54 al (v :: st) h := x_get dX4_told_51 fT_4_130
theorem x_X4_told_54 {z : Int} {al : List AV} {h : AH} : X mX4_told 54 al [aI z] h = some (some (aI z), h) := X_ofR dX4_told_54 rfl
theorem x_X4_told_55 {al st : List AV} {h : AH} : X mX4_told 55 al st h = X mX4_told 56 al (aI (-1) :: st) h := X_of dX4_told_55 rfl
theorem x_X4_told_56 {z : Int} {al : List AV} {h : AH} : X mX4_told 56 al [aI z] h = some (some (aI z), h) := X_ofR dX4_told_56 rfl
theorem e_X4_pay {p0 : Option Nat} {p1 : Int} {p2 : Int} {p3 : Int} {h : AH} : E mX4_pay [aR p0, aI p1, aI p2, aI p3] h = X mX4_pay 0 [aR p0, aI p1, aI p2, aI p3, aU, aU] [] h := rfl
theorem x_X4_pay_0 {v1 v2 v3 v4 v5 : AV} {z : Option Nat} {st : List AV} {h : AH} : X mX4_pay 0 [aR z, v1, v2, v3, v4, v5] st h = X mX4_pay 1 [aR z, v1, v2, v3, v4, v5] (aR z :: st) h := X_of dX4_pay_0 rfl
theorem x_X4_pay_1 {v0 v2 v3 v4 v5 : AV} {z : Int} {st : List AV} {h : AH} : X mX4_pay 1 [v0, aI z, v2, v3, v4, v5] st h = X mX4_pay 2 [v0, aI z, v2, v3, v4, v5] (aI z :: st) h := X_of dX4_pay_1 rfl
theorem x_X4_pay_2 {a0 : Nat} {a1 : Int} {al : List AV} {h : AH} (ho : isO h 4 a0 = true) : X mX4_pay 2 al [aI a1, aR (some a0)] h = cK (E mX4_machineAt [aR (some a0), aI a1] h) fun v h2 => X mX4_pay 5 al (v.toList ++ []) h2 := x_cal (as := [aR (some a0), aI a1]) (rest := []) dX4_pay_2 (fun _ => rfl) cT_4_71 rfl rfl ho
theorem x_X4_pay_5 {v0 v1 v2 v4 v5 : AV} {y : Int} {z : Option Nat} {st : List AV} {h : AH} : X mX4_pay 5 [v0, v1, v2, aI y, v4, v5] (aR z :: st) h = X mX4_pay 7 [v0, v1, v2, aI y, aR z, v5] st h := X_of dX4_pay_5 rfl
theorem x_X4_pay_7 {v0 v1 v2 v3 v5 : AV} {z : Option Nat} {st : List AV} {h : AH} : X mX4_pay 7 [v0, v1, v2, v3, aR z, v5] st h = X mX4_pay 9 [v0, v1, v2, v3, aR z, v5] (aR z :: st) h := X_of dX4_pay_7 rfl
theorem x_X4_pay_9n {al st : List AV} {h : AH} : X mX4_pay 9 al (aR none :: st) h = X mX4_pay 20 al st h := X_of dX4_pay_9 rfl
theorem x_X4_pay_9s {a : Nat} {al st : List AV} {h : AH} : X mX4_pay 9 al (aR (some a) :: st) h = X mX4_pay 12 al st h := X_of dX4_pay_9 rfl
theorem x_X4_pay_12 {v0 v1 v2 v4 v5 : AV} {z : Int} {st : List AV} {h : AH} : X mX4_pay 12 [v0, v1, v2, aI z, v4, v5] st h = X mX4_pay 13 [v0, v1, v2, aI z, v4, v5] (aI z :: st) h := X_of dX4_pay_12 rfl
theorem x_X4_pay_13 {a : Int} {al st : List AV} {h : AH} : X mX4_pay 13 al (aI a :: st) h = X mX4_pay 14 al (aJ a :: st) h := X_of dX4_pay_13 rfl
theorem x_X4_pay_14 {a0 : Int} {al : List AV} {h : AH} : X mX4_pay 14 al [aJ a0] h = cK (E mX4_isPay [aJ a0] h) fun v h2 => X mX4_pay 17 al (v.toList ++ []) h2 := x_cal (as := [aJ a0]) (rest := []) dX4_pay_14 (fun _ => rfl) cT_4_133 rfl rfl rfl
theorem x_X4_pay_17 {a : Int} {al st : List AV} {h : AH} : X mX4_pay 17 al (aI a :: st) h = if ¬ a = 0 then X mX4_pay 22 al st h else X mX4_pay 20 al st h := x_ne0 dX4_pay_17 rfl
theorem x_X4_pay_20 {al st : List AV} {h : AH} : X mX4_pay 20 al st h = X mX4_pay 21 al (aI (-1) :: st) h := X_of dX4_pay_20 rfl
theorem x_X4_pay_21 {z : Int} {al : List AV} {h : AH} : X mX4_pay 21 al [aI z] h = some (some (aI z), h) := X_ofR dX4_pay_21 rfl
theorem x_X4_pay_22 {v0 v1 v2 v3 v5 : AV} {z : Option Nat} {st : List AV} {h : AH} : X mX4_pay 22 [v0, v1, v2, v3, aR z, v5] st h = X mX4_pay 24 [v0, v1, v2, v3, aR z, v5] (aR z :: st) h := X_of dX4_pay_22 rfl
theorem x_X4_pay_24 {v0 v1 v3 v4 v5 : AV} {z : Int} {st : List AV} {h : AH} : X mX4_pay 24 [v0, v1, aI z, v3, v4, v5] st h = X mX4_pay 25 [v0, v1, aI z, v3, v4, v5] (aI z :: st) h := X_of dX4_pay_24 rfl
theorem x_X4_pay_25 {a0 : Nat} {a1 : Int} {al : List AV} {h : AH} (ho : isO h 1 a0 = true) : X mX4_pay 25 al [aI a1, aR (some a0)] h = cK (E mX1_has [aR (some a0), aI a1] h) fun v h2 => X mX4_pay 28 al (v.toList ++ []) h2 := x_cal (as := [aR (some a0), aI a1]) (rest := []) dX4_pay_25 (fun _ => rfl) cT_4_137 rfl rfl ho
theorem x_X4_pay_28 {a : Int} {al st : List AV} {h : AH} : X mX4_pay 28 al (aI a :: st) h = if ¬ a = 0 then X mX4_pay 37 al st h else X mX4_pay 31 al st h := x_ne0 dX4_pay_28 rfl
theorem x_X4_pay_31 {v1 v2 v3 v4 v5 : AV} {z : Option Nat} {st : List AV} {h : AH} : X mX4_pay 31 [aR z, v1, v2, v3, v4, v5] st h = X mX4_pay 32 [aR z, v1, v2, v3, v4, v5] (aR z :: st) h := X_of dX4_pay_31 rfl
theorem x_X4_pay_32 {al st : List AV} {h : AH} : X mX4_pay 32 al st h = X mX4_pay 33 al (aI 2 :: st) h := X_of dX4_pay_32 rfl
theorem x_X4_pay_33 {a0 : Nat} {a1 : Int} {al : List AV} {h : AH} (ho : isO h 4 a0 = true) : X mX4_pay 33 al [aI a1, aR (some a0)] h = cK (E mX4_found [aR (some a0), aI a1] h) fun v h2 => X mX4_pay 36 al (v.toList ++ []) h2 := x_cal (as := [aR (some a0), aI a1]) (rest := []) dX4_pay_33 (fun _ => rfl) cT_4_79 rfl rfl ho
theorem x_X4_pay_36 {z : Int} {al : List AV} {h : AH} : X mX4_pay 36 al [aI z] h = some (some (aI z), h) := X_ofR dX4_pay_36 rfl
theorem x_X4_pay_37 {v0 v1 v2 v3 v5 : AV} {z : Option Nat} {st : List AV} {h : AH} : X mX4_pay 37 [v0, v1, v2, v3, aR z, v5] st h = X mX4_pay 39 [v0, v1, v2, v3, aR z, v5] (aR z :: st) h := X_of dX4_pay_37 rfl
theorem x_X4_pay_39 {v0 v1 v3 v4 v5 : AV} {z : Int} {st : List AV} {h : AH} : X mX4_pay 39 [v0, v1, aI z, v3, v4, v5] st h = X mX4_pay 40 [v0, v1, aI z, v3, v4, v5] (aI z :: st) h := X_of dX4_pay_39 rfl
theorem x_X4_pay_40 {a0 : Nat} {a1 : Int} {al : List AV} {h : AH} (ho : isO h 1 a0 = true) : X mX4_pay 40 al [aI a1, aR (some a0)] h = cK (E mX1_mayPay [aR (some a0), aI a1] h) fun v h2 => X mX4_pay 43 al (v.toList ++ []) h2 := x_cal (as := [aR (some a0), aI a1]) (rest := []) dX4_pay_40 (fun _ => rfl) cT_4_140 rfl rfl ho
theorem x_X4_pay_43 {a : Int} {al st : List AV} {h : AH} : X mX4_pay 43 al (aI a :: st) h = if ¬ a = 0 then X mX4_pay 49 al st h else X mX4_pay 46 al st h := x_ne0 dX4_pay_43 rfl
theorem x_X4_pay_46 {al st : List AV} {h : AH} : X mX4_pay 46 al st h = X mX4_pay 48 al (aI (-4) :: st) h := X_of dX4_pay_46 rfl
theorem x_X4_pay_48 {z : Int} {al : List AV} {h : AH} : X mX4_pay 48 al [aI z] h = some (some (aI z), h) := X_ofR dX4_pay_48 rfl
theorem x_X4_pay_49 {v0 v1 v2 v3 v5 : AV} {z : Option Nat} {st : List AV} {h : AH} : X mX4_pay 49 [v0, v1, v2, v3, aR z, v5] st h = X mX4_pay 51 [v0, v1, v2, v3, aR z, v5] (aR z :: st) h := X_of dX4_pay_49 rfl
theorem x_X4_pay_51 {v0 v1 v3 v4 v5 : AV} {z : Int} {st : List AV} {h : AH} : X mX4_pay 51 [v0, v1, aI z, v3, v4, v5] st h = X mX4_pay 52 [v0, v1, aI z, v3, v4, v5] (aI z :: st) h := X_of dX4_pay_51 rfl
theorem x_X4_pay_52 {a0 : Nat} {a1 : Int} {al : List AV} {h : AH} (ho : isO h 1 a0 = true) : X mX4_pay 52 al [aI a1, aR (some a0)] h = cK (E mX1_payAt [aR (some a0), aI a1] h) fun v h2 => X mX4_pay 55 al (v.toList ++ []) h2 := x_cal (as := [aR (some a0), aI a1]) (rest := []) dX4_pay_52 (fun _ => rfl) cT_4_143 rfl rfl ho
theorem x_X4_pay_55 {v0 v1 v2 v3 v5 : AV} {y : Option Nat} {z : Int} {st : List AV} {h : AH} : X mX4_pay 55 [v0, v1, v2, v3, aR y, v5] (aI z :: st) h = X mX4_pay 57 [v0, v1, v2, v3, aR y, aI z] st h := X_of dX4_pay_55 rfl
theorem x_X4_pay_57 {v0 v1 v2 v3 v5 : AV} {z : Option Nat} {st : List AV} {h : AH} : X mX4_pay 57 [v0, v1, v2, v3, aR z, v5] st h = X mX4_pay 59 [v0, v1, v2, v3, aR z, v5] (aR z :: st) h := X_of dX4_pay_57 rfl
theorem x_X4_pay_59 {v0 v1 v3 v4 v5 : AV} {z : Int} {st : List AV} {h : AH} : X mX4_pay 59 [v0, v1, aI z, v3, v4, v5] st h = X mX4_pay 60 [v0, v1, aI z, v3, v4, v5] (aI z :: st) h := X_of dX4_pay_59 rfl
theorem x_X4_pay_60 {v0 v1 v2 v4 v5 : AV} {z : Int} {st : List AV} {h : AH} : X mX4_pay 60 [v0, v1, v2, aI z, v4, v5] st h = X mX4_pay 61 [v0, v1, v2, aI z, v4, v5] (aI z :: st) h := X_of dX4_pay_60 rfl
theorem x_X4_pay_61 {a0 : Nat} {a1 : Int} {a2 : Int} {al : List AV} {h : AH} (ho : isO h 1 a0 = true) : X mX4_pay 61 al [aI a2, aI a1, aR (some a0)] h = cK (E mX1_setPay [aR (some a0), aI a1, aI a2] h) fun v h2 => X mX4_pay 64 al (v.toList ++ []) h2 := x_cal (as := [aR (some a0), aI a1, aI a2]) (rest := []) dX4_pay_61 (fun _ => rfl) cT_4_146 rfl rfl ho
theorem x_X4_pay_64 {al st : List AV} {h : AH} : X mX4_pay 64 al st h = X mX4_pay 67 al (aI 1000 :: st) h := X_of dX4_pay_64 rfl
theorem x_X4_pay_67 {v0 v1 v2 v3 v4 : AV} {z : Int} {st : List AV} {h : AH} : X mX4_pay 67 [v0, v1, v2, v3, v4, aI z] st h = X mX4_pay 69 [v0, v1, v2, v3, v4, aI z] (aI z :: st) h := X_of dX4_pay_67 rfl
theorem x_X4_pay_69 {a b : Int} {al st : List AV} {h : AH} : X mX4_pay 69 al (aI b :: aI a :: st) h = X mX4_pay 70 al (aI (w32 (a + b)) :: st) h := X_of dX4_pay_69 rfl
theorem x_X4_pay_70 {z : Int} {al : List AV} {h : AH} : X mX4_pay 70 al [aI z] h = some (some (aI z), h) := X_ofR dX4_pay_70 rfl
theorem e_X4_chance {p0 : Option Nat} {p1 : Int} {p2 : Int} {p3 : Int} {p4 : Int} {h : AH} : E mX4_chance [aR p0, aI p1, aI p2, aI p3, aI p4] h = X mX4_chance 0 [aR p0, aI p1, aI p2, aI p3, aI p4, aU, aU, aU] [] h := rfl
theorem x_X4_chance_0 {v1 v2 v3 v4 v5 v6 v7 : AV} {z : Option Nat} {st : List AV} {h : AH} : X mX4_chance 0 [aR z, v1, v2, v3, v4, v5, v6, v7] st h = X mX4_chance 1 [aR z, v1, v2, v3, v4, v5, v6, v7] (aR z :: st) h := X_of dX4_chance_0 rfl
theorem x_X4_chance_1 {v0 v2 v3 v4 v5 v6 v7 : AV} {z : Int} {st : List AV} {h : AH} : X mX4_chance 1 [v0, aI z, v2, v3, v4, v5, v6, v7] st h = X mX4_chance 2 [v0, aI z, v2, v3, v4, v5, v6, v7] (aI z :: st) h := X_of dX4_chance_1 rfl
theorem x_X4_chance_2 {a0 : Nat} {a1 : Int} {al : List AV} {h : AH} (ho : isO h 4 a0 = true) : X mX4_chance 2 al [aI a1, aR (some a0)] h = cK (E mX4_machineAt [aR (some a0), aI a1] h) fun v h2 => X mX4_chance 5 al (v.toList ++ []) h2 := x_cal (as := [aR (some a0), aI a1]) (rest := []) dX4_chance_2 (fun _ => rfl) cT_4_71 rfl rfl ho
theorem x_X4_chance_5 {v0 v1 v2 v3 v5 v6 v7 : AV} {y : Int} {z : Option Nat} {st : List AV} {h : AH} : X mX4_chance 5 [v0, v1, v2, v3, aI y, v5, v6, v7] (aR z :: st) h = X mX4_chance 7 [v0, v1, v2, v3, aI y, aR z, v6, v7] st h := X_of dX4_chance_5 rfl
theorem x_X4_chance_7 {v0 v1 v2 v3 v4 v6 v7 : AV} {z : Option Nat} {st : List AV} {h : AH} : X mX4_chance 7 [v0, v1, v2, v3, v4, aR z, v6, v7] st h = X mX4_chance 9 [v0, v1, v2, v3, v4, aR z, v6, v7] (aR z :: st) h := X_of dX4_chance_7 rfl
theorem x_X4_chance_9n {al st : List AV} {h : AH} : X mX4_chance 9 al (aR none :: st) h = X mX4_chance 24 al st h := X_of dX4_chance_9 rfl
theorem x_X4_chance_9s {a : Nat} {al st : List AV} {h : AH} : X mX4_chance 9 al (aR (some a) :: st) h = X mX4_chance 12 al st h := X_of dX4_chance_9 rfl
theorem x_X4_chance_12 {v0 v1 v2 v3 v5 v6 v7 : AV} {z : Int} {st : List AV} {h : AH} : X mX4_chance 12 [v0, v1, v2, v3, aI z, v5, v6, v7] st h = X mX4_chance 14 [v0, v1, v2, v3, aI z, v5, v6, v7] (aI z :: st) h := X_of dX4_chance_12 rfl
theorem x_X4_chance_14 {a : Int} {al st : List AV} {h : AH} : X mX4_chance 14 al (aI a :: st) h = if a < 0 then X mX4_chance 24 al st h else X mX4_chance 17 al st h := x_lt0 dX4_chance_14 rfl
theorem x_X4_chance_17 {v0 v1 v2 v3 v5 v6 v7 : AV} {z : Int} {st : List AV} {h : AH} : X mX4_chance 17 [v0, v1, v2, v3, aI z, v5, v6, v7] st h = X mX4_chance 19 [v0, v1, v2, v3, aI z, v5, v6, v7] (aI z :: st) h := X_of dX4_chance_17 rfl
theorem x_X4_chance_19 {al st : List AV} {h : AH} : X mX4_chance 19 al st h = X mX4_chance 21 al (aI 10 :: st) h := X_of dX4_chance_19 rfl
theorem x_X4_chance_21 {a b : Int} {al st : List AV} {h : AH} : X mX4_chance 21 al (aI b :: aI a :: st) h = if a ≤ b then X mX4_chance 26 al st h else X mX4_chance 24 al st h := x_leC dX4_chance_21 rfl
theorem x_X4_chance_24 {al st : List AV} {h : AH} : X mX4_chance 24 al st h = X mX4_chance 25 al (aI (-1) :: st) h := X_of dX4_chance_24 rfl
theorem x_X4_chance_25 {z : Int} {al : List AV} {h : AH} : X mX4_chance 25 al [aI z] h = some (some (aI z), h) := X_ofR dX4_chance_25 rfl
theorem x_X4_chance_26 {v0 v1 v2 v3 v4 v6 v7 : AV} {z : Option Nat} {st : List AV} {h : AH} : X mX4_chance 26 [v0, v1, v2, v3, v4, aR z, v6, v7] st h = X mX4_chance 28 [v0, v1, v2, v3, v4, aR z, v6, v7] (aR z :: st) h := X_of dX4_chance_26 rfl
theorem x_X4_chance_28 {al st : List AV} {h : AH} : X mX4_chance 28 al st h = X mX4_chance 29 al (aI 2 :: st) h := X_of dX4_chance_28 rfl
theorem x_X4_chance_29 {a0 : Nat} {a1 : Int} {al : List AV} {h : AH} (ho : isO h 1 a0 = true) : X mX4_chance 29 al [aI a1, aR (some a0)] h = cK (E mX1_isUnder [aR (some a0), aI a1] h) fun v h2 => X mX4_chance 32 al (v.toList ++ []) h2 := x_cal (as := [aR (some a0), aI a1]) (rest := []) dX4_chance_29 (fun _ => rfl) cT_4_122 rfl rfl ho
theorem x_X4_chance_32 {a : Int} {al st : List AV} {h : AH} : X mX4_chance 32 al (aI a :: st) h = if a = 0 then X mX4_chance 41 al st h else X mX4_chance 35 al st h := x_eq0 dX4_chance_32 rfl
theorem x_X4_chance_35 {v1 v2 v3 v4 v5 v6 v7 : AV} {z : Option Nat} {st : List AV} {h : AH} : X mX4_chance 35 [aR z, v1, v2, v3, v4, v5, v6, v7] st h = X mX4_chance 36 [aR z, v1, v2, v3, v4, v5, v6, v7] (aR z :: st) h := X_of dX4_chance_35 rfl
theorem x_X4_chance_36 {al st : List AV} {h : AH} : X mX4_chance 36 al st h = X mX4_chance 37 al (aI 3 :: st) h := X_of dX4_chance_36 rfl
theorem x_X4_chance_37 {a0 : Nat} {a1 : Int} {al : List AV} {h : AH} (ho : isO h 4 a0 = true) : X mX4_chance 37 al [aI a1, aR (some a0)] h = cK (E mX4_found [aR (some a0), aI a1] h) fun v h2 => X mX4_chance 40 al (v.toList ++ []) h2 := x_cal (as := [aR (some a0), aI a1]) (rest := []) dX4_chance_37 (fun _ => rfl) cT_4_79 rfl rfl ho
theorem x_X4_chance_40 {z : Int} {al : List AV} {h : AH} : X mX4_chance 40 al [aI z] h = some (some (aI z), h) := X_ofR dX4_chance_40 rfl
theorem x_X4_chance_41 {v0 v1 v2 v3 v4 v6 v7 : AV} {z : Option Nat} {st : List AV} {h : AH} : X mX4_chance 41 [v0, v1, v2, v3, v4, aR z, v6, v7] st h = X mX4_chance 43 [v0, v1, v2, v3, v4, aR z, v6, v7] (aR z :: st) h := X_of dX4_chance_41 rfl
theorem x_X4_chance_43 {v0 v1 v3 v4 v5 v6 v7 : AV} {z : Int} {st : List AV} {h : AH} : X mX4_chance 43 [v0, v1, aI z, v3, v4, v5, v6, v7] st h = X mX4_chance 44 [v0, v1, aI z, v3, v4, v5, v6, v7] (aI z :: st) h := X_of dX4_chance_43 rfl
theorem x_X4_chance_44 {a0 : Nat} {a1 : Int} {al : List AV} {h : AH} (ho : isO h 1 a0 = true) : X mX4_chance 44 al [aI a1, aR (some a0)] h = cK (E mX1_has [aR (some a0), aI a1] h) fun v h2 => X mX4_chance 47 al (v.toList ++ []) h2 := x_cal (as := [aR (some a0), aI a1]) (rest := []) dX4_chance_44 (fun _ => rfl) cT_4_137 rfl rfl ho
theorem x_X4_chance_47 {a : Int} {al st : List AV} {h : AH} : X mX4_chance 47 al (aI a :: st) h = if a = 0 then X mX4_chance 59 al st h else X mX4_chance 50 al st h := x_eq0 dX4_chance_47 rfl
theorem x_X4_chance_50 {v0 v1 v2 v3 v4 v6 v7 : AV} {z : Option Nat} {st : List AV} {h : AH} : X mX4_chance 50 [v0, v1, v2, v3, v4, aR z, v6, v7] st h = X mX4_chance 52 [v0, v1, v2, v3, v4, aR z, v6, v7] (aR z :: st) h := X_of dX4_chance_50 rfl
theorem x_X4_chance_52 {v0 v1 v2 v4 v5 v6 v7 : AV} {z : Int} {st : List AV} {h : AH} : X mX4_chance 52 [v0, v1, v2, aI z, v4, v5, v6, v7] st h = X mX4_chance 53 [v0, v1, v2, aI z, v4, v5, v6, v7] (aI z :: st) h := X_of dX4_chance_52 rfl
theorem x_X4_chance_53 {a0 : Nat} {a1 : Int} {al : List AV} {h : AH} (ho : isO h 1 a0 = true) : X mX4_chance 53 al [aI a1, aR (some a0)] h = cK (E mX1_has [aR (some a0), aI a1] h) fun v h2 => X mX4_chance 56 al (v.toList ++ []) h2 := x_cal (as := [aR (some a0), aI a1]) (rest := []) dX4_chance_53 (fun _ => rfl) cT_4_137 rfl rfl ho
theorem x_X4_chance_56 {a : Int} {al st : List AV} {h : AH} : X mX4_chance 56 al (aI a :: st) h = if ¬ a = 0 then X mX4_chance 65 al st h else X mX4_chance 59 al st h := x_ne0 dX4_chance_56 rfl
theorem x_X4_chance_59 {v1 v2 v3 v4 v5 v6 v7 : AV} {z : Option Nat} {st : List AV} {h : AH} : X mX4_chance 59 [aR z, v1, v2, v3, v4, v5, v6, v7] st h = X mX4_chance 60 [aR z, v1, v2, v3, v4, v5, v6, v7] (aR z :: st) h := X_of dX4_chance_59 rfl
theorem x_X4_chance_60 {al st : List AV} {h : AH} : X mX4_chance 60 al st h = X mX4_chance 61 al (aI 2 :: st) h := X_of dX4_chance_60 rfl
theorem x_X4_chance_61 {a0 : Nat} {a1 : Int} {al : List AV} {h : AH} (ho : isO h 4 a0 = true) : X mX4_chance 61 al [aI a1, aR (some a0)] h = cK (E mX4_found [aR (some a0), aI a1] h) fun v h2 => X mX4_chance 64 al (v.toList ++ []) h2 := x_cal (as := [aR (some a0), aI a1]) (rest := []) dX4_chance_61 (fun _ => rfl) cT_4_79 rfl rfl ho
theorem x_X4_chance_64 {z : Int} {al : List AV} {h : AH} : X mX4_chance 64 al [aI z] h = some (some (aI z), h) := X_ofR dX4_chance_64 rfl
theorem x_X4_chance_65 {v0 v1 v2 v3 v4 v6 v7 : AV} {z : Option Nat} {st : List AV} {h : AH} : X mX4_chance 65 [v0, v1, v2, v3, v4, aR z, v6, v7] st h = X mX4_chance 67 [v0, v1, v2, v3, v4, aR z, v6, v7] (aR z :: st) h := X_of dX4_chance_65 rfl
theorem x_X4_chance_67 {v0 v1 v3 v4 v5 v6 v7 : AV} {z : Int} {st : List AV} {h : AH} : X mX4_chance 67 [v0, v1, aI z, v3, v4, v5, v6, v7] st h = X mX4_chance 68 [v0, v1, aI z, v3, v4, v5, v6, v7] (aI z :: st) h := X_of dX4_chance_67 rfl
theorem x_X4_chance_68 {v0 v1 v2 v4 v5 v6 v7 : AV} {z : Int} {st : List AV} {h : AH} : X mX4_chance 68 [v0, v1, v2, aI z, v4, v5, v6, v7] st h = X mX4_chance 69 [v0, v1, v2, aI z, v4, v5, v6, v7] (aI z :: st) h := X_of dX4_chance_68 rfl
theorem x_X4_chance_69 {a0 : Nat} {a1 : Int} {a2 : Int} {al : List AV} {h : AH} (ho : isO h 1 a0 = true) : X mX4_chance 69 al [aI a2, aI a1, aR (some a0)] h = cK (E mX1_weightAt [aR (some a0), aI a1, aI a2] h) fun v h2 => X mX4_chance 72 al (v.toList ++ []) h2 := x_cal (as := [aR (some a0), aI a1, aI a2]) (rest := []) dX4_chance_69 (fun _ => rfl) cT_4_149 rfl rfl ho
theorem x_X4_chance_72 {v0 v1 v2 v3 v4 v6 v7 : AV} {y : Option Nat} {z : Int} {st : List AV} {h : AH} : X mX4_chance 72 [v0, v1, v2, v3, v4, aR y, v6, v7] (aI z :: st) h = X mX4_chance 74 [v0, v1, v2, v3, v4, aR y, aI z, v7] st h := X_of dX4_chance_72 rfl
theorem x_X4_chance_74 {v0 v1 v2 v3 v4 v6 v7 : AV} {z : Option Nat} {st : List AV} {h : AH} : X mX4_chance 74 [v0, v1, v2, v3, v4, aR z, v6, v7] st h = X mX4_chance 76 [v0, v1, v2, v3, v4, aR z, v6, v7] (aR z :: st) h := X_of dX4_chance_74 rfl
theorem x_X4_chance_76 {v0 v1 v3 v4 v5 v6 v7 : AV} {z : Int} {st : List AV} {h : AH} : X mX4_chance 76 [v0, v1, aI z, v3, v4, v5, v6, v7] st h = X mX4_chance 77 [v0, v1, aI z, v3, v4, v5, v6, v7] (aI z :: st) h := X_of dX4_chance_76 rfl
theorem x_X4_chance_77 {a0 : Nat} {a1 : Int} {al : List AV} {h : AH} (ho : isO h 1 a0 = true) : X mX4_chance 77 al [aI a1, aR (some a0)] h = cK (E mX1_sumOf [aR (some a0), aI a1] h) fun v h2 => X mX4_chance 80 al (v.toList ++ []) h2 := x_cal (as := [aR (some a0), aI a1]) (rest := []) dX4_chance_77 (fun _ => rfl) cT_4_153 rfl rfl ho
theorem x_X4_chance_80 {v0 v1 v2 v3 v4 v5 v7 : AV} {z : Int} {st : List AV} {h : AH} : X mX4_chance 80 [v0, v1, v2, v3, v4, v5, aI z, v7] st h = X mX4_chance 82 [v0, v1, v2, v3, v4, v5, aI z, v7] (aI z :: st) h := X_of dX4_chance_80 rfl
theorem x_X4_chance_82 {a b : Int} {al st : List AV} {h : AH} : X mX4_chance 82 al (aI b :: aI a :: st) h = X mX4_chance 83 al (aI (w32 (a - b)) :: st) h := X_of dX4_chance_82 rfl
theorem x_X4_chance_83 {v0 v1 v2 v3 v5 v6 v7 : AV} {z : Int} {st : List AV} {h : AH} : X mX4_chance 83 [v0, v1, v2, v3, aI z, v5, v6, v7] st h = X mX4_chance 85 [v0, v1, v2, v3, aI z, v5, v6, v7] (aI z :: st) h := X_of dX4_chance_83 rfl
theorem x_X4_chance_85 {a b : Int} {al st : List AV} {h : AH} : X mX4_chance 85 al (aI b :: aI a :: st) h = X mX4_chance 86 al (aI (w32 (a + b)) :: st) h := X_of dX4_chance_85 rfl
theorem x_X4_chance_86 {v0 v1 v2 v3 v4 v5 v7 : AV} {y : Int} {z : Int} {st : List AV} {h : AH} : X mX4_chance 86 [v0, v1, v2, v3, v4, v5, aI y, v7] (aI z :: st) h = X mX4_chance 88 [v0, v1, v2, v3, v4, v5, aI y, aI z] st h := X_of dX4_chance_86 rfl
theorem x_X4_chance_88 {v0 v1 v2 v3 v4 v5 v6 : AV} {z : Int} {st : List AV} {h : AH} : X mX4_chance 88 [v0, v1, v2, v3, v4, v5, v6, aI z] st h = X mX4_chance 90 [v0, v1, v2, v3, v4, v5, v6, aI z] (aI z :: st) h := X_of dX4_chance_88 rfl
theorem x_X4_chance_90 {al st : List AV} {h : AH} : X mX4_chance 90 al st h = X mX4_chance 91 al (aI 1 :: st) h := X_of dX4_chance_90 rfl
theorem x_X4_chance_91 {a b : Int} {al st : List AV} {h : AH} : X mX4_chance 91 al (aI b :: aI a :: st) h = if a < b then X mX4_chance 101 al st h else X mX4_chance 94 al st h := x_ltC dX4_chance_91 rfl
theorem x_X4_chance_94 {v0 v1 v2 v3 v4 v5 v6 : AV} {z : Int} {st : List AV} {h : AH} : X mX4_chance 94 [v0, v1, v2, v3, v4, v5, v6, aI z] st h = X mX4_chance 96 [v0, v1, v2, v3, v4, v5, v6, aI z] (aI z :: st) h := X_of dX4_chance_94 rfl
theorem x_X4_chance_96 {al st : List AV} {h : AH} : X mX4_chance 96 al st h = X mX4_chance 98 al (aI 10 :: st) h := X_of dX4_chance_96 rfl
theorem x_X4_chance_98 {a b : Int} {al st : List AV} {h : AH} : X mX4_chance 98 al (aI b :: aI a :: st) h = if a ≤ b then X mX4_chance 104 al st h else X mX4_chance 101 al st h := x_leC dX4_chance_98 rfl
theorem x_X4_chance_101 {al st : List AV} {h : AH} : X mX4_chance 101 al st h = X mX4_chance 103 al (aI (-4) :: st) h := X_of dX4_chance_101 rfl
theorem x_X4_chance_103 {z : Int} {al : List AV} {h : AH} : X mX4_chance 103 al [aI z] h = some (some (aI z), h) := X_ofR dX4_chance_103 rfl
theorem x_X4_chance_104 {v0 v1 v2 v3 v4 v6 v7 : AV} {z : Option Nat} {st : List AV} {h : AH} : X mX4_chance 104 [v0, v1, v2, v3, v4, aR z, v6, v7] st h = X mX4_chance 106 [v0, v1, v2, v3, v4, aR z, v6, v7] (aR z :: st) h := X_of dX4_chance_104 rfl
theorem x_X4_chance_106 {v0 v1 v3 v4 v5 v6 v7 : AV} {z : Int} {st : List AV} {h : AH} : X mX4_chance 106 [v0, v1, aI z, v3, v4, v5, v6, v7] st h = X mX4_chance 107 [v0, v1, aI z, v3, v4, v5, v6, v7] (aI z :: st) h := X_of dX4_chance_106 rfl
theorem x_X4_chance_107 {v0 v1 v2 v4 v5 v6 v7 : AV} {z : Int} {st : List AV} {h : AH} : X mX4_chance 107 [v0, v1, v2, aI z, v4, v5, v6, v7] st h = X mX4_chance 108 [v0, v1, v2, aI z, v4, v5, v6, v7] (aI z :: st) h := X_of dX4_chance_107 rfl
theorem x_X4_chance_108 {v0 v1 v2 v3 v5 v6 v7 : AV} {z : Int} {st : List AV} {h : AH} : X mX4_chance 108 [v0, v1, v2, v3, aI z, v5, v6, v7] st h = X mX4_chance 110 [v0, v1, v2, v3, aI z, v5, v6, v7] (aI z :: st) h := X_of dX4_chance_108 rfl
theorem x_X4_chance_110 {a0 : Nat} {a1 : Int} {a2 : Int} {a3 : Int} {al : List AV} {h : AH} (ho : isO h 1 a0 = true) : X mX4_chance 110 al [aI a3, aI a2, aI a1, aR (some a0)] h = cK (E mX1_setWeight [aR (some a0), aI a1, aI a2, aI a3] h) fun v h2 => X mX4_chance 113 al (v.toList ++ []) h2 := x_cal (as := [aR (some a0), aI a1, aI a2, aI a3]) (rest := []) dX4_chance_110 (fun _ => rfl) cT_4_156 rfl rfl ho
theorem x_X4_chance_113 {v0 v1 v2 v3 v4 v5 v7 : AV} {z : Int} {st : List AV} {h : AH} : X mX4_chance 113 [v0, v1, v2, v3, v4, v5, aI z, v7] st h = X mX4_chance 115 [v0, v1, v2, v3, v4, v5, aI z, v7] (aI z :: st) h := X_of dX4_chance_113 rfl
theorem x_X4_chance_115 {z : Int} {al : List AV} {h : AH} : X mX4_chance 115 al [aI z] h = some (some (aI z), h) := X_ofR dX4_chance_115 rfl
theorem e_X4_fill {p0 : Option Nat} {p1 : Int} {p2 : Int} {p3 : Int} {h : AH} : E mX4_fill [aR p0, aI p1, aI p2, aI p3] h = X mX4_fill 0 [aR p0, aI p1, aI p2, aI p3, aU, aU, aU, aU, aU] [] h := rfl
theorem x_X4_fill_0 {v1 v2 v3 v4 v5 v6 v7 v8 : AV} {z : Option Nat} {st : List AV} {h : AH} : X mX4_fill 0 [aR z, v1, v2, v3, v4, v5, v6, v7, v8] st h = X mX4_fill 1 [aR z, v1, v2, v3, v4, v5, v6, v7, v8] (aR z :: st) h := X_of dX4_fill_0 rfl
theorem x_X4_fill_1 {v0 v2 v3 v4 v5 v6 v7 v8 : AV} {z : Int} {st : List AV} {h : AH} : X mX4_fill 1 [v0, aI z, v2, v3, v4, v5, v6, v7, v8] st h = X mX4_fill 2 [v0, aI z, v2, v3, v4, v5, v6, v7, v8] (aI z :: st) h := X_of dX4_fill_1 rfl
theorem x_X4_fill_2 {a0 : Nat} {a1 : Int} {al : List AV} {h : AH} (ho : isO h 4 a0 = true) : X mX4_fill 2 al [aI a1, aR (some a0)] h = cK (E mX4_machineAt [aR (some a0), aI a1] h) fun v h2 => X mX4_fill 5 al (v.toList ++ []) h2 := x_cal (as := [aR (some a0), aI a1]) (rest := []) dX4_fill_2 (fun _ => rfl) cT_4_71 rfl rfl ho
theorem x_X4_fill_5 {v0 v1 v2 v4 v5 v6 v7 v8 : AV} {y : Int} {z : Option Nat} {st : List AV} {h : AH} : X mX4_fill 5 [v0, v1, v2, aI y, v4, v5, v6, v7, v8] (aR z :: st) h = X mX4_fill 7 [v0, v1, v2, aI y, aR z, v5, v6, v7, v8] st h := X_of dX4_fill_5 rfl
theorem x_X4_fill_7 {v1 v2 v3 v4 v5 v6 v7 v8 : AV} {z : Option Nat} {st : List AV} {h : AH} : X mX4_fill 7 [aR z, v1, v2, v3, v4, v5, v6, v7, v8] st h = X mX4_fill 8 [aR z, v1, v2, v3, v4, v5, v6, v7, v8] (aR z :: st) h := X_of dX4_fill_7 rfl
theorem x_X4_fill_8 {v0 v1 v3 v4 v5 v6 v7 v8 : AV} {z : Int} {st : List AV} {h : AH} : X mX4_fill 8 [v0, v1, aI z, v3, v4, v5, v6, v7, v8] st h = X mX4_fill 9 [v0, v1, aI z, v3, v4, v5, v6, v7, v8] (aI z :: st) h := X_of dX4_fill_8 rfl
theorem x_X4_fill_9 {a0 : Nat} {a1 : Int} {al : List AV} {h : AH} (ho : isO h 4 a0 = true) : X mX4_fill 9 al [aI a1, aR (some a0)] h = cK (E mX4_sheetAt [aR (some a0), aI a1] h) fun v h2 => X mX4_fill 12 al (v.toList ++ []) h2 := x_cal (as := [aR (some a0), aI a1]) (rest := []) dX4_fill_9 (fun _ => rfl) cT_4_86 rfl rfl ho
theorem x_X4_fill_12 {v0 v1 v2 v3 v5 v6 v7 v8 : AV} {y : Option Nat} {z : Option Nat} {st : List AV} {h : AH} : X mX4_fill 12 [v0, v1, v2, v3, aR y, v5, v6, v7, v8] (aR z :: st) h = X mX4_fill 14 [v0, v1, v2, v3, aR y, aR z, v6, v7, v8] st h := X_of dX4_fill_12 rfl
theorem x_X4_fill_14 {v0 v1 v2 v3 v5 v6 v7 v8 : AV} {z : Option Nat} {st : List AV} {h : AH} : X mX4_fill 14 [v0, v1, v2, v3, aR z, v5, v6, v7, v8] st h = X mX4_fill 16 [v0, v1, v2, v3, aR z, v5, v6, v7, v8] (aR z :: st) h := X_of dX4_fill_14 rfl
theorem x_X4_fill_16n {al st : List AV} {h : AH} : X mX4_fill 16 al (aR none :: st) h = X mX4_fill 24 al st h := X_of dX4_fill_16 rfl
theorem x_X4_fill_16s {a : Nat} {al st : List AV} {h : AH} : X mX4_fill 16 al (aR (some a) :: st) h = X mX4_fill 19 al st h := X_of dX4_fill_16 rfl
theorem x_X4_fill_19 {v0 v1 v2 v3 v4 v6 v7 v8 : AV} {z : Option Nat} {st : List AV} {h : AH} : X mX4_fill 19 [v0, v1, v2, v3, v4, aR z, v6, v7, v8] st h = X mX4_fill 21 [v0, v1, v2, v3, v4, aR z, v6, v7, v8] (aR z :: st) h := X_of dX4_fill_19 rfl
theorem x_X4_fill_21n {al st : List AV} {h : AH} : X mX4_fill 21 al (aR none :: st) h = X mX4_fill 24 al st h := X_of dX4_fill_21 rfl
theorem x_X4_fill_21s {a : Nat} {al st : List AV} {h : AH} : X mX4_fill 21 al (aR (some a) :: st) h = X mX4_fill 26 al st h := X_of dX4_fill_21 rfl
theorem x_X4_fill_24 {al st : List AV} {h : AH} : X mX4_fill 24 al st h = X mX4_fill 25 al (aI (-1) :: st) h := X_of dX4_fill_24 rfl
theorem x_X4_fill_25 {z : Int} {al : List AV} {h : AH} : X mX4_fill 25 al [aI z] h = some (some (aI z), h) := X_ofR dX4_fill_25 rfl
theorem x_X4_fill_26 {v0 v1 v2 v3 v4 v6 v7 v8 : AV} {z : Option Nat} {st : List AV} {h : AH} : X mX4_fill 26 [v0, v1, v2, v3, v4, aR z, v6, v7, v8] st h = X mX4_fill 28 [v0, v1, v2, v3, v4, aR z, v6, v7, v8] (aR z :: st) h := X_of dX4_fill_26 rfl
theorem x_X4_fill_28 {a : Nat} {al st : List AV} {h : AH} : X mX4_fill 28 al (aR (some a) :: st) h = gK (rd h 3 a 2) fun v => X mX4_fill 31 al (v :: st) h := x_get dX4_fill_28 fT_4_90
theorem x_X4_fill_31 {a : Int} {al st : List AV} {h : AH} : X mX4_fill 31 al (aI a :: st) h = if a = 0 then X mX4_fill 40 al st h else X mX4_fill 34 al st h := x_eq0 dX4_fill_31 rfl
theorem x_X4_fill_34 {v1 v2 v3 v4 v5 v6 v7 v8 : AV} {z : Option Nat} {st : List AV} {h : AH} : X mX4_fill 34 [aR z, v1, v2, v3, v4, v5, v6, v7, v8] st h = X mX4_fill 35 [aR z, v1, v2, v3, v4, v5, v6, v7, v8] (aR z :: st) h := X_of dX4_fill_34 rfl
theorem x_X4_fill_35 {al st : List AV} {h : AH} : X mX4_fill 35 al st h = X mX4_fill 36 al (aI 1 :: st) h := X_of dX4_fill_35 rfl
theorem x_X4_fill_36 {a0 : Nat} {a1 : Int} {al : List AV} {h : AH} (ho : isO h 4 a0 = true) : X mX4_fill 36 al [aI a1, aR (some a0)] h = cK (E mX4_found [aR (some a0), aI a1] h) fun v h2 => X mX4_fill 39 al (v.toList ++ []) h2 := x_cal (as := [aR (some a0), aI a1]) (rest := []) dX4_fill_36 (fun _ => rfl) cT_4_79 rfl rfl ho
theorem x_X4_fill_39 {z : Int} {al : List AV} {h : AH} : X mX4_fill 39 al [aI z] h = some (some (aI z), h) := X_ofR dX4_fill_39 rfl
theorem x_X4_fill_40 {v0 v1 v2 v3 v4 v6 v7 v8 : AV} {z : Option Nat} {st : List AV} {h : AH} : X mX4_fill 40 [v0, v1, v2, v3, v4, aR z, v6, v7, v8] st h = X mX4_fill 42 [v0, v1, v2, v3, v4, aR z, v6, v7, v8] (aR z :: st) h := X_of dX4_fill_40 rfl
theorem x_X4_fill_42 {v0 v1 v2 v4 v5 v6 v7 v8 : AV} {z : Int} {st : List AV} {h : AH} : X mX4_fill 42 [v0, v1, v2, aI z, v4, v5, v6, v7, v8] st h = X mX4_fill 43 [v0, v1, v2, aI z, v4, v5, v6, v7, v8] (aI z :: st) h := X_of dX4_fill_42 rfl
theorem x_X4_fill_43 {v0 v1 v2 v3 v5 v6 v7 v8 : AV} {z : Option Nat} {st : List AV} {h : AH} : X mX4_fill 43 [v0, v1, v2, v3, aR z, v5, v6, v7, v8] st h = X mX4_fill 45 [v0, v1, v2, v3, aR z, v5, v6, v7, v8] (aR z :: st) h := X_of dX4_fill_43 rfl
theorem x_X4_fill_45 {a : Nat} {al st : List AV} {h : AH} : X mX4_fill 45 al (aR (some a) :: st) h = gK (rd h 1 a 1) fun v => X mX4_fill 48 al (v :: st) h := x_get dX4_fill_45 fT_4_127
theorem x_X4_fill_48 {a0 : Nat} {a1 : Int} {a2 : Int} {al : List AV} {h : AH} (ho : isO h 3 a0 = true) : X mX4_fill 48 al [aI a2, aI a1, aR (some a0)] h = cK (E mX3_hasPlaces [aR (some a0), aI a1, aI a2] h) fun v h2 => X mX4_fill 51 al (v.toList ++ []) h2 := x_cal (as := [aR (some a0), aI a1, aI a2]) (rest := []) dX4_fill_48 (fun _ => rfl) cT_4_93 rfl rfl ho
theorem x_X4_fill_51 {a : Int} {al st : List AV} {h : AH} : X mX4_fill 51 al (aI a :: st) h = if ¬ a = 0 then X mX4_fill 60 al st h else X mX4_fill 54 al st h := x_ne0 dX4_fill_51 rfl
theorem x_X4_fill_54 {v1 v2 v3 v4 v5 v6 v7 v8 : AV} {z : Option Nat} {st : List AV} {h : AH} : X mX4_fill 54 [aR z, v1, v2, v3, v4, v5, v6, v7, v8] st h = X mX4_fill 55 [aR z, v1, v2, v3, v4, v5, v6, v7, v8] (aR z :: st) h := X_of dX4_fill_54 rfl
theorem x_X4_fill_55 {al st : List AV} {h : AH} : X mX4_fill 55 al st h = X mX4_fill 56 al (aI 2 :: st) h := X_of dX4_fill_55 rfl
theorem x_X4_fill_56 {a0 : Nat} {a1 : Int} {al : List AV} {h : AH} (ho : isO h 4 a0 = true) : X mX4_fill 56 al [aI a1, aR (some a0)] h = cK (E mX4_found [aR (some a0), aI a1] h) fun v h2 => X mX4_fill 59 al (v.toList ++ []) h2 := x_cal (as := [aR (some a0), aI a1]) (rest := []) dX4_fill_56 (fun _ => rfl) cT_4_79 rfl rfl ho
theorem x_X4_fill_59 {z : Int} {al : List AV} {h : AH} : X mX4_fill 59 al [aI z] h = some (some (aI z), h) := X_ofR dX4_fill_59 rfl
theorem x_X4_fill_60 {al st : List AV} {h : AH} : X mX4_fill 60 al st h = X mX4_fill 61 al (aI 0 :: st) h := X_of dX4_fill_60 rfl
theorem x_X4_fill_61 {v0 v1 v2 v3 v4 v6 v7 v8 : AV} {y : Option Nat} {z : Int} {st : List AV} {h : AH} : X mX4_fill 61 [v0, v1, v2, v3, v4, aR y, v6, v7, v8] (aI z :: st) h = X mX4_fill 63 [v0, v1, v2, v3, v4, aR y, aI z, v7, v8] st h := X_of dX4_fill_61 rfl
theorem x_X4_fill_63 {v0 v1 v2 v3 v4 v5 v7 v8 : AV} {z : Int} {st : List AV} {h : AH} : X mX4_fill 63 [v0, v1, v2, v3, v4, v5, aI z, v7, v8] st h = X mX4_fill 65 [v0, v1, v2, v3, v4, v5, aI z, v7, v8] (aI z :: st) h := X_of dX4_fill_63 rfl
theorem x_X4_fill_65 {v0 v1 v2 v3 v5 v6 v7 v8 : AV} {z : Option Nat} {st : List AV} {h : AH} : X mX4_fill 65 [v0, v1, v2, v3, aR z, v5, v6, v7, v8] st h = X mX4_fill 67 [v0, v1, v2, v3, aR z, v5, v6, v7, v8] (aR z :: st) h := X_of dX4_fill_65 rfl
theorem x_X4_fill_67 {a : Nat} {al st : List AV} {h : AH} : X mX4_fill 67 al (aR (some a) :: st) h = gK (rd h 1 a 1) fun v => X mX4_fill 70 al (v :: st) h := x_get dX4_fill_67 fT_4_127
theorem x_X4_fill_70 {a b : Int} {al st : List AV} {h : AH} : X mX4_fill 70 al (aI b :: aI a :: st) h = if b ≤ a then X mX4_fill 118 al st h else X mX4_fill 73 al st h := x_geC dX4_fill_70 rfl
theorem x_X4_fill_73 {v0 v1 v2 v3 v4 v6 v7 v8 : AV} {z : Option Nat} {st : List AV} {h : AH} : X mX4_fill 73 [v0, v1, v2, v3, v4, aR z, v6, v7, v8] st h = X mX4_fill 75 [v0, v1, v2, v3, v4, aR z, v6, v7, v8] (aR z :: st) h := X_of dX4_fill_73 rfl
theorem x_X4_fill_75 {v0 v1 v2 v4 v5 v6 v7 v8 : AV} {z : Int} {st : List AV} {h : AH} : X mX4_fill 75 [v0, v1, v2, aI z, v4, v5, v6, v7, v8] st h = X mX4_fill 76 [v0, v1, v2, aI z, v4, v5, v6, v7, v8] (aI z :: st) h := X_of dX4_fill_75 rfl
theorem x_X4_fill_76 {v0 v1 v2 v3 v4 v5 v7 v8 : AV} {z : Int} {st : List AV} {h : AH} : X mX4_fill 76 [v0, v1, v2, v3, v4, v5, aI z, v7, v8] st h = X mX4_fill 78 [v0, v1, v2, v3, v4, v5, aI z, v7, v8] (aI z :: st) h := X_of dX4_fill_76 rfl
theorem x_X4_fill_78 {a b : Int} {al st : List AV} {h : AH} : X mX4_fill 78 al (aI b :: aI a :: st) h = X mX4_fill 79 al (aI (w32 (a + b)) :: st) h := X_of dX4_fill_78 rfl
theorem x_X4_fill_79 {a0 : Nat} {a1 : Int} {al : List AV} {h : AH} (ho : isO h 3 a0 = true) : X mX4_fill 79 al [aI a1, aR (some a0)] h = cK (E mX3_placeAt [aR (some a0), aI a1] h) fun v h2 => X mX4_fill 82 al (v.toList ++ []) h2 := x_cal (as := [aR (some a0), aI a1]) (rest := []) dX4_fill_79 (fun _ => rfl) cT_4_101 rfl rfl ho
theorem x_X4_fill_82 {v0 v1 v2 v3 v4 v5 v7 v8 : AV} {y : Int} {z : Int} {st : List AV} {h : AH} : X mX4_fill 82 [v0, v1, v2, v3, v4, v5, aI y, v7, v8] (aJ z :: st) h = X mX4_fill 84 [v0, v1, v2, v3, v4, v5, aI y, aJ z, aU] st h := X_of dX4_fill_82 rfl
theorem x_X4_fill_84 {v0 v1 v2 v3 v4 v5 v6 v8 : AV} {z : Int} {st : List AV} {h : AH} : X mX4_fill 84 [v0, v1, v2, v3, v4, v5, v6, aJ z, v8] st h = X mX4_fill 86 [v0, v1, v2, v3, v4, v5, v6, aJ z, v8] (aJ z :: st) h := X_of dX4_fill_84 rfl
theorem x_X4_fill_86 {a0 : Int} {al : List AV} {h : AH} : X mX4_fill 86 al [aJ a0] h = cK (E mX4_isPay [aJ a0] h) fun v h2 => X mX4_fill 89 al (v.toList ++ []) h2 := x_cal (as := [aJ a0]) (rest := []) dX4_fill_86 (fun _ => rfl) cT_4_133 rfl rfl rfl
theorem x_X4_fill_89 {a : Int} {al st : List AV} {h : AH} : X mX4_fill 89 al (aI a :: st) h = if a = 0 then X mX4_fill 109 al st h else X mX4_fill 92 al st h := x_eq0 dX4_fill_89 rfl
theorem x_X4_fill_92 {v0 v1 v2 v3 v4 v5 v6 v8 : AV} {z : Int} {st : List AV} {h : AH} : X mX4_fill 92 [v0, v1, v2, v3, v4, v5, v6, aJ z, v8] st h = X mX4_fill 94 [v0, v1, v2, v3, v4, v5, v6, aJ z, v8] (aJ z :: st) h := X_of dX4_fill_92 rfl
theorem x_X4_fill_94 {al st : List AV} {h : AH} : X mX4_fill 94 al st h = X mX4_fill 95 al (aJ 0 :: st) h := X_of dX4_fill_94 rfl
theorem x_X4_fill_95 {a b : Int} {al st : List AV} {h : AH} : X mX4_fill 95 al (aJ b :: aJ a :: st) h = X mX4_fill 96 al (aI (fCmp a b) :: st) h := X_of dX4_fill_95 rfl
theorem x_X4_fill_96 {a : Int} {al st : List AV} {h : AH} : X mX4_fill 96 al (aI a :: st) h = if a = 0 then X mX4_fill 112 al st h else X mX4_fill 99 al st h := x_eq0 dX4_fill_96 rfl
theorem x_X4_fill_99 {v0 v1 v2 v3 v5 v6 v7 v8 : AV} {z : Option Nat} {st : List AV} {h : AH} : X mX4_fill 99 [v0, v1, v2, v3, aR z, v5, v6, v7, v8] st h = X mX4_fill 101 [v0, v1, v2, v3, aR z, v5, v6, v7, v8] (aR z :: st) h := X_of dX4_fill_99 rfl
theorem x_X4_fill_101 {v0 v1 v2 v3 v4 v5 v7 v8 : AV} {z : Int} {st : List AV} {h : AH} : X mX4_fill 101 [v0, v1, v2, v3, v4, v5, aI z, v7, v8] st h = X mX4_fill 103 [v0, v1, v2, v3, v4, v5, aI z, v7, v8] (aI z :: st) h := X_of dX4_fill_101 rfl
theorem x_X4_fill_103 {a0 : Nat} {a1 : Int} {al : List AV} {h : AH} (ho : isO h 1 a0 = true) : X mX4_fill 103 al [aI a1, aR (some a0)] h = cK (E mX1_mayPay [aR (some a0), aI a1] h) fun v h2 => X mX4_fill 106 al (v.toList ++ []) h2 := x_cal (as := [aR (some a0), aI a1]) (rest := []) dX4_fill_103 (fun _ => rfl) cT_4_140 rfl rfl ho
theorem x_X4_fill_106 {a : Int} {al st : List AV} {h : AH} : X mX4_fill 106 al (aI a :: st) h = if ¬ a = 0 then X mX4_fill 112 al st h else X mX4_fill 109 al st h := x_ne0 dX4_fill_106 rfl
theorem x_X4_fill_109 {al st : List AV} {h : AH} : X mX4_fill 109 al st h = X mX4_fill 111 al (aI (-4) :: st) h := X_of dX4_fill_109 rfl
theorem x_X4_fill_111 {z : Int} {al : List AV} {h : AH} : X mX4_fill 111 al [aI z] h = some (some (aI z), h) := X_ofR dX4_fill_111 rfl
theorem x_X4_fill_112 {v0 v1 v2 v3 v4 v7 v8 : AV} {y : Option Nat} {z : Int} {st : List AV} {h : AH} : X mX4_fill 112 [v0, v1, v2, v3, v4, aR y, aI z, v7, v8] st h = X mX4_fill 115 [v0, v1, v2, v3, v4, aR y, aI (w32 (z + 1)), v7, v8] st h := X_of dX4_fill_112 rfl
theorem x_X4_fill_115 {al st : List AV} {h : AH} : X mX4_fill 115 al st h = X mX4_fill 63 al st h := X_of dX4_fill_115 rfl
theorem x_X4_fill_118 {al st : List AV} {h : AH} : X mX4_fill 118 al st h = X mX4_fill 119 al (aI 0 :: st) h := X_of dX4_fill_118 rfl
theorem x_X4_fill_119 {v0 v1 v2 v3 v4 v6 v7 v8 : AV} {y : Option Nat} {z : Int} {st : List AV} {h : AH} : X mX4_fill 119 [v0, v1, v2, v3, v4, aR y, v6, v7, v8] (aI z :: st) h = X mX4_fill 121 [v0, v1, v2, v3, v4, aR y, aI z, v7, v8] st h := X_of dX4_fill_119 rfl
theorem x_X4_fill_121 {v0 v1 v2 v3 v4 v5 v7 v8 : AV} {z : Int} {st : List AV} {h : AH} : X mX4_fill 121 [v0, v1, v2, v3, v4, v5, aI z, v7, v8] st h = X mX4_fill 123 [v0, v1, v2, v3, v4, v5, aI z, v7, v8] (aI z :: st) h := X_of dX4_fill_121 rfl
theorem x_X4_fill_123 {v0 v1 v2 v3 v5 v6 v7 v8 : AV} {z : Option Nat} {st : List AV} {h : AH} : X mX4_fill 123 [v0, v1, v2, v3, aR z, v5, v6, v7, v8] st h = X mX4_fill 125 [v0, v1, v2, v3, aR z, v5, v6, v7, v8] (aR z :: st) h := X_of dX4_fill_123 rfl
theorem x_X4_fill_125 {a : Nat} {al st : List AV} {h : AH} : X mX4_fill 125 al (aR (some a) :: st) h = gK (rd h 1 a 1) fun v => X mX4_fill 128 al (v :: st) h := x_get dX4_fill_125 fT_4_127
theorem x_X4_fill_128 {a b : Int} {al st : List AV} {h : AH} : X mX4_fill 128 al (aI b :: aI a :: st) h = if b ≤ a then X mX4_fill 154 al st h else X mX4_fill 131 al st h := x_geC dX4_fill_128 rfl
theorem x_X4_fill_131 {v0 v1 v2 v3 v5 v6 v7 v8 : AV} {z : Option Nat} {st : List AV} {h : AH} : X mX4_fill 131 [v0, v1, v2, v3, aR z, v5, v6, v7, v8] st h = X mX4_fill 133 [v0, v1, v2, v3, aR z, v5, v6, v7, v8] (aR z :: st) h := X_of dX4_fill_131 rfl
theorem x_X4_fill_133 {v0 v1 v2 v3 v4 v5 v7 v8 : AV} {z : Int} {st : List AV} {h : AH} : X mX4_fill 133 [v0, v1, v2, v3, v4, v5, aI z, v7, v8] st h = X mX4_fill 135 [v0, v1, v2, v3, v4, v5, aI z, v7, v8] (aI z :: st) h := X_of dX4_fill_133 rfl
theorem x_X4_fill_135 {v0 v1 v2 v3 v4 v6 v7 v8 : AV} {z : Option Nat} {st : List AV} {h : AH} : X mX4_fill 135 [v0, v1, v2, v3, v4, aR z, v6, v7, v8] st h = X mX4_fill 137 [v0, v1, v2, v3, v4, aR z, v6, v7, v8] (aR z :: st) h := X_of dX4_fill_135 rfl
theorem x_X4_fill_137 {v0 v1 v2 v4 v5 v6 v7 v8 : AV} {z : Int} {st : List AV} {h : AH} : X mX4_fill 137 [v0, v1, v2, aI z, v4, v5, v6, v7, v8] st h = X mX4_fill 138 [v0, v1, v2, aI z, v4, v5, v6, v7, v8] (aI z :: st) h := X_of dX4_fill_137 rfl
theorem x_X4_fill_138 {v0 v1 v2 v3 v4 v5 v7 v8 : AV} {z : Int} {st : List AV} {h : AH} : X mX4_fill 138 [v0, v1, v2, v3, v4, v5, aI z, v7, v8] st h = X mX4_fill 140 [v0, v1, v2, v3, v4, v5, aI z, v7, v8] (aI z :: st) h := X_of dX4_fill_138 rfl
theorem x_X4_fill_140 {a b : Int} {al st : List AV} {h : AH} : X mX4_fill 140 al (aI b :: aI a :: st) h = X mX4_fill 141 al (aI (w32 (a + b)) :: st) h := X_of dX4_fill_140 rfl
theorem x_X4_fill_141 {a0 : Nat} {a1 : Int} {r0 : Int} {r1 : Option Nat} {al : List AV} {h : AH} (ho : isO h 3 a0 = true) : X mX4_fill 141 al [aI a1, aR (some a0), aI r0, aR r1] h = cK (E mX3_placeAt [aR (some a0), aI a1] h) fun v h2 => X mX4_fill 144 al (v.toList ++ [aI r0, aR r1]) h2 := x_cal (as := [aR (some a0), aI a1]) (rest := [aI r0, aR r1]) dX4_fill_141 (fun _ => rfl) cT_4_101 rfl rfl ho
theorem x_X4_fill_144 {a : Int} {al st : List AV} {h : AH} : X mX4_fill 144 al (aJ a :: st) h = X mX4_fill 145 al (aI (w32 a) :: st) h := X_of dX4_fill_144 rfl
theorem x_X4_fill_145 {a0 : Nat} {a1 : Int} {a2 : Int} {al : List AV} {h : AH} (ho : isO h 1 a0 = true) : X mX4_fill 145 al [aI a2, aI a1, aR (some a0)] h = cK (E mX1_setPay [aR (some a0), aI a1, aI a2] h) fun v h2 => X mX4_fill 148 al (v.toList ++ []) h2 := x_cal (as := [aR (some a0), aI a1, aI a2]) (rest := []) dX4_fill_145 (fun _ => rfl) cT_4_146 rfl rfl ho
theorem x_X4_fill_148 {v0 v1 v2 v3 v4 v7 v8 : AV} {y : Option Nat} {z : Int} {st : List AV} {h : AH} : X mX4_fill 148 [v0, v1, v2, v3, v4, aR y, aI z, v7, v8] st h = X mX4_fill 151 [v0, v1, v2, v3, v4, aR y, aI (w32 (z + 1)), v7, v8] st h := X_of dX4_fill_148 rfl
theorem x_X4_fill_151 {al st : List AV} {h : AH} : X mX4_fill 151 al st h = X mX4_fill 121 al st h := X_of dX4_fill_151 rfl
theorem x_X4_fill_154 {v0 v1 v2 v3 v5 v6 v7 v8 : AV} {z : Option Nat} {st : List AV} {h : AH} : X mX4_fill 154 [v0, v1, v2, v3, aR z, v5, v6, v7, v8] st h = X mX4_fill 156 [v0, v1, v2, v3, aR z, v5, v6, v7, v8] (aR z :: st) h := X_of dX4_fill_154 rfl
theorem x_X4_fill_156 {a : Nat} {al st : List AV} {h : AH} : X mX4_fill 156 al (aR (some a) :: st) h = gK (rd h 1 a 1) fun v => X mX4_fill 159 al (v :: st) h := x_get dX4_fill_156 fT_4_127
theorem x_X4_fill_159 {z : Int} {al : List AV} {h : AH} : X mX4_fill 159 al [aI z] h = some (some (aI z), h) := X_ofR dX4_fill_159 rfl
theorem e_X4_ask {p0 : Option Nat} {p1 : Int} {p2 : Int} {p3 : Int} {h : AH} : E mX4_ask [aR p0, aI p1, aI p2, aI p3] h = X mX4_ask 0 [aR p0, aI p1, aI p2, aI p3, aU] [] h := rfl
theorem x_X4_ask_0 {v1 v2 v3 v4 : AV} {z : Option Nat} {st : List AV} {h : AH} : X mX4_ask 0 [aR z, v1, v2, v3, v4] st h = X mX4_ask 1 [aR z, v1, v2, v3, v4] (aR z :: st) h := X_of dX4_ask_0 rfl
theorem x_X4_ask_1 {v0 v2 v3 v4 : AV} {z : Int} {st : List AV} {h : AH} : X mX4_ask 1 [v0, aI z, v2, v3, v4] st h = X mX4_ask 2 [v0, aI z, v2, v3, v4] (aI z :: st) h := X_of dX4_ask_1 rfl
theorem x_X4_ask_2 {a0 : Nat} {a1 : Int} {al : List AV} {h : AH} (ho : isO h 4 a0 = true) : X mX4_ask 2 al [aI a1, aR (some a0)] h = cK (E mX4_machineAt [aR (some a0), aI a1] h) fun v h2 => X mX4_ask 5 al (v.toList ++ []) h2 := x_cal (as := [aR (some a0), aI a1]) (rest := []) dX4_ask_2 (fun _ => rfl) cT_4_71 rfl rfl ho
theorem x_X4_ask_5 {v0 v1 v2 v4 : AV} {y : Int} {z : Option Nat} {st : List AV} {h : AH} : X mX4_ask 5 [v0, v1, v2, aI y, v4] (aR z :: st) h = X mX4_ask 7 [v0, v1, v2, aI y, aR z] st h := X_of dX4_ask_5 rfl
theorem x_X4_ask_7 {v0 v1 v2 v3 : AV} {z : Option Nat} {st : List AV} {h : AH} : X mX4_ask 7 [v0, v1, v2, v3, aR z] st h = X mX4_ask 9 [v0, v1, v2, v3, aR z] (aR z :: st) h := X_of dX4_ask_7 rfl
theorem x_X4_ask_9n {al st : List AV} {h : AH} : X mX4_ask 9 al (aR none :: st) h = X mX4_ask 12 al st h := X_of dX4_ask_9 rfl
theorem x_X4_ask_9s {a : Nat} {al st : List AV} {h : AH} : X mX4_ask 9 al (aR (some a) :: st) h = X mX4_ask 14 al st h := X_of dX4_ask_9 rfl
theorem x_X4_ask_12 {al st : List AV} {h : AH} : X mX4_ask 12 al st h = X mX4_ask 13 al (aI (-1) :: st) h := X_of dX4_ask_12 rfl
theorem x_X4_ask_13 {z : Int} {al : List AV} {h : AH} : X mX4_ask 13 al [aI z] h = some (some (aI z), h) := X_ofR dX4_ask_13 rfl
theorem x_X4_ask_14 {v0 v1 v2 v3 : AV} {z : Option Nat} {st : List AV} {h : AH} : X mX4_ask 14 [v0, v1, v2, v3, aR z] st h = X mX4_ask 16 [v0, v1, v2, v3, aR z] (aR z :: st) h := X_of dX4_ask_14 rfl
theorem x_X4_ask_16 {v0 v1 v3 v4 : AV} {z : Int} {st : List AV} {h : AH} : X mX4_ask 16 [v0, v1, aI z, v3, v4] st h = X mX4_ask 17 [v0, v1, aI z, v3, v4] (aI z :: st) h := X_of dX4_ask_16 rfl
theorem x_X4_ask_17 {a0 : Nat} {a1 : Int} {al : List AV} {h : AH} (ho : isO h 1 a0 = true) : X mX4_ask 17 al [aI a1, aR (some a0)] h = cK (E mX1_has [aR (some a0), aI a1] h) fun v h2 => X mX4_ask 20 al (v.toList ++ []) h2 := x_cal (as := [aR (some a0), aI a1]) (rest := []) dX4_ask_17 (fun _ => rfl) cT_4_137 rfl rfl ho
theorem x_X4_ask_20 {a : Int} {al st : List AV} {h : AH} : X mX4_ask 20 al (aI a :: st) h = if ¬ a = 0 then X mX4_ask 29 al st h else X mX4_ask 23 al st h := x_ne0 dX4_ask_20 rfl
theorem x_X4_ask_23 {v1 v2 v3 v4 : AV} {z : Option Nat} {st : List AV} {h : AH} : X mX4_ask 23 [aR z, v1, v2, v3, v4] st h = X mX4_ask 24 [aR z, v1, v2, v3, v4] (aR z :: st) h := X_of dX4_ask_23 rfl
theorem x_X4_ask_24 {al st : List AV} {h : AH} : X mX4_ask 24 al st h = X mX4_ask 25 al (aI 2 :: st) h := X_of dX4_ask_24 rfl
theorem x_X4_ask_25 {a0 : Nat} {a1 : Int} {al : List AV} {h : AH} (ho : isO h 4 a0 = true) : X mX4_ask 25 al [aI a1, aR (some a0)] h = cK (E mX4_found [aR (some a0), aI a1] h) fun v h2 => X mX4_ask 28 al (v.toList ++ []) h2 := x_cal (as := [aR (some a0), aI a1]) (rest := []) dX4_ask_25 (fun _ => rfl) cT_4_79 rfl rfl ho
theorem x_X4_ask_28 {z : Int} {al : List AV} {h : AH} : X mX4_ask 28 al [aI z] h = some (some (aI z), h) := X_ofR dX4_ask_28 rfl
theorem x_X4_ask_29 {v0 v1 v2 v4 : AV} {z : Int} {st : List AV} {h : AH} : X mX4_ask 29 [v0, v1, v2, aI z, v4] st h = X mX4_ask 30 [v0, v1, v2, aI z, v4] (aI z :: st) h := X_of dX4_ask_29 rfl
theorem x_X4_ask_30 {a : Int} {al st : List AV} {h : AH} : X mX4_ask 30 al (aI a :: st) h = if a < 0 then X mX4_ask 42 al st h else X mX4_ask 33 al st h := x_lt0 dX4_ask_30 rfl
theorem x_X4_ask_33 {v0 v1 v2 v4 : AV} {z : Int} {st : List AV} {h : AH} : X mX4_ask 33 [v0, v1, v2, aI z, v4] st h = X mX4_ask 34 [v0, v1, v2, aI z, v4] (aI z :: st) h := X_of dX4_ask_33 rfl
theorem x_X4_ask_34 {v0 v1 v2 v3 : AV} {z : Option Nat} {st : List AV} {h : AH} : X mX4_ask 34 [v0, v1, v2, v3, aR z] st h = X mX4_ask 36 [v0, v1, v2, v3, aR z] (aR z :: st) h := X_of dX4_ask_34 rfl
theorem x_X4_ask_36 {a : Nat} {al st : List AV} {h : AH} : X mX4_ask 36 al (aR (some a) :: st) h = gK (rd h 1 a 1) fun v => X mX4_ask 39 al (v :: st) h := x_get dX4_ask_36 fT_4_127
theorem x_X4_ask_39 {a b : Int} {al st : List AV} {h : AH} : X mX4_ask 39 al (aI b :: aI a :: st) h = if a ≤ b then X mX4_ask 44 al st h else X mX4_ask 42 al st h := x_leC dX4_ask_39 rfl
theorem x_X4_ask_42 {al st : List AV} {h : AH} : X mX4_ask 42 al st h = X mX4_ask 43 al (aI (-1) :: st) h := X_of dX4_ask_42 rfl
theorem x_X4_ask_43 {z : Int} {al : List AV} {h : AH} : X mX4_ask 43 al [aI z] h = some (some (aI z), h) := X_ofR dX4_ask_43 rfl
theorem x_X4_ask_44 {v1 v2 v3 v4 : AV} {z : Option Nat} {st : List AV} {h : AH} : X mX4_ask 44 [aR z, v1, v2, v3, v4] st h = X mX4_ask 45 [aR z, v1, v2, v3, v4] (aR z :: st) h := X_of dX4_ask_44 rfl
theorem x_X4_ask_45 {v0 v1 v2 v4 : AV} {z : Int} {st : List AV} {h : AH} : X mX4_ask 45 [v0, v1, v2, aI z, v4] st h = X mX4_ask 46 [v0, v1, v2, aI z, v4] (aI z :: st) h := X_of dX4_ask_45 rfl
theorem x_X4_ask_46 {a : Int} {al st : List AV} {h : AH} : X mX4_ask 46 al (aI a :: st) h = if ¬ a = 0 then X mX4_ask 59 al st h else X mX4_ask 49 al st h := x_ne0 dX4_ask_46 rfl
theorem x_X4_ask_49 {v0 v1 v2 v3 : AV} {z : Option Nat} {st : List AV} {h : AH} : X mX4_ask 49 [v0, v1, v2, v3, aR z] st h = X mX4_ask 51 [v0, v1, v2, v3, aR z] (aR z :: st) h := X_of dX4_ask_49 rfl
theorem x_X4_ask_51 {v0 v1 v3 v4 : AV} {z : Int} {st : List AV} {h : AH} : X mX4_ask 51 [v0, v1, aI z, v3, v4] st h = X mX4_ask 52 [v0, v1, aI z, v3, v4] (aI z :: st) h := X_of dX4_ask_51 rfl
theorem x_X4_ask_52 {a0 : Nat} {a1 : Int} {r0 : Option Nat} {al : List AV} {h : AH} (ho : isO h 1 a0 = true) : X mX4_ask 52 al [aI a1, aR (some a0), aR r0] h = cK (E mX1_payAt [aR (some a0), aI a1] h) fun v h2 => X mX4_ask 55 al (v.toList ++ [aR r0]) h2 := x_cal (as := [aR (some a0), aI a1]) (rest := [aR r0]) dX4_ask_52 (fun _ => rfl) cT_4_143 rfl rfl ho
theorem x_X4_ask_55 {a : Int} {al st : List AV} {h : AH} : X mX4_ask 55 al (aI a :: st) h = X mX4_ask 56 al (aJ a :: st) h := X_of dX4_ask_55 rfl
theorem x_X4_ask_56 {al st : List AV} {h : AH} : X mX4_ask 56 al st h = X mX4_ask 69 al st h := X_of dX4_ask_56 rfl
theorem x_X4_ask_59 {v0 v1 v2 v3 : AV} {z : Option Nat} {st : List AV} {h : AH} : X mX4_ask 59 [v0, v1, v2, v3, aR z] st h = X mX4_ask 61 [v0, v1, v2, v3, aR z] (aR z :: st) h := X_of dX4_ask_59 rfl
theorem x_X4_ask_61 {v0 v1 v3 v4 : AV} {z : Int} {st : List AV} {h : AH} : X mX4_ask 61 [v0, v1, aI z, v3, v4] st h = X mX4_ask 62 [v0, v1, aI z, v3, v4] (aI z :: st) h := X_of dX4_ask_61 rfl
theorem x_X4_ask_62 {v0 v1 v2 v4 : AV} {z : Int} {st : List AV} {h : AH} : X mX4_ask 62 [v0, v1, v2, aI z, v4] st h = X mX4_ask 63 [v0, v1, v2, aI z, v4] (aI z :: st) h := X_of dX4_ask_62 rfl
theorem x_X4_ask_63 {al st : List AV} {h : AH} : X mX4_ask 63 al st h = X mX4_ask 64 al (aI 1 :: st) h := X_of dX4_ask_63 rfl
theorem x_X4_ask_64 {a b : Int} {al st : List AV} {h : AH} : X mX4_ask 64 al (aI b :: aI a :: st) h = X mX4_ask 65 al (aI (w32 (a - b)) :: st) h := X_of dX4_ask_64 rfl
theorem x_X4_ask_65 {a0 : Nat} {a1 : Int} {a2 : Int} {r0 : Option Nat} {al : List AV} {h : AH} (ho : isO h 1 a0 = true) : X mX4_ask 65 al [aI a2, aI a1, aR (some a0), aR r0] h = cK (E mX1_weightAt [aR (some a0), aI a1, aI a2] h) fun v h2 => X mX4_ask 68 al (v.toList ++ [aR r0]) h2 := x_cal (as := [aR (some a0), aI a1, aI a2]) (rest := [aR r0]) dX4_ask_65 (fun _ => rfl) cT_4_149 rfl rfl ho
theorem x_X4_ask_68 {a : Int} {al st : List AV} {h : AH} : X mX4_ask 68 al (aI a :: st) h = X mX4_ask 69 al (aJ a :: st) h := X_of dX4_ask_68 rfl
theorem x_X4_ask_69 {a : Nat} {z : Int} {al st : List AV} {h : AH} : X mX4_ask 69 al (aJ z :: aR (some a) :: st) h = pK (rd h 4 a 13) (X mX4_ask 72 al st (wr h 4 a 13 (aJ z))) := x_put dX4_ask_69 fT_4_64 rfl rfl
theorem x_X4_ask_72 {al st : List AV} {h : AH} : X mX4_ask 72 al st h = X mX4_ask 73 al (aI 1 :: st) h := X_of dX4_ask_72 rfl
theorem x_X4_ask_73 {z : Int} {al : List AV} {h : AH} : X mX4_ask 73 al [aI z] h = some (some (aI z), h) := X_ofR dX4_ask_73 rfl
theorem e_X4_stand {p0 : Option Nat} {p1 : Int} {p2 : Int} {h : AH} : E mX4_stand [aR p0, aI p1, aI p2] h = X mX4_stand 0 [aR p0, aI p1, aI p2, aU, aU] [] h := rfl
theorem x_X4_stand_0 {v1 v2 v3 v4 : AV} {z : Option Nat} {st : List AV} {h : AH} : X mX4_stand 0 [aR z, v1, v2, v3, v4] st h = X mX4_stand 1 [aR z, v1, v2, v3, v4] (aR z :: st) h := X_of dX4_stand_0 rfl
theorem x_X4_stand_1 {v0 v2 v3 v4 : AV} {z : Int} {st : List AV} {h : AH} : X mX4_stand 1 [v0, aI z, v2, v3, v4] st h = X mX4_stand 2 [v0, aI z, v2, v3, v4] (aI z :: st) h := X_of dX4_stand_1 rfl
theorem x_X4_stand_2 {a0 : Nat} {a1 : Int} {al : List AV} {h : AH} (ho : isO h 4 a0 = true) : X mX4_stand 2 al [aI a1, aR (some a0)] h = cK (E mX4_machineAt [aR (some a0), aI a1] h) fun v h2 => X mX4_stand 5 al (v.toList ++ []) h2 := x_cal (as := [aR (some a0), aI a1]) (rest := []) dX4_stand_2 (fun _ => rfl) cT_4_71 rfl rfl ho
theorem x_X4_stand_5 {v0 v1 v3 v4 : AV} {y : Int} {z : Option Nat} {st : List AV} {h : AH} : X mX4_stand 5 [v0, v1, aI y, v3, v4] (aR z :: st) h = X mX4_stand 6 [v0, v1, aI y, aR z, v4] st h := X_of dX4_stand_5 rfl
theorem x_X4_stand_6 {v0 v1 v2 v4 : AV} {z : Option Nat} {st : List AV} {h : AH} : X mX4_stand 6 [v0, v1, v2, aR z, v4] st h = X mX4_stand 7 [v0, v1, v2, aR z, v4] (aR z :: st) h := X_of dX4_stand_6 rfl
theorem x_X4_stand_7n {al st : List AV} {h : AH} : X mX4_stand 7 al (aR none :: st) h = X mX4_stand 10 al st h := X_of dX4_stand_7 rfl
theorem x_X4_stand_7s {a : Nat} {al st : List AV} {h : AH} : X mX4_stand 7 al (aR (some a) :: st) h = X mX4_stand 12 al st h := X_of dX4_stand_7 rfl
theorem x_X4_stand_10 {al st : List AV} {h : AH} : X mX4_stand 10 al st h = X mX4_stand 11 al (aI (-1) :: st) h := X_of dX4_stand_10 rfl
theorem x_X4_stand_11 {z : Int} {al : List AV} {h : AH} : X mX4_stand 11 al [aI z] h = some (some (aI z), h) := X_ofR dX4_stand_11 rfl
theorem x_X4_stand_12 {v0 v1 v2 v4 : AV} {z : Option Nat} {st : List AV} {h : AH} : X mX4_stand 12 [v0, v1, v2, aR z, v4] st h = X mX4_stand 13 [v0, v1, v2, aR z, v4] (aR z :: st) h := X_of dX4_stand_12 rfl
theorem x_X4_stand_13 {v0 v1 v3 v4 : AV} {z : Int} {st : List AV} {h : AH} : X mX4_stand 13 [v0, v1, aI z, v3, v4] st h = X mX4_stand 14 [v0, v1, aI z, v3, v4] (aI z :: st) h := X_of dX4_stand_13 rfl
theorem x_X4_stand_14 {a0 : Nat} {a1 : Int} {al : List AV} {h : AH} (ho : isO h 1 a0 = true) : X mX4_stand 14 al [aI a1, aR (some a0)] h = cK (E mX1_has [aR (some a0), aI a1] h) fun v h2 => X mX4_stand 17 al (v.toList ++ []) h2 := x_cal (as := [aR (some a0), aI a1]) (rest := []) dX4_stand_14 (fun _ => rfl) cT_4_137 rfl rfl ho
theorem x_X4_stand_17 {a : Int} {al st : List AV} {h : AH} : X mX4_stand 17 al (aI a :: st) h = if ¬ a = 0 then X mX4_stand 26 al st h else X mX4_stand 20 al st h := x_ne0 dX4_stand_17 rfl
theorem x_X4_stand_20 {v1 v2 v3 v4 : AV} {z : Option Nat} {st : List AV} {h : AH} : X mX4_stand 20 [aR z, v1, v2, v3, v4] st h = X mX4_stand 21 [aR z, v1, v2, v3, v4] (aR z :: st) h := X_of dX4_stand_20 rfl
theorem x_X4_stand_21 {al st : List AV} {h : AH} : X mX4_stand 21 al st h = X mX4_stand 22 al (aI 2 :: st) h := X_of dX4_stand_21 rfl
theorem x_X4_stand_22 {a0 : Nat} {a1 : Int} {al : List AV} {h : AH} (ho : isO h 4 a0 = true) : X mX4_stand 22 al [aI a1, aR (some a0)] h = cK (E mX4_found [aR (some a0), aI a1] h) fun v h2 => X mX4_stand 25 al (v.toList ++ []) h2 := x_cal (as := [aR (some a0), aI a1]) (rest := []) dX4_stand_22 (fun _ => rfl) cT_4_79 rfl rfl ho
theorem x_X4_stand_25 {z : Int} {al : List AV} {h : AH} : X mX4_stand 25 al [aI z] h = some (some (aI z), h) := X_ofR dX4_stand_25 rfl
theorem x_X4_stand_26 {v0 v1 v2 v4 : AV} {z : Option Nat} {st : List AV} {h : AH} : X mX4_stand 26 [v0, v1, v2, aR z, v4] st h = X mX4_stand 27 [v0, v1, v2, aR z, v4] (aR z :: st) h := X_of dX4_stand_26 rfl
theorem x_X4_stand_27 {a : Nat} {al st : List AV} {h : AH} : X mX4_stand 27 al (aR (some a) :: st) h = gK (rd h 1 a 6) fun v => X mX4_stand 30 al (v :: st) h := x_get dX4_stand_27 fT_4_130
theorem x_X4_stand_30 {v0 v1 v2 v4 : AV} {y : Option Nat} {z : Int} {st : List AV} {h : AH} : X mX4_stand 30 [v0, v1, v2, aR y, v4] (aI z :: st) h = X mX4_stand 32 [v0, v1, v2, aR y, aI z] st h := X_of dX4_stand_30 rfl
theorem x_X4_stand_32 {v0 v1 v2 v4 : AV} {z : Option Nat} {st : List AV} {h : AH} : X mX4_stand 32 [v0, v1, v2, aR z, v4] st h = X mX4_stand 33 [v0, v1, v2, aR z, v4] (aR z :: st) h := X_of dX4_stand_32 rfl
theorem x_X4_stand_33 {v0 v1 v3 v4 : AV} {z : Int} {st : List AV} {h : AH} : X mX4_stand 33 [v0, v1, aI z, v3, v4] st h = X mX4_stand 34 [v0, v1, aI z, v3, v4] (aI z :: st) h := X_of dX4_stand_33 rfl
theorem x_X4_stand_34 {a : Nat} {z : Int} {al st : List AV} {h : AH} : X mX4_stand 34 al (aI z :: aR (some a) :: st) h = pK (rd h 1 a 6) (X mX4_stand 37 al st (wr h 1 a 6 (aI z))) := x_put dX4_stand_34 fT_4_130 rfl rfl
theorem x_X4_stand_37 {v0 v1 v2 v3 : AV} {z : Int} {st : List AV} {h : AH} : X mX4_stand 37 [v0, v1, v2, v3, aI z] st h = X mX4_stand 39 [v0, v1, v2, v3, aI z] (aI z :: st) h := X_of dX4_stand_37 rfl
theorem x_X4_stand_39 {z : Int} {al : List AV} {h : AH} : X mX4_stand 39 al [aI z] h = some (some (aI z), h) := X_ofR dX4_stand_39 rfl
theorem e_X4_worth {p0 : Option Nat} {p1 : Int} {p2 : Int} {h : AH} : E mX4_worth [aR p0, aI p1, aI p2] h = X mX4_worth 0 [aR p0, aI p1, aI p2, aU] [] h := rfl
theorem x_X4_worth_0 {v1 v2 v3 : AV} {z : Option Nat} {st : List AV} {h : AH} : X mX4_worth 0 [aR z, v1, v2, v3] st h = X mX4_worth 1 [aR z, v1, v2, v3] (aR z :: st) h := X_of dX4_worth_0 rfl
theorem x_X4_worth_1 {v0 v2 v3 : AV} {z : Int} {st : List AV} {h : AH} : X mX4_worth 1 [v0, aI z, v2, v3] st h = X mX4_worth 2 [v0, aI z, v2, v3] (aI z :: st) h := X_of dX4_worth_1 rfl
theorem x_X4_worth_2 {a0 : Nat} {a1 : Int} {al : List AV} {h : AH} (ho : isO h 4 a0 = true) : X mX4_worth 2 al [aI a1, aR (some a0)] h = cK (E mX4_machineAt [aR (some a0), aI a1] h) fun v h2 => X mX4_worth 5 al (v.toList ++ []) h2 := x_cal (as := [aR (some a0), aI a1]) (rest := []) dX4_worth_2 (fun _ => rfl) cT_4_71 rfl rfl ho
theorem x_X4_worth_5 {v0 v1 v3 : AV} {y : Int} {z : Option Nat} {st : List AV} {h : AH} : X mX4_worth 5 [v0, v1, aI y, v3] (aR z :: st) h = X mX4_worth 6 [v0, v1, aI y, aR z] st h := X_of dX4_worth_5 rfl
theorem x_X4_worth_6 {v0 v1 v2 : AV} {z : Option Nat} {st : List AV} {h : AH} : X mX4_worth 6 [v0, v1, v2, aR z] st h = X mX4_worth 7 [v0, v1, v2, aR z] (aR z :: st) h := X_of dX4_worth_6 rfl
theorem x_X4_worth_7n {al st : List AV} {h : AH} : X mX4_worth 7 al (aR none :: st) h = X mX4_worth 10 al st h := X_of dX4_worth_7 rfl
theorem x_X4_worth_7s {a : Nat} {al st : List AV} {h : AH} : X mX4_worth 7 al (aR (some a) :: st) h = X mX4_worth 12 al st h := X_of dX4_worth_7 rfl
theorem x_X4_worth_10 {al st : List AV} {h : AH} : X mX4_worth 10 al st h = X mX4_worth 11 al (aI (-1) :: st) h := X_of dX4_worth_10 rfl
theorem x_X4_worth_11 {z : Int} {al : List AV} {h : AH} : X mX4_worth 11 al [aI z] h = some (some (aI z), h) := X_ofR dX4_worth_11 rfl
theorem x_X4_worth_12 {v0 v1 v2 : AV} {z : Option Nat} {st : List AV} {h : AH} : X mX4_worth 12 [v0, v1, v2, aR z] st h = X mX4_worth 13 [v0, v1, v2, aR z] (aR z :: st) h := X_of dX4_worth_12 rfl
theorem x_X4_worth_13 {v0 v1 v3 : AV} {z : Int} {st : List AV} {h : AH} : X mX4_worth 13 [v0, v1, aI z, v3] st h = X mX4_worth 14 [v0, v1, aI z, v3] (aI z :: st) h := X_of dX4_worth_13 rfl
theorem x_X4_worth_14 {a0 : Nat} {a1 : Int} {al : List AV} {h : AH} (ho : isO h 1 a0 = true) : X mX4_worth 14 al [aI a1, aR (some a0)] h = cK (E mX1_has [aR (some a0), aI a1] h) fun v h2 => X mX4_worth 17 al (v.toList ++ []) h2 := x_cal (as := [aR (some a0), aI a1]) (rest := []) dX4_worth_14 (fun _ => rfl) cT_4_137 rfl rfl ho
theorem x_X4_worth_17 {a : Int} {al st : List AV} {h : AH} : X mX4_worth 17 al (aI a :: st) h = if ¬ a = 0 then X mX4_worth 26 al st h else X mX4_worth 20 al st h := x_ne0 dX4_worth_17 rfl
theorem x_X4_worth_20 {v1 v2 v3 : AV} {z : Option Nat} {st : List AV} {h : AH} : X mX4_worth 20 [aR z, v1, v2, v3] st h = X mX4_worth 21 [aR z, v1, v2, v3] (aR z :: st) h := X_of dX4_worth_20 rfl
theorem x_X4_worth_21 {al st : List AV} {h : AH} : X mX4_worth 21 al st h = X mX4_worth 22 al (aI 2 :: st) h := X_of dX4_worth_21 rfl
theorem x_X4_worth_22 {a0 : Nat} {a1 : Int} {al : List AV} {h : AH} (ho : isO h 4 a0 = true) : X mX4_worth 22 al [aI a1, aR (some a0)] h = cK (E mX4_found [aR (some a0), aI a1] h) fun v h2 => X mX4_worth 25 al (v.toList ++ []) h2 := x_cal (as := [aR (some a0), aI a1]) (rest := []) dX4_worth_22 (fun _ => rfl) cT_4_79 rfl rfl ho
theorem x_X4_worth_25 {z : Int} {al : List AV} {h : AH} : X mX4_worth 25 al [aI z] h = some (some (aI z), h) := X_ofR dX4_worth_25 rfl
theorem x_X4_worth_26 {v1 v2 v3 : AV} {z : Option Nat} {st : List AV} {h : AH} : X mX4_worth 26 [aR z, v1, v2, v3] st h = X mX4_worth 27 [aR z, v1, v2, v3] (aR z :: st) h := X_of dX4_worth_26 rfl
theorem x_X4_worth_27 {a : Nat} {al st : List AV} {h : AH} : X mX4_worth 27 al (aR (some a) :: st) h = gK (rd h 4 a 3) fun v => X mX4_worth 30 al (v :: st) h := x_get dX4_worth_27 fT_4_31
theorem x_X4_worth_30 {v1 v2 v3 : AV} {z : Option Nat} {st : List AV} {h : AH} : X mX4_worth 30 [aR z, v1, v2, v3] st h = X mX4_worth 31 [aR z, v1, v2, v3] (aR z :: st) h := X_of dX4_worth_30 rfl
theorem x_X4_worth_31 {v0 v1 v2 : AV} {z : Option Nat} {st : List AV} {h : AH} : X mX4_worth 31 [v0, v1, v2, aR z] st h = X mX4_worth 32 [v0, v1, v2, aR z] (aR z :: st) h := X_of dX4_worth_31 rfl
theorem x_X4_worth_32 {v0 v1 v3 : AV} {z : Int} {st : List AV} {h : AH} : X mX4_worth 32 [v0, v1, aI z, v3] st h = X mX4_worth 33 [v0, v1, aI z, v3] (aI z :: st) h := X_of dX4_worth_32 rfl
theorem x_X4_worth_33 {a0 : Nat} {a1 : Option Nat} {a2 : Int} {r0 : Option Nat} {al : List AV} {h : AH} (ho : isO h 4 a0 = true) : X mX4_worth 33 al [aI a2, aR a1, aR (some a0), aR r0] h = cK (E mX4_worthOf [aR (some a0), aR a1, aI a2] h) fun v h2 => X mX4_worth 36 al (v.toList ++ [aR r0]) h2 := x_cal (as := [aR (some a0), aR a1, aI a2]) (rest := [aR r0]) dX4_worth_33 (fun _ => rfl) cT_4_160 rfl rfl ho
theorem x_X4_worth_36 {a0 : Nat} {a1 : Option Nat} {al : List AV} {h : AH} (ho : isO h 0 a0 = true) : X mX4_worth 36 al [aR a1, aR (some a0)] h = cK (E mX0_take [aR (some a0), aR a1] h) fun v h2 => X mX4_worth 39 al (v.toList ++ []) h2 := x_cal (as := [aR (some a0), aR a1]) (rest := []) dX4_worth_36 (fun _ => rfl) cT_4_164 rfl rfl ho
theorem x_X4_worth_39 {al st : List AV} {h : AH} : X mX4_worth 39 al st h = X mX4_worth 40 al (aI 1 :: st) h := X_of dX4_worth_39 rfl
theorem x_X4_worth_40 {z : Int} {al : List AV} {h : AH} : X mX4_worth 40 al [aI z] h = some (some (aI z), h) := X_ofR dX4_worth_40 rfl
theorem e_X4_way {p0 : Option Nat} {p1 : Int} {p2 : Int} {p3 : Int} {h : AH} : E mX4_way [aR p0, aI p1, aI p2, aI p3] h = X mX4_way 0 [aR p0, aI p1, aI p2, aI p3, aU] [] h := rfl
theorem x_X4_way_0 {v1 v2 v3 v4 : AV} {z : Option Nat} {st : List AV} {h : AH} : X mX4_way 0 [aR z, v1, v2, v3, v4] st h = X mX4_way 1 [aR z, v1, v2, v3, v4] (aR z :: st) h := X_of dX4_way_0 rfl
theorem x_X4_way_1 {v0 v2 v3 v4 : AV} {z : Int} {st : List AV} {h : AH} : X mX4_way 1 [v0, aI z, v2, v3, v4] st h = X mX4_way 2 [v0, aI z, v2, v3, v4] (aI z :: st) h := X_of dX4_way_1 rfl
theorem x_X4_way_2 {a0 : Nat} {a1 : Int} {al : List AV} {h : AH} (ho : isO h 4 a0 = true) : X mX4_way 2 al [aI a1, aR (some a0)] h = cK (E mX4_machineAt [aR (some a0), aI a1] h) fun v h2 => X mX4_way 5 al (v.toList ++ []) h2 := x_cal (as := [aR (some a0), aI a1]) (rest := []) dX4_way_2 (fun _ => rfl) cT_4_71 rfl rfl ho
theorem x_X4_way_5 {v0 v1 v2 v4 : AV} {y : Int} {z : Option Nat} {st : List AV} {h : AH} : X mX4_way 5 [v0, v1, v2, aI y, v4] (aR z :: st) h = X mX4_way 7 [v0, v1, v2, aI y, aR z] st h := X_of dX4_way_5 rfl
theorem x_X4_way_7 {v0 v1 v2 v3 : AV} {z : Option Nat} {st : List AV} {h : AH} : X mX4_way 7 [v0, v1, v2, v3, aR z] st h = X mX4_way 9 [v0, v1, v2, v3, aR z] (aR z :: st) h := X_of dX4_way_7 rfl
theorem x_X4_way_9n {al st : List AV} {h : AH} : X mX4_way 9 al (aR none :: st) h = X mX4_way 22 al st h := X_of dX4_way_9 rfl
theorem x_X4_way_9s {a : Nat} {al st : List AV} {h : AH} : X mX4_way 9 al (aR (some a) :: st) h = X mX4_way 12 al st h := X_of dX4_way_9 rfl
theorem x_X4_way_12 {v0 v1 v2 v4 : AV} {z : Int} {st : List AV} {h : AH} : X mX4_way 12 [v0, v1, v2, aI z, v4] st h = X mX4_way 13 [v0, v1, v2, aI z, v4] (aI z :: st) h := X_of dX4_way_12 rfl
theorem x_X4_way_13 {a : Int} {al st : List AV} {h : AH} : X mX4_way 13 al (aI a :: st) h = if a < 0 then X mX4_way 22 al st h else X mX4_way 16 al st h := x_lt0 dX4_way_13 rfl
theorem x_X4_way_16 {v0 v1 v2 v4 : AV} {z : Int} {st : List AV} {h : AH} : X mX4_way 16 [v0, v1, v2, aI z, v4] st h = X mX4_way 17 [v0, v1, v2, aI z, v4] (aI z :: st) h := X_of dX4_way_16 rfl
theorem x_X4_way_17 {al st : List AV} {h : AH} : X mX4_way 17 al st h = X mX4_way 19 al (aI 31 :: st) h := X_of dX4_way_17 rfl
theorem x_X4_way_19 {a b : Int} {al st : List AV} {h : AH} : X mX4_way 19 al (aI b :: aI a :: st) h = if a ≤ b then X mX4_way 24 al st h else X mX4_way 22 al st h := x_leC dX4_way_19 rfl
theorem x_X4_way_22 {al st : List AV} {h : AH} : X mX4_way 22 al st h = X mX4_way 23 al (aI (-1) :: st) h := X_of dX4_way_22 rfl
theorem x_X4_way_23 {z : Int} {al : List AV} {h : AH} : X mX4_way 23 al [aI z] h = some (some (aI z), h) := X_ofR dX4_way_23 rfl
theorem x_X4_way_24 {v0 v1 v2 v3 : AV} {z : Option Nat} {st : List AV} {h : AH} : X mX4_way 24 [v0, v1, v2, v3, aR z] st h = X mX4_way 26 [v0, v1, v2, v3, aR z] (aR z :: st) h := X_of dX4_way_24 rfl
theorem x_X4_way_26 {v0 v1 v3 v4 : AV} {z : Int} {st : List AV} {h : AH} : X mX4_way 26 [v0, v1, aI z, v3, v4] st h = X mX4_way 27 [v0, v1, aI z, v3, v4] (aI z :: st) h := X_of dX4_way_26 rfl
theorem x_X4_way_27 {a0 : Nat} {a1 : Int} {al : List AV} {h : AH} (ho : isO h 1 a0 = true) : X mX4_way 27 al [aI a1, aR (some a0)] h = cK (E mX1_has [aR (some a0), aI a1] h) fun v h2 => X mX4_way 30 al (v.toList ++ []) h2 := x_cal (as := [aR (some a0), aI a1]) (rest := []) dX4_way_27 (fun _ => rfl) cT_4_137 rfl rfl ho
theorem x_X4_way_30 {a : Int} {al st : List AV} {h : AH} : X mX4_way 30 al (aI a :: st) h = if ¬ a = 0 then X mX4_way 39 al st h else X mX4_way 33 al st h := x_ne0 dX4_way_30 rfl
theorem x_X4_way_33 {v1 v2 v3 v4 : AV} {z : Option Nat} {st : List AV} {h : AH} : X mX4_way 33 [aR z, v1, v2, v3, v4] st h = X mX4_way 34 [aR z, v1, v2, v3, v4] (aR z :: st) h := X_of dX4_way_33 rfl
theorem x_X4_way_34 {al st : List AV} {h : AH} : X mX4_way 34 al st h = X mX4_way 35 al (aI 2 :: st) h := X_of dX4_way_34 rfl
theorem x_X4_way_35 {a0 : Nat} {a1 : Int} {al : List AV} {h : AH} (ho : isO h 4 a0 = true) : X mX4_way 35 al [aI a1, aR (some a0)] h = cK (E mX4_found [aR (some a0), aI a1] h) fun v h2 => X mX4_way 38 al (v.toList ++ []) h2 := x_cal (as := [aR (some a0), aI a1]) (rest := []) dX4_way_35 (fun _ => rfl) cT_4_79 rfl rfl ho
theorem x_X4_way_38 {z : Int} {al : List AV} {h : AH} : X mX4_way 38 al [aI z] h = some (some (aI z), h) := X_ofR dX4_way_38 rfl
theorem x_X4_way_39 {v1 v2 v3 v4 : AV} {z : Option Nat} {st : List AV} {h : AH} : X mX4_way 39 [aR z, v1, v2, v3, v4] st h = X mX4_way 40 [aR z, v1, v2, v3, v4] (aR z :: st) h := X_of dX4_way_39 rfl
theorem x_X4_way_40 {a : Nat} {al st : List AV} {h : AH} : X mX4_way 40 al (aR (some a) :: st) h = gK (rd h 4 a 3) fun v => X mX4_way 43 al (v :: st) h := x_get dX4_way_40 fT_4_31
theorem x_X4_way_43 {v1 v2 v3 v4 : AV} {z : Option Nat} {st : List AV} {h : AH} : X mX4_way 43 [aR z, v1, v2, v3, v4] st h = X mX4_way 44 [aR z, v1, v2, v3, v4] (aR z :: st) h := X_of dX4_way_43 rfl
theorem x_X4_way_44 {a : Nat} {al st : List AV} {h : AH} : X mX4_way 44 al (aR (some a) :: st) h = gK (rd h 4 a 2) fun v => X mX4_way 47 al (v :: st) h := x_get dX4_way_44 fT_4_24
theorem x_X4_way_47 {v0 v1 v2 v3 : AV} {z : Option Nat} {st : List AV} {h : AH} : X mX4_way 47 [v0, v1, v2, v3, aR z] st h = X mX4_way 49 [v0, v1, v2, v3, aR z] (aR z :: st) h := X_of dX4_way_47 rfl
theorem x_X4_way_49 {v0 v1 v3 v4 : AV} {z : Int} {st : List AV} {h : AH} : X mX4_way 49 [v0, v1, aI z, v3, v4] st h = X mX4_way 50 [v0, v1, aI z, v3, v4] (aI z :: st) h := X_of dX4_way_49 rfl
theorem x_X4_way_50 {v0 v1 v2 v4 : AV} {z : Int} {st : List AV} {h : AH} : X mX4_way 50 [v0, v1, v2, aI z, v4] st h = X mX4_way 51 [v0, v1, v2, aI z, v4] (aI z :: st) h := X_of dX4_way_50 rfl
theorem x_X4_way_51 {v1 v2 v3 v4 : AV} {z : Option Nat} {st : List AV} {h : AH} : X mX4_way 51 [aR z, v1, v2, v3, v4] st h = X mX4_way 52 [aR z, v1, v2, v3, v4] (aR z :: st) h := X_of dX4_way_51 rfl
theorem x_X4_way_52 {a : Nat} {al st : List AV} {h : AH} : X mX4_way 52 al (aR (some a) :: st) h = gK (rd h 4 a 8) fun v => X mX4_way 55 al (v :: st) h := x_get dX4_way_52 fT_4_49
theorem x_X4_way_55 {v1 v2 v3 v4 : AV} {z : Option Nat} {st : List AV} {h : AH} : X mX4_way 55 [aR z, v1, v2, v3, v4] st h = X mX4_way 56 [aR z, v1, v2, v3, v4] (aR z :: st) h := X_of dX4_way_55 rfl
theorem x_X4_way_56 {a : Nat} {al st : List AV} {h : AH} : X mX4_way 56 al (aR (some a) :: st) h = gK (rd h 4 a 9) fun v => X mX4_way 59 al (v :: st) h := x_get dX4_way_56 fT_4_52
theorem x_X4_way_59 {a0 : Nat} {a1 : Option Nat} {a2 : Int} {a3 : Int} {a4 : Int} {a5 : Int} {r0 : Option Nat} {al : List AV} {h : AH} (ho : isO h 2 a0 = true) : X mX4_way 59 al [aI a5, aI a4, aI a3, aI a2, aR a1, aR (some a0), aR r0] h = cK (E mX2_valueOf [aR (some a0), aR a1, aI a2, aI a3, aI a4, aI a5] h) fun v h2 => X mX4_way 62 al (v.toList ++ [aR r0]) h2 := x_cal (as := [aR (some a0), aR a1, aI a2, aI a3, aI a4, aI a5]) (rest := [aR r0]) dX4_way_59 (fun _ => rfl) cT_4_168 rfl rfl ho
theorem x_X4_way_62 {a0 : Nat} {a1 : Option Nat} {al : List AV} {h : AH} (ho : isO h 0 a0 = true) : X mX4_way 62 al [aR a1, aR (some a0)] h = cK (E mX0_take [aR (some a0), aR a1] h) fun v h2 => X mX4_way 65 al (v.toList ++ []) h2 := x_cal (as := [aR (some a0), aR a1]) (rest := []) dX4_way_62 (fun _ => rfl) cT_4_164 rfl rfl ho
theorem x_X4_way_65 {al st : List AV} {h : AH} : X mX4_way 65 al st h = X mX4_way 66 al (aI 1 :: st) h := X_of dX4_way_65 rfl
theorem x_X4_way_66 {z : Int} {al : List AV} {h : AH} : X mX4_way 66 al [aI z] h = some (some (aI z), h) := X_ofR dX4_way_66 rfl
theorem e_X4_upper {p0 : Option Nat} {h : AH} : E mX4_upper [aR p0] h = X mX4_upper 0 [aR p0] [] h := rfl
theorem x_X4_upper_0 {z : Option Nat} {st : List AV} {h : AH} : X mX4_upper 0 [aR z] st h = X mX4_upper 1 [aR z] (aR z :: st) h := X_of dX4_upper_0 rfl
theorem x_X4_upper_1 {a : Nat} {al st : List AV} {h : AH} : X mX4_upper 1 al (aR (some a) :: st) h = gK (rd h 4 a 3) fun v => X mX4_upper 4 al (v :: st) h := x_get dX4_upper_1 fT_4_31
theorem x_X4_upper_4 {a : Nat} {al st : List AV} {h : AH} : X mX4_upper 4 al (aR (some a) :: st) h = gK (rd h 0 a 0) fun v => X mX4_upper 7 al (v :: st) h := x_get dX4_upper_4 fT_4_172
theorem x_X4_upper_7 {z : Int} {al : List AV} {h : AH} : X mX4_upper 7 al [aJ z] h = some (some (aJ z), h) := X_ofR dX4_upper_7 rfl
theorem e_X4_lower {p0 : Option Nat} {h : AH} : E mX4_lower [aR p0] h = X mX4_lower 0 [aR p0] [] h := rfl
theorem x_X4_lower_0 {z : Option Nat} {st : List AV} {h : AH} : X mX4_lower 0 [aR z] st h = X mX4_lower 1 [aR z] (aR z :: st) h := X_of dX4_lower_0 rfl
theorem x_X4_lower_1 {a : Nat} {al st : List AV} {h : AH} : X mX4_lower 1 al (aR (some a) :: st) h = gK (rd h 4 a 3) fun v => X mX4_lower 4 al (v :: st) h := x_get dX4_lower_1 fT_4_31
theorem x_X4_lower_4 {a : Nat} {al st : List AV} {h : AH} : X mX4_lower 4 al (aR (some a) :: st) h = gK (rd h 0 a 1) fun v => X mX4_lower 7 al (v :: st) h := x_get dX4_lower_4 fT_4_175
theorem x_X4_lower_7 {z : Int} {al : List AV} {h : AH} : X mX4_lower 7 al [aJ z] h = some (some (aJ z), h) := X_ofR dX4_lower_7 rfl
theorem e_X4_order {p0 : Option Nat} {p1 : Int} {p2 : Int} {h : AH} : E mX4_order [aR p0, aI p1, aI p2] h = X mX4_order 0 [aR p0, aI p1, aI p2, aU, aU] [] h := rfl
theorem x_X4_order_0 {v1 v2 v3 v4 : AV} {z : Option Nat} {st : List AV} {h : AH} : X mX4_order 0 [aR z, v1, v2, v3, v4] st h = X mX4_order 1 [aR z, v1, v2, v3, v4] (aR z :: st) h := X_of dX4_order_0 rfl
theorem x_X4_order_1 {v0 v2 v3 v4 : AV} {z : Int} {st : List AV} {h : AH} : X mX4_order 1 [v0, aI z, v2, v3, v4] st h = X mX4_order 2 [v0, aI z, v2, v3, v4] (aI z :: st) h := X_of dX4_order_1 rfl
theorem x_X4_order_2 {a0 : Nat} {a1 : Int} {al : List AV} {h : AH} (ho : isO h 4 a0 = true) : X mX4_order 2 al [aI a1, aR (some a0)] h = cK (E mX4_machineAt [aR (some a0), aI a1] h) fun v h2 => X mX4_order 5 al (v.toList ++ []) h2 := x_cal (as := [aR (some a0), aI a1]) (rest := []) dX4_order_2 (fun _ => rfl) cT_4_71 rfl rfl ho
theorem x_X4_order_5 {v0 v1 v3 v4 : AV} {y : Int} {z : Option Nat} {st : List AV} {h : AH} : X mX4_order 5 [v0, v1, aI y, v3, v4] (aR z :: st) h = X mX4_order 6 [v0, v1, aI y, aR z, v4] st h := X_of dX4_order_5 rfl
theorem x_X4_order_6 {v0 v1 v2 v4 : AV} {z : Option Nat} {st : List AV} {h : AH} : X mX4_order 6 [v0, v1, v2, aR z, v4] st h = X mX4_order 7 [v0, v1, v2, aR z, v4] (aR z :: st) h := X_of dX4_order_6 rfl
theorem x_X4_order_7n {al st : List AV} {h : AH} : X mX4_order 7 al (aR none :: st) h = X mX4_order 10 al st h := X_of dX4_order_7 rfl
theorem x_X4_order_7s {a : Nat} {al st : List AV} {h : AH} : X mX4_order 7 al (aR (some a) :: st) h = X mX4_order 12 al st h := X_of dX4_order_7 rfl
theorem x_X4_order_10 {al st : List AV} {h : AH} : X mX4_order 10 al st h = X mX4_order 11 al (aI (-1) :: st) h := X_of dX4_order_10 rfl
theorem x_X4_order_11 {z : Int} {al : List AV} {h : AH} : X mX4_order 11 al [aI z] h = some (some (aI z), h) := X_ofR dX4_order_11 rfl
theorem x_X4_order_12 {al st : List AV} {h : AH} : X mX4_order 12 al st h = X mX4_order 13 al (aI 0 :: st) h := X_of dX4_order_12 rfl
theorem x_X4_order_13 {v0 v1 v2 v4 : AV} {y : Option Nat} {z : Int} {st : List AV} {h : AH} : X mX4_order 13 [v0, v1, v2, aR y, v4] (aI z :: st) h = X mX4_order 15 [v0, v1, v2, aR y, aI z] st h := X_of dX4_order_13 rfl
theorem x_X4_order_15 {v0 v1 v2 v3 : AV} {z : Int} {st : List AV} {h : AH} : X mX4_order 15 [v0, v1, v2, v3, aI z] st h = X mX4_order 17 [v0, v1, v2, v3, aI z] (aI z :: st) h := X_of dX4_order_15 rfl
theorem x_X4_order_17 {v0 v1 v2 v4 : AV} {z : Option Nat} {st : List AV} {h : AH} : X mX4_order 17 [v0, v1, v2, aR z, v4] st h = X mX4_order 18 [v0, v1, v2, aR z, v4] (aR z :: st) h := X_of dX4_order_17 rfl
theorem x_X4_order_18 {a : Nat} {al st : List AV} {h : AH} : X mX4_order 18 al (aR (some a) :: st) h = gK (rd h 1 a 1) fun v => X mX4_order 21 al (v :: st) h := x_get dX4_order_18 fT_4_127
theorem x_X4_order_21 {a b : Int} {al st : List AV} {h : AH} : X mX4_order 21 al (aI b :: aI a :: st) h = if b ≤ a then X mX4_order 44 al st h else X mX4_order 24 al st h := x_geC dX4_order_21 rfl
theorem x_X4_order_24 {v1 v2 v3 v4 : AV} {z : Option Nat} {st : List AV} {h : AH} : X mX4_order 24 [aR z, v1, v2, v3, v4] st h = X mX4_order 25 [aR z, v1, v2, v3, v4] (aR z :: st) h := X_of dX4_order_24 rfl
theorem x_X4_order_25 {v0 v1 v2 v4 : AV} {z : Option Nat} {st : List AV} {h : AH} : X mX4_order 25 [v0, v1, v2, aR z, v4] st h = X mX4_order 26 [v0, v1, v2, aR z, v4] (aR z :: st) h := X_of dX4_order_25 rfl
theorem x_X4_order_26 {v0 v1 v2 v3 : AV} {z : Int} {st : List AV} {h : AH} : X mX4_order 26 [v0, v1, v2, v3, aI z] st h = X mX4_order 28 [v0, v1, v2, v3, aI z] (aI z :: st) h := X_of dX4_order_26 rfl
theorem x_X4_order_28 {a0 : Nat} {a1 : Option Nat} {a2 : Int} {al : List AV} {h : AH} (ho : isO h 4 a0 = true) : X mX4_order 28 al [aI a2, aR a1, aR (some a0)] h = cK (E mX4_rankOf [aR (some a0), aR a1, aI a2] h) fun v h2 => X mX4_order 31 al (v.toList ++ []) h2 := x_cal (as := [aR (some a0), aR a1, aI a2]) (rest := []) dX4_order_28 (fun _ => rfl) cT_4_178 rfl rfl ho
theorem x_X4_order_31 {v0 v1 v3 v4 : AV} {z : Int} {st : List AV} {h : AH} : X mX4_order 31 [v0, v1, aI z, v3, v4] st h = X mX4_order 32 [v0, v1, aI z, v3, v4] (aI z :: st) h := X_of dX4_order_31 rfl
theorem x_X4_order_32 {a b : Int} {al st : List AV} {h : AH} : X mX4_order 32 al (aI b :: aI a :: st) h = if ¬ a = b then X mX4_order 38 al st h else X mX4_order 35 al st h := x_neC dX4_order_32 rfl
theorem x_X4_order_35 {v0 v1 v2 v3 : AV} {z : Int} {st : List AV} {h : AH} : X mX4_order 35 [v0, v1, v2, v3, aI z] st h = X mX4_order 37 [v0, v1, v2, v3, aI z] (aI z :: st) h := X_of dX4_order_35 rfl
theorem x_X4_order_37 {z : Int} {al : List AV} {h : AH} : X mX4_order 37 al [aI z] h = some (some (aI z), h) := X_ofR dX4_order_37 rfl
theorem x_X4_order_38 {v0 v1 v2 : AV} {y : Option Nat} {z : Int} {st : List AV} {h : AH} : X mX4_order 38 [v0, v1, v2, aR y, aI z] st h = X mX4_order 41 [v0, v1, v2, aR y, aI (w32 (z + 1))] st h := X_of dX4_order_38 rfl
theorem x_X4_order_41 {al st : List AV} {h : AH} : X mX4_order 41 al st h = X mX4_order 15 al st h := X_of dX4_order_41 rfl
theorem x_X4_order_44 {al st : List AV} {h : AH} : X mX4_order 44 al st h = X mX4_order 46 al (aI (-9) :: st) h := X_of dX4_order_44 rfl
theorem x_X4_order_46 {z : Int} {al : List AV} {h : AH} : X mX4_order 46 al [aI z] h = some (some (aI z), h) := X_ofR dX4_order_46 rfl
theorem e_X4_goes {p0 : Option Nat} {p1 : Int} {p2 : Int} {h : AH} : E mX4_goes [aR p0, aI p1, aI p2] h = X mX4_goes 0 [aR p0, aI p1, aI p2, aU, aU, aU] [] h := rfl
theorem x_X4_goes_0 {v1 v2 v3 v4 v5 : AV} {z : Option Nat} {st : List AV} {h : AH} : X mX4_goes 0 [aR z, v1, v2, v3, v4, v5] st h = X mX4_goes 1 [aR z, v1, v2, v3, v4, v5] (aR z :: st) h := X_of dX4_goes_0 rfl
theorem x_X4_goes_1 {v0 v2 v3 v4 v5 : AV} {z : Int} {st : List AV} {h : AH} : X mX4_goes 1 [v0, aI z, v2, v3, v4, v5] st h = X mX4_goes 2 [v0, aI z, v2, v3, v4, v5] (aI z :: st) h := X_of dX4_goes_1 rfl
theorem x_X4_goes_2 {a0 : Nat} {a1 : Int} {al : List AV} {h : AH} (ho : isO h 4 a0 = true) : X mX4_goes 2 al [aI a1, aR (some a0)] h = cK (E mX4_machineAt [aR (some a0), aI a1] h) fun v h2 => X mX4_goes 5 al (v.toList ++ []) h2 := x_cal (as := [aR (some a0), aI a1]) (rest := []) dX4_goes_2 (fun _ => rfl) cT_4_71 rfl rfl ho
theorem x_X4_goes_5 {v0 v1 v3 v4 v5 : AV} {y : Int} {z : Option Nat} {st : List AV} {h : AH} : X mX4_goes 5 [v0, v1, aI y, v3, v4, v5] (aR z :: st) h = X mX4_goes 6 [v0, v1, aI y, aR z, v4, v5] st h := X_of dX4_goes_5 rfl
theorem x_X4_goes_6 {v0 v1 v2 v4 v5 : AV} {z : Option Nat} {st : List AV} {h : AH} : X mX4_goes 6 [v0, v1, v2, aR z, v4, v5] st h = X mX4_goes 7 [v0, v1, v2, aR z, v4, v5] (aR z :: st) h := X_of dX4_goes_6 rfl
theorem x_X4_goes_7n {al st : List AV} {h : AH} : X mX4_goes 7 al (aR none :: st) h = X mX4_goes 10 al st h := X_of dX4_goes_7 rfl
theorem x_X4_goes_7s {a : Nat} {al st : List AV} {h : AH} : X mX4_goes 7 al (aR (some a) :: st) h = X mX4_goes 12 al st h := X_of dX4_goes_7 rfl
theorem x_X4_goes_10 {al st : List AV} {h : AH} : X mX4_goes 10 al st h = X mX4_goes 11 al (aI (-1) :: st) h := X_of dX4_goes_10 rfl
theorem x_X4_goes_11 {z : Int} {al : List AV} {h : AH} : X mX4_goes 11 al [aI z] h = some (some (aI z), h) := X_ofR dX4_goes_11 rfl
theorem x_X4_goes_12 {v0 v1 v2 v4 v5 : AV} {z : Option Nat} {st : List AV} {h : AH} : X mX4_goes 12 [v0, v1, v2, aR z, v4, v5] st h = X mX4_goes 13 [v0, v1, v2, aR z, v4, v5] (aR z :: st) h := X_of dX4_goes_12 rfl
theorem x_X4_goes_13 {v0 v1 v3 v4 v5 : AV} {z : Int} {st : List AV} {h : AH} : X mX4_goes 13 [v0, v1, aI z, v3, v4, v5] st h = X mX4_goes 14 [v0, v1, aI z, v3, v4, v5] (aI z :: st) h := X_of dX4_goes_13 rfl
theorem x_X4_goes_14 {a0 : Nat} {a1 : Int} {al : List AV} {h : AH} (ho : isO h 1 a0 = true) : X mX4_goes 14 al [aI a1, aR (some a0)] h = cK (E mX1_has [aR (some a0), aI a1] h) fun v h2 => X mX4_goes 17 al (v.toList ++ []) h2 := x_cal (as := [aR (some a0), aI a1]) (rest := []) dX4_goes_14 (fun _ => rfl) cT_4_137 rfl rfl ho
theorem x_X4_goes_17 {a : Int} {al st : List AV} {h : AH} : X mX4_goes 17 al (aI a :: st) h = if ¬ a = 0 then X mX4_goes 26 al st h else X mX4_goes 20 al st h := x_ne0 dX4_goes_17 rfl
theorem x_X4_goes_20 {v1 v2 v3 v4 v5 : AV} {z : Option Nat} {st : List AV} {h : AH} : X mX4_goes 20 [aR z, v1, v2, v3, v4, v5] st h = X mX4_goes 21 [aR z, v1, v2, v3, v4, v5] (aR z :: st) h := X_of dX4_goes_20 rfl
theorem x_X4_goes_21 {al st : List AV} {h : AH} : X mX4_goes 21 al st h = X mX4_goes 22 al (aI 2 :: st) h := X_of dX4_goes_21 rfl
theorem x_X4_goes_22 {a0 : Nat} {a1 : Int} {al : List AV} {h : AH} (ho : isO h 4 a0 = true) : X mX4_goes 22 al [aI a1, aR (some a0)] h = cK (E mX4_found [aR (some a0), aI a1] h) fun v h2 => X mX4_goes 25 al (v.toList ++ []) h2 := x_cal (as := [aR (some a0), aI a1]) (rest := []) dX4_goes_22 (fun _ => rfl) cT_4_79 rfl rfl ho
theorem x_X4_goes_25 {z : Int} {al : List AV} {h : AH} : X mX4_goes 25 al [aI z] h = some (some (aI z), h) := X_ofR dX4_goes_25 rfl
theorem x_X4_goes_26 {al st : List AV} {h : AH} : X mX4_goes 26 al st h = X mX4_goes 27 al (aI 0 :: st) h := X_of dX4_goes_26 rfl
theorem x_X4_goes_27 {v0 v1 v2 v4 v5 : AV} {y : Option Nat} {z : Int} {st : List AV} {h : AH} : X mX4_goes 27 [v0, v1, v2, aR y, v4, v5] (aI z :: st) h = X mX4_goes 29 [v0, v1, v2, aR y, aI z, v5] st h := X_of dX4_goes_27 rfl
theorem x_X4_goes_29 {al st : List AV} {h : AH} : X mX4_goes 29 al st h = X mX4_goes 30 al (aI 0 :: st) h := X_of dX4_goes_29 rfl
theorem x_X4_goes_30 {v0 v1 v2 v3 v5 : AV} {y : Int} {z : Int} {st : List AV} {h : AH} : X mX4_goes 30 [v0, v1, v2, v3, aI y, v5] (aI z :: st) h = X mX4_goes 32 [v0, v1, v2, v3, aI y, aI z] st h := X_of dX4_goes_30 rfl
theorem x_X4_goes_32 {v0 v1 v2 v3 v4 : AV} {z : Int} {st : List AV} {h : AH} : X mX4_goes 32 [v0, v1, v2, v3, v4, aI z] st h = X mX4_goes 34 [v0, v1, v2, v3, v4, aI z] (aI z :: st) h := X_of dX4_goes_32 rfl
theorem x_X4_goes_34 {v0 v1 v2 v4 v5 : AV} {z : Option Nat} {st : List AV} {h : AH} : X mX4_goes 34 [v0, v1, v2, aR z, v4, v5] st h = X mX4_goes 35 [v0, v1, v2, aR z, v4, v5] (aR z :: st) h := X_of dX4_goes_34 rfl
theorem x_X4_goes_35 {a : Nat} {al st : List AV} {h : AH} : X mX4_goes 35 al (aR (some a) :: st) h = gK (rd h 1 a 1) fun v => X mX4_goes 38 al (v :: st) h := x_get dX4_goes_35 fT_4_127
theorem x_X4_goes_38 {a b : Int} {al st : List AV} {h : AH} : X mX4_goes 38 al (aI b :: aI a :: st) h = if b ≤ a then X mX4_goes 75 al st h else X mX4_goes 41 al st h := x_geC dX4_goes_38 rfl
theorem x_X4_goes_41 {v1 v2 v3 v4 v5 : AV} {z : Option Nat} {st : List AV} {h : AH} : X mX4_goes 41 [aR z, v1, v2, v3, v4, v5] st h = X mX4_goes 42 [aR z, v1, v2, v3, v4, v5] (aR z :: st) h := X_of dX4_goes_41 rfl
theorem x_X4_goes_42 {v0 v1 v2 v4 v5 : AV} {z : Option Nat} {st : List AV} {h : AH} : X mX4_goes 42 [v0, v1, v2, aR z, v4, v5] st h = X mX4_goes 43 [v0, v1, v2, aR z, v4, v5] (aR z :: st) h := X_of dX4_goes_42 rfl
theorem x_X4_goes_43 {v0 v1 v2 v3 v4 : AV} {z : Int} {st : List AV} {h : AH} : X mX4_goes 43 [v0, v1, v2, v3, v4, aI z] st h = X mX4_goes 45 [v0, v1, v2, v3, v4, aI z] (aI z :: st) h := X_of dX4_goes_43 rfl
theorem x_X4_goes_45 {a0 : Nat} {a1 : Option Nat} {a2 : Int} {al : List AV} {h : AH} (ho : isO h 4 a0 = true) : X mX4_goes 45 al [aI a2, aR a1, aR (some a0)] h = cK (E mX4_worthOf [aR (some a0), aR a1, aI a2] h) fun v h2 => X mX4_goes 48 al (v.toList ++ []) h2 := x_cal (as := [aR (some a0), aR a1, aI a2]) (rest := []) dX4_goes_45 (fun _ => rfl) cT_4_160 rfl rfl ho
theorem x_X4_goes_48 {v1 v2 v3 v4 v5 : AV} {z : Option Nat} {st : List AV} {h : AH} : X mX4_goes 48 [aR z, v1, v2, v3, v4, v5] st h = X mX4_goes 49 [aR z, v1, v2, v3, v4, v5] (aR z :: st) h := X_of dX4_goes_48 rfl
theorem x_X4_goes_49 {v0 v1 v2 v4 v5 : AV} {z : Option Nat} {st : List AV} {h : AH} : X mX4_goes 49 [v0, v1, v2, aR z, v4, v5] st h = X mX4_goes 50 [v0, v1, v2, aR z, v4, v5] (aR z :: st) h := X_of dX4_goes_49 rfl
theorem x_X4_goes_50 {v0 v1 v3 v4 v5 : AV} {z : Int} {st : List AV} {h : AH} : X mX4_goes 50 [v0, v1, aI z, v3, v4, v5] st h = X mX4_goes 51 [v0, v1, aI z, v3, v4, v5] (aI z :: st) h := X_of dX4_goes_50 rfl
theorem x_X4_goes_51 {a0 : Nat} {a1 : Option Nat} {a2 : Int} {r0 : Option Nat} {al : List AV} {h : AH} (ho : isO h 4 a0 = true) : X mX4_goes 51 al [aI a2, aR a1, aR (some a0), aR r0] h = cK (E mX4_worthOf [aR (some a0), aR a1, aI a2] h) fun v h2 => X mX4_goes 54 al (v.toList ++ [aR r0]) h2 := x_cal (as := [aR (some a0), aR a1, aI a2]) (rest := [aR r0]) dX4_goes_51 (fun _ => rfl) cT_4_160 rfl rfl ho
theorem x_X4_goes_54 {a0 : Nat} {a1 : Option Nat} {al : List AV} {h : AH} (ho : isO h 0 a0 = true) : X mX4_goes 54 al [aR a1, aR (some a0)] h = cK (E mX0_against [aR (some a0), aR a1] h) fun v h2 => X mX4_goes 57 al (v.toList ++ []) h2 := x_cal (as := [aR (some a0), aR a1]) (rest := []) dX4_goes_54 (fun _ => rfl) cT_4_182 rfl rfl ho
theorem x_X4_goes_57 {a : Int} {al st : List AV} {h : AH} : X mX4_goes 57 al (aI a :: st) h = if a < 0 then X mX4_goes 69 al st h else X mX4_goes 60 al st h := x_lt0 dX4_goes_57 rfl
theorem x_X4_goes_60 {v0 v1 v2 v3 v5 : AV} {z : Int} {st : List AV} {h : AH} : X mX4_goes 60 [v0, v1, v2, v3, aI z, v5] st h = X mX4_goes 62 [v0, v1, v2, v3, aI z, v5] (aI z :: st) h := X_of dX4_goes_60 rfl
theorem x_X4_goes_62 {al st : List AV} {h : AH} : X mX4_goes 62 al st h = X mX4_goes 63 al (aI 1 :: st) h := X_of dX4_goes_62 rfl
theorem x_X4_goes_63 {v0 v1 v2 v3 v4 : AV} {z : Int} {st : List AV} {h : AH} : X mX4_goes 63 [v0, v1, v2, v3, v4, aI z] st h = X mX4_goes 65 [v0, v1, v2, v3, v4, aI z] (aI z :: st) h := X_of dX4_goes_63 rfl
theorem x_X4_goes_65 {a b : Int} {al st : List AV} {h : AH} : X mX4_goes 65 al (aI b :: aI a :: st) h = X mX4_goes 66 al (aI (fShl a b) :: st) h := X_of dX4_goes_65 rfl
theorem x_X4_goes_66 {a b : Int} {al st : List AV} {h : AH} : X mX4_goes 66 al (aI b :: aI a :: st) h = X mX4_goes 67 al (aI (fOr a b) :: st) h := X_of dX4_goes_66 rfl
theorem x_X4_goes_67 {v0 v1 v2 v4 v5 : AV} {y : Option Nat} {z : Int} {st : List AV} {h : AH} : X mX4_goes 67 [v0, v1, v2, aR y, v4, v5] (aI z :: st) h = X mX4_goes 69 [v0, v1, v2, aR y, aI z, v5] st h := X_of dX4_goes_67 rfl
theorem x_X4_goes_69 {v0 v1 v2 v3 : AV} {y : Int} {z : Int} {st : List AV} {h : AH} : X mX4_goes 69 [v0, v1, v2, v3, aI y, aI z] st h = X mX4_goes 72 [v0, v1, v2, v3, aI y, aI (w32 (z + 1))] st h := X_of dX4_goes_69 rfl
theorem x_X4_goes_72 {al st : List AV} {h : AH} : X mX4_goes 72 al st h = X mX4_goes 32 al st h := X_of dX4_goes_72 rfl
theorem x_X4_goes_75 {v0 v1 v2 v3 v5 : AV} {z : Int} {st : List AV} {h : AH} : X mX4_goes 75 [v0, v1, v2, v3, aI z, v5] st h = X mX4_goes 77 [v0, v1, v2, v3, aI z, v5] (aI z :: st) h := X_of dX4_goes_75 rfl
theorem x_X4_goes_77 {z : Int} {al : List AV} {h : AH} : X mX4_goes 77 al [aI z] h = some (some (aI z), h) := X_ofR dX4_goes_77 rfl
theorem e_X4_even {p0 : Option Nat} {p1 : Int} {p2 : Int} {p3 : Int} {p4 : Int} {h : AH} : E mX4_even [aR p0, aI p1, aI p2, aI p3, aI p4] h = X mX4_even 0 [aR p0, aI p1, aI p2, aI p3, aI p4, aU, aU] [] h := rfl
theorem x_X4_even_0 {v1 v2 v3 v4 v5 v6 : AV} {z : Option Nat} {st : List AV} {h : AH} : X mX4_even 0 [aR z, v1, v2, v3, v4, v5, v6] st h = X mX4_even 1 [aR z, v1, v2, v3, v4, v5, v6] (aR z :: st) h := X_of dX4_even_0 rfl
theorem x_X4_even_1 {v0 v2 v3 v4 v5 v6 : AV} {z : Int} {st : List AV} {h : AH} : X mX4_even 1 [v0, aI z, v2, v3, v4, v5, v6] st h = X mX4_even 2 [v0, aI z, v2, v3, v4, v5, v6] (aI z :: st) h := X_of dX4_even_1 rfl
theorem x_X4_even_2 {a0 : Nat} {a1 : Int} {al : List AV} {h : AH} (ho : isO h 4 a0 = true) : X mX4_even 2 al [aI a1, aR (some a0)] h = cK (E mX4_machineAt [aR (some a0), aI a1] h) fun v h2 => X mX4_even 5 al (v.toList ++ []) h2 := x_cal (as := [aR (some a0), aI a1]) (rest := []) dX4_even_2 (fun _ => rfl) cT_4_71 rfl rfl ho
theorem x_X4_even_5 {v0 v1 v2 v3 v5 v6 : AV} {y : Int} {z : Option Nat} {st : List AV} {h : AH} : X mX4_even 5 [v0, v1, v2, v3, aI y, v5, v6] (aR z :: st) h = X mX4_even 7 [v0, v1, v2, v3, aI y, aR z, v6] st h := X_of dX4_even_5 rfl
theorem x_X4_even_7 {v0 v1 v2 v3 v4 v6 : AV} {z : Option Nat} {st : List AV} {h : AH} : X mX4_even 7 [v0, v1, v2, v3, v4, aR z, v6] st h = X mX4_even 9 [v0, v1, v2, v3, v4, aR z, v6] (aR z :: st) h := X_of dX4_even_7 rfl
theorem x_X4_even_9n {al st : List AV} {h : AH} : X mX4_even 9 al (aR none :: st) h = X mX4_even 36 al st h := X_of dX4_even_9 rfl
theorem x_X4_even_9s {a : Nat} {al st : List AV} {h : AH} : X mX4_even 9 al (aR (some a) :: st) h = X mX4_even 12 al st h := X_of dX4_even_9 rfl
theorem x_X4_even_12 {v0 v1 v2 v4 v5 v6 : AV} {z : Int} {st : List AV} {h : AH} : X mX4_even 12 [v0, v1, v2, aI z, v4, v5, v6] st h = X mX4_even 13 [v0, v1, v2, aI z, v4, v5, v6] (aI z :: st) h := X_of dX4_even_12 rfl
theorem x_X4_even_13 {al st : List AV} {h : AH} : X mX4_even 13 al st h = X mX4_even 15 al (aI (-1000000) :: st) h := X_of dX4_even_13 rfl
theorem x_X4_even_15 {a b : Int} {al st : List AV} {h : AH} : X mX4_even 15 al (aI b :: aI a :: st) h = if a < b then X mX4_even 36 al st h else X mX4_even 18 al st h := x_ltC dX4_even_15 rfl
theorem x_X4_even_18 {v0 v1 v2 v4 v5 v6 : AV} {z : Int} {st : List AV} {h : AH} : X mX4_even 18 [v0, v1, v2, aI z, v4, v5, v6] st h = X mX4_even 19 [v0, v1, v2, aI z, v4, v5, v6] (aI z :: st) h := X_of dX4_even_18 rfl
theorem x_X4_even_19 {al st : List AV} {h : AH} : X mX4_even 19 al st h = X mX4_even 21 al (aI 1000000 :: st) h := X_of dX4_even_19 rfl
theorem x_X4_even_21 {a b : Int} {al st : List AV} {h : AH} : X mX4_even 21 al (aI b :: aI a :: st) h = if b < a then X mX4_even 36 al st h else X mX4_even 24 al st h := x_gtC dX4_even_21 rfl
theorem x_X4_even_24 {v0 v1 v2 v3 v5 v6 : AV} {z : Int} {st : List AV} {h : AH} : X mX4_even 24 [v0, v1, v2, v3, aI z, v5, v6] st h = X mX4_even 26 [v0, v1, v2, v3, aI z, v5, v6] (aI z :: st) h := X_of dX4_even_24 rfl
theorem x_X4_even_26 {a : Int} {al st : List AV} {h : AH} : X mX4_even 26 al (aI a :: st) h = if a < 0 then X mX4_even 36 al st h else X mX4_even 29 al st h := x_lt0 dX4_even_26 rfl
theorem x_X4_even_29 {v0 v1 v2 v3 v5 v6 : AV} {z : Int} {st : List AV} {h : AH} : X mX4_even 29 [v0, v1, v2, v3, aI z, v5, v6] st h = X mX4_even 31 [v0, v1, v2, v3, aI z, v5, v6] (aI z :: st) h := X_of dX4_even_29 rfl
theorem x_X4_even_31 {al st : List AV} {h : AH} : X mX4_even 31 al st h = X mX4_even 33 al (aI 1000000 :: st) h := X_of dX4_even_31 rfl
theorem x_X4_even_33 {a b : Int} {al st : List AV} {h : AH} : X mX4_even 33 al (aI b :: aI a :: st) h = if a ≤ b then X mX4_even 38 al st h else X mX4_even 36 al st h := x_leC dX4_even_33 rfl
theorem x_X4_even_36 {al st : List AV} {h : AH} : X mX4_even 36 al st h = X mX4_even 37 al (aI (-1) :: st) h := X_of dX4_even_36 rfl
theorem x_X4_even_37 {z : Int} {al : List AV} {h : AH} : X mX4_even 37 al [aI z] h = some (some (aI z), h) := X_ofR dX4_even_37 rfl
theorem x_X4_even_38 {v0 v1 v2 v3 v4 v6 : AV} {z : Option Nat} {st : List AV} {h : AH} : X mX4_even 38 [v0, v1, v2, v3, v4, aR z, v6] st h = X mX4_even 40 [v0, v1, v2, v3, v4, aR z, v6] (aR z :: st) h := X_of dX4_even_38 rfl
theorem x_X4_even_40 {v0 v1 v3 v4 v5 v6 : AV} {z : Int} {st : List AV} {h : AH} : X mX4_even 40 [v0, v1, aI z, v3, v4, v5, v6] st h = X mX4_even 41 [v0, v1, aI z, v3, v4, v5, v6] (aI z :: st) h := X_of dX4_even_40 rfl
theorem x_X4_even_41 {a0 : Nat} {a1 : Int} {al : List AV} {h : AH} (ho : isO h 1 a0 = true) : X mX4_even 41 al [aI a1, aR (some a0)] h = cK (E mX1_has [aR (some a0), aI a1] h) fun v h2 => X mX4_even 44 al (v.toList ++ []) h2 := x_cal (as := [aR (some a0), aI a1]) (rest := []) dX4_even_41 (fun _ => rfl) cT_4_137 rfl rfl ho
theorem x_X4_even_44 {a : Int} {al st : List AV} {h : AH} : X mX4_even 44 al (aI a :: st) h = if ¬ a = 0 then X mX4_even 53 al st h else X mX4_even 47 al st h := x_ne0 dX4_even_44 rfl
theorem x_X4_even_47 {v1 v2 v3 v4 v5 v6 : AV} {z : Option Nat} {st : List AV} {h : AH} : X mX4_even 47 [aR z, v1, v2, v3, v4, v5, v6] st h = X mX4_even 48 [aR z, v1, v2, v3, v4, v5, v6] (aR z :: st) h := X_of dX4_even_47 rfl
theorem x_X4_even_48 {al st : List AV} {h : AH} : X mX4_even 48 al st h = X mX4_even 49 al (aI 2 :: st) h := X_of dX4_even_48 rfl
theorem x_X4_even_49 {a0 : Nat} {a1 : Int} {al : List AV} {h : AH} (ho : isO h 4 a0 = true) : X mX4_even 49 al [aI a1, aR (some a0)] h = cK (E mX4_found [aR (some a0), aI a1] h) fun v h2 => X mX4_even 52 al (v.toList ++ []) h2 := x_cal (as := [aR (some a0), aI a1]) (rest := []) dX4_even_49 (fun _ => rfl) cT_4_79 rfl rfl ho
theorem x_X4_even_52 {z : Int} {al : List AV} {h : AH} : X mX4_even 52 al [aI z] h = some (some (aI z), h) := X_ofR dX4_even_52 rfl
theorem x_X4_even_53 {v0 v1 v2 v3 v5 v6 : AV} {z : Int} {st : List AV} {h : AH} : X mX4_even 53 [v0, v1, v2, v3, aI z, v5, v6] st h = X mX4_even 55 [v0, v1, v2, v3, aI z, v5, v6] (aI z :: st) h := X_of dX4_even_53 rfl
theorem x_X4_even_55 {a : Int} {al st : List AV} {h : AH} : X mX4_even 55 al (aI a :: st) h = if ¬ a = 0 then X mX4_even 64 al st h else X mX4_even 58 al st h := x_ne0 dX4_even_55 rfl
theorem x_X4_even_58 {v1 v2 v3 v4 v5 v6 : AV} {z : Option Nat} {st : List AV} {h : AH} : X mX4_even 58 [aR z, v1, v2, v3, v4, v5, v6] st h = X mX4_even 59 [aR z, v1, v2, v3, v4, v5, v6] (aR z :: st) h := X_of dX4_even_58 rfl
theorem x_X4_even_59 {al st : List AV} {h : AH} : X mX4_even 59 al st h = X mX4_even 60 al (aI 4 :: st) h := X_of dX4_even_59 rfl
theorem x_X4_even_60 {a0 : Nat} {a1 : Int} {al : List AV} {h : AH} (ho : isO h 4 a0 = true) : X mX4_even 60 al [aI a1, aR (some a0)] h = cK (E mX4_found [aR (some a0), aI a1] h) fun v h2 => X mX4_even 63 al (v.toList ++ []) h2 := x_cal (as := [aR (some a0), aI a1]) (rest := []) dX4_even_60 (fun _ => rfl) cT_4_79 rfl rfl ho
theorem x_X4_even_63 {z : Int} {al : List AV} {h : AH} : X mX4_even 63 al [aI z] h = some (some (aI z), h) := X_ofR dX4_even_63 rfl
theorem x_X4_even_64 {v1 v2 v3 v4 v5 v6 : AV} {z : Option Nat} {st : List AV} {h : AH} : X mX4_even 64 [aR z, v1, v2, v3, v4, v5, v6] st h = X mX4_even 65 [aR z, v1, v2, v3, v4, v5, v6] (aR z :: st) h := X_of dX4_even_64 rfl
theorem x_X4_even_65 {v0 v1 v2 v3 v4 v6 : AV} {z : Option Nat} {st : List AV} {h : AH} : X mX4_even 65 [v0, v1, v2, v3, v4, aR z, v6] st h = X mX4_even 67 [v0, v1, v2, v3, v4, aR z, v6] (aR z :: st) h := X_of dX4_even_65 rfl
theorem x_X4_even_67 {v0 v1 v3 v4 v5 v6 : AV} {z : Int} {st : List AV} {h : AH} : X mX4_even 67 [v0, v1, aI z, v3, v4, v5, v6] st h = X mX4_even 68 [v0, v1, aI z, v3, v4, v5, v6] (aI z :: st) h := X_of dX4_even_67 rfl
theorem x_X4_even_68 {a0 : Nat} {a1 : Option Nat} {a2 : Int} {al : List AV} {h : AH} (ho : isO h 4 a0 = true) : X mX4_even 68 al [aI a2, aR a1, aR (some a0)] h = cK (E mX4_worthOf [aR (some a0), aR a1, aI a2] h) fun v h2 => X mX4_even 71 al (v.toList ++ []) h2 := x_cal (as := [aR (some a0), aR a1, aI a2]) (rest := []) dX4_even_68 (fun _ => rfl) cT_4_160 rfl rfl ho
theorem x_X4_even_71 {v0 v1 v2 v3 v4 v6 : AV} {y : Option Nat} {z : Option Nat} {st : List AV} {h : AH} : X mX4_even 71 [v0, v1, v2, v3, v4, aR y, v6] (aR z :: st) h = X mX4_even 73 [v0, v1, v2, v3, v4, aR y, aR z] st h := X_of dX4_even_71 rfl
theorem x_X4_even_73 {v0 v1 v2 v3 v4 v5 : AV} {z : Option Nat} {st : List AV} {h : AH} : X mX4_even 73 [v0, v1, v2, v3, v4, v5, aR z] st h = X mX4_even 75 [v0, v1, v2, v3, v4, v5, aR z] (aR z :: st) h := X_of dX4_even_73 rfl
theorem x_X4_even_75 {a : Nat} {al st : List AV} {h : AH} : X mX4_even 75 al (aR (some a) :: st) h = gK (rd h 0 a 0) fun v => X mX4_even 78 al (v :: st) h := x_get dX4_even_75 fT_4_172
theorem x_X4_even_78 {v0 v1 v2 v3 v4 v5 : AV} {z : Option Nat} {st : List AV} {h : AH} : X mX4_even 78 [v0, v1, v2, v3, v4, v5, aR z] st h = X mX4_even 80 [v0, v1, v2, v3, v4, v5, aR z] (aR z :: st) h := X_of dX4_even_78 rfl
theorem x_X4_even_80 {a : Nat} {al st : List AV} {h : AH} : X mX4_even 80 al (aR (some a) :: st) h = gK (rd h 0 a 1) fun v => X mX4_even 83 al (v :: st) h := x_get dX4_even_80 fT_4_175
theorem x_X4_even_83 {v0 v1 v2 v4 v5 v6 : AV} {z : Int} {st : List AV} {h : AH} : X mX4_even 83 [v0, v1, v2, aI z, v4, v5, v6] st h = X mX4_even 84 [v0, v1, v2, aI z, v4, v5, v6] (aI z :: st) h := X_of dX4_even_83 rfl
theorem x_X4_even_84 {a : Int} {al st : List AV} {h : AH} : X mX4_even 84 al (aI a :: st) h = X mX4_even 85 al (aJ a :: st) h := X_of dX4_even_84 rfl
theorem x_X4_even_85 {v0 v1 v2 v3 v5 v6 : AV} {z : Int} {st : List AV} {h : AH} : X mX4_even 85 [v0, v1, v2, v3, aI z, v5, v6] st h = X mX4_even 87 [v0, v1, v2, v3, aI z, v5, v6] (aI z :: st) h := X_of dX4_even_85 rfl
theorem x_X4_even_87 {a : Int} {al st : List AV} {h : AH} : X mX4_even 87 al (aI a :: st) h = X mX4_even 88 al (aJ a :: st) h := X_of dX4_even_87 rfl
theorem x_X4_even_88 {a0 : Int} {a1 : Int} {a2 : Int} {a3 : Int} {al : List AV} {h : AH} : X mX4_even 88 al [aJ a3, aJ a2, aJ a1, aJ a0] h = cK (E mX0_weigh [aJ a0, aJ a1, aJ a2, aJ a3] h) fun v h2 => X mX4_even 91 al (v.toList ++ []) h2 := x_cal (as := [aJ a0, aJ a1, aJ a2, aJ a3]) (rest := []) dX4_even_88 (fun _ => rfl) cT_4_188 rfl rfl rfl
theorem x_X4_even_91 {a0 : Int} {al : List AV} {h : AH} : X mX4_even 91 al [aI a0] h = cK (E mX4_asAnswer [aI a0] h) fun v h2 => X mX4_even 94 al (v.toList ++ []) h2 := x_cal (as := [aI a0]) (rest := []) dX4_even_91 (fun _ => rfl) cT_4_192 rfl rfl rfl
theorem x_X4_even_94 {z : Int} {al : List AV} {h : AH} : X mX4_even 94 al [aI z] h = some (some (aI z), h) := X_ofR dX4_even_94 rfl
theorem e_X4_better {p0 : Option Nat} {p1 : Int} {p2 : Int} {h : AH} : E mX4_better [aR p0, aI p1, aI p2] h = X mX4_better 0 [aR p0, aI p1, aI p2, aU, aU] [] h := rfl
theorem x_X4_better_0 {v1 v2 v3 v4 : AV} {z : Option Nat} {st : List AV} {h : AH} : X mX4_better 0 [aR z, v1, v2, v3, v4] st h = X mX4_better 1 [aR z, v1, v2, v3, v4] (aR z :: st) h := X_of dX4_better_0 rfl
theorem x_X4_better_1 {v0 v2 v3 v4 : AV} {z : Int} {st : List AV} {h : AH} : X mX4_better 1 [v0, aI z, v2, v3, v4] st h = X mX4_better 2 [v0, aI z, v2, v3, v4] (aI z :: st) h := X_of dX4_better_1 rfl
theorem x_X4_better_2 {a0 : Nat} {a1 : Int} {al : List AV} {h : AH} (ho : isO h 4 a0 = true) : X mX4_better 2 al [aI a1, aR (some a0)] h = cK (E mX4_machineAt [aR (some a0), aI a1] h) fun v h2 => X mX4_better 5 al (v.toList ++ []) h2 := x_cal (as := [aR (some a0), aI a1]) (rest := []) dX4_better_2 (fun _ => rfl) cT_4_71 rfl rfl ho
theorem x_X4_better_5 {v0 v1 v3 v4 : AV} {y : Int} {z : Option Nat} {st : List AV} {h : AH} : X mX4_better 5 [v0, v1, aI y, v3, v4] (aR z :: st) h = X mX4_better 6 [v0, v1, aI y, aR z, v4] st h := X_of dX4_better_5 rfl
theorem x_X4_better_6 {v0 v1 v2 v4 : AV} {z : Option Nat} {st : List AV} {h : AH} : X mX4_better 6 [v0, v1, v2, aR z, v4] st h = X mX4_better 7 [v0, v1, v2, aR z, v4] (aR z :: st) h := X_of dX4_better_6 rfl
theorem x_X4_better_7n {al st : List AV} {h : AH} : X mX4_better 7 al (aR none :: st) h = X mX4_better 10 al st h := X_of dX4_better_7 rfl
theorem x_X4_better_7s {a : Nat} {al st : List AV} {h : AH} : X mX4_better 7 al (aR (some a) :: st) h = X mX4_better 12 al st h := X_of dX4_better_7 rfl
theorem x_X4_better_10 {al st : List AV} {h : AH} : X mX4_better 10 al st h = X mX4_better 11 al (aI (-1) :: st) h := X_of dX4_better_10 rfl
theorem x_X4_better_11 {z : Int} {al : List AV} {h : AH} : X mX4_better 11 al [aI z] h = some (some (aI z), h) := X_ofR dX4_better_11 rfl
theorem x_X4_better_12 {v0 v1 v2 v4 : AV} {z : Option Nat} {st : List AV} {h : AH} : X mX4_better 12 [v0, v1, v2, aR z, v4] st h = X mX4_better 13 [v0, v1, v2, aR z, v4] (aR z :: st) h := X_of dX4_better_12 rfl
theorem x_X4_better_13 {v0 v1 v3 v4 : AV} {z : Int} {st : List AV} {h : AH} : X mX4_better 13 [v0, v1, aI z, v3, v4] st h = X mX4_better 14 [v0, v1, aI z, v3, v4] (aI z :: st) h := X_of dX4_better_13 rfl
theorem x_X4_better_14 {a0 : Nat} {a1 : Int} {al : List AV} {h : AH} (ho : isO h 1 a0 = true) : X mX4_better 14 al [aI a1, aR (some a0)] h = cK (E mX1_has [aR (some a0), aI a1] h) fun v h2 => X mX4_better 17 al (v.toList ++ []) h2 := x_cal (as := [aR (some a0), aI a1]) (rest := []) dX4_better_14 (fun _ => rfl) cT_4_137 rfl rfl ho
theorem x_X4_better_17 {a : Int} {al st : List AV} {h : AH} : X mX4_better 17 al (aI a :: st) h = if ¬ a = 0 then X mX4_better 26 al st h else X mX4_better 20 al st h := x_ne0 dX4_better_17 rfl
theorem x_X4_better_20 {v1 v2 v3 v4 : AV} {z : Option Nat} {st : List AV} {h : AH} : X mX4_better 20 [aR z, v1, v2, v3, v4] st h = X mX4_better 21 [aR z, v1, v2, v3, v4] (aR z :: st) h := X_of dX4_better_20 rfl
theorem x_X4_better_21 {al st : List AV} {h : AH} : X mX4_better 21 al st h = X mX4_better 22 al (aI 2 :: st) h := X_of dX4_better_21 rfl
theorem x_X4_better_22 {a0 : Nat} {a1 : Int} {al : List AV} {h : AH} (ho : isO h 4 a0 = true) : X mX4_better 22 al [aI a1, aR (some a0)] h = cK (E mX4_found [aR (some a0), aI a1] h) fun v h2 => X mX4_better 25 al (v.toList ++ []) h2 := x_cal (as := [aR (some a0), aI a1]) (rest := []) dX4_better_22 (fun _ => rfl) cT_4_79 rfl rfl ho
theorem x_X4_better_25 {z : Int} {al : List AV} {h : AH} : X mX4_better 25 al [aI z] h = some (some (aI z), h) := X_ofR dX4_better_25 rfl
theorem x_X4_better_26 {v1 v2 v3 v4 : AV} {z : Option Nat} {st : List AV} {h : AH} : X mX4_better 26 [aR z, v1, v2, v3, v4] st h = X mX4_better 27 [aR z, v1, v2, v3, v4] (aR z :: st) h := X_of dX4_better_26 rfl
theorem x_X4_better_27 {v0 v1 v2 v4 : AV} {z : Option Nat} {st : List AV} {h : AH} : X mX4_better 27 [v0, v1, v2, aR z, v4] st h = X mX4_better 28 [v0, v1, v2, aR z, v4] (aR z :: st) h := X_of dX4_better_27 rfl
theorem x_X4_better_28 {v0 v1 v3 v4 : AV} {z : Int} {st : List AV} {h : AH} : X mX4_better 28 [v0, v1, aI z, v3, v4] st h = X mX4_better 29 [v0, v1, aI z, v3, v4] (aI z :: st) h := X_of dX4_better_28 rfl
theorem x_X4_better_29 {a0 : Nat} {a1 : Option Nat} {a2 : Int} {al : List AV} {h : AH} (ho : isO h 4 a0 = true) : X mX4_better 29 al [aI a2, aR a1, aR (some a0)] h = cK (E mX4_worthOf [aR (some a0), aR a1, aI a2] h) fun v h2 => X mX4_better 32 al (v.toList ++ []) h2 := x_cal (as := [aR (some a0), aR a1, aI a2]) (rest := []) dX4_better_29 (fun _ => rfl) cT_4_160 rfl rfl ho
theorem x_X4_better_32 {v0 v1 v2 v4 : AV} {y : Option Nat} {z : Option Nat} {st : List AV} {h : AH} : X mX4_better 32 [v0, v1, v2, aR y, v4] (aR z :: st) h = X mX4_better 34 [v0, v1, v2, aR y, aR z] st h := X_of dX4_better_32 rfl
theorem x_X4_better_34 {v1 v2 v3 v4 : AV} {z : Option Nat} {st : List AV} {h : AH} : X mX4_better 34 [aR z, v1, v2, v3, v4] st h = X mX4_better 35 [aR z, v1, v2, v3, v4] (aR z :: st) h := X_of dX4_better_34 rfl
theorem x_X4_better_35 {a : Nat} {al st : List AV} {h : AH} : X mX4_better 35 al (aR (some a) :: st) h = gK (rd h 4 a 3) fun v => X mX4_better 38 al (v :: st) h := x_get dX4_better_35 fT_4_31
theorem x_X4_better_38 {v0 v1 v2 v3 : AV} {z : Option Nat} {st : List AV} {h : AH} : X mX4_better 38 [v0, v1, v2, v3, aR z] st h = X mX4_better 40 [v0, v1, v2, v3, aR z] (aR z :: st) h := X_of dX4_better_38 rfl
theorem x_X4_better_40 {a : Nat} {al st : List AV} {h : AH} : X mX4_better 40 al (aR (some a) :: st) h = gK (rd h 0 a 0) fun v => X mX4_better 43 al (v :: st) h := x_get dX4_better_40 fT_4_172
theorem x_X4_better_43 {v0 v1 v2 v4 : AV} {z : Option Nat} {st : List AV} {h : AH} : X mX4_better 43 [v0, v1, v2, aR z, v4] st h = X mX4_better 44 [v0, v1, v2, aR z, v4] (aR z :: st) h := X_of dX4_better_43 rfl
theorem x_X4_better_44 {v0 v1 v3 v4 : AV} {z : Int} {st : List AV} {h : AH} : X mX4_better 44 [v0, v1, aI z, v3, v4] st h = X mX4_better 45 [v0, v1, aI z, v3, v4] (aI z :: st) h := X_of dX4_better_44 rfl
theorem x_X4_better_45 {a0 : Nat} {a1 : Int} {r0 : Int} {r1 : Option Nat} {al : List AV} {h : AH} (ho : isO h 1 a0 = true) : X mX4_better 45 al [aI a1, aR (some a0), aJ r0, aR r1] h = cK (E mX1_payAt [aR (some a0), aI a1] h) fun v h2 => X mX4_better 48 al (v.toList ++ [aJ r0, aR r1]) h2 := x_cal (as := [aR (some a0), aI a1]) (rest := [aJ r0, aR r1]) dX4_better_45 (fun _ => rfl) cT_4_143 rfl rfl ho
theorem x_X4_better_48 {a : Int} {al st : List AV} {h : AH} : X mX4_better 48 al (aI a :: st) h = X mX4_better 49 al (aJ a :: st) h := X_of dX4_better_48 rfl
theorem x_X4_better_49 {v0 v1 v2 v3 : AV} {z : Option Nat} {st : List AV} {h : AH} : X mX4_better 49 [v0, v1, v2, v3, aR z] st h = X mX4_better 51 [v0, v1, v2, v3, aR z] (aR z :: st) h := X_of dX4_better_49 rfl
theorem x_X4_better_51 {a : Nat} {al st : List AV} {h : AH} : X mX4_better 51 al (aR (some a) :: st) h = gK (rd h 0 a 1) fun v => X mX4_better 54 al (v :: st) h := x_get dX4_better_51 fT_4_175
theorem x_X4_better_54 {a b : Int} {al st : List AV} {h : AH} : X mX4_better 54 al (aJ b :: aJ a :: st) h = X mX4_better 55 al (aJ (w64 (a * b)) :: st) h := X_of dX4_better_54 rfl
theorem x_X4_better_55 {a b : Int} {al st : List AV} {h : AH} : X mX4_better 55 al (aJ b :: aJ a :: st) h = X mX4_better 56 al (aJ (w64 (a - b)) :: st) h := X_of dX4_better_55 rfl
theorem x_X4_better_56 {v0 v1 v2 v3 : AV} {z : Option Nat} {st : List AV} {h : AH} : X mX4_better 56 [v0, v1, v2, v3, aR z] st h = X mX4_better 58 [v0, v1, v2, v3, aR z] (aR z :: st) h := X_of dX4_better_56 rfl
theorem x_X4_better_58 {a : Nat} {al st : List AV} {h : AH} : X mX4_better 58 al (aR (some a) :: st) h = gK (rd h 0 a 1) fun v => X mX4_better 61 al (v :: st) h := x_get dX4_better_58 fT_4_175
theorem x_X4_better_61 {a0 : Nat} {a1 : Int} {a2 : Int} {al : List AV} {h : AH} (ho : isO h 0 a0 = true) : X mX4_better 61 al [aJ a2, aJ a1, aR (some a0)] h = cK (E mX0_become [aR (some a0), aJ a1, aJ a2] h) fun v h2 => X mX4_better 64 al (v.toList ++ []) h2 := x_cal (as := [aR (some a0), aJ a1, aJ a2]) (rest := []) dX4_better_61 (fun _ => rfl) cT_4_195 rfl rfl ho
theorem x_X4_better_64 {al st : List AV} {h : AH} : X mX4_better 64 al st h = X mX4_better 65 al (aI 1 :: st) h := X_of dX4_better_64 rfl
theorem x_X4_better_65 {z : Int} {al : List AV} {h : AH} : X mX4_better 65 al [aI z] h = some (some (aI z), h) := X_ofR dX4_better_65 rfl
theorem e_X4_mean {p0 : Option Nat} {p1 : Int} {p2 : Int} {h : AH} : E mX4_mean [aR p0, aI p1, aI p2] h = X mX4_mean 0 [aR p0, aI p1, aI p2, aU, aU, aU, aU] [] h := rfl
theorem x_X4_mean_0 {v1 v2 v3 v4 v5 v6 : AV} {z : Option Nat} {st : List AV} {h : AH} : X mX4_mean 0 [aR z, v1, v2, v3, v4, v5, v6] st h = X mX4_mean 1 [aR z, v1, v2, v3, v4, v5, v6] (aR z :: st) h := X_of dX4_mean_0 rfl
theorem x_X4_mean_1 {v0 v2 v3 v4 v5 v6 : AV} {z : Int} {st : List AV} {h : AH} : X mX4_mean 1 [v0, aI z, v2, v3, v4, v5, v6] st h = X mX4_mean 2 [v0, aI z, v2, v3, v4, v5, v6] (aI z :: st) h := X_of dX4_mean_1 rfl
theorem x_X4_mean_2 {a0 : Nat} {a1 : Int} {al : List AV} {h : AH} (ho : isO h 4 a0 = true) : X mX4_mean 2 al [aI a1, aR (some a0)] h = cK (E mX4_machineAt [aR (some a0), aI a1] h) fun v h2 => X mX4_mean 5 al (v.toList ++ []) h2 := x_cal (as := [aR (some a0), aI a1]) (rest := []) dX4_mean_2 (fun _ => rfl) cT_4_71 rfl rfl ho
theorem x_X4_mean_5 {v0 v1 v3 v4 v5 v6 : AV} {y : Int} {z : Option Nat} {st : List AV} {h : AH} : X mX4_mean 5 [v0, v1, aI y, v3, v4, v5, v6] (aR z :: st) h = X mX4_mean 6 [v0, v1, aI y, aR z, v4, v5, v6] st h := X_of dX4_mean_5 rfl
theorem x_X4_mean_6 {v0 v1 v2 v4 v5 v6 : AV} {z : Option Nat} {st : List AV} {h : AH} : X mX4_mean 6 [v0, v1, v2, aR z, v4, v5, v6] st h = X mX4_mean 7 [v0, v1, v2, aR z, v4, v5, v6] (aR z :: st) h := X_of dX4_mean_6 rfl
theorem x_X4_mean_7n {al st : List AV} {h : AH} : X mX4_mean 7 al (aR none :: st) h = X mX4_mean 10 al st h := X_of dX4_mean_7 rfl
theorem x_X4_mean_7s {a : Nat} {al st : List AV} {h : AH} : X mX4_mean 7 al (aR (some a) :: st) h = X mX4_mean 12 al st h := X_of dX4_mean_7 rfl
theorem x_X4_mean_10 {al st : List AV} {h : AH} : X mX4_mean 10 al st h = X mX4_mean 11 al (aI (-1) :: st) h := X_of dX4_mean_10 rfl
theorem x_X4_mean_11 {z : Int} {al : List AV} {h : AH} : X mX4_mean 11 al [aI z] h = some (some (aI z), h) := X_ofR dX4_mean_11 rfl
theorem x_X4_mean_12 {v0 v1 v2 v4 v5 v6 : AV} {z : Option Nat} {st : List AV} {h : AH} : X mX4_mean 12 [v0, v1, v2, aR z, v4, v5, v6] st h = X mX4_mean 13 [v0, v1, v2, aR z, v4, v5, v6] (aR z :: st) h := X_of dX4_mean_12 rfl
theorem x_X4_mean_13 {v0 v1 v3 v4 v5 v6 : AV} {z : Int} {st : List AV} {h : AH} : X mX4_mean 13 [v0, v1, aI z, v3, v4, v5, v6] st h = X mX4_mean 14 [v0, v1, aI z, v3, v4, v5, v6] (aI z :: st) h := X_of dX4_mean_13 rfl
theorem x_X4_mean_14 {a0 : Nat} {a1 : Int} {al : List AV} {h : AH} (ho : isO h 1 a0 = true) : X mX4_mean 14 al [aI a1, aR (some a0)] h = cK (E mX1_has [aR (some a0), aI a1] h) fun v h2 => X mX4_mean 17 al (v.toList ++ []) h2 := x_cal (as := [aR (some a0), aI a1]) (rest := []) dX4_mean_14 (fun _ => rfl) cT_4_137 rfl rfl ho
theorem x_X4_mean_17 {a : Int} {al st : List AV} {h : AH} : X mX4_mean 17 al (aI a :: st) h = if ¬ a = 0 then X mX4_mean 26 al st h else X mX4_mean 20 al st h := x_ne0 dX4_mean_17 rfl
theorem x_X4_mean_20 {v1 v2 v3 v4 v5 v6 : AV} {z : Option Nat} {st : List AV} {h : AH} : X mX4_mean 20 [aR z, v1, v2, v3, v4, v5, v6] st h = X mX4_mean 21 [aR z, v1, v2, v3, v4, v5, v6] (aR z :: st) h := X_of dX4_mean_20 rfl
theorem x_X4_mean_21 {al st : List AV} {h : AH} : X mX4_mean 21 al st h = X mX4_mean 22 al (aI 2 :: st) h := X_of dX4_mean_21 rfl
theorem x_X4_mean_22 {a0 : Nat} {a1 : Int} {al : List AV} {h : AH} (ho : isO h 4 a0 = true) : X mX4_mean 22 al [aI a1, aR (some a0)] h = cK (E mX4_found [aR (some a0), aI a1] h) fun v h2 => X mX4_mean 25 al (v.toList ++ []) h2 := x_cal (as := [aR (some a0), aI a1]) (rest := []) dX4_mean_22 (fun _ => rfl) cT_4_79 rfl rfl ho
theorem x_X4_mean_25 {z : Int} {al : List AV} {h : AH} : X mX4_mean 25 al [aI z] h = some (some (aI z), h) := X_ofR dX4_mean_25 rfl
theorem x_X4_mean_26 {al st : List AV} {h : AH} : X mX4_mean 26 al st h = X mX4_mean 27 al (aJ 0 :: st) h := X_of dX4_mean_26 rfl
theorem x_X4_mean_27 {v0 v1 v2 v4 v5 v6 : AV} {y : Option Nat} {z : Int} {st : List AV} {h : AH} : X mX4_mean 27 [v0, v1, v2, aR y, v4, v5, v6] (aJ z :: st) h = X mX4_mean 29 [v0, v1, v2, aR y, aJ z, aU, v6] st h := X_of dX4_mean_27 rfl
theorem x_X4_mean_29 {al st : List AV} {h : AH} : X mX4_mean 29 al st h = X mX4_mean 30 al (aI 0 :: st) h := X_of dX4_mean_29 rfl
theorem x_X4_mean_30 {v0 v1 v2 v3 v4 v6 : AV} {z : Int} {st : List AV} {h : AH} : X mX4_mean 30 [v0, v1, v2, v3, v4, aU, v6] (aI z :: st) h = X mX4_mean 32 [v0, v1, v2, v3, v4, aU, aI z] st h := X_of dX4_mean_30 rfl
theorem x_X4_mean_32 {v0 v1 v2 v3 v4 v5 : AV} {z : Int} {st : List AV} {h : AH} : X mX4_mean 32 [v0, v1, v2, v3, v4, v5, aI z] st h = X mX4_mean 34 [v0, v1, v2, v3, v4, v5, aI z] (aI z :: st) h := X_of dX4_mean_32 rfl
theorem x_X4_mean_34 {v0 v1 v2 v4 v5 v6 : AV} {z : Option Nat} {st : List AV} {h : AH} : X mX4_mean 34 [v0, v1, v2, aR z, v4, v5, v6] st h = X mX4_mean 35 [v0, v1, v2, aR z, v4, v5, v6] (aR z :: st) h := X_of dX4_mean_34 rfl
theorem x_X4_mean_35 {a : Nat} {al st : List AV} {h : AH} : X mX4_mean 35 al (aR (some a) :: st) h = gK (rd h 1 a 1) fun v => X mX4_mean 38 al (v :: st) h := x_get dX4_mean_35 fT_4_127
theorem x_X4_mean_38 {a b : Int} {al st : List AV} {h : AH} : X mX4_mean 38 al (aI b :: aI a :: st) h = if b ≤ a then X mX4_mean 67 al st h else X mX4_mean 41 al st h := x_geC dX4_mean_38 rfl
theorem x_X4_mean_41 {v0 v1 v2 v3 v5 v6 : AV} {z : Int} {st : List AV} {h : AH} : X mX4_mean 41 [v0, v1, v2, v3, aJ z, v5, v6] st h = X mX4_mean 43 [v0, v1, v2, v3, aJ z, v5, v6] (aJ z :: st) h := X_of dX4_mean_41 rfl
theorem x_X4_mean_43 {v0 v1 v2 v4 v5 v6 : AV} {z : Option Nat} {st : List AV} {h : AH} : X mX4_mean 43 [v0, v1, v2, aR z, v4, v5, v6] st h = X mX4_mean 44 [v0, v1, v2, aR z, v4, v5, v6] (aR z :: st) h := X_of dX4_mean_43 rfl
theorem x_X4_mean_44 {v0 v1 v3 v4 v5 v6 : AV} {z : Int} {st : List AV} {h : AH} : X mX4_mean 44 [v0, v1, aI z, v3, v4, v5, v6] st h = X mX4_mean 45 [v0, v1, aI z, v3, v4, v5, v6] (aI z :: st) h := X_of dX4_mean_44 rfl
theorem x_X4_mean_45 {v0 v1 v2 v3 v4 v5 : AV} {z : Int} {st : List AV} {h : AH} : X mX4_mean 45 [v0, v1, v2, v3, v4, v5, aI z] st h = X mX4_mean 47 [v0, v1, v2, v3, v4, v5, aI z] (aI z :: st) h := X_of dX4_mean_45 rfl
theorem x_X4_mean_47 {a0 : Nat} {a1 : Int} {a2 : Int} {r0 : Int} {al : List AV} {h : AH} (ho : isO h 1 a0 = true) : X mX4_mean 47 al [aI a2, aI a1, aR (some a0), aJ r0] h = cK (E mX1_weightAt [aR (some a0), aI a1, aI a2] h) fun v h2 => X mX4_mean 50 al (v.toList ++ [aJ r0]) h2 := x_cal (as := [aR (some a0), aI a1, aI a2]) (rest := [aJ r0]) dX4_mean_47 (fun _ => rfl) cT_4_149 rfl rfl ho
theorem x_X4_mean_50 {v0 v1 v2 v4 v5 v6 : AV} {z : Option Nat} {st : List AV} {h : AH} : X mX4_mean 50 [v0, v1, v2, aR z, v4, v5, v6] st h = X mX4_mean 51 [v0, v1, v2, aR z, v4, v5, v6] (aR z :: st) h := X_of dX4_mean_50 rfl
theorem x_X4_mean_51 {v0 v1 v2 v3 v4 v5 : AV} {z : Int} {st : List AV} {h : AH} : X mX4_mean 51 [v0, v1, v2, v3, v4, v5, aI z] st h = X mX4_mean 53 [v0, v1, v2, v3, v4, v5, aI z] (aI z :: st) h := X_of dX4_mean_51 rfl
theorem x_X4_mean_53 {a0 : Nat} {a1 : Int} {r0 : Int} {r1 : Int} {al : List AV} {h : AH} (ho : isO h 1 a0 = true) : X mX4_mean 53 al [aI a1, aR (some a0), aI r0, aJ r1] h = cK (E mX1_payAt [aR (some a0), aI a1] h) fun v h2 => X mX4_mean 56 al (v.toList ++ [aI r0, aJ r1]) h2 := x_cal (as := [aR (some a0), aI a1]) (rest := [aI r0, aJ r1]) dX4_mean_53 (fun _ => rfl) cT_4_143 rfl rfl ho
theorem x_X4_mean_56 {a b : Int} {al st : List AV} {h : AH} : X mX4_mean 56 al (aI b :: aI a :: st) h = X mX4_mean 57 al (aI (w32 (a * b)) :: st) h := X_of dX4_mean_56 rfl
theorem x_X4_mean_57 {a : Int} {al st : List AV} {h : AH} : X mX4_mean 57 al (aI a :: st) h = X mX4_mean 58 al (aJ a :: st) h := X_of dX4_mean_57 rfl
theorem x_X4_mean_58 {a b : Int} {al st : List AV} {h : AH} : X mX4_mean 58 al (aJ b :: aJ a :: st) h = X mX4_mean 59 al (aJ (w64 (a + b)) :: st) h := X_of dX4_mean_58 rfl
theorem x_X4_mean_59 {v0 v1 v2 v4 v5 v6 : AV} {y : Option Nat} {z : Int} {st : List AV} {h : AH} : X mX4_mean 59 [v0, v1, v2, aR y, v4, v5, v6] (aJ z :: st) h = X mX4_mean 61 [v0, v1, v2, aR y, aJ z, aU, v6] st h := X_of dX4_mean_59 rfl
theorem x_X4_mean_61 {v0 v1 v2 v3 v4 : AV} {z : Int} {st : List AV} {h : AH} : X mX4_mean 61 [v0, v1, v2, v3, v4, aU, aI z] st h = X mX4_mean 64 [v0, v1, v2, v3, v4, aU, aI (w32 (z + 1))] st h := X_of dX4_mean_61 rfl
theorem x_X4_mean_64 {al st : List AV} {h : AH} : X mX4_mean 64 al st h = X mX4_mean 32 al st h := X_of dX4_mean_64 rfl
theorem x_X4_mean_67 {v1 v2 v3 v4 v5 v6 : AV} {z : Option Nat} {st : List AV} {h : AH} : X mX4_mean 67 [aR z, v1, v2, v3, v4, v5, v6] st h = X mX4_mean 68 [aR z, v1, v2, v3, v4, v5, v6] (aR z :: st) h := X_of dX4_mean_67 rfl
theorem x_X4_mean_68 {a : Nat} {al st : List AV} {h : AH} : X mX4_mean 68 al (aR (some a) :: st) h = gK (rd h 4 a 3) fun v => X mX4_mean 71 al (v :: st) h := x_get dX4_mean_68 fT_4_31
theorem x_X4_mean_71 {v0 v1 v2 v3 v5 v6 : AV} {z : Int} {st : List AV} {h : AH} : X mX4_mean 71 [v0, v1, v2, v3, aJ z, v5, v6] st h = X mX4_mean 73 [v0, v1, v2, v3, aJ z, v5, v6] (aJ z :: st) h := X_of dX4_mean_71 rfl
theorem x_X4_mean_73 {v0 v1 v2 v4 v5 v6 : AV} {z : Option Nat} {st : List AV} {h : AH} : X mX4_mean 73 [v0, v1, v2, aR z, v4, v5, v6] st h = X mX4_mean 74 [v0, v1, v2, aR z, v4, v5, v6] (aR z :: st) h := X_of dX4_mean_73 rfl
theorem x_X4_mean_74 {v0 v1 v3 v4 v5 v6 : AV} {z : Int} {st : List AV} {h : AH} : X mX4_mean 74 [v0, v1, aI z, v3, v4, v5, v6] st h = X mX4_mean 75 [v0, v1, aI z, v3, v4, v5, v6] (aI z :: st) h := X_of dX4_mean_74 rfl
theorem x_X4_mean_75 {a0 : Nat} {a1 : Int} {r0 : Int} {r1 : Option Nat} {al : List AV} {h : AH} (ho : isO h 1 a0 = true) : X mX4_mean 75 al [aI a1, aR (some a0), aJ r0, aR r1] h = cK (E mX1_sumOf [aR (some a0), aI a1] h) fun v h2 => X mX4_mean 78 al (v.toList ++ [aJ r0, aR r1]) h2 := x_cal (as := [aR (some a0), aI a1]) (rest := [aJ r0, aR r1]) dX4_mean_75 (fun _ => rfl) cT_4_153 rfl rfl ho
theorem x_X4_mean_78 {a : Int} {al st : List AV} {h : AH} : X mX4_mean 78 al (aI a :: st) h = X mX4_mean 79 al (aJ a :: st) h := X_of dX4_mean_78 rfl
theorem x_X4_mean_79 {a0 : Nat} {a1 : Int} {a2 : Int} {al : List AV} {h : AH} (ho : isO h 0 a0 = true) : X mX4_mean 79 al [aJ a2, aJ a1, aR (some a0)] h = cK (E mX0_become [aR (some a0), aJ a1, aJ a2] h) fun v h2 => X mX4_mean 82 al (v.toList ++ []) h2 := x_cal (as := [aR (some a0), aJ a1, aJ a2]) (rest := []) dX4_mean_79 (fun _ => rfl) cT_4_195 rfl rfl ho
theorem x_X4_mean_82 {al st : List AV} {h : AH} : X mX4_mean 82 al st h = X mX4_mean 83 al (aI 1 :: st) h := X_of dX4_mean_82 rfl
theorem x_X4_mean_83 {z : Int} {al : List AV} {h : AH} : X mX4_mean 83 al [aI z] h = some (some (aI z), h) := X_ofR dX4_mean_83 rfl
theorem e_X4_row {p0 : Option Nat} {p1 : Int} {p2 : Int} {h : AH} : E mX4_row [aR p0, aI p1, aI p2] h = X mX4_row 0 [aR p0, aI p1, aI p2, aU] [] h := rfl
theorem x_X4_row_0 {v1 v2 v3 : AV} {z : Option Nat} {st : List AV} {h : AH} : X mX4_row 0 [aR z, v1, v2, v3] st h = X mX4_row 1 [aR z, v1, v2, v3] (aR z :: st) h := X_of dX4_row_0 rfl
theorem x_X4_row_1 {v0 v2 v3 : AV} {z : Int} {st : List AV} {h : AH} : X mX4_row 1 [v0, aI z, v2, v3] st h = X mX4_row 2 [v0, aI z, v2, v3] (aI z :: st) h := X_of dX4_row_1 rfl
theorem x_X4_row_2 {a0 : Nat} {a1 : Int} {al : List AV} {h : AH} (ho : isO h 4 a0 = true) : X mX4_row 2 al [aI a1, aR (some a0)] h = cK (E mX4_machineAt [aR (some a0), aI a1] h) fun v h2 => X mX4_row 5 al (v.toList ++ []) h2 := x_cal (as := [aR (some a0), aI a1]) (rest := []) dX4_row_2 (fun _ => rfl) cT_4_71 rfl rfl ho
theorem x_X4_row_5 {v0 v1 v3 : AV} {y : Int} {z : Option Nat} {st : List AV} {h : AH} : X mX4_row 5 [v0, v1, aI y, v3] (aR z :: st) h = X mX4_row 6 [v0, v1, aI y, aR z] st h := X_of dX4_row_5 rfl
theorem x_X4_row_6 {v0 v1 v2 : AV} {z : Option Nat} {st : List AV} {h : AH} : X mX4_row 6 [v0, v1, v2, aR z] st h = X mX4_row 7 [v0, v1, v2, aR z] (aR z :: st) h := X_of dX4_row_6 rfl
theorem x_X4_row_7n {al st : List AV} {h : AH} : X mX4_row 7 al (aR none :: st) h = X mX4_row 10 al st h := X_of dX4_row_7 rfl
theorem x_X4_row_7s {a : Nat} {al st : List AV} {h : AH} : X mX4_row 7 al (aR (some a) :: st) h = X mX4_row 12 al st h := X_of dX4_row_7 rfl
theorem x_X4_row_10 {al st : List AV} {h : AH} : X mX4_row 10 al st h = X mX4_row 11 al (aI (-1) :: st) h := X_of dX4_row_10 rfl
theorem x_X4_row_11 {z : Int} {al : List AV} {h : AH} : X mX4_row 11 al [aI z] h = some (some (aI z), h) := X_ofR dX4_row_11 rfl
theorem x_X4_row_12 {v0 v1 v2 : AV} {z : Option Nat} {st : List AV} {h : AH} : X mX4_row 12 [v0, v1, v2, aR z] st h = X mX4_row 13 [v0, v1, v2, aR z] (aR z :: st) h := X_of dX4_row_12 rfl
theorem x_X4_row_13 {al st : List AV} {h : AH} : X mX4_row 13 al st h = X mX4_row 14 al (aI 2 :: st) h := X_of dX4_row_13 rfl
theorem x_X4_row_14 {a0 : Nat} {a1 : Int} {al : List AV} {h : AH} (ho : isO h 1 a0 = true) : X mX4_row 14 al [aI a1, aR (some a0)] h = cK (E mX1_isUnder [aR (some a0), aI a1] h) fun v h2 => X mX4_row 17 al (v.toList ++ []) h2 := x_cal (as := [aR (some a0), aI a1]) (rest := []) dX4_row_14 (fun _ => rfl) cT_4_122 rfl rfl ho
theorem x_X4_row_17 {a : Int} {al st : List AV} {h : AH} : X mX4_row 17 al (aI a :: st) h = if ¬ a = 0 then X mX4_row 26 al st h else X mX4_row 20 al st h := x_ne0 dX4_row_17 rfl
theorem x_X4_row_20 {v1 v2 v3 : AV} {z : Option Nat} {st : List AV} {h : AH} : X mX4_row 20 [aR z, v1, v2, v3] st h = X mX4_row 21 [aR z, v1, v2, v3] (aR z :: st) h := X_of dX4_row_20 rfl
theorem x_X4_row_21 {al st : List AV} {h : AH} : X mX4_row 21 al st h = X mX4_row 22 al (aI 3 :: st) h := X_of dX4_row_21 rfl
theorem x_X4_row_22 {a0 : Nat} {a1 : Int} {al : List AV} {h : AH} (ho : isO h 4 a0 = true) : X mX4_row 22 al [aI a1, aR (some a0)] h = cK (E mX4_found [aR (some a0), aI a1] h) fun v h2 => X mX4_row 25 al (v.toList ++ []) h2 := x_cal (as := [aR (some a0), aI a1]) (rest := []) dX4_row_22 (fun _ => rfl) cT_4_79 rfl rfl ho
theorem x_X4_row_25 {z : Int} {al : List AV} {h : AH} : X mX4_row 25 al [aI z] h = some (some (aI z), h) := X_ofR dX4_row_25 rfl
theorem x_X4_row_26 {v0 v1 v2 : AV} {z : Option Nat} {st : List AV} {h : AH} : X mX4_row 26 [v0, v1, v2, aR z] st h = X mX4_row 27 [v0, v1, v2, aR z] (aR z :: st) h := X_of dX4_row_26 rfl
theorem x_X4_row_27 {v0 v1 v3 : AV} {z : Int} {st : List AV} {h : AH} : X mX4_row 27 [v0, v1, aI z, v3] st h = X mX4_row 28 [v0, v1, aI z, v3] (aI z :: st) h := X_of dX4_row_27 rfl
theorem x_X4_row_28 {a0 : Nat} {a1 : Int} {al : List AV} {h : AH} (ho : isO h 1 a0 = true) : X mX4_row 28 al [aI a1, aR (some a0)] h = cK (E mX1_has [aR (some a0), aI a1] h) fun v h2 => X mX4_row 31 al (v.toList ++ []) h2 := x_cal (as := [aR (some a0), aI a1]) (rest := []) dX4_row_28 (fun _ => rfl) cT_4_137 rfl rfl ho
theorem x_X4_row_31 {a : Int} {al st : List AV} {h : AH} : X mX4_row 31 al (aI a :: st) h = if ¬ a = 0 then X mX4_row 40 al st h else X mX4_row 34 al st h := x_ne0 dX4_row_31 rfl
theorem x_X4_row_34 {v1 v2 v3 : AV} {z : Option Nat} {st : List AV} {h : AH} : X mX4_row 34 [aR z, v1, v2, v3] st h = X mX4_row 35 [aR z, v1, v2, v3] (aR z :: st) h := X_of dX4_row_34 rfl
theorem x_X4_row_35 {al st : List AV} {h : AH} : X mX4_row 35 al st h = X mX4_row 36 al (aI 2 :: st) h := X_of dX4_row_35 rfl
theorem x_X4_row_36 {a0 : Nat} {a1 : Int} {al : List AV} {h : AH} (ho : isO h 4 a0 = true) : X mX4_row 36 al [aI a1, aR (some a0)] h = cK (E mX4_found [aR (some a0), aI a1] h) fun v h2 => X mX4_row 39 al (v.toList ++ []) h2 := x_cal (as := [aR (some a0), aI a1]) (rest := []) dX4_row_36 (fun _ => rfl) cT_4_79 rfl rfl ho
theorem x_X4_row_39 {z : Int} {al : List AV} {h : AH} : X mX4_row 39 al [aI z] h = some (some (aI z), h) := X_ofR dX4_row_39 rfl
theorem x_X4_row_40 {v1 v2 v3 : AV} {z : Option Nat} {st : List AV} {h : AH} : X mX4_row 40 [aR z, v1, v2, v3] st h = X mX4_row 41 [aR z, v1, v2, v3] (aR z :: st) h := X_of dX4_row_40 rfl
theorem x_X4_row_41 {a : Nat} {al st : List AV} {h : AH} : X mX4_row 41 al (aR (some a) :: st) h = gK (rd h 4 a 2) fun v => X mX4_row 44 al (v :: st) h := x_get dX4_row_41 fT_4_24
theorem x_X4_row_44 {v0 v1 v2 : AV} {z : Option Nat} {st : List AV} {h : AH} : X mX4_row 44 [v0, v1, v2, aR z] st h = X mX4_row 45 [v0, v1, v2, aR z] (aR z :: st) h := X_of dX4_row_44 rfl
theorem x_X4_row_45 {v0 v1 v3 : AV} {z : Int} {st : List AV} {h : AH} : X mX4_row 45 [v0, v1, aI z, v3] st h = X mX4_row 46 [v0, v1, aI z, v3] (aI z :: st) h := X_of dX4_row_45 rfl
theorem x_X4_row_46 {v1 v2 v3 : AV} {z : Option Nat} {st : List AV} {h : AH} : X mX4_row 46 [aR z, v1, v2, v3] st h = X mX4_row 47 [aR z, v1, v2, v3] (aR z :: st) h := X_of dX4_row_46 rfl
theorem x_X4_row_47 {a : Nat} {al st : List AV} {h : AH} : X mX4_row 47 al (aR (some a) :: st) h = gK (rd h 4 a 8) fun v => X mX4_row 50 al (v :: st) h := x_get dX4_row_47 fT_4_49
theorem x_X4_row_50 {v1 v2 v3 : AV} {z : Option Nat} {st : List AV} {h : AH} : X mX4_row 50 [aR z, v1, v2, v3] st h = X mX4_row 51 [aR z, v1, v2, v3] (aR z :: st) h := X_of dX4_row_50 rfl
theorem x_X4_row_51 {a : Nat} {al st : List AV} {h : AH} : X mX4_row 51 al (aR (some a) :: st) h = gK (rd h 4 a 9) fun v => X mX4_row 54 al (v :: st) h := x_get dX4_row_51 fT_4_52
theorem x_X4_row_54 {a0 : Nat} {a1 : Option Nat} {a2 : Int} {a3 : Int} {a4 : Int} {al : List AV} {h : AH} (ho : isO h 2 a0 = true) : X mX4_row 54 al [aI a4, aI a3, aI a2, aR a1, aR (some a0)] h = cK (E mX2_longestRow [aR (some a0), aR a1, aI a2, aI a3, aI a4] h) fun v h2 => X mX4_row 57 al (v.toList ++ []) h2 := x_cal (as := [aR (some a0), aR a1, aI a2, aI a3, aI a4]) (rest := []) dX4_row_54 (fun _ => rfl) cT_4_199 rfl rfl ho
theorem x_X4_row_57 {z : Int} {al : List AV} {h : AH} : X mX4_row 57 al [aI z] h = some (some (aI z), h) := X_ofR dX4_row_57 rfl
theorem e_X4_least {p0 : Option Nat} {p1 : Int} {h : AH} : E mX4_least [aR p0, aI p1] h = X mX4_least 0 [aR p0, aI p1, aU, aU, aU] [] h := rfl
theorem x_X4_least_0 {v1 v2 v3 v4 : AV} {z : Option Nat} {st : List AV} {h : AH} : X mX4_least 0 [aR z, v1, v2, v3, v4] st h = X mX4_least 1 [aR z, v1, v2, v3, v4] (aR z :: st) h := X_of dX4_least_0 rfl
theorem x_X4_least_1 {v0 v2 v3 v4 : AV} {z : Int} {st : List AV} {h : AH} : X mX4_least 1 [v0, aI z, v2, v3, v4] st h = X mX4_least 2 [v0, aI z, v2, v3, v4] (aI z :: st) h := X_of dX4_least_1 rfl
theorem x_X4_least_2 {a0 : Nat} {a1 : Int} {al : List AV} {h : AH} (ho : isO h 4 a0 = true) : X mX4_least 2 al [aI a1, aR (some a0)] h = cK (E mX4_machineAt [aR (some a0), aI a1] h) fun v h2 => X mX4_least 5 al (v.toList ++ []) h2 := x_cal (as := [aR (some a0), aI a1]) (rest := []) dX4_least_2 (fun _ => rfl) cT_4_71 rfl rfl ho
theorem x_X4_least_5 {v0 v2 v3 v4 : AV} {y : Int} {z : Option Nat} {st : List AV} {h : AH} : X mX4_least 5 [v0, aI y, v2, v3, v4] (aR z :: st) h = X mX4_least 6 [v0, aI y, aR z, v3, v4] st h := X_of dX4_least_5 rfl
theorem x_X4_least_6 {v0 v1 v3 v4 : AV} {z : Option Nat} {st : List AV} {h : AH} : X mX4_least 6 [v0, v1, aR z, v3, v4] st h = X mX4_least 7 [v0, v1, aR z, v3, v4] (aR z :: st) h := X_of dX4_least_6 rfl
theorem x_X4_least_7n {al st : List AV} {h : AH} : X mX4_least 7 al (aR none :: st) h = X mX4_least 10 al st h := X_of dX4_least_7 rfl
theorem x_X4_least_7s {a : Nat} {al st : List AV} {h : AH} : X mX4_least 7 al (aR (some a) :: st) h = X mX4_least 12 al st h := X_of dX4_least_7 rfl
theorem x_X4_least_10 {al st : List AV} {h : AH} : X mX4_least 10 al st h = X mX4_least 11 al (aI (-1) :: st) h := X_of dX4_least_10 rfl
theorem x_X4_least_11 {z : Int} {al : List AV} {h : AH} : X mX4_least 11 al [aI z] h = some (some (aI z), h) := X_ofR dX4_least_11 rfl
theorem x_X4_least_12 {al st : List AV} {h : AH} : X mX4_least 12 al st h = X mX4_least 13 al (aI 0 :: st) h := X_of dX4_least_12 rfl
theorem x_X4_least_13 {v0 v1 v3 v4 : AV} {y : Option Nat} {z : Int} {st : List AV} {h : AH} : X mX4_least 13 [v0, v1, aR y, v3, v4] (aI z :: st) h = X mX4_least 14 [v0, v1, aR y, aI z, v4] st h := X_of dX4_least_13 rfl
theorem x_X4_least_14 {al st : List AV} {h : AH} : X mX4_least 14 al st h = X mX4_least 15 al (aI 1 :: st) h := X_of dX4_least_14 rfl
theorem x_X4_least_15 {v0 v1 v2 v4 : AV} {y : Int} {z : Int} {st : List AV} {h : AH} : X mX4_least 15 [v0, v1, v2, aI y, v4] (aI z :: st) h = X mX4_least 17 [v0, v1, v2, aI y, aI z] st h := X_of dX4_least_15 rfl
theorem x_X4_least_17 {v0 v1 v2 v3 : AV} {z : Int} {st : List AV} {h : AH} : X mX4_least 17 [v0, v1, v2, v3, aI z] st h = X mX4_least 19 [v0, v1, v2, v3, aI z] (aI z :: st) h := X_of dX4_least_17 rfl
theorem x_X4_least_19 {v0 v1 v3 v4 : AV} {z : Option Nat} {st : List AV} {h : AH} : X mX4_least 19 [v0, v1, aR z, v3, v4] st h = X mX4_least 20 [v0, v1, aR z, v3, v4] (aR z :: st) h := X_of dX4_least_19 rfl
theorem x_X4_least_20 {a : Nat} {al st : List AV} {h : AH} : X mX4_least 20 al (aR (some a) :: st) h = gK (rd h 1 a 1) fun v => X mX4_least 23 al (v :: st) h := x_get dX4_least_20 fT_4_127
theorem x_X4_least_23 {a b : Int} {al st : List AV} {h : AH} : X mX4_least 23 al (aI b :: aI a :: st) h = if b ≤ a then X mX4_least 54 al st h else X mX4_least 26 al st h := x_geC dX4_least_23 rfl
theorem x_X4_least_26 {v1 v2 v3 v4 : AV} {z : Option Nat} {st : List AV} {h : AH} : X mX4_least 26 [aR z, v1, v2, v3, v4] st h = X mX4_least 27 [aR z, v1, v2, v3, v4] (aR z :: st) h := X_of dX4_least_26 rfl
theorem x_X4_least_27 {v0 v1 v3 v4 : AV} {z : Option Nat} {st : List AV} {h : AH} : X mX4_least 27 [v0, v1, aR z, v3, v4] st h = X mX4_least 28 [v0, v1, aR z, v3, v4] (aR z :: st) h := X_of dX4_least_27 rfl
theorem x_X4_least_28 {v0 v1 v2 v3 : AV} {z : Int} {st : List AV} {h : AH} : X mX4_least 28 [v0, v1, v2, v3, aI z] st h = X mX4_least 30 [v0, v1, v2, v3, aI z] (aI z :: st) h := X_of dX4_least_28 rfl
theorem x_X4_least_30 {a0 : Nat} {a1 : Option Nat} {a2 : Int} {al : List AV} {h : AH} (ho : isO h 4 a0 = true) : X mX4_least 30 al [aI a2, aR a1, aR (some a0)] h = cK (E mX4_worthOf [aR (some a0), aR a1, aI a2] h) fun v h2 => X mX4_least 33 al (v.toList ++ []) h2 := x_cal (as := [aR (some a0), aR a1, aI a2]) (rest := []) dX4_least_30 (fun _ => rfl) cT_4_160 rfl rfl ho
theorem x_X4_least_33 {v1 v2 v3 v4 : AV} {z : Option Nat} {st : List AV} {h : AH} : X mX4_least 33 [aR z, v1, v2, v3, v4] st h = X mX4_least 34 [aR z, v1, v2, v3, v4] (aR z :: st) h := X_of dX4_least_33 rfl
theorem x_X4_least_34 {v0 v1 v3 v4 : AV} {z : Option Nat} {st : List AV} {h : AH} : X mX4_least 34 [v0, v1, aR z, v3, v4] st h = X mX4_least 35 [v0, v1, aR z, v3, v4] (aR z :: st) h := X_of dX4_least_34 rfl
theorem x_X4_least_35 {v0 v1 v2 v4 : AV} {z : Int} {st : List AV} {h : AH} : X mX4_least 35 [v0, v1, v2, aI z, v4] st h = X mX4_least 36 [v0, v1, v2, aI z, v4] (aI z :: st) h := X_of dX4_least_35 rfl
theorem x_X4_least_36 {a0 : Nat} {a1 : Option Nat} {a2 : Int} {r0 : Option Nat} {al : List AV} {h : AH} (ho : isO h 4 a0 = true) : X mX4_least 36 al [aI a2, aR a1, aR (some a0), aR r0] h = cK (E mX4_worthOf [aR (some a0), aR a1, aI a2] h) fun v h2 => X mX4_least 39 al (v.toList ++ [aR r0]) h2 := x_cal (as := [aR (some a0), aR a1, aI a2]) (rest := [aR r0]) dX4_least_36 (fun _ => rfl) cT_4_160 rfl rfl ho
theorem x_X4_least_39 {a0 : Nat} {a1 : Option Nat} {al : List AV} {h : AH} (ho : isO h 0 a0 = true) : X mX4_least 39 al [aR a1, aR (some a0)] h = cK (E mX0_against [aR (some a0), aR a1] h) fun v h2 => X mX4_least 42 al (v.toList ++ []) h2 := x_cal (as := [aR (some a0), aR a1]) (rest := []) dX4_least_39 (fun _ => rfl) cT_4_182 rfl rfl ho
theorem x_X4_least_42 {a : Int} {al st : List AV} {h : AH} : X mX4_least 42 al (aI a :: st) h = if 0 ≤ a then X mX4_least 48 al st h else X mX4_least 45 al st h := x_ge0 dX4_least_42 rfl
theorem x_X4_least_45 {v0 v1 v2 v3 : AV} {z : Int} {st : List AV} {h : AH} : X mX4_least 45 [v0, v1, v2, v3, aI z] st h = X mX4_least 47 [v0, v1, v2, v3, aI z] (aI z :: st) h := X_of dX4_least_45 rfl
theorem x_X4_least_47 {v0 v1 v3 v4 : AV} {y : Option Nat} {z : Int} {st : List AV} {h : AH} : X mX4_least 47 [v0, v1, aR y, v3, v4] (aI z :: st) h = X mX4_least 48 [v0, v1, aR y, aI z, v4] st h := X_of dX4_least_47 rfl
theorem x_X4_least_48 {v0 v1 v2 : AV} {y : Int} {z : Int} {st : List AV} {h : AH} : X mX4_least 48 [v0, v1, v2, aI y, aI z] st h = X mX4_least 51 [v0, v1, v2, aI y, aI (w32 (z + 1))] st h := X_of dX4_least_48 rfl
theorem x_X4_least_51 {al st : List AV} {h : AH} : X mX4_least 51 al st h = X mX4_least 17 al st h := X_of dX4_least_51 rfl
theorem x_X4_least_54 {v1 v2 v3 v4 : AV} {z : Option Nat} {st : List AV} {h : AH} : X mX4_least 54 [aR z, v1, v2, v3, v4] st h = X mX4_least 55 [aR z, v1, v2, v3, v4] (aR z :: st) h := X_of dX4_least_54 rfl
theorem x_X4_least_55 {a : Nat} {al st : List AV} {h : AH} : X mX4_least 55 al (aR (some a) :: st) h = gK (rd h 4 a 3) fun v => X mX4_least 58 al (v :: st) h := x_get dX4_least_55 fT_4_31
theorem x_X4_least_58 {v1 v2 v3 v4 : AV} {z : Option Nat} {st : List AV} {h : AH} : X mX4_least 58 [aR z, v1, v2, v3, v4] st h = X mX4_least 59 [aR z, v1, v2, v3, v4] (aR z :: st) h := X_of dX4_least_58 rfl
theorem x_X4_least_59 {v0 v1 v3 v4 : AV} {z : Option Nat} {st : List AV} {h : AH} : X mX4_least 59 [v0, v1, aR z, v3, v4] st h = X mX4_least 60 [v0, v1, aR z, v3, v4] (aR z :: st) h := X_of dX4_least_59 rfl
theorem x_X4_least_60 {v0 v1 v2 v4 : AV} {z : Int} {st : List AV} {h : AH} : X mX4_least 60 [v0, v1, v2, aI z, v4] st h = X mX4_least 61 [v0, v1, v2, aI z, v4] (aI z :: st) h := X_of dX4_least_60 rfl
theorem x_X4_least_61 {a0 : Nat} {a1 : Option Nat} {a2 : Int} {r0 : Option Nat} {al : List AV} {h : AH} (ho : isO h 4 a0 = true) : X mX4_least 61 al [aI a2, aR a1, aR (some a0), aR r0] h = cK (E mX4_worthOf [aR (some a0), aR a1, aI a2] h) fun v h2 => X mX4_least 64 al (v.toList ++ [aR r0]) h2 := x_cal (as := [aR (some a0), aR a1, aI a2]) (rest := [aR r0]) dX4_least_61 (fun _ => rfl) cT_4_160 rfl rfl ho
theorem x_X4_least_64 {a0 : Nat} {a1 : Option Nat} {al : List AV} {h : AH} (ho : isO h 0 a0 = true) : X mX4_least 64 al [aR a1, aR (some a0)] h = cK (E mX0_take [aR (some a0), aR a1] h) fun v h2 => X mX4_least 67 al (v.toList ++ []) h2 := x_cal (as := [aR (some a0), aR a1]) (rest := []) dX4_least_64 (fun _ => rfl) cT_4_164 rfl rfl ho
theorem x_X4_least_67 {al st : List AV} {h : AH} : X mX4_least 67 al st h = X mX4_least 68 al (aI 1 :: st) h := X_of dX4_least_67 rfl
theorem x_X4_least_68 {z : Int} {al : List AV} {h : AH} : X mX4_least 68 al [aI z] h = some (some (aI z), h) := X_ofR dX4_least_68 rfl
theorem e_X4_compare {p0 : Option Nat} {p1 : Int} {p2 : Int} {p3 : Int} {p4 : Int} {h : AH} : E mX4_compare [aR p0, aI p1, aI p2, aI p3, aI p4] h = X mX4_compare 0 [aR p0, aI p1, aI p2, aI p3, aI p4, aU, aU] [] h := rfl
theorem x_X4_compare_0 {v1 v2 v3 v4 v5 v6 : AV} {z : Option Nat} {st : List AV} {h : AH} : X mX4_compare 0 [aR z, v1, v2, v3, v4, v5, v6] st h = X mX4_compare 1 [aR z, v1, v2, v3, v4, v5, v6] (aR z :: st) h := X_of dX4_compare_0 rfl
theorem x_X4_compare_1 {v0 v2 v3 v4 v5 v6 : AV} {z : Int} {st : List AV} {h : AH} : X mX4_compare 1 [v0, aI z, v2, v3, v4, v5, v6] st h = X mX4_compare 2 [v0, aI z, v2, v3, v4, v5, v6] (aI z :: st) h := X_of dX4_compare_1 rfl
theorem x_X4_compare_2 {a0 : Nat} {a1 : Int} {al : List AV} {h : AH} (ho : isO h 4 a0 = true) : X mX4_compare 2 al [aI a1, aR (some a0)] h = cK (E mX4_machineAt [aR (some a0), aI a1] h) fun v h2 => X mX4_compare 5 al (v.toList ++ []) h2 := x_cal (as := [aR (some a0), aI a1]) (rest := []) dX4_compare_2 (fun _ => rfl) cT_4_71 rfl rfl ho
theorem x_X4_compare_5 {v0 v1 v2 v3 v5 v6 : AV} {y : Int} {z : Option Nat} {st : List AV} {h : AH} : X mX4_compare 5 [v0, v1, v2, v3, aI y, v5, v6] (aR z :: st) h = X mX4_compare 7 [v0, v1, v2, v3, aI y, aR z, v6] st h := X_of dX4_compare_5 rfl
theorem x_X4_compare_7 {v1 v2 v3 v4 v5 v6 : AV} {z : Option Nat} {st : List AV} {h : AH} : X mX4_compare 7 [aR z, v1, v2, v3, v4, v5, v6] st h = X mX4_compare 8 [aR z, v1, v2, v3, v4, v5, v6] (aR z :: st) h := X_of dX4_compare_7 rfl
theorem x_X4_compare_8 {v0 v1 v2 v4 v5 v6 : AV} {z : Int} {st : List AV} {h : AH} : X mX4_compare 8 [v0, v1, v2, aI z, v4, v5, v6] st h = X mX4_compare 9 [v0, v1, v2, aI z, v4, v5, v6] (aI z :: st) h := X_of dX4_compare_8 rfl
theorem x_X4_compare_9 {a0 : Nat} {a1 : Int} {al : List AV} {h : AH} (ho : isO h 4 a0 = true) : X mX4_compare 9 al [aI a1, aR (some a0)] h = cK (E mX4_machineAt [aR (some a0), aI a1] h) fun v h2 => X mX4_compare 12 al (v.toList ++ []) h2 := x_cal (as := [aR (some a0), aI a1]) (rest := []) dX4_compare_9 (fun _ => rfl) cT_4_71 rfl rfl ho
theorem x_X4_compare_12 {v0 v1 v2 v3 v4 v6 : AV} {y : Option Nat} {z : Option Nat} {st : List AV} {h : AH} : X mX4_compare 12 [v0, v1, v2, v3, v4, aR y, v6] (aR z :: st) h = X mX4_compare 14 [v0, v1, v2, v3, v4, aR y, aR z] st h := X_of dX4_compare_12 rfl
theorem x_X4_compare_14 {v0 v1 v2 v3 v4 v6 : AV} {z : Option Nat} {st : List AV} {h : AH} : X mX4_compare 14 [v0, v1, v2, v3, v4, aR z, v6] st h = X mX4_compare 16 [v0, v1, v2, v3, v4, aR z, v6] (aR z :: st) h := X_of dX4_compare_14 rfl
theorem x_X4_compare_16n {al st : List AV} {h : AH} : X mX4_compare 16 al (aR none :: st) h = X mX4_compare 24 al st h := X_of dX4_compare_16 rfl
theorem x_X4_compare_16s {a : Nat} {al st : List AV} {h : AH} : X mX4_compare 16 al (aR (some a) :: st) h = X mX4_compare 19 al st h := X_of dX4_compare_16 rfl
theorem x_X4_compare_19 {v0 v1 v2 v3 v4 v5 : AV} {z : Option Nat} {st : List AV} {h : AH} : X mX4_compare 19 [v0, v1, v2, v3, v4, v5, aR z] st h = X mX4_compare 21 [v0, v1, v2, v3, v4, v5, aR z] (aR z :: st) h := X_of dX4_compare_19 rfl
theorem x_X4_compare_21n {al st : List AV} {h : AH} : X mX4_compare 21 al (aR none :: st) h = X mX4_compare 24 al st h := X_of dX4_compare_21 rfl
theorem x_X4_compare_21s {a : Nat} {al st : List AV} {h : AH} : X mX4_compare 21 al (aR (some a) :: st) h = X mX4_compare 26 al st h := X_of dX4_compare_21 rfl
theorem x_X4_compare_24 {al st : List AV} {h : AH} : X mX4_compare 24 al st h = X mX4_compare 25 al (aI (-1) :: st) h := X_of dX4_compare_24 rfl
theorem x_X4_compare_25 {z : Int} {al : List AV} {h : AH} : X mX4_compare 25 al [aI z] h = some (some (aI z), h) := X_ofR dX4_compare_25 rfl
theorem x_X4_compare_26 {v0 v1 v2 v3 v4 v6 : AV} {z : Option Nat} {st : List AV} {h : AH} : X mX4_compare 26 [v0, v1, v2, v3, v4, aR z, v6] st h = X mX4_compare 28 [v0, v1, v2, v3, v4, aR z, v6] (aR z :: st) h := X_of dX4_compare_26 rfl
theorem x_X4_compare_28 {v0 v1 v3 v4 v5 v6 : AV} {z : Int} {st : List AV} {h : AH} : X mX4_compare 28 [v0, v1, aI z, v3, v4, v5, v6] st h = X mX4_compare 29 [v0, v1, aI z, v3, v4, v5, v6] (aI z :: st) h := X_of dX4_compare_28 rfl
theorem x_X4_compare_29 {a0 : Nat} {a1 : Int} {al : List AV} {h : AH} (ho : isO h 1 a0 = true) : X mX4_compare 29 al [aI a1, aR (some a0)] h = cK (E mX1_has [aR (some a0), aI a1] h) fun v h2 => X mX4_compare 32 al (v.toList ++ []) h2 := x_cal (as := [aR (some a0), aI a1]) (rest := []) dX4_compare_29 (fun _ => rfl) cT_4_137 rfl rfl ho
theorem x_X4_compare_32 {a : Int} {al st : List AV} {h : AH} : X mX4_compare 32 al (aI a :: st) h = if a = 0 then X mX4_compare 45 al st h else X mX4_compare 35 al st h := x_eq0 dX4_compare_32 rfl
theorem x_X4_compare_35 {v0 v1 v2 v3 v4 v5 : AV} {z : Option Nat} {st : List AV} {h : AH} : X mX4_compare 35 [v0, v1, v2, v3, v4, v5, aR z] st h = X mX4_compare 37 [v0, v1, v2, v3, v4, v5, aR z] (aR z :: st) h := X_of dX4_compare_35 rfl
theorem x_X4_compare_37 {v0 v1 v2 v3 v5 v6 : AV} {z : Int} {st : List AV} {h : AH} : X mX4_compare 37 [v0, v1, v2, v3, aI z, v5, v6] st h = X mX4_compare 39 [v0, v1, v2, v3, aI z, v5, v6] (aI z :: st) h := X_of dX4_compare_37 rfl
theorem x_X4_compare_39 {a0 : Nat} {a1 : Int} {al : List AV} {h : AH} (ho : isO h 1 a0 = true) : X mX4_compare 39 al [aI a1, aR (some a0)] h = cK (E mX1_has [aR (some a0), aI a1] h) fun v h2 => X mX4_compare 42 al (v.toList ++ []) h2 := x_cal (as := [aR (some a0), aI a1]) (rest := []) dX4_compare_39 (fun _ => rfl) cT_4_137 rfl rfl ho
theorem x_X4_compare_42 {a : Int} {al st : List AV} {h : AH} : X mX4_compare 42 al (aI a :: st) h = if ¬ a = 0 then X mX4_compare 51 al st h else X mX4_compare 45 al st h := x_ne0 dX4_compare_42 rfl
theorem x_X4_compare_45 {v1 v2 v3 v4 v5 v6 : AV} {z : Option Nat} {st : List AV} {h : AH} : X mX4_compare 45 [aR z, v1, v2, v3, v4, v5, v6] st h = X mX4_compare 46 [aR z, v1, v2, v3, v4, v5, v6] (aR z :: st) h := X_of dX4_compare_45 rfl
theorem x_X4_compare_46 {al st : List AV} {h : AH} : X mX4_compare 46 al st h = X mX4_compare 47 al (aI 2 :: st) h := X_of dX4_compare_46 rfl
theorem x_X4_compare_47 {a0 : Nat} {a1 : Int} {al : List AV} {h : AH} (ho : isO h 4 a0 = true) : X mX4_compare 47 al [aI a1, aR (some a0)] h = cK (E mX4_found [aR (some a0), aI a1] h) fun v h2 => X mX4_compare 50 al (v.toList ++ []) h2 := x_cal (as := [aR (some a0), aI a1]) (rest := []) dX4_compare_47 (fun _ => rfl) cT_4_79 rfl rfl ho
theorem x_X4_compare_50 {z : Int} {al : List AV} {h : AH} : X mX4_compare 50 al [aI z] h = some (some (aI z), h) := X_ofR dX4_compare_50 rfl
theorem x_X4_compare_51 {v1 v2 v3 v4 v5 v6 : AV} {z : Option Nat} {st : List AV} {h : AH} : X mX4_compare 51 [aR z, v1, v2, v3, v4, v5, v6] st h = X mX4_compare 52 [aR z, v1, v2, v3, v4, v5, v6] (aR z :: st) h := X_of dX4_compare_51 rfl
theorem x_X4_compare_52 {v0 v1 v2 v3 v4 v6 : AV} {z : Option Nat} {st : List AV} {h : AH} : X mX4_compare 52 [v0, v1, v2, v3, v4, aR z, v6] st h = X mX4_compare 54 [v0, v1, v2, v3, v4, aR z, v6] (aR z :: st) h := X_of dX4_compare_52 rfl
theorem x_X4_compare_54 {v0 v1 v3 v4 v5 v6 : AV} {z : Int} {st : List AV} {h : AH} : X mX4_compare 54 [v0, v1, aI z, v3, v4, v5, v6] st h = X mX4_compare 55 [v0, v1, aI z, v3, v4, v5, v6] (aI z :: st) h := X_of dX4_compare_54 rfl
theorem x_X4_compare_55 {a0 : Nat} {a1 : Option Nat} {a2 : Int} {al : List AV} {h : AH} (ho : isO h 4 a0 = true) : X mX4_compare 55 al [aI a2, aR a1, aR (some a0)] h = cK (E mX4_worthOf [aR (some a0), aR a1, aI a2] h) fun v h2 => X mX4_compare 58 al (v.toList ++ []) h2 := x_cal (as := [aR (some a0), aR a1, aI a2]) (rest := []) dX4_compare_55 (fun _ => rfl) cT_4_160 rfl rfl ho
theorem x_X4_compare_58 {v1 v2 v3 v4 v5 v6 : AV} {z : Option Nat} {st : List AV} {h : AH} : X mX4_compare 58 [aR z, v1, v2, v3, v4, v5, v6] st h = X mX4_compare 59 [aR z, v1, v2, v3, v4, v5, v6] (aR z :: st) h := X_of dX4_compare_58 rfl
theorem x_X4_compare_59 {v0 v1 v2 v3 v4 v5 : AV} {z : Option Nat} {st : List AV} {h : AH} : X mX4_compare 59 [v0, v1, v2, v3, v4, v5, aR z] st h = X mX4_compare 61 [v0, v1, v2, v3, v4, v5, aR z] (aR z :: st) h := X_of dX4_compare_59 rfl
theorem x_X4_compare_61 {v0 v1 v2 v3 v5 v6 : AV} {z : Int} {st : List AV} {h : AH} : X mX4_compare 61 [v0, v1, v2, v3, aI z, v5, v6] st h = X mX4_compare 63 [v0, v1, v2, v3, aI z, v5, v6] (aI z :: st) h := X_of dX4_compare_61 rfl
theorem x_X4_compare_63 {a0 : Nat} {a1 : Option Nat} {a2 : Int} {r0 : Option Nat} {al : List AV} {h : AH} (ho : isO h 4 a0 = true) : X mX4_compare 63 al [aI a2, aR a1, aR (some a0), aR r0] h = cK (E mX4_worthOf [aR (some a0), aR a1, aI a2] h) fun v h2 => X mX4_compare 66 al (v.toList ++ [aR r0]) h2 := x_cal (as := [aR (some a0), aR a1, aI a2]) (rest := [aR r0]) dX4_compare_63 (fun _ => rfl) cT_4_160 rfl rfl ho
theorem x_X4_compare_66 {a0 : Nat} {a1 : Option Nat} {al : List AV} {h : AH} (ho : isO h 0 a0 = true) : X mX4_compare 66 al [aR a1, aR (some a0)] h = cK (E mX0_against [aR (some a0), aR a1] h) fun v h2 => X mX4_compare 69 al (v.toList ++ []) h2 := x_cal (as := [aR (some a0), aR a1]) (rest := []) dX4_compare_66 (fun _ => rfl) cT_4_182 rfl rfl ho
theorem x_X4_compare_69 {a0 : Int} {al : List AV} {h : AH} : X mX4_compare 69 al [aI a0] h = cK (E mX4_asAnswer [aI a0] h) fun v h2 => X mX4_compare 72 al (v.toList ++ []) h2 := x_cal (as := [aI a0]) (rest := []) dX4_compare_69 (fun _ => rfl) cT_4_192 rfl rfl rfl
theorem x_X4_compare_72 {z : Int} {al : List AV} {h : AH} : X mX4_compare 72 al [aI z] h = some (some (aI z), h) := X_ofR dX4_compare_72 rfl
theorem e_X4_seed {p0 : Option Nat} {p1 : Int} {h : AH} : E mX4_seed [aR p0, aI p1] h = X mX4_seed 0 [aR p0, aI p1, aU] [] h := rfl
theorem x_X4_seed_0 {v0 v2 : AV} {z : Int} {st : List AV} {h : AH} : X mX4_seed 0 [v0, aI z, v2] st h = X mX4_seed 1 [v0, aI z, v2] (aI z :: st) h := X_of dX4_seed_0 rfl
theorem x_X4_seed_1 {a : Int} {al st : List AV} {h : AH} : X mX4_seed 1 al (aI a :: st) h = if 0 ≤ a then X mX4_seed 6 al st h else X mX4_seed 4 al st h := x_ge0 dX4_seed_1 rfl
theorem x_X4_seed_4 {al st : List AV} {h : AH} : X mX4_seed 4 al st h = X mX4_seed 5 al (aI (-1) :: st) h := X_of dX4_seed_4 rfl
theorem x_X4_seed_5 {z : Int} {al : List AV} {h : AH} : X mX4_seed 5 al [aI z] h = some (some (aI z), h) := X_ofR dX4_seed_5 rfl
theorem x_X4_seed_6 {v1 v2 : AV} {z : Option Nat} {st : List AV} {h : AH} : X mX4_seed 6 [aR z, v1, v2] st h = X mX4_seed 7 [aR z, v1, v2] (aR z :: st) h := X_of dX4_seed_6 rfl
theorem x_X4_seed_7 {a : Nat} {al st : List AV} {h : AH} : X mX4_seed 7 al (aR (some a) :: st) h = gK (rd h 4 a 10) fun v => X mX4_seed 10 al (v :: st) h := x_get dX4_seed_7 fT_4_55
theorem x_X4_seed_10 {v0 v2 : AV} {y : Int} {z : Int} {st : List AV} {h : AH} : X mX4_seed 10 [v0, aI y, v2] (aI z :: st) h = X mX4_seed 11 [v0, aI y, aI z] st h := X_of dX4_seed_10 rfl
theorem x_X4_seed_11 {v1 v2 : AV} {z : Option Nat} {st : List AV} {h : AH} : X mX4_seed 11 [aR z, v1, v2] st h = X mX4_seed 12 [aR z, v1, v2] (aR z :: st) h := X_of dX4_seed_11 rfl
theorem x_X4_seed_12 {v0 v2 : AV} {z : Int} {st : List AV} {h : AH} : X mX4_seed 12 [v0, aI z, v2] st h = X mX4_seed 13 [v0, aI z, v2] (aI z :: st) h := X_of dX4_seed_12 rfl
theorem x_X4_seed_13 {a : Nat} {z : Int} {al st : List AV} {h : AH} : X mX4_seed 13 al (aI z :: aR (some a) :: st) h = pK (rd h 4 a 10) (X mX4_seed 16 al st (wr h 4 a 10 (aI z))) := x_put dX4_seed_13 fT_4_55 rfl rfl
theorem x_X4_seed_16 {v0 v1 : AV} {z : Int} {st : List AV} {h : AH} : X mX4_seed 16 [v0, v1, aI z] st h = X mX4_seed 17 [v0, v1, aI z] (aI z :: st) h := X_of dX4_seed_16 rfl
theorem x_X4_seed_17 {z : Int} {al : List AV} {h : AH} : X mX4_seed 17 al [aI z] h = some (some (aI z), h) := X_ofR dX4_seed_17 rfl
theorem e_X4_best {p0 : Option Nat} {h : AH} : E mX4_best [aR p0] h = X mX4_best 0 [aR p0] [] h := rfl
theorem x_X4_best_0 {z : Option Nat} {st : List AV} {h : AH} : X mX4_best 0 [aR z] st h = X mX4_best 1 [aR z] (aR z :: st) h := X_of dX4_best_0 rfl
theorem x_X4_best_1 {a0 : Nat} {al : List AV} {h : AH} (ho : isO h 4 a0 = true) : X mX4_best 1 al [aR (some a0)] h = cK (E mX4_bestMachine [aR (some a0)] h) fun v h2 => X mX4_best 4 al (v.toList ++ []) h2 := x_cal (as := [aR (some a0)]) (rest := []) dX4_best_1 (fun _ => rfl) cT_4_203 rfl rfl ho
theorem x_X4_best_4 {z : Int} {al : List AV} {h : AH} : X mX4_best 4 al [aI z] h = some (some (aI z), h) := X_ofR dX4_best_4 rfl
theorem e_X4_work {p0 : Option Nat} {p1 : Int} {h : AH} : E mX4_work [aR p0, aI p1] h = X mX4_work 0 [aR p0, aI p1, aU] [] h := rfl
theorem x_X4_work_0 {v1 v2 : AV} {z : Option Nat} {st : List AV} {h : AH} : X mX4_work 0 [aR z, v1, v2] st h = X mX4_work 1 [aR z, v1, v2] (aR z :: st) h := X_of dX4_work_0 rfl
theorem x_X4_work_1 {v0 v2 : AV} {z : Int} {st : List AV} {h : AH} : X mX4_work 1 [v0, aI z, v2] st h = X mX4_work 2 [v0, aI z, v2] (aI z :: st) h := X_of dX4_work_1 rfl
theorem x_X4_work_2 {a0 : Nat} {a1 : Int} {al : List AV} {h : AH} (ho : isO h 4 a0 = true) : X mX4_work 2 al [aI a1, aR (some a0)] h = cK (E mX4_machineAt [aR (some a0), aI a1] h) fun v h2 => X mX4_work 5 al (v.toList ++ []) h2 := x_cal (as := [aR (some a0), aI a1]) (rest := []) dX4_work_2 (fun _ => rfl) cT_4_71 rfl rfl ho
theorem x_X4_work_5 {v0 v2 : AV} {y : Int} {z : Option Nat} {st : List AV} {h : AH} : X mX4_work 5 [v0, aI y, v2] (aR z :: st) h = X mX4_work 6 [v0, aI y, aR z] st h := X_of dX4_work_5 rfl
theorem x_X4_work_6 {v0 v1 : AV} {z : Option Nat} {st : List AV} {h : AH} : X mX4_work 6 [v0, v1, aR z] st h = X mX4_work 7 [v0, v1, aR z] (aR z :: st) h := X_of dX4_work_6 rfl
theorem x_X4_work_7n {al st : List AV} {h : AH} : X mX4_work 7 al (aR none :: st) h = X mX4_work 10 al st h := X_of dX4_work_7 rfl
theorem x_X4_work_7s {a : Nat} {al st : List AV} {h : AH} : X mX4_work 7 al (aR (some a) :: st) h = X mX4_work 12 al st h := X_of dX4_work_7 rfl
theorem x_X4_work_10 {al st : List AV} {h : AH} : X mX4_work 10 al st h = X mX4_work 11 al (aI (-1) :: st) h := X_of dX4_work_10 rfl
theorem x_X4_work_11 {z : Int} {al : List AV} {h : AH} : X mX4_work 11 al [aI z] h = some (some (aI z), h) := X_ofR dX4_work_11 rfl
theorem x_X4_work_12 {v1 v2 : AV} {z : Option Nat} {st : List AV} {h : AH} : X mX4_work 12 [aR z, v1, v2] st h = X mX4_work 13 [aR z, v1, v2] (aR z :: st) h := X_of dX4_work_12 rfl
theorem x_X4_work_13 {v0 v1 : AV} {z : Option Nat} {st : List AV} {h : AH} : X mX4_work 13 [v0, v1, aR z] st h = X mX4_work 14 [v0, v1, aR z] (aR z :: st) h := X_of dX4_work_13 rfl
theorem x_X4_work_14 {a0 : Nat} {a1 : Option Nat} {al : List AV} {h : AH} (ho : isO h 4 a0 = true) : X mX4_work 14 al [aR a1, aR (some a0)] h = cK (E mX4_workOnce [aR (some a0), aR a1] h) fun v h2 => X mX4_work 17 al (v.toList ++ []) h2 := x_cal (as := [aR (some a0), aR a1]) (rest := []) dX4_work_14 (fun _ => rfl) cT_4_207 rfl rfl ho
theorem x_X4_work_17 {z : Int} {al st : List AV} {h : AH} : X mX4_work 17 al (aI z :: st) h = X mX4_work 18 al st h := X_of dX4_work_17 rfl
theorem x_X4_work_18 {v0 v1 : AV} {z : Option Nat} {st : List AV} {h : AH} : X mX4_work 18 [v0, v1, aR z] st h = X mX4_work 19 [v0, v1, aR z] (aR z :: st) h := X_of dX4_work_18 rfl
theorem x_X4_work_19 {a : Nat} {al st : List AV} {h : AH} : X mX4_work 19 al (aR (some a) :: st) h = gK (rd h 1 a 6) fun v => X mX4_work 22 al (v :: st) h := x_get dX4_work_19 fT_4_130
theorem x_X4_work_22 {z : Int} {al : List AV} {h : AH} : X mX4_work 22 al [aI z] h = some (some (aI z), h) := X_ofR dX4_work_22 rfl
theorem e_X4_run {p0 : Option Nat} {p1 : Int} {h : AH} : E mX4_run [aR p0, aI p1] h = X mX4_run 0 [aR p0, aI p1, aU, aU, aU] [] h := rfl
theorem x_X4_run_0 {v0 v2 v3 v4 : AV} {z : Int} {st : List AV} {h : AH} : X mX4_run 0 [v0, aI z, v2, v3, v4] st h = X mX4_run 1 [v0, aI z, v2, v3, v4] (aI z :: st) h := X_of dX4_run_0 rfl
theorem x_X4_run_1 {a : Int} {al st : List AV} {h : AH} : X mX4_run 1 al (aI a :: st) h = if a < 0 then X mX4_run 11 al st h else X mX4_run 4 al st h := x_lt0 dX4_run_1 rfl
theorem x_X4_run_4 {v0 v2 v3 v4 : AV} {z : Int} {st : List AV} {h : AH} : X mX4_run 4 [v0, aI z, v2, v3, v4] st h = X mX4_run 5 [v0, aI z, v2, v3, v4] (aI z :: st) h := X_of dX4_run_4 rfl
theorem x_X4_run_5 {al st : List AV} {h : AH} : X mX4_run 5 al st h = X mX4_run 8 al (aI 500 :: st) h := X_of dX4_run_5 rfl
theorem x_X4_run_8 {a b : Int} {al st : List AV} {h : AH} : X mX4_run 8 al (aI b :: aI a :: st) h = if a ≤ b then X mX4_run 14 al st h else X mX4_run 11 al st h := x_leC dX4_run_8 rfl
theorem x_X4_run_11 {al st : List AV} {h : AH} : X mX4_run 11 al st h = X mX4_run 13 al (aI (-1000000) :: st) h := X_of dX4_run_11 rfl
theorem x_X4_run_13 {z : Int} {al : List AV} {h : AH} : X mX4_run 13 al [aI z] h = some (some (aI z), h) := X_ofR dX4_run_13 rfl
theorem x_X4_run_14 {v1 v2 v3 v4 : AV} {z : Option Nat} {st : List AV} {h : AH} : X mX4_run 14 [aR z, v1, v2, v3, v4] st h = X mX4_run 15 [aR z, v1, v2, v3, v4] (aR z :: st) h := X_of dX4_run_14 rfl
theorem x_X4_run_15 {a : Nat} {al st : List AV} {h : AH} : X mX4_run 15 al (aR (some a) :: st) h = gK (rd h 4 a 6) fun v => X mX4_run 18 al (v :: st) h := x_get dX4_run_15 fT_4_42
theorem x_X4_run_18 {a : Int} {al st : List AV} {h : AH} : X mX4_run 18 al (aI a :: st) h = if ¬ a = 0 then X mX4_run 24 al st h else X mX4_run 21 al st h := x_ne0 dX4_run_18 rfl
theorem x_X4_run_21 {al st : List AV} {h : AH} : X mX4_run 21 al st h = X mX4_run 23 al (aI (-1000004) :: st) h := X_of dX4_run_21 rfl
theorem x_X4_run_23 {z : Int} {al : List AV} {h : AH} : X mX4_run 23 al [aI z] h = some (some (aI z), h) := X_ofR dX4_run_23 rfl
theorem x_X4_run_24 {v1 v2 v3 v4 : AV} {z : Option Nat} {st : List AV} {h : AH} : X mX4_run 24 [aR z, v1, v2, v3, v4] st h = X mX4_run 25 [aR z, v1, v2, v3, v4] (aR z :: st) h := X_of dX4_run_24 rfl
theorem x_X4_run_25 {al st : List AV} {h : AH} : X mX4_run 25 al st h = X mX4_run 26 al (aI 0 :: st) h := X_of dX4_run_25 rfl
theorem x_X4_run_26 {a : Nat} {z : Int} {al st : List AV} {h : AH} : X mX4_run 26 al (aI z :: aR (some a) :: st) h = pK (rd h 4 a 11) (X mX4_run 29 al st (wr h 4 a 11 (aI z))) := x_put dX4_run_26 fT_4_58 rfl rfl
theorem x_X4_run_29 {al st : List AV} {h : AH} : X mX4_run 29 al st h = X mX4_run 30 al (aI 0 :: st) h := X_of dX4_run_29 rfl
theorem x_X4_run_30 {v0 v2 v3 v4 : AV} {y : Int} {z : Int} {st : List AV} {h : AH} : X mX4_run 30 [v0, aI y, v2, v3, v4] (aI z :: st) h = X mX4_run 31 [v0, aI y, aI z, v3, v4] st h := X_of dX4_run_30 rfl
theorem x_X4_run_31 {al st : List AV} {h : AH} : X mX4_run 31 al st h = X mX4_run 32 al (aI 0 :: st) h := X_of dX4_run_31 rfl
theorem x_X4_run_32 {v0 v1 v3 v4 : AV} {y : Int} {z : Int} {st : List AV} {h : AH} : X mX4_run 32 [v0, v1, aI y, v3, v4] (aI z :: st) h = X mX4_run 33 [v0, v1, aI y, aI z, v4] st h := X_of dX4_run_32 rfl
theorem x_X4_run_33 {v0 v1 v2 v4 : AV} {z : Int} {st : List AV} {h : AH} : X mX4_run 33 [v0, v1, v2, aI z, v4] st h = X mX4_run 34 [v0, v1, v2, aI z, v4] (aI z :: st) h := X_of dX4_run_33 rfl
theorem x_X4_run_34 {v0 v2 v3 v4 : AV} {z : Int} {st : List AV} {h : AH} : X mX4_run 34 [v0, aI z, v2, v3, v4] st h = X mX4_run 35 [v0, aI z, v2, v3, v4] (aI z :: st) h := X_of dX4_run_34 rfl
theorem x_X4_run_35 {a b : Int} {al st : List AV} {h : AH} : X mX4_run 35 al (aI b :: aI a :: st) h = if b ≤ a then X mX4_run 87 al st h else X mX4_run 38 al st h := x_geC dX4_run_35 rfl
theorem x_X4_run_38 {v1 v2 v3 v4 : AV} {z : Option Nat} {st : List AV} {h : AH} : X mX4_run 38 [aR z, v1, v2, v3, v4] st h = X mX4_run 39 [aR z, v1, v2, v3, v4] (aR z :: st) h := X_of dX4_run_38 rfl
theorem x_X4_run_39 {a0 : Nat} {al : List AV} {h : AH} (ho : isO h 4 a0 = true) : X mX4_run 39 al [aR (some a0)] h = cK (E mX4_bestMachine [aR (some a0)] h) fun v h2 => X mX4_run 42 al (v.toList ++ []) h2 := x_cal (as := [aR (some a0)]) (rest := []) dX4_run_39 (fun _ => rfl) cT_4_203 rfl rfl ho
theorem x_X4_run_42 {v0 v1 v2 v4 : AV} {y : Int} {z : Int} {st : List AV} {h : AH} : X mX4_run 42 [v0, v1, v2, aI y, v4] (aI z :: st) h = X mX4_run 44 [v0, v1, v2, aI y, aI z] st h := X_of dX4_run_42 rfl
theorem x_X4_run_44 {v0 v1 v2 v4 : AV} {z : Int} {st : List AV} {h : AH} : X mX4_run 44 [v0, v1, v2, aI z, v4] st h = X mX4_run 45 [v0, v1, v2, aI z, v4] (aI z :: st) h := X_of dX4_run_44 rfl
theorem x_X4_run_45 {v1 v2 v3 v4 : AV} {z : Option Nat} {st : List AV} {h : AH} : X mX4_run 45 [aR z, v1, v2, v3, v4] st h = X mX4_run 46 [aR z, v1, v2, v3, v4] (aR z :: st) h := X_of dX4_run_45 rfl
theorem x_X4_run_46 {a : Nat} {al st : List AV} {h : AH} : X mX4_run 46 al (aR (some a) :: st) h = gK (rd h 4 a 5) fun v => X mX4_run 49 al (v :: st) h := x_get dX4_run_46 fT_4_39
theorem x_X4_run_49 {a : Nat} {al st : List AV} {h : AH} : X mX4_run 49 al (aR (some a) :: st) h = gL (ln h a) fun n => X mX4_run 50 al (aI n :: st) h := x_len dX4_run_49
theorem x_X4_run_50 {a b : Int} {al st : List AV} {h : AH} : X mX4_run 50 al (aI b :: aI a :: st) h = if b ≤ a then X mX4_run 68 al st h else X mX4_run 53 al st h := x_geC dX4_run_50 rfl
theorem x_X4_run_53 {v1 v2 v3 v4 : AV} {z : Option Nat} {st : List AV} {h : AH} : X mX4_run 53 [aR z, v1, v2, v3, v4] st h = X mX4_run 54 [aR z, v1, v2, v3, v4] (aR z :: st) h := X_of dX4_run_53 rfl
theorem x_X4_run_54 {a : Nat} {al st : List AV} {h : AH} : X mX4_run 54 al (aR (some a) :: st) h = gK (rd h 4 a 5) fun v => X mX4_run 57 al (v :: st) h := x_get dX4_run_54 fT_4_39
theorem x_X4_run_57 {v0 v1 v2 v4 : AV} {z : Int} {st : List AV} {h : AH} : X mX4_run 57 [v0, v1, v2, aI z, v4] st h = X mX4_run 58 [v0, v1, v2, aI z, v4] (aI z :: st) h := X_of dX4_run_57 rfl
theorem x_X4_run_58 {v0 v1 v2 v3 : AV} {z : Int} {st : List AV} {h : AH} : X mX4_run 58 [v0, v1, v2, v3, aI z] st h = X mX4_run 60 [v0, v1, v2, v3, aI z] (aI z :: st) h := X_of dX4_run_58 rfl
theorem x_X4_run_60 {a : Nat} {i z : Int} {al st : List AV} {h : AH} : X mX4_run 60 al (aI z :: aI i :: aR (some a) :: st) h = if 0 ≤ i then pK (rd h 10 a i.toNat) (X mX4_run 61 al st (wr h 10 a i.toNat (aI z))) else none := x_astI dX4_run_60
theorem x_X4_run_61 {v1 v2 v3 v4 : AV} {z : Option Nat} {st : List AV} {h : AH} : X mX4_run 61 [aR z, v1, v2, v3, v4] st h = X mX4_run 62 [aR z, v1, v2, v3, v4] (aR z :: st) h := X_of dX4_run_61 rfl
theorem x_X4_run_62 {v0 v1 v2 v4 : AV} {z : Int} {st : List AV} {h : AH} : X mX4_run 62 [v0, v1, v2, aI z, v4] st h = X mX4_run 63 [v0, v1, v2, aI z, v4] (aI z :: st) h := X_of dX4_run_62 rfl
theorem x_X4_run_63 {al st : List AV} {h : AH} : X mX4_run 63 al st h = X mX4_run 64 al (aI 1 :: st) h := X_of dX4_run_63 rfl
theorem x_X4_run_64 {a b : Int} {al st : List AV} {h : AH} : X mX4_run 64 al (aI b :: aI a :: st) h = X mX4_run 65 al (aI (w32 (a + b)) :: st) h := X_of dX4_run_64 rfl
theorem x_X4_run_65 {a : Nat} {z : Int} {al st : List AV} {h : AH} : X mX4_run 65 al (aI z :: aR (some a) :: st) h = pK (rd h 4 a 11) (X mX4_run 68 al st (wr h 4 a 11 (aI z))) := x_put dX4_run_65 fT_4_58 rfl rfl
theorem x_X4_run_68 {v0 v1 v3 v4 : AV} {z : Int} {st : List AV} {h : AH} : X mX4_run 68 [v0, v1, aI z, v3, v4] st h = X mX4_run 69 [v0, v1, aI z, v3, v4] (aI z :: st) h := X_of dX4_run_68 rfl
theorem x_X4_run_69 {v1 v2 v3 v4 : AV} {z : Option Nat} {st : List AV} {h : AH} : X mX4_run 69 [aR z, v1, v2, v3, v4] st h = X mX4_run 70 [aR z, v1, v2, v3, v4] (aR z :: st) h := X_of dX4_run_69 rfl
theorem x_X4_run_70 {v1 v2 v3 v4 : AV} {z : Option Nat} {st : List AV} {h : AH} : X mX4_run 70 [aR z, v1, v2, v3, v4] st h = X mX4_run 71 [aR z, v1, v2, v3, v4] (aR z :: st) h := X_of dX4_run_70 rfl
theorem x_X4_run_71 {v0 v1 v2 v3 : AV} {z : Int} {st : List AV} {h : AH} : X mX4_run 71 [v0, v1, v2, v3, aI z] st h = X mX4_run 73 [v0, v1, v2, v3, aI z] (aI z :: st) h := X_of dX4_run_71 rfl
theorem x_X4_run_73 {a0 : Nat} {a1 : Int} {r0 : Option Nat} {r1 : Int} {al : List AV} {h : AH} (ho : isO h 4 a0 = true) : X mX4_run 73 al [aI a1, aR (some a0), aR r0, aI r1] h = cK (E mX4_machineAt [aR (some a0), aI a1] h) fun v h2 => X mX4_run 76 al (v.toList ++ [aR r0, aI r1]) h2 := x_cal (as := [aR (some a0), aI a1]) (rest := [aR r0, aI r1]) dX4_run_73 (fun _ => rfl) cT_4_71 rfl rfl ho
theorem x_X4_run_76 {a0 : Nat} {a1 : Option Nat} {r0 : Int} {al : List AV} {h : AH} (ho : isO h 4 a0 = true) : X mX4_run 76 al [aR a1, aR (some a0), aI r0] h = cK (E mX4_workOnce [aR (some a0), aR a1] h) fun v h2 => X mX4_run 79 al (v.toList ++ [aI r0]) h2 := x_cal (as := [aR (some a0), aR a1]) (rest := [aI r0]) dX4_run_76 (fun _ => rfl) cT_4_207 rfl rfl ho
theorem x_X4_run_79 {a b : Int} {al st : List AV} {h : AH} : X mX4_run 79 al (aI b :: aI a :: st) h = X mX4_run 80 al (aI (w32 (a + b)) :: st) h := X_of dX4_run_79 rfl
theorem x_X4_run_80 {v0 v2 v3 v4 : AV} {y : Int} {z : Int} {st : List AV} {h : AH} : X mX4_run 80 [v0, aI y, v2, v3, v4] (aI z :: st) h = X mX4_run 81 [v0, aI y, aI z, v3, v4] st h := X_of dX4_run_80 rfl
theorem x_X4_run_81 {v0 v1 v4 : AV} {y : Int} {z : Int} {st : List AV} {h : AH} : X mX4_run 81 [v0, v1, aI y, aI z, v4] st h = X mX4_run 84 [v0, v1, aI y, aI (w32 (z + 1)), v4] st h := X_of dX4_run_81 rfl
theorem x_X4_run_84 {al st : List AV} {h : AH} : X mX4_run 84 al st h = X mX4_run 33 al st h := X_of dX4_run_84 rfl
theorem x_X4_run_87 {v0 v1 v3 v4 : AV} {z : Int} {st : List AV} {h : AH} : X mX4_run 87 [v0, v1, aI z, v3, v4] st h = X mX4_run 88 [v0, v1, aI z, v3, v4] (aI z :: st) h := X_of dX4_run_87 rfl
theorem x_X4_run_88 {z : Int} {al : List AV} {h : AH} : X mX4_run 88 al [aI z] h = some (some (aI z), h) := X_ofR dX4_run_88 rfl
theorem e_X4_step {p0 : Option Nat} {p1 : Int} {h : AH} : E mX4_step [aR p0, aI p1] h = X mX4_step 0 [aR p0, aI p1] [] h := rfl
theorem x_X4_step_0 {v0 : AV} {z : Int} {st : List AV} {h : AH} : X mX4_step 0 [v0, aI z] st h = X mX4_step 1 [v0, aI z] (aI z :: st) h := X_of dX4_step_0 rfl
theorem x_X4_step_1 {a : Int} {al st : List AV} {h : AH} : X mX4_step 1 al (aI a :: st) h = if a < 0 then X mX4_step 21 al st h else X mX4_step 4 al st h := x_lt0 dX4_step_1 rfl
theorem x_X4_step_4 {v0 : AV} {z : Int} {st : List AV} {h : AH} : X mX4_step 4 [v0, aI z] st h = X mX4_step 5 [v0, aI z] (aI z :: st) h := X_of dX4_step_4 rfl
theorem x_X4_step_5 {v1 : AV} {z : Option Nat} {st : List AV} {h : AH} : X mX4_step 5 [aR z, v1] st h = X mX4_step 6 [aR z, v1] (aR z :: st) h := X_of dX4_step_5 rfl
theorem x_X4_step_6 {a : Nat} {al st : List AV} {h : AH} : X mX4_step 6 al (aR (some a) :: st) h = gK (rd h 4 a 11) fun v => X mX4_step 9 al (v :: st) h := x_get dX4_step_6 fT_4_58
theorem x_X4_step_9 {a b : Int} {al st : List AV} {h : AH} : X mX4_step 9 al (aI b :: aI a :: st) h = if b ≤ a then X mX4_step 21 al st h else X mX4_step 12 al st h := x_geC dX4_step_9 rfl
theorem x_X4_step_12 {v0 : AV} {z : Int} {st : List AV} {h : AH} : X mX4_step 12 [v0, aI z] st h = X mX4_step 13 [v0, aI z] (aI z :: st) h := X_of dX4_step_12 rfl
theorem x_X4_step_13 {v1 : AV} {z : Option Nat} {st : List AV} {h : AH} : X mX4_step 13 [aR z, v1] st h = X mX4_step 14 [aR z, v1] (aR z :: st) h := X_of dX4_step_13 rfl
theorem x_X4_step_14 {a : Nat} {al st : List AV} {h : AH} : X mX4_step 14 al (aR (some a) :: st) h = gK (rd h 4 a 5) fun v => X mX4_step 17 al (v :: st) h := x_get dX4_step_14 fT_4_39
theorem x_X4_step_17 {a : Nat} {al st : List AV} {h : AH} : X mX4_step 17 al (aR (some a) :: st) h = gL (ln h a) fun n => X mX4_step 18 al (aI n :: st) h := x_len dX4_step_17
theorem x_X4_step_18 {a b : Int} {al st : List AV} {h : AH} : X mX4_step 18 al (aI b :: aI a :: st) h = if a < b then X mX4_step 24 al st h else X mX4_step 21 al st h := x_ltC dX4_step_18 rfl
theorem x_X4_step_21 {al st : List AV} {h : AH} : X mX4_step 21 al st h = X mX4_step 23 al (aI (-9) :: st) h := X_of dX4_step_21 rfl
theorem x_X4_step_23 {z : Int} {al : List AV} {h : AH} : X mX4_step 23 al [aI z] h = some (some (aI z), h) := X_ofR dX4_step_23 rfl
theorem x_X4_step_24 {v1 : AV} {z : Option Nat} {st : List AV} {h : AH} : X mX4_step 24 [aR z, v1] st h = X mX4_step 25 [aR z, v1] (aR z :: st) h := X_of dX4_step_24 rfl
theorem x_X4_step_25 {a : Nat} {al st : List AV} {h : AH} : X mX4_step 25 al (aR (some a) :: st) h = gK (rd h 4 a 5) fun v => X mX4_step 28 al (v :: st) h := x_get dX4_step_25 fT_4_39
theorem x_X4_step_28 {v0 : AV} {z : Int} {st : List AV} {h : AH} : X mX4_step 28 [v0, aI z] st h = X mX4_step 29 [v0, aI z] (aI z :: st) h := X_of dX4_step_28 rfl
theorem x_X4_step_29 {a : Nat} {i : Int} {al st : List AV} {h : AH} : X mX4_step 29 al (aI i :: aR (some a) :: st) h = if 0 ≤ i then gK (rd h 10 a i.toNat) (fun v => X mX4_step 30 al (v :: st) h) else none := x_aldI dX4_step_29
theorem x_X4_step_30 {z : Int} {al : List AV} {h : AH} : X mX4_step 30 al [aI z] h = some (some (aI z), h) := X_ofR dX4_step_30 rfl
theorem e_X4_worked {p0 : Option Nat} {p1 : Int} {h : AH} : E mX4_worked [aR p0, aI p1] h = X mX4_worked 0 [aR p0, aI p1, aU] [] h := rfl
theorem x_X4_worked_0 {v1 v2 : AV} {z : Option Nat} {st : List AV} {h : AH} : X mX4_worked 0 [aR z, v1, v2] st h = X mX4_worked 1 [aR z, v1, v2] (aR z :: st) h := X_of dX4_worked_0 rfl
theorem x_X4_worked_1 {v0 v2 : AV} {z : Int} {st : List AV} {h : AH} : X mX4_worked 1 [v0, aI z, v2] st h = X mX4_worked 2 [v0, aI z, v2] (aI z :: st) h := X_of dX4_worked_1 rfl
theorem x_X4_worked_2 {a0 : Nat} {a1 : Int} {al : List AV} {h : AH} (ho : isO h 4 a0 = true) : X mX4_worked 2 al [aI a1, aR (some a0)] h = cK (E mX4_machineAt [aR (some a0), aI a1] h) fun v h2 => X mX4_worked 5 al (v.toList ++ []) h2 := x_cal (as := [aR (some a0), aI a1]) (rest := []) dX4_worked_2 (fun _ => rfl) cT_4_71 rfl rfl ho
theorem x_X4_worked_5 {v0 v2 : AV} {y : Int} {z : Option Nat} {st : List AV} {h : AH} : X mX4_worked 5 [v0, aI y, v2] (aR z :: st) h = X mX4_worked 6 [v0, aI y, aR z] st h := X_of dX4_worked_5 rfl
theorem x_X4_worked_6 {v0 v1 : AV} {z : Option Nat} {st : List AV} {h : AH} : X mX4_worked 6 [v0, v1, aR z] st h = X mX4_worked 7 [v0, v1, aR z] (aR z :: st) h := X_of dX4_worked_6 rfl
theorem x_X4_worked_7n {al st : List AV} {h : AH} : X mX4_worked 7 al (aR none :: st) h = X mX4_worked 10 al st h := X_of dX4_worked_7 rfl
theorem x_X4_worked_7s {a : Nat} {al st : List AV} {h : AH} : X mX4_worked 7 al (aR (some a) :: st) h = X mX4_worked 14 al st h := X_of dX4_worked_7 rfl
theorem x_X4_worked_10 {al st : List AV} {h : AH} : X mX4_worked 10 al st h = X mX4_worked 11 al (aI (-1) :: st) h := X_of dX4_worked_10 rfl
theorem x_X4_worked_11 {al st : List AV} {h : AH} : X mX4_worked 11 al st h = X mX4_worked 18 al st h := X_of dX4_worked_11 rfl
theorem x_X4_worked_14 {v0 v1 : AV} {z : Option Nat} {st : List AV} {h : AH} : X mX4_worked 14 [v0, v1, aR z] st h = X mX4_worked 15 [v0, v1, aR z] (aR z :: st) h := X_of dX4_worked_14 rfl
theorem x_X4_worked_15 {a : Nat} {al st : List AV} {h : AH} : X mX4_worked 15 al (aR (some a) :: st) h = gK (rd h 1 a 7) fun v => X mX4_worked 18 al (v :: st) h := x_get dX4_worked_15 fT_4_212
theorem x_X4_worked_18 {z : Int} {al : List AV} {h : AH} : X mX4_worked 18 al [aI z] h = some (some (aI z), h) := X_ofR dX4_worked_18 rfl
theorem e_X4_paid {p0 : Option Nat} {h : AH} : E mX4_paid [aR p0] h = X mX4_paid 0 [aR p0] [] h := rfl
theorem x_X4_paid_0 {z : Option Nat} {st : List AV} {h : AH} : X mX4_paid 0 [aR z] st h = X mX4_paid 1 [aR z] (aR z :: st) h := X_of dX4_paid_0 rfl
theorem x_X4_paid_1 {a : Nat} {al st : List AV} {h : AH} : X mX4_paid 1 al (aR (some a) :: st) h = gK (rd h 4 a 14) fun v => X mX4_paid 4 al (v :: st) h := x_get dX4_paid_1 fT_4_68
theorem x_X4_paid_4 {z : Int} {al : List AV} {h : AH} : X mX4_paid 4 al [aJ z] h = some (some (aJ z), h) := X_ofR dX4_paid_4 rfl
theorem e_X4_fail {p0 : Option Nat} {p1 : Int} {p2 : Int} {h : AH} : E mX4_fail [aR p0, aI p1, aI p2] h = X mX4_fail 0 [aR p0, aI p1, aI p2] [] h := rfl
theorem x_X4_fail_0 {v1 v2 : AV} {z : Option Nat} {st : List AV} {h : AH} : X mX4_fail 0 [aR z, v1, v2] st h = X mX4_fail 1 [aR z, v1, v2] (aR z :: st) h := X_of dX4_fail_0 rfl
theorem x_X4_fail_1 {v0 v2 : AV} {z : Int} {st : List AV} {h : AH} : X mX4_fail 1 [v0, aI z, v2] st h = X mX4_fail 2 [v0, aI z, v2] (aI z :: st) h := X_of dX4_fail_1 rfl
theorem x_X4_fail_2 {a0 : Nat} {a1 : Int} {al : List AV} {h : AH} (ho : isO h 4 a0 = true) : X mX4_fail 2 al [aI a1, aR (some a0)] h = cK (E mX4_machineAt [aR (some a0), aI a1] h) fun v h2 => X mX4_fail 5 al (v.toList ++ []) h2 := x_cal (as := [aR (some a0), aI a1]) (rest := []) dX4_fail_2 (fun _ => rfl) cT_4_71 rfl rfl ho
theorem x_X4_fail_5n {al st : List AV} {h : AH} : X mX4_fail 5 al (aR none :: st) h = X mX4_fail 8 al st h := X_of dX4_fail_5 rfl
theorem x_X4_fail_5s {a : Nat} {al st : List AV} {h : AH} : X mX4_fail 5 al (aR (some a) :: st) h = X mX4_fail 10 al st h := X_of dX4_fail_5 rfl
theorem x_X4_fail_8 {al st : List AV} {h : AH} : X mX4_fail 8 al st h = X mX4_fail 9 al (aI (-1) :: st) h := X_of dX4_fail_8 rfl
theorem x_X4_fail_9 {z : Int} {al : List AV} {h : AH} : X mX4_fail 9 al [aI z] h = some (some (aI z), h) := X_ofR dX4_fail_9 rfl
theorem x_X4_fail_10 {v0 v1 : AV} {z : Int} {st : List AV} {h : AH} : X mX4_fail 10 [v0, v1, aI z] st h = X mX4_fail 11 [v0, v1, aI z] (aI z :: st) h := X_of dX4_fail_10 rfl
theorem x_X4_fail_11 {a : Int} {al st : List AV} {h : AH} : X mX4_fail 11 al (aI a :: st) h = if a = 0 then X mX4_fail 36 al st h else if a = 1 then X mX4_fail 43 al st h else if a = 2 then X mX4_fail 45 al st h else X mX4_fail 51 al st h := by
  by_cases h0 : a = 0
  · rw [if_pos h0]
    subst h0
    exact X_of dX4_fail_11 rfl
  rw [if_neg h0]
  by_cases h1 : a = 1
  · rw [if_pos h1]
    subst h1
    exact X_of dX4_fail_11 rfl
  rw [if_neg h1]
  by_cases h2 : a = 2
  · rw [if_pos h2]
    subst h2
    exact X_of dX4_fail_11 rfl
  rw [if_neg h2]
  refine X_of dX4_fail_11 ?_
  show hTab 40 0 2 #[25, 32, 34] 11 al (aI a :: st) h = _
  unfold hTab
  simp only [if_pos (show a < 0 ∨ 2 < a by omega)]
  rfl
theorem x_X4_fail_36 {v1 v2 : AV} {z : Option Nat} {st : List AV} {h : AH} : X mX4_fail 36 [aR z, v1, v2] st h = X mX4_fail 37 [aR z, v1, v2] (aR z :: st) h := X_of dX4_fail_36 rfl
theorem x_X4_fail_37 {al st : List AV} {h : AH} : X mX4_fail 37 al st h = X mX4_fail 39 al (aI 6 :: st) h := X_of dX4_fail_37 rfl
theorem x_X4_fail_39 {a0 : Nat} {a1 : Int} {al : List AV} {h : AH} (ho : isO h 4 a0 = true) : X mX4_fail 39 al [aI a1, aR (some a0)] h = cK (E mX4_found [aR (some a0), aI a1] h) fun v h2 => X mX4_fail 42 al (v.toList ++ []) h2 := x_cal (as := [aR (some a0), aI a1]) (rest := []) dX4_fail_39 (fun _ => rfl) cT_4_79 rfl rfl ho
theorem x_X4_fail_42 {z : Int} {al : List AV} {h : AH} : X mX4_fail 42 al [aI z] h = some (some (aI z), h) := X_ofR dX4_fail_42 rfl
theorem x_X4_fail_43 {al st : List AV} {h : AH} : X mX4_fail 43 al st h = X mX4_fail 44 al (aI 2 :: st) h := X_of dX4_fail_43 rfl
theorem x_X4_fail_44 {z : Int} {al : List AV} {h : AH} : X mX4_fail 44 al [aI z] h = some (some (aI z), h) := X_ofR dX4_fail_44 rfl
theorem x_X4_fail_45 {v1 v2 : AV} {z : Option Nat} {st : List AV} {h : AH} : X mX4_fail 45 [aR z, v1, v2] st h = X mX4_fail 46 [aR z, v1, v2] (aR z :: st) h := X_of dX4_fail_45 rfl
theorem x_X4_fail_46 {al st : List AV} {h : AH} : X mX4_fail 46 al st h = X mX4_fail 47 al (aI 2 :: st) h := X_of dX4_fail_46 rfl
theorem x_X4_fail_47 {a0 : Nat} {a1 : Int} {al : List AV} {h : AH} (ho : isO h 4 a0 = true) : X mX4_fail 47 al [aI a1, aR (some a0)] h = cK (E mX4_found [aR (some a0), aI a1] h) fun v h2 => X mX4_fail 50 al (v.toList ++ []) h2 := x_cal (as := [aR (some a0), aI a1]) (rest := []) dX4_fail_47 (fun _ => rfl) cT_4_79 rfl rfl ho
theorem x_X4_fail_50 {z : Int} {al : List AV} {h : AH} : X mX4_fail 50 al [aI z] h = some (some (aI z), h) := X_ofR dX4_fail_50 rfl
theorem x_X4_fail_51 {al st : List AV} {h : AH} : X mX4_fail 51 al st h = X mX4_fail 52 al (aI (-1) :: st) h := X_of dX4_fail_51 rfl
theorem x_X4_fail_52 {z : Int} {al : List AV} {h : AH} : X mX4_fail 52 al [aI z] h = some (some (aI z), h) := X_ofR dX4_fail_52 rfl
theorem e_X4_asked {p0 : Option Nat} {h : AH} : E mX4_asked [aR p0] h = X mX4_asked 0 [aR p0] [] h := rfl
theorem x_X4_asked_0 {z : Option Nat} {st : List AV} {h : AH} : X mX4_asked 0 [aR z] st h = X mX4_asked 1 [aR z] (aR z :: st) h := X_of dX4_asked_0 rfl
theorem x_X4_asked_1 {a : Nat} {al st : List AV} {h : AH} : X mX4_asked 1 al (aR (some a) :: st) h = gK (rd h 4 a 13) fun v => X mX4_asked 4 al (v :: st) h := x_get dX4_asked_1 fT_4_64
theorem x_X4_asked_4 {z : Int} {al : List AV} {h : AH} : X mX4_asked 4 al [aJ z] h = some (some (aJ z), h) := X_ofR dX4_asked_4 rfl
theorem e_X4_count {p0 : Option Nat} {p1 : Int} {h : AH} : E mX4_count [aR p0, aI p1] h = X mX4_count 0 [aR p0, aI p1] [] h := rfl
theorem x_X4_count_0 {v0 : AV} {z : Int} {st : List AV} {h : AH} : X mX4_count 0 [v0, aI z] st h = X mX4_count 1 [v0, aI z] (aI z :: st) h := X_of dX4_count_0 rfl
theorem x_X4_count_1 {a : Int} {al st : List AV} {h : AH} : X mX4_count 1 al (aI a :: st) h = if a = 0 then X mX4_count 36 al st h else if a = 1 then X mX4_count 41 al st h else if a = 2 then X mX4_count 46 al st h else if a = 3 then X mX4_count 51 al st h else if a = 4 then X mX4_count 56 al st h else X mX4_count 61 al st h := by
  by_cases h0 : a = 0
  · rw [if_pos h0]
    subst h0
    exact X_of dX4_count_1 rfl
  rw [if_neg h0]
  by_cases h1 : a = 1
  · rw [if_pos h1]
    subst h1
    exact X_of dX4_count_1 rfl
  rw [if_neg h1]
  by_cases h2 : a = 2
  · rw [if_pos h2]
    subst h2
    exact X_of dX4_count_1 rfl
  rw [if_neg h2]
  by_cases h3 : a = 3
  · rw [if_pos h3]
    subst h3
    exact X_of dX4_count_1 rfl
  rw [if_neg h3]
  by_cases h4 : a = 4
  · rw [if_pos h4]
    subst h4
    exact X_of dX4_count_1 rfl
  rw [if_neg h4]
  refine X_of dX4_count_1 ?_
  show hTab 60 0 4 #[35, 40, 45, 50, 55] 1 al (aI a :: st) h = _
  unfold hTab
  simp only [if_pos (show a < 0 ∨ 4 < a by omega)]
  rfl
theorem x_X4_count_36 {v1 : AV} {z : Option Nat} {st : List AV} {h : AH} : X mX4_count 36 [aR z, v1] st h = X mX4_count 37 [aR z, v1] (aR z :: st) h := X_of dX4_count_36 rfl
theorem x_X4_count_37 {a : Nat} {al st : List AV} {h : AH} : X mX4_count 37 al (aR (some a) :: st) h = gK (rd h 4 a 6) fun v => X mX4_count 40 al (v :: st) h := x_get dX4_count_37 fT_4_42
theorem x_X4_count_40 {z : Int} {al : List AV} {h : AH} : X mX4_count 40 al [aI z] h = some (some (aI z), h) := X_ofR dX4_count_40 rfl
theorem x_X4_count_41 {v1 : AV} {z : Option Nat} {st : List AV} {h : AH} : X mX4_count 41 [aR z, v1] st h = X mX4_count 42 [aR z, v1] (aR z :: st) h := X_of dX4_count_41 rfl
theorem x_X4_count_42 {a : Nat} {al st : List AV} {h : AH} : X mX4_count 42 al (aR (some a) :: st) h = gK (rd h 4 a 7) fun v => X mX4_count 45 al (v :: st) h := x_get dX4_count_42 fT_4_46
theorem x_X4_count_45 {z : Int} {al : List AV} {h : AH} : X mX4_count 45 al [aI z] h = some (some (aI z), h) := X_ofR dX4_count_45 rfl
theorem x_X4_count_46 {v1 : AV} {z : Option Nat} {st : List AV} {h : AH} : X mX4_count 46 [aR z, v1] st h = X mX4_count 47 [aR z, v1] (aR z :: st) h := X_of dX4_count_46 rfl
theorem x_X4_count_47 {a : Nat} {al st : List AV} {h : AH} : X mX4_count 47 al (aR (some a) :: st) h = gK (rd h 4 a 8) fun v => X mX4_count 50 al (v :: st) h := x_get dX4_count_47 fT_4_49
theorem x_X4_count_50 {z : Int} {al : List AV} {h : AH} : X mX4_count 50 al [aI z] h = some (some (aI z), h) := X_ofR dX4_count_50 rfl
theorem x_X4_count_51 {v1 : AV} {z : Option Nat} {st : List AV} {h : AH} : X mX4_count 51 [aR z, v1] st h = X mX4_count 52 [aR z, v1] (aR z :: st) h := X_of dX4_count_51 rfl
theorem x_X4_count_52 {a : Nat} {al st : List AV} {h : AH} : X mX4_count 52 al (aR (some a) :: st) h = gK (rd h 4 a 9) fun v => X mX4_count 55 al (v :: st) h := x_get dX4_count_52 fT_4_52
theorem x_X4_count_55 {z : Int} {al : List AV} {h : AH} : X mX4_count 55 al [aI z] h = some (some (aI z), h) := X_ofR dX4_count_55 rfl
theorem x_X4_count_56 {v1 : AV} {z : Option Nat} {st : List AV} {h : AH} : X mX4_count 56 [aR z, v1] st h = X mX4_count 57 [aR z, v1] (aR z :: st) h := X_of dX4_count_56 rfl
theorem x_X4_count_57 {a : Nat} {al st : List AV} {h : AH} : X mX4_count 57 al (aR (some a) :: st) h = gK (rd h 4 a 10) fun v => X mX4_count 60 al (v :: st) h := x_get dX4_count_57 fT_4_55
theorem x_X4_count_60 {z : Int} {al : List AV} {h : AH} : X mX4_count 60 al [aI z] h = some (some (aI z), h) := X_ofR dX4_count_60 rfl
theorem x_X4_count_61 {al st : List AV} {h : AH} : X mX4_count 61 al st h = X mX4_count 62 al (aI (-1) :: st) h := X_of dX4_count_61 rfl
theorem x_X4_count_62 {z : Int} {al : List AV} {h : AH} : X mX4_count 62 al [aI z] h = some (some (aI z), h) := X_ofR dX4_count_62 rfl
theorem e_X4_finding {p0 : Option Nat} {h : AH} : E mX4_finding [aR p0] h = X mX4_finding 0 [aR p0] [] h := rfl
theorem x_X4_finding_0 {z : Option Nat} {st : List AV} {h : AH} : X mX4_finding 0 [aR z] st h = X mX4_finding 1 [aR z] (aR z :: st) h := X_of dX4_finding_0 rfl
theorem x_X4_finding_1 {a : Nat} {al st : List AV} {h : AH} : X mX4_finding 1 al (aR (some a) :: st) h = gK (rd h 4 a 12) fun v => X mX4_finding 4 al (v :: st) h := x_get dX4_finding_1 fT_4_61
theorem x_X4_finding_4 {z : Int} {al : List AV} {h : AH} : X mX4_finding 4 al [aI z] h = some (some (aI z), h) := X_ofR dX4_finding_4 rfl
theorem e_X4_findings {p0 : Option Nat} {p1 : Int} {h : AH} : E mX4_findings [aR p0, aI p1] h = X mX4_findings 0 [aR p0, aI p1] [] h := rfl
theorem x_X4_findings_0 {v0 : AV} {z : Int} {st : List AV} {h : AH} : X mX4_findings 0 [v0, aI z] st h = X mX4_findings 1 [v0, aI z] (aI z :: st) h := X_of dX4_findings_0 rfl
theorem x_X4_findings_1 {al st : List AV} {h : AH} : X mX4_findings 1 al st h = X mX4_findings 2 al (aI 1 :: st) h := X_of dX4_findings_1 rfl
theorem x_X4_findings_2 {a b : Int} {al st : List AV} {h : AH} : X mX4_findings 2 al (aI b :: aI a :: st) h = if a < b then X mX4_findings 20 al st h else X mX4_findings 5 al st h := x_ltC dX4_findings_2 rfl
theorem x_X4_findings_5 {v0 : AV} {z : Int} {st : List AV} {h : AH} : X mX4_findings 5 [v0, aI z] st h = X mX4_findings 6 [v0, aI z] (aI z :: st) h := X_of dX4_findings_5 rfl
theorem x_X4_findings_6 {al st : List AV} {h : AH} : X mX4_findings 6 al st h = X mX4_findings 8 al (aI 6 :: st) h := X_of dX4_findings_6 rfl
theorem x_X4_findings_8 {a b : Int} {al st : List AV} {h : AH} : X mX4_findings 8 al (aI b :: aI a :: st) h = if b < a then X mX4_findings 20 al st h else X mX4_findings 11 al st h := x_gtC dX4_findings_8 rfl
theorem x_X4_findings_11 {v0 : AV} {z : Int} {st : List AV} {h : AH} : X mX4_findings 11 [v0, aI z] st h = X mX4_findings 12 [v0, aI z] (aI z :: st) h := X_of dX4_findings_11 rfl
theorem x_X4_findings_12 {v1 : AV} {z : Option Nat} {st : List AV} {h : AH} : X mX4_findings 12 [aR z, v1] st h = X mX4_findings 13 [aR z, v1] (aR z :: st) h := X_of dX4_findings_12 rfl
theorem x_X4_findings_13 {a : Nat} {al st : List AV} {h : AH} : X mX4_findings 13 al (aR (some a) :: st) h = gK (rd h 4 a 4) fun v => X mX4_findings 16 al (v :: st) h := x_get dX4_findings_13 fT_4_35
theorem x_X4_findings_16 {a : Nat} {al st : List AV} {h : AH} : X mX4_findings 16 al (aR (some a) :: st) h = gL (ln h a) fun n => X mX4_findings 17 al (aI n :: st) h := x_len dX4_findings_16
theorem x_X4_findings_17 {a b : Int} {al st : List AV} {h : AH} : X mX4_findings 17 al (aI b :: aI a :: st) h = if a < b then X mX4_findings 22 al st h else X mX4_findings 20 al st h := x_ltC dX4_findings_17 rfl
theorem x_X4_findings_20 {al st : List AV} {h : AH} : X mX4_findings 20 al st h = X mX4_findings 21 al (aI (-1) :: st) h := X_of dX4_findings_20 rfl
theorem x_X4_findings_21 {z : Int} {al : List AV} {h : AH} : X mX4_findings 21 al [aI z] h = some (some (aI z), h) := X_ofR dX4_findings_21 rfl
theorem x_X4_findings_22 {v1 : AV} {z : Option Nat} {st : List AV} {h : AH} : X mX4_findings 22 [aR z, v1] st h = X mX4_findings 23 [aR z, v1] (aR z :: st) h := X_of dX4_findings_22 rfl
theorem x_X4_findings_23 {a : Nat} {al st : List AV} {h : AH} : X mX4_findings 23 al (aR (some a) :: st) h = gK (rd h 4 a 4) fun v => X mX4_findings 26 al (v :: st) h := x_get dX4_findings_23 fT_4_35
theorem x_X4_findings_26 {v0 : AV} {z : Int} {st : List AV} {h : AH} : X mX4_findings 26 [v0, aI z] st h = X mX4_findings 27 [v0, aI z] (aI z :: st) h := X_of dX4_findings_26 rfl
theorem x_X4_findings_27 {a : Nat} {i : Int} {al st : List AV} {h : AH} : X mX4_findings 27 al (aI i :: aR (some a) :: st) h = if 0 ≤ i then gK (rd h 10 a i.toNat) (fun v => X mX4_findings 28 al (v :: st) h) else none := x_aldI dX4_findings_27
theorem x_X4_findings_28 {z : Int} {al : List AV} {h : AH} : X mX4_findings 28 al [aI z] h = some (some (aI z), h) := X_ofR dX4_findings_28 rfl
theorem e_X4_digest {p0 : Option Nat} {h : AH} : E mX4_digest [aR p0] h = X mX4_digest 0 [aR p0, aU, aU, aU] [] h := rfl
theorem x_X4_digest_0 {al st : List AV} {h : AH} : X mX4_digest 0 al st h = X mX4_digest 3 al (aJ 17 :: st) h := X_of dX4_digest_0 rfl
theorem x_X4_digest_3 {v1 v2 v3 : AV} {z : Option Nat} {st : List AV} {h : AH} : X mX4_digest 3 [aR z, v1, v2, v3] st h = X mX4_digest 4 [aR z, v1, v2, v3] (aR z :: st) h := X_of dX4_digest_3 rfl
theorem x_X4_digest_4 {a : Nat} {al st : List AV} {h : AH} : X mX4_digest 4 al (aR (some a) :: st) h = gK (rd h 4 a 8) fun v => X mX4_digest 7 al (v :: st) h := x_get dX4_digest_4 fT_4_49
theorem x_X4_digest_7 {a : Int} {al st : List AV} {h : AH} : X mX4_digest 7 al (aI a :: st) h = X mX4_digest 8 al (aJ a :: st) h := X_of dX4_digest_7 rfl
theorem x_X4_digest_8 {a0 : Int} {a1 : Int} {al : List AV} {h : AH} : X mX4_digest 8 al [aJ a1, aJ a0] h = cK (E mX4_mix [aJ a0, aJ a1] h) fun v h2 => X mX4_digest 11 al (v.toList ++ []) h2 := x_cal (as := [aJ a0, aJ a1]) (rest := []) dX4_digest_8 (fun _ => rfl) cT_4_217 rfl rfl rfl
theorem x_X4_digest_11 {v1 v2 v3 : AV} {z : Option Nat} {st : List AV} {h : AH} : X mX4_digest 11 [aR z, v1, v2, v3] st h = X mX4_digest 12 [aR z, v1, v2, v3] (aR z :: st) h := X_of dX4_digest_11 rfl
theorem x_X4_digest_12 {a : Nat} {al st : List AV} {h : AH} : X mX4_digest 12 al (aR (some a) :: st) h = gK (rd h 4 a 9) fun v => X mX4_digest 15 al (v :: st) h := x_get dX4_digest_12 fT_4_52
theorem x_X4_digest_15 {a : Int} {al st : List AV} {h : AH} : X mX4_digest 15 al (aI a :: st) h = X mX4_digest 16 al (aJ a :: st) h := X_of dX4_digest_15 rfl
theorem x_X4_digest_16 {a0 : Int} {a1 : Int} {al : List AV} {h : AH} : X mX4_digest 16 al [aJ a1, aJ a0] h = cK (E mX4_mix [aJ a0, aJ a1] h) fun v h2 => X mX4_digest 19 al (v.toList ++ []) h2 := x_cal (as := [aJ a0, aJ a1]) (rest := []) dX4_digest_16 (fun _ => rfl) cT_4_217 rfl rfl rfl
theorem x_X4_digest_19 {v1 v2 v3 : AV} {z : Option Nat} {st : List AV} {h : AH} : X mX4_digest 19 [aR z, v1, v2, v3] st h = X mX4_digest 20 [aR z, v1, v2, v3] (aR z :: st) h := X_of dX4_digest_19 rfl
theorem x_X4_digest_20 {a : Nat} {al st : List AV} {h : AH} : X mX4_digest 20 al (aR (some a) :: st) h = gK (rd h 4 a 10) fun v => X mX4_digest 23 al (v :: st) h := x_get dX4_digest_20 fT_4_55
theorem x_X4_digest_23 {a : Int} {al st : List AV} {h : AH} : X mX4_digest 23 al (aI a :: st) h = X mX4_digest 24 al (aJ a :: st) h := X_of dX4_digest_23 rfl
theorem x_X4_digest_24 {a0 : Int} {a1 : Int} {al : List AV} {h : AH} : X mX4_digest 24 al [aJ a1, aJ a0] h = cK (E mX4_mix [aJ a0, aJ a1] h) fun v h2 => X mX4_digest 27 al (v.toList ++ []) h2 := x_cal (as := [aJ a0, aJ a1]) (rest := []) dX4_digest_24 (fun _ => rfl) cT_4_217 rfl rfl rfl
theorem x_X4_digest_27 {v1 v2 v3 : AV} {y : Option Nat} {z : Int} {st : List AV} {h : AH} : X mX4_digest 27 [aR y, v1, v2, v3] (aJ z :: st) h = X mX4_digest 28 [aR y, aJ z, aU, v3] st h := X_of dX4_digest_27 rfl
theorem x_X4_digest_28 {al st : List AV} {h : AH} : X mX4_digest 28 al st h = X mX4_digest 29 al (aI 0 :: st) h := X_of dX4_digest_28 rfl
theorem x_X4_digest_29 {v0 v1 v3 : AV} {z : Int} {st : List AV} {h : AH} : X mX4_digest 29 [v0, v1, aU, v3] (aI z :: st) h = X mX4_digest 30 [v0, v1, aU, aI z] st h := X_of dX4_digest_29 rfl
theorem x_X4_digest_30 {v0 v1 v2 : AV} {z : Int} {st : List AV} {h : AH} : X mX4_digest 30 [v0, v1, v2, aI z] st h = X mX4_digest 31 [v0, v1, v2, aI z] (aI z :: st) h := X_of dX4_digest_30 rfl
theorem x_X4_digest_31 {v1 v2 v3 : AV} {z : Option Nat} {st : List AV} {h : AH} : X mX4_digest 31 [aR z, v1, v2, v3] st h = X mX4_digest 32 [aR z, v1, v2, v3] (aR z :: st) h := X_of dX4_digest_31 rfl
theorem x_X4_digest_32 {a : Nat} {al st : List AV} {h : AH} : X mX4_digest 32 al (aR (some a) :: st) h = gK (rd h 4 a 6) fun v => X mX4_digest 35 al (v :: st) h := x_get dX4_digest_32 fT_4_42
theorem x_X4_digest_35 {a b : Int} {al st : List AV} {h : AH} : X mX4_digest 35 al (aI b :: aI a :: st) h = if b ≤ a then X mX4_digest 54 al st h else X mX4_digest 38 al st h := x_geC dX4_digest_35 rfl
theorem x_X4_digest_38 {v0 v2 v3 : AV} {z : Int} {st : List AV} {h : AH} : X mX4_digest 38 [v0, aJ z, v2, v3] st h = X mX4_digest 39 [v0, aJ z, v2, v3] (aJ z :: st) h := X_of dX4_digest_38 rfl
theorem x_X4_digest_39 {v1 v2 v3 : AV} {z : Option Nat} {st : List AV} {h : AH} : X mX4_digest 39 [aR z, v1, v2, v3] st h = X mX4_digest 40 [aR z, v1, v2, v3] (aR z :: st) h := X_of dX4_digest_39 rfl
theorem x_X4_digest_40 {v0 v1 v2 : AV} {z : Int} {st : List AV} {h : AH} : X mX4_digest 40 [v0, v1, v2, aI z] st h = X mX4_digest 41 [v0, v1, v2, aI z] (aI z :: st) h := X_of dX4_digest_40 rfl
theorem x_X4_digest_41 {a0 : Nat} {a1 : Int} {r0 : Int} {al : List AV} {h : AH} (ho : isO h 4 a0 = true) : X mX4_digest 41 al [aI a1, aR (some a0), aJ r0] h = cK (E mX4_machineAt [aR (some a0), aI a1] h) fun v h2 => X mX4_digest 44 al (v.toList ++ [aJ r0]) h2 := x_cal (as := [aR (some a0), aI a1]) (rest := [aJ r0]) dX4_digest_41 (fun _ => rfl) cT_4_71 rfl rfl ho
theorem x_X4_digest_44 {a0 : Int} {a1 : Option Nat} {al : List AV} {h : AH} : X mX4_digest 44 al [aR a1, aJ a0] h = cK (E mX4_mixMachine [aJ a0, aR a1] h) fun v h2 => X mX4_digest 47 al (v.toList ++ []) h2 := x_cal (as := [aJ a0, aR a1]) (rest := []) dX4_digest_44 (fun _ => rfl) cT_4_221 rfl rfl rfl
theorem x_X4_digest_47 {v1 v2 v3 : AV} {y : Option Nat} {z : Int} {st : List AV} {h : AH} : X mX4_digest 47 [aR y, v1, v2, v3] (aJ z :: st) h = X mX4_digest 48 [aR y, aJ z, aU, v3] st h := X_of dX4_digest_47 rfl
theorem x_X4_digest_48 {v0 v1 : AV} {z : Int} {st : List AV} {h : AH} : X mX4_digest 48 [v0, v1, aU, aI z] st h = X mX4_digest 51 [v0, v1, aU, aI (w32 (z + 1))] st h := X_of dX4_digest_48 rfl
theorem x_X4_digest_51 {al st : List AV} {h : AH} : X mX4_digest 51 al st h = X mX4_digest 30 al st h := X_of dX4_digest_51 rfl
theorem x_X4_digest_54 {al st : List AV} {h : AH} : X mX4_digest 54 al st h = X mX4_digest 55 al (aI 0 :: st) h := X_of dX4_digest_54 rfl
theorem x_X4_digest_55 {v0 v1 v3 : AV} {z : Int} {st : List AV} {h : AH} : X mX4_digest 55 [v0, v1, aU, v3] (aI z :: st) h = X mX4_digest 56 [v0, v1, aU, aI z] st h := X_of dX4_digest_55 rfl
theorem x_X4_digest_56 {v0 v1 v2 : AV} {z : Int} {st : List AV} {h : AH} : X mX4_digest 56 [v0, v1, v2, aI z] st h = X mX4_digest 57 [v0, v1, v2, aI z] (aI z :: st) h := X_of dX4_digest_56 rfl
theorem x_X4_digest_57 {v1 v2 v3 : AV} {z : Option Nat} {st : List AV} {h : AH} : X mX4_digest 57 [aR z, v1, v2, v3] st h = X mX4_digest 58 [aR z, v1, v2, v3] (aR z :: st) h := X_of dX4_digest_57 rfl
theorem x_X4_digest_58 {a : Nat} {al st : List AV} {h : AH} : X mX4_digest 58 al (aR (some a) :: st) h = gK (rd h 4 a 7) fun v => X mX4_digest 61 al (v :: st) h := x_get dX4_digest_58 fT_4_46
theorem x_X4_digest_61 {a b : Int} {al st : List AV} {h : AH} : X mX4_digest 61 al (aI b :: aI a :: st) h = if b ≤ a then X mX4_digest 80 al st h else X mX4_digest 64 al st h := x_geC dX4_digest_61 rfl
theorem x_X4_digest_64 {v0 v2 v3 : AV} {z : Int} {st : List AV} {h : AH} : X mX4_digest 64 [v0, aJ z, v2, v3] st h = X mX4_digest 65 [v0, aJ z, v2, v3] (aJ z :: st) h := X_of dX4_digest_64 rfl
theorem x_X4_digest_65 {v1 v2 v3 : AV} {z : Option Nat} {st : List AV} {h : AH} : X mX4_digest 65 [aR z, v1, v2, v3] st h = X mX4_digest 66 [aR z, v1, v2, v3] (aR z :: st) h := X_of dX4_digest_65 rfl
theorem x_X4_digest_66 {v0 v1 v2 : AV} {z : Int} {st : List AV} {h : AH} : X mX4_digest 66 [v0, v1, v2, aI z] st h = X mX4_digest 67 [v0, v1, v2, aI z] (aI z :: st) h := X_of dX4_digest_66 rfl
theorem x_X4_digest_67 {a0 : Nat} {a1 : Int} {r0 : Int} {al : List AV} {h : AH} (ho : isO h 4 a0 = true) : X mX4_digest 67 al [aI a1, aR (some a0), aJ r0] h = cK (E mX4_sheetAt [aR (some a0), aI a1] h) fun v h2 => X mX4_digest 70 al (v.toList ++ [aJ r0]) h2 := x_cal (as := [aR (some a0), aI a1]) (rest := [aJ r0]) dX4_digest_67 (fun _ => rfl) cT_4_86 rfl rfl ho
theorem x_X4_digest_70 {a0 : Int} {a1 : Option Nat} {al : List AV} {h : AH} : X mX4_digest 70 al [aR a1, aJ a0] h = cK (E mX4_mixSheet [aJ a0, aR a1] h) fun v h2 => X mX4_digest 73 al (v.toList ++ []) h2 := x_cal (as := [aJ a0, aR a1]) (rest := []) dX4_digest_70 (fun _ => rfl) cT_4_225 rfl rfl rfl
theorem x_X4_digest_73 {v1 v2 v3 : AV} {y : Option Nat} {z : Int} {st : List AV} {h : AH} : X mX4_digest 73 [aR y, v1, v2, v3] (aJ z :: st) h = X mX4_digest 74 [aR y, aJ z, aU, v3] st h := X_of dX4_digest_73 rfl
theorem x_X4_digest_74 {v0 v1 : AV} {z : Int} {st : List AV} {h : AH} : X mX4_digest 74 [v0, v1, aU, aI z] st h = X mX4_digest 77 [v0, v1, aU, aI (w32 (z + 1))] st h := X_of dX4_digest_74 rfl
theorem x_X4_digest_77 {al st : List AV} {h : AH} : X mX4_digest 77 al st h = X mX4_digest 56 al st h := X_of dX4_digest_77 rfl
theorem x_X4_digest_80 {v0 v2 v3 : AV} {z : Int} {st : List AV} {h : AH} : X mX4_digest 80 [v0, aJ z, v2, v3] st h = X mX4_digest 81 [v0, aJ z, v2, v3] (aJ z :: st) h := X_of dX4_digest_80 rfl
theorem x_X4_digest_81 {z : Int} {al : List AV} {h : AH} : X mX4_digest 81 al [aJ z] h = some (some (aJ z), h) := X_ofR dX4_digest_81 rfl
theorem e_X4_machineAt {p0 : Option Nat} {p1 : Int} {h : AH} : E mX4_machineAt [aR p0, aI p1] h = X mX4_machineAt 0 [aR p0, aI p1] [] h := rfl
theorem x_X4_machineAt_0 {v0 : AV} {z : Int} {st : List AV} {h : AH} : X mX4_machineAt 0 [v0, aI z] st h = X mX4_machineAt 1 [v0, aI z] (aI z :: st) h := X_of dX4_machineAt_0 rfl
theorem x_X4_machineAt_1 {a : Int} {al st : List AV} {h : AH} : X mX4_machineAt 1 al (aI a :: st) h = if a < 0 then X mX4_machineAt 21 al st h else X mX4_machineAt 4 al st h := x_lt0 dX4_machineAt_1 rfl
theorem x_X4_machineAt_4 {v0 : AV} {z : Int} {st : List AV} {h : AH} : X mX4_machineAt 4 [v0, aI z] st h = X mX4_machineAt 5 [v0, aI z] (aI z :: st) h := X_of dX4_machineAt_4 rfl
theorem x_X4_machineAt_5 {v1 : AV} {z : Option Nat} {st : List AV} {h : AH} : X mX4_machineAt 5 [aR z, v1] st h = X mX4_machineAt 6 [aR z, v1] (aR z :: st) h := X_of dX4_machineAt_5 rfl
theorem x_X4_machineAt_6 {a : Nat} {al st : List AV} {h : AH} : X mX4_machineAt 6 al (aR (some a) :: st) h = gK (rd h 4 a 6) fun v => X mX4_machineAt 9 al (v :: st) h := x_get dX4_machineAt_6 fT_4_42
theorem x_X4_machineAt_9 {a b : Int} {al st : List AV} {h : AH} : X mX4_machineAt 9 al (aI b :: aI a :: st) h = if b ≤ a then X mX4_machineAt 21 al st h else X mX4_machineAt 12 al st h := x_geC dX4_machineAt_9 rfl
theorem x_X4_machineAt_12 {v0 : AV} {z : Int} {st : List AV} {h : AH} : X mX4_machineAt 12 [v0, aI z] st h = X mX4_machineAt 13 [v0, aI z] (aI z :: st) h := X_of dX4_machineAt_12 rfl
theorem x_X4_machineAt_13 {v1 : AV} {z : Option Nat} {st : List AV} {h : AH} : X mX4_machineAt 13 [aR z, v1] st h = X mX4_machineAt 14 [aR z, v1] (aR z :: st) h := X_of dX4_machineAt_13 rfl
theorem x_X4_machineAt_14 {a : Nat} {al st : List AV} {h : AH} : X mX4_machineAt 14 al (aR (some a) :: st) h = gK (rd h 4 a 0) fun v => X mX4_machineAt 17 al (v :: st) h := x_get dX4_machineAt_14 fT_4_11
theorem x_X4_machineAt_17 {a : Nat} {al st : List AV} {h : AH} : X mX4_machineAt 17 al (aR (some a) :: st) h = gL (ln h a) fun n => X mX4_machineAt 18 al (aI n :: st) h := x_len dX4_machineAt_17
theorem x_X4_machineAt_18 {a b : Int} {al st : List AV} {h : AH} : X mX4_machineAt 18 al (aI b :: aI a :: st) h = if a < b then X mX4_machineAt 23 al st h else X mX4_machineAt 21 al st h := x_ltC dX4_machineAt_18 rfl
theorem x_X4_machineAt_21 {al st : List AV} {h : AH} : X mX4_machineAt 21 al st h = X mX4_machineAt 22 al (aR none :: st) h := X_of dX4_machineAt_21 rfl
theorem x_X4_machineAt_22 {z : Option Nat} {al : List AV} {h : AH} : X mX4_machineAt 22 al [aR z] h = some (some (aR z), h) := X_ofR dX4_machineAt_22 rfl
theorem x_X4_machineAt_23 {v1 : AV} {z : Option Nat} {st : List AV} {h : AH} : X mX4_machineAt 23 [aR z, v1] st h = X mX4_machineAt 24 [aR z, v1] (aR z :: st) h := X_of dX4_machineAt_23 rfl
theorem x_X4_machineAt_24 {a : Nat} {al st : List AV} {h : AH} : X mX4_machineAt 24 al (aR (some a) :: st) h = gK (rd h 4 a 0) fun v => X mX4_machineAt 27 al (v :: st) h := x_get dX4_machineAt_24 fT_4_11
theorem x_X4_machineAt_27 {v0 : AV} {z : Int} {st : List AV} {h : AH} : X mX4_machineAt 27 [v0, aI z] st h = X mX4_machineAt 28 [v0, aI z] (aI z :: st) h := X_of dX4_machineAt_27 rfl
theorem x_X4_machineAt_28 {a : Nat} {i : Int} {al st : List AV} {h : AH} (ht : tagR h a = 12) : X mX4_machineAt 28 al (aI i :: aR (some a) :: st) h = if 0 ≤ i then gK (rd h 12 a i.toNat) (fun v => X mX4_machineAt 29 al (v :: st) h) else none := x_aldR dX4_machineAt_28 ht (by decide)
theorem x_X4_machineAt_29 {z : Option Nat} {al : List AV} {h : AH} : X mX4_machineAt 29 al [aR z] h = some (some (aR z), h) := X_ofR dX4_machineAt_29 rfl
theorem e_X4_sheetAt {p0 : Option Nat} {p1 : Int} {h : AH} : E mX4_sheetAt [aR p0, aI p1] h = X mX4_sheetAt 0 [aR p0, aI p1] [] h := rfl
theorem x_X4_sheetAt_0 {v0 : AV} {z : Int} {st : List AV} {h : AH} : X mX4_sheetAt 0 [v0, aI z] st h = X mX4_sheetAt 1 [v0, aI z] (aI z :: st) h := X_of dX4_sheetAt_0 rfl
theorem x_X4_sheetAt_1 {a : Int} {al st : List AV} {h : AH} : X mX4_sheetAt 1 al (aI a :: st) h = if a < 0 then X mX4_sheetAt 21 al st h else X mX4_sheetAt 4 al st h := x_lt0 dX4_sheetAt_1 rfl
theorem x_X4_sheetAt_4 {v0 : AV} {z : Int} {st : List AV} {h : AH} : X mX4_sheetAt 4 [v0, aI z] st h = X mX4_sheetAt 5 [v0, aI z] (aI z :: st) h := X_of dX4_sheetAt_4 rfl
theorem x_X4_sheetAt_5 {v1 : AV} {z : Option Nat} {st : List AV} {h : AH} : X mX4_sheetAt 5 [aR z, v1] st h = X mX4_sheetAt 6 [aR z, v1] (aR z :: st) h := X_of dX4_sheetAt_5 rfl
theorem x_X4_sheetAt_6 {a : Nat} {al st : List AV} {h : AH} : X mX4_sheetAt 6 al (aR (some a) :: st) h = gK (rd h 4 a 7) fun v => X mX4_sheetAt 9 al (v :: st) h := x_get dX4_sheetAt_6 fT_4_46
theorem x_X4_sheetAt_9 {a b : Int} {al st : List AV} {h : AH} : X mX4_sheetAt 9 al (aI b :: aI a :: st) h = if b ≤ a then X mX4_sheetAt 21 al st h else X mX4_sheetAt 12 al st h := x_geC dX4_sheetAt_9 rfl
theorem x_X4_sheetAt_12 {v0 : AV} {z : Int} {st : List AV} {h : AH} : X mX4_sheetAt 12 [v0, aI z] st h = X mX4_sheetAt 13 [v0, aI z] (aI z :: st) h := X_of dX4_sheetAt_12 rfl
theorem x_X4_sheetAt_13 {v1 : AV} {z : Option Nat} {st : List AV} {h : AH} : X mX4_sheetAt 13 [aR z, v1] st h = X mX4_sheetAt 14 [aR z, v1] (aR z :: st) h := X_of dX4_sheetAt_13 rfl
theorem x_X4_sheetAt_14 {a : Nat} {al st : List AV} {h : AH} : X mX4_sheetAt 14 al (aR (some a) :: st) h = gK (rd h 4 a 1) fun v => X mX4_sheetAt 17 al (v :: st) h := x_get dX4_sheetAt_14 fT_4_17
theorem x_X4_sheetAt_17 {a : Nat} {al st : List AV} {h : AH} : X mX4_sheetAt 17 al (aR (some a) :: st) h = gL (ln h a) fun n => X mX4_sheetAt 18 al (aI n :: st) h := x_len dX4_sheetAt_17
theorem x_X4_sheetAt_18 {a b : Int} {al st : List AV} {h : AH} : X mX4_sheetAt 18 al (aI b :: aI a :: st) h = if a < b then X mX4_sheetAt 23 al st h else X mX4_sheetAt 21 al st h := x_ltC dX4_sheetAt_18 rfl
theorem x_X4_sheetAt_21 {al st : List AV} {h : AH} : X mX4_sheetAt 21 al st h = X mX4_sheetAt 22 al (aR none :: st) h := X_of dX4_sheetAt_21 rfl
theorem x_X4_sheetAt_22 {z : Option Nat} {al : List AV} {h : AH} : X mX4_sheetAt 22 al [aR z] h = some (some (aR z), h) := X_ofR dX4_sheetAt_22 rfl
theorem x_X4_sheetAt_23 {v1 : AV} {z : Option Nat} {st : List AV} {h : AH} : X mX4_sheetAt 23 [aR z, v1] st h = X mX4_sheetAt 24 [aR z, v1] (aR z :: st) h := X_of dX4_sheetAt_23 rfl
theorem x_X4_sheetAt_24 {a : Nat} {al st : List AV} {h : AH} : X mX4_sheetAt 24 al (aR (some a) :: st) h = gK (rd h 4 a 1) fun v => X mX4_sheetAt 27 al (v :: st) h := x_get dX4_sheetAt_24 fT_4_17
theorem x_X4_sheetAt_27 {v0 : AV} {z : Int} {st : List AV} {h : AH} : X mX4_sheetAt 27 [v0, aI z] st h = X mX4_sheetAt 28 [v0, aI z] (aI z :: st) h := X_of dX4_sheetAt_27 rfl
theorem x_X4_sheetAt_28 {a : Nat} {i : Int} {al st : List AV} {h : AH} (ht : tagR h a = 13) : X mX4_sheetAt 28 al (aI i :: aR (some a) :: st) h = if 0 ≤ i then gK (rd h 13 a i.toNat) (fun v => X mX4_sheetAt 29 al (v :: st) h) else none := x_aldR dX4_sheetAt_28 ht (by decide)
theorem x_X4_sheetAt_29 {z : Option Nat} {al : List AV} {h : AH} : X mX4_sheetAt 29 al [aR z] h = some (some (aR z), h) := X_ofR dX4_sheetAt_29 rfl
theorem e_X4_found {p0 : Option Nat} {p1 : Int} {h : AH} : E mX4_found [aR p0, aI p1] h = X mX4_found 0 [aR p0, aI p1] [] h := rfl
theorem x_X4_found_0 {v0 : AV} {z : Int} {st : List AV} {h : AH} : X mX4_found 0 [v0, aI z] st h = X mX4_found 1 [v0, aI z] (aI z :: st) h := X_of dX4_found_0 rfl
theorem x_X4_found_1 {a : Int} {al st : List AV} {h : AH} : X mX4_found 1 al (aI a :: st) h = if a < 0 then X mX4_found 28 al st h else X mX4_found 4 al st h := x_lt0 dX4_found_1 rfl
theorem x_X4_found_4 {v0 : AV} {z : Int} {st : List AV} {h : AH} : X mX4_found 4 [v0, aI z] st h = X mX4_found 5 [v0, aI z] (aI z :: st) h := X_of dX4_found_4 rfl
theorem x_X4_found_5 {v1 : AV} {z : Option Nat} {st : List AV} {h : AH} : X mX4_found 5 [aR z, v1] st h = X mX4_found 6 [aR z, v1] (aR z :: st) h := X_of dX4_found_5 rfl
theorem x_X4_found_6 {a : Nat} {al st : List AV} {h : AH} : X mX4_found 6 al (aR (some a) :: st) h = gK (rd h 4 a 4) fun v => X mX4_found 9 al (v :: st) h := x_get dX4_found_6 fT_4_35
theorem x_X4_found_9 {a : Nat} {al st : List AV} {h : AH} : X mX4_found 9 al (aR (some a) :: st) h = gL (ln h a) fun n => X mX4_found 10 al (aI n :: st) h := x_len dX4_found_9
theorem x_X4_found_10 {a b : Int} {al st : List AV} {h : AH} : X mX4_found 10 al (aI b :: aI a :: st) h = if b ≤ a then X mX4_found 28 al st h else X mX4_found 13 al st h := x_geC dX4_found_10 rfl
theorem x_X4_found_13 {v1 : AV} {z : Option Nat} {st : List AV} {h : AH} : X mX4_found 13 [aR z, v1] st h = X mX4_found 14 [aR z, v1] (aR z :: st) h := X_of dX4_found_13 rfl
theorem x_X4_found_14 {v0 : AV} {z : Int} {st : List AV} {h : AH} : X mX4_found 14 [v0, aI z] st h = X mX4_found 15 [v0, aI z] (aI z :: st) h := X_of dX4_found_14 rfl
theorem x_X4_found_15 {a : Nat} {z : Int} {al st : List AV} {h : AH} : X mX4_found 15 al (aI z :: aR (some a) :: st) h = pK (rd h 4 a 12) (X mX4_found 18 al st (wr h 4 a 12 (aI z))) := x_put dX4_found_15 fT_4_61 rfl rfl
theorem x_X4_found_18 {v1 : AV} {z : Option Nat} {st : List AV} {h : AH} : X mX4_found 18 [aR z, v1] st h = X mX4_found 19 [aR z, v1] (aR z :: st) h := X_of dX4_found_18 rfl
theorem x_X4_found_19 {a : Nat} {al st : List AV} {h : AH} : X mX4_found 19 al (aR (some a) :: st) h = gK (rd h 4 a 4) fun v => X mX4_found 22 al (v :: st) h := x_get dX4_found_19 fT_4_35
theorem x_X4_found_22 {v0 : AV} {z : Int} {st : List AV} {h : AH} : X mX4_found 22 [v0, aI z] st h = X mX4_found 23 [v0, aI z] (aI z :: st) h := X_of dX4_found_22 rfl
theorem x_X4_found_23 {z : Int} {r : Option Nat} {al st : List AV} {h : AH} : X mX4_found 23 al (aI z :: aR r :: st) h = X mX4_found 24 al (aI z :: aR r :: aI z :: aR r :: st) h := X_of dX4_found_23 rfl
theorem x_X4_found_24 {a : Nat} {i : Int} {al st : List AV} {h : AH} : X mX4_found 24 al (aI i :: aR (some a) :: st) h = if 0 ≤ i then gK (rd h 10 a i.toNat) (fun v => X mX4_found 25 al (v :: st) h) else none := x_aldI dX4_found_24
theorem x_X4_found_25 {al st : List AV} {h : AH} : X mX4_found 25 al st h = X mX4_found 26 al (aI 1 :: st) h := X_of dX4_found_25 rfl
theorem x_X4_found_26 {a b : Int} {al st : List AV} {h : AH} : X mX4_found 26 al (aI b :: aI a :: st) h = X mX4_found 27 al (aI (w32 (a + b)) :: st) h := X_of dX4_found_26 rfl
theorem x_X4_found_27 {a : Nat} {i z : Int} {al st : List AV} {h : AH} : X mX4_found 27 al (aI z :: aI i :: aR (some a) :: st) h = if 0 ≤ i then pK (rd h 10 a i.toNat) (X mX4_found 28 al st (wr h 10 a i.toNat (aI z))) else none := x_astI dX4_found_27
theorem x_X4_found_28 {al st : List AV} {h : AH} : X mX4_found 28 al st h = X mX4_found 30 al (aI (-3) :: st) h := X_of dX4_found_28 rfl
theorem x_X4_found_30 {z : Int} {al : List AV} {h : AH} : X mX4_found 30 al [aI z] h = some (some (aI z), h) := X_ofR dX4_found_30 rfl
theorem e_X4_isPay {p0 : Int} {h : AH} : E mX4_isPay [aJ p0] h = X mX4_isPay 0 [aJ p0, aU] [] h := rfl
theorem x_X4_isPay_0 {v1 : AV} {z : Int} {st : List AV} {h : AH} : X mX4_isPay 0 [aJ z, v1] st h = X mX4_isPay 1 [aJ z, v1] (aJ z :: st) h := X_of dX4_isPay_0 rfl
theorem x_X4_isPay_1 {al st : List AV} {h : AH} : X mX4_isPay 1 al st h = X mX4_isPay 4 al (aJ (-50) :: st) h := X_of dX4_isPay_1 rfl
theorem x_X4_isPay_4 {a b : Int} {al st : List AV} {h : AH} : X mX4_isPay 4 al (aJ b :: aJ a :: st) h = X mX4_isPay 5 al (aI (fCmp a b) :: st) h := X_of dX4_isPay_4 rfl
theorem x_X4_isPay_5 {a : Int} {al st : List AV} {h : AH} : X mX4_isPay 5 al (aI a :: st) h = if a < 0 then X mX4_isPay 20 al st h else X mX4_isPay 8 al st h := x_lt0 dX4_isPay_5 rfl
theorem x_X4_isPay_8 {v1 : AV} {z : Int} {st : List AV} {h : AH} : X mX4_isPay 8 [aJ z, v1] st h = X mX4_isPay 9 [aJ z, v1] (aJ z :: st) h := X_of dX4_isPay_8 rfl
theorem x_X4_isPay_9 {al st : List AV} {h : AH} : X mX4_isPay 9 al st h = X mX4_isPay 12 al (aJ 50 :: st) h := X_of dX4_isPay_9 rfl
theorem x_X4_isPay_12 {a b : Int} {al st : List AV} {h : AH} : X mX4_isPay 12 al (aJ b :: aJ a :: st) h = X mX4_isPay 13 al (aI (fCmp a b) :: st) h := X_of dX4_isPay_12 rfl
theorem x_X4_isPay_13 {a : Int} {al st : List AV} {h : AH} : X mX4_isPay 13 al (aI a :: st) h = if 0 < a then X mX4_isPay 20 al st h else X mX4_isPay 16 al st h := x_gt0 dX4_isPay_13 rfl
theorem x_X4_isPay_16 {al st : List AV} {h : AH} : X mX4_isPay 16 al st h = X mX4_isPay 17 al (aI 1 :: st) h := X_of dX4_isPay_16 rfl
theorem x_X4_isPay_17 {al st : List AV} {h : AH} : X mX4_isPay 17 al st h = X mX4_isPay 21 al st h := X_of dX4_isPay_17 rfl
theorem x_X4_isPay_20 {al st : List AV} {h : AH} : X mX4_isPay 20 al st h = X mX4_isPay 21 al (aI 0 :: st) h := X_of dX4_isPay_20 rfl
theorem x_X4_isPay_21_0 {al : List AV} {h : AH} : X mX4_isPay 21 al [aI 0] h = some (some (aI 0), h) := X_ofR dX4_isPay_21 rfl
theorem x_X4_isPay_21_1 {al : List AV} {h : AH} : X mX4_isPay 21 al [aI 1] h = some (some (aI 1), h) := X_ofR dX4_isPay_21 rfl
theorem x_X4_isPay_21 {z : Int} {al : List AV} {h : AH} (hz : z = 0 ∨ z = 1) : X mX4_isPay 21 al [aI z] h = some (some (aI z), h) := by
  rcases hz with rfl | rfl
  · exact x_X4_isPay_21_0
  · exact x_X4_isPay_21_1
theorem e_X4_fits {p0 : Int} {p1 : Int} {h : AH} : E mX4_fits [aI p0, aI p1] h = X mX4_fits 0 [aI p0, aI p1] [] h := rfl
theorem x_X4_fits_0 {v1 : AV} {z : Int} {st : List AV} {h : AH} : X mX4_fits 0 [aI z, v1] st h = X mX4_fits 1 [aI z, v1] (aI z :: st) h := X_of dX4_fits_0 rfl
theorem x_X4_fits_1 {al st : List AV} {h : AH} : X mX4_fits 1 al st h = X mX4_fits 2 al (aI 1 :: st) h := X_of dX4_fits_1 rfl
theorem x_X4_fits_2 {a b : Int} {al st : List AV} {h : AH} : X mX4_fits 2 al (aI b :: aI a :: st) h = if ¬ a = b then X mX4_fits 16 al st h else X mX4_fits 5 al st h := x_neC dX4_fits_2 rfl
theorem x_X4_fits_5 {v0 : AV} {z : Int} {st : List AV} {h : AH} : X mX4_fits 5 [v0, aI z] st h = X mX4_fits 6 [v0, aI z] (aI z :: st) h := X_of dX4_fits_5 rfl
theorem x_X4_fits_6 {al st : List AV} {h : AH} : X mX4_fits 6 al st h = X mX4_fits 7 al (aI 1 :: st) h := X_of dX4_fits_6 rfl
theorem x_X4_fits_7 {a b : Int} {al st : List AV} {h : AH} : X mX4_fits 7 al (aI b :: aI a :: st) h = if ¬ a = b then X mX4_fits 14 al st h else X mX4_fits 10 al st h := x_neC dX4_fits_7 rfl
theorem x_X4_fits_10 {al st : List AV} {h : AH} : X mX4_fits 10 al st h = X mX4_fits 11 al (aI 1 :: st) h := X_of dX4_fits_10 rfl
theorem x_X4_fits_11 {al st : List AV} {h : AH} : X mX4_fits 11 al st h = X mX4_fits 15 al st h := X_of dX4_fits_11 rfl
theorem x_X4_fits_14 {al st : List AV} {h : AH} : X mX4_fits 14 al st h = X mX4_fits 15 al (aI 0 :: st) h := X_of dX4_fits_14 rfl
theorem x_X4_fits_15_0 {al : List AV} {h : AH} : X mX4_fits 15 al [aI 0] h = some (some (aI 0), h) := X_ofR dX4_fits_15 rfl
theorem x_X4_fits_15_1 {al : List AV} {h : AH} : X mX4_fits 15 al [aI 1] h = some (some (aI 1), h) := X_ofR dX4_fits_15 rfl
theorem x_X4_fits_15 {z : Int} {al : List AV} {h : AH} (hz : z = 0 ∨ z = 1) : X mX4_fits 15 al [aI z] h = some (some (aI z), h) := by
  rcases hz with rfl | rfl
  · exact x_X4_fits_15_0
  · exact x_X4_fits_15_1
theorem x_X4_fits_16 {v0 : AV} {z : Int} {st : List AV} {h : AH} : X mX4_fits 16 [v0, aI z] st h = X mX4_fits 17 [v0, aI z] (aI z :: st) h := X_of dX4_fits_16 rfl
theorem x_X4_fits_17 {v1 : AV} {z : Int} {st : List AV} {h : AH} : X mX4_fits 17 [aI z, v1] st h = X mX4_fits 18 [aI z, v1] (aI z :: st) h := X_of dX4_fits_17 rfl
theorem x_X4_fits_18 {al st : List AV} {h : AH} : X mX4_fits 18 al st h = X mX4_fits 19 al (aI 3 :: st) h := X_of dX4_fits_18 rfl
theorem x_X4_fits_19 {a b : Int} {al st : List AV} {h : AH} : X mX4_fits 19 al (aI b :: aI a :: st) h = if ¬ a = b then X mX4_fits 26 al st h else X mX4_fits 22 al st h := x_neC dX4_fits_19 rfl
theorem x_X4_fits_22 {al st : List AV} {h : AH} : X mX4_fits 22 al st h = X mX4_fits 23 al (aI 2 :: st) h := X_of dX4_fits_22 rfl
theorem x_X4_fits_23 {al st : List AV} {h : AH} : X mX4_fits 23 al st h = X mX4_fits 27 al st h := X_of dX4_fits_23 rfl
theorem x_X4_fits_26 {al st : List AV} {h : AH} : X mX4_fits 26 al st h = X mX4_fits 27 al (aI 1 :: st) h := X_of dX4_fits_26 rfl
theorem x_X4_fits_27 {a b : Int} {al st : List AV} {h : AH} : X mX4_fits 27 al (aI b :: aI a :: st) h = if a < b then X mX4_fits 39 al st h else X mX4_fits 30 al st h := x_ltC dX4_fits_27 rfl
theorem x_X4_fits_30 {v0 : AV} {z : Int} {st : List AV} {h : AH} : X mX4_fits 30 [v0, aI z] st h = X mX4_fits 31 [v0, aI z] (aI z :: st) h := X_of dX4_fits_30 rfl
theorem x_X4_fits_31 {al st : List AV} {h : AH} : X mX4_fits 31 al st h = X mX4_fits 32 al (aI 5 :: st) h := X_of dX4_fits_31 rfl
theorem x_X4_fits_32 {a b : Int} {al st : List AV} {h : AH} : X mX4_fits 32 al (aI b :: aI a :: st) h = if b < a then X mX4_fits 39 al st h else X mX4_fits 35 al st h := x_gtC dX4_fits_32 rfl
theorem x_X4_fits_35 {al st : List AV} {h : AH} : X mX4_fits 35 al st h = X mX4_fits 36 al (aI 1 :: st) h := X_of dX4_fits_35 rfl
theorem x_X4_fits_36 {al st : List AV} {h : AH} : X mX4_fits 36 al st h = X mX4_fits 40 al st h := X_of dX4_fits_36 rfl
theorem x_X4_fits_39 {al st : List AV} {h : AH} : X mX4_fits 39 al st h = X mX4_fits 40 al (aI 0 :: st) h := X_of dX4_fits_39 rfl
theorem x_X4_fits_40_0 {al : List AV} {h : AH} : X mX4_fits 40 al [aI 0] h = some (some (aI 0), h) := X_ofR dX4_fits_40 rfl
theorem x_X4_fits_40_1 {al : List AV} {h : AH} : X mX4_fits 40 al [aI 1] h = some (some (aI 1), h) := X_ofR dX4_fits_40 rfl
theorem x_X4_fits_40 {z : Int} {al : List AV} {h : AH} (hz : z = 0 ∨ z = 1) : X mX4_fits 40 al [aI z] h = some (some (aI z), h) := by
  rcases hz with rfl | rfl
  · exact x_X4_fits_40_0
  · exact x_X4_fits_40_1
theorem e_X4_asAnswer {p0 : Int} {h : AH} : E mX4_asAnswer [aI p0] h = X mX4_asAnswer 0 [aI p0] [] h := rfl
theorem x_X4_asAnswer_0 {z : Int} {st : List AV} {h : AH} : X mX4_asAnswer 0 [aI z] st h = X mX4_asAnswer 1 [aI z] (aI z :: st) h := X_of dX4_asAnswer_0 rfl
theorem x_X4_asAnswer_1 {a : Int} {al st : List AV} {h : AH} : X mX4_asAnswer 1 al (aI a :: st) h = if ¬ a = 0 then X mX4_asAnswer 6 al st h else X mX4_asAnswer 4 al st h := x_ne0 dX4_asAnswer_1 rfl
theorem x_X4_asAnswer_4 {al st : List AV} {h : AH} : X mX4_asAnswer 4 al st h = X mX4_asAnswer 5 al (aI 0 :: st) h := X_of dX4_asAnswer_4 rfl
theorem x_X4_asAnswer_5 {z : Int} {al : List AV} {h : AH} : X mX4_asAnswer 5 al [aI z] h = some (some (aI z), h) := X_ofR dX4_asAnswer_5 rfl
theorem x_X4_asAnswer_6 {z : Int} {st : List AV} {h : AH} : X mX4_asAnswer 6 [aI z] st h = X mX4_asAnswer 7 [aI z] (aI z :: st) h := X_of dX4_asAnswer_6 rfl
theorem x_X4_asAnswer_7 {a : Int} {al st : List AV} {h : AH} : X mX4_asAnswer 7 al (aI a :: st) h = if a ≤ 0 then X mX4_asAnswer 14 al st h else X mX4_asAnswer 10 al st h := x_le0 dX4_asAnswer_7 rfl
theorem x_X4_asAnswer_10 {al st : List AV} {h : AH} : X mX4_asAnswer 10 al st h = X mX4_asAnswer 11 al (aI 1 :: st) h := X_of dX4_asAnswer_10 rfl
theorem x_X4_asAnswer_11 {al st : List AV} {h : AH} : X mX4_asAnswer 11 al st h = X mX4_asAnswer 15 al st h := X_of dX4_asAnswer_11 rfl
theorem x_X4_asAnswer_14 {al st : List AV} {h : AH} : X mX4_asAnswer 14 al st h = X mX4_asAnswer 15 al (aI 2 :: st) h := X_of dX4_asAnswer_14 rfl
theorem x_X4_asAnswer_15 {z : Int} {al : List AV} {h : AH} : X mX4_asAnswer 15 al [aI z] h = some (some (aI z), h) := X_ofR dX4_asAnswer_15 rfl
theorem e_X4_worthOf {p0 : Option Nat} {p1 : Option Nat} {p2 : Int} {h : AH} : E mX4_worthOf [aR p0, aR p1, aI p2] h = X mX4_worthOf 0 [aR p0, aR p1, aI p2] [] h := rfl
theorem x_X4_worthOf_0 {v0 v2 : AV} {z : Option Nat} {st : List AV} {h : AH} : X mX4_worthOf 0 [v0, aR z, v2] st h = X mX4_worthOf 1 [v0, aR z, v2] (aR z :: st) h := X_of dX4_worthOf_0 rfl
theorem x_X4_worthOf_1 {a : Nat} {al st : List AV} {h : AH} : X mX4_worthOf 1 al (aR (some a) :: st) h = gK (rd h 1 a 5) fun v => X mX4_worthOf 4 al (v :: st) h := x_get dX4_worthOf_1 fT_4_75
theorem x_X4_worthOf_4 {a : Int} {al st : List AV} {h : AH} : X mX4_worthOf 4 al (aI a :: st) h = if ¬ a = 0 then X mX4_worthOf 23 al st h else X mX4_worthOf 7 al st h := x_ne0 dX4_worthOf_4 rfl
theorem x_X4_worthOf_7 {v1 v2 : AV} {z : Option Nat} {st : List AV} {h : AH} : X mX4_worthOf 7 [aR z, v1, v2] st h = X mX4_worthOf 8 [aR z, v1, v2] (aR z :: st) h := X_of dX4_worthOf_7 rfl
theorem x_X4_worthOf_8 {a : Nat} {al st : List AV} {h : AH} : X mX4_worthOf 8 al (aR (some a) :: st) h = gK (rd h 4 a 2) fun v => X mX4_worthOf 11 al (v :: st) h := x_get dX4_worthOf_8 fT_4_24
theorem x_X4_worthOf_11 {v0 v2 : AV} {z : Option Nat} {st : List AV} {h : AH} : X mX4_worthOf 11 [v0, aR z, v2] st h = X mX4_worthOf 12 [v0, aR z, v2] (aR z :: st) h := X_of dX4_worthOf_11 rfl
theorem x_X4_worthOf_12 {v1 v2 : AV} {z : Option Nat} {st : List AV} {h : AH} : X mX4_worthOf 12 [aR z, v1, v2] st h = X mX4_worthOf 13 [aR z, v1, v2] (aR z :: st) h := X_of dX4_worthOf_12 rfl
theorem x_X4_worthOf_13 {a : Nat} {al st : List AV} {h : AH} : X mX4_worthOf 13 al (aR (some a) :: st) h = gK (rd h 4 a 8) fun v => X mX4_worthOf 16 al (v :: st) h := x_get dX4_worthOf_13 fT_4_49
theorem x_X4_worthOf_16 {v1 v2 : AV} {z : Option Nat} {st : List AV} {h : AH} : X mX4_worthOf 16 [aR z, v1, v2] st h = X mX4_worthOf 17 [aR z, v1, v2] (aR z :: st) h := X_of dX4_worthOf_16 rfl
theorem x_X4_worthOf_17 {a : Nat} {al st : List AV} {h : AH} : X mX4_worthOf 17 al (aR (some a) :: st) h = gK (rd h 4 a 9) fun v => X mX4_worthOf 20 al (v :: st) h := x_get dX4_worthOf_17 fT_4_52
theorem x_X4_worthOf_20 {a0 : Nat} {a1 : Option Nat} {a2 : Int} {a3 : Int} {al : List AV} {h : AH} (ho : isO h 2 a0 = true) : X mX4_worthOf 20 al [aI a3, aI a2, aR a1, aR (some a0)] h = cK (E mX2_reckonWorths [aR (some a0), aR a1, aI a2, aI a3] h) fun v h2 => X mX4_worthOf 23 al (v.toList ++ []) h2 := x_cal (as := [aR (some a0), aR a1, aI a2, aI a3]) (rest := []) dX4_worthOf_20 (fun _ => rfl) cT_4_233 rfl rfl ho
theorem x_X4_worthOf_23 {v0 v2 : AV} {z : Option Nat} {st : List AV} {h : AH} : X mX4_worthOf 23 [v0, aR z, v2] st h = X mX4_worthOf 24 [v0, aR z, v2] (aR z :: st) h := X_of dX4_worthOf_23 rfl
theorem x_X4_worthOf_24 {v0 v1 : AV} {z : Int} {st : List AV} {h : AH} : X mX4_worthOf 24 [v0, v1, aI z] st h = X mX4_worthOf 25 [v0, v1, aI z] (aI z :: st) h := X_of dX4_worthOf_24 rfl
theorem x_X4_worthOf_25 {a0 : Nat} {a1 : Int} {al : List AV} {h : AH} (ho : isO h 1 a0 = true) : X mX4_worthOf 25 al [aI a1, aR (some a0)] h = cK (E mX1_worthAt [aR (some a0), aI a1] h) fun v h2 => X mX4_worthOf 28 al (v.toList ++ []) h2 := x_cal (as := [aR (some a0), aI a1]) (rest := []) dX4_worthOf_25 (fun _ => rfl) cT_4_237 rfl rfl ho
theorem x_X4_worthOf_28 {z : Option Nat} {al : List AV} {h : AH} : X mX4_worthOf 28 al [aR z] h = some (some (aR z), h) := X_ofR dX4_worthOf_28 rfl
theorem e_X4_rankOf {p0 : Option Nat} {p1 : Option Nat} {p2 : Int} {h : AH} : E mX4_rankOf [aR p0, aR p1, aI p2] h = X mX4_rankOf 0 [aR p0, aR p1, aI p2, aU, aU, aU] [] h := rfl
theorem x_X4_rankOf_0 {al st : List AV} {h : AH} : X mX4_rankOf 0 al st h = X mX4_rankOf 1 al (aI 0 :: st) h := X_of dX4_rankOf_0 rfl
theorem x_X4_rankOf_1 {v0 v1 v3 v4 v5 : AV} {y : Int} {z : Int} {st : List AV} {h : AH} : X mX4_rankOf 1 [v0, v1, aI y, v3, v4, v5] (aI z :: st) h = X mX4_rankOf 2 [v0, v1, aI y, aI z, v4, v5] st h := X_of dX4_rankOf_1 rfl
theorem x_X4_rankOf_2 {al st : List AV} {h : AH} : X mX4_rankOf 2 al st h = X mX4_rankOf 3 al (aI 0 :: st) h := X_of dX4_rankOf_2 rfl
theorem x_X4_rankOf_3 {v0 v1 v2 v4 v5 : AV} {y : Int} {z : Int} {st : List AV} {h : AH} : X mX4_rankOf 3 [v0, v1, v2, aI y, v4, v5] (aI z :: st) h = X mX4_rankOf 5 [v0, v1, v2, aI y, aI z, v5] st h := X_of dX4_rankOf_3 rfl
theorem x_X4_rankOf_5 {v0 v1 v2 v3 v5 : AV} {z : Int} {st : List AV} {h : AH} : X mX4_rankOf 5 [v0, v1, v2, v3, aI z, v5] st h = X mX4_rankOf 7 [v0, v1, v2, v3, aI z, v5] (aI z :: st) h := X_of dX4_rankOf_5 rfl
theorem x_X4_rankOf_7 {v0 v2 v3 v4 v5 : AV} {z : Option Nat} {st : List AV} {h : AH} : X mX4_rankOf 7 [v0, aR z, v2, v3, v4, v5] st h = X mX4_rankOf 8 [v0, aR z, v2, v3, v4, v5] (aR z :: st) h := X_of dX4_rankOf_7 rfl
theorem x_X4_rankOf_8 {a : Nat} {al st : List AV} {h : AH} : X mX4_rankOf 8 al (aR (some a) :: st) h = gK (rd h 1 a 1) fun v => X mX4_rankOf 11 al (v :: st) h := x_get dX4_rankOf_8 fT_4_127
theorem x_X4_rankOf_11 {a b : Int} {al st : List AV} {h : AH} : X mX4_rankOf 11 al (aI b :: aI a :: st) h = if b ≤ a then X mX4_rankOf 57 al st h else X mX4_rankOf 14 al st h := x_geC dX4_rankOf_11 rfl
theorem x_X4_rankOf_14 {v1 v2 v3 v4 v5 : AV} {z : Option Nat} {st : List AV} {h : AH} : X mX4_rankOf 14 [aR z, v1, v2, v3, v4, v5] st h = X mX4_rankOf 15 [aR z, v1, v2, v3, v4, v5] (aR z :: st) h := X_of dX4_rankOf_14 rfl
theorem x_X4_rankOf_15 {v0 v2 v3 v4 v5 : AV} {z : Option Nat} {st : List AV} {h : AH} : X mX4_rankOf 15 [v0, aR z, v2, v3, v4, v5] st h = X mX4_rankOf 16 [v0, aR z, v2, v3, v4, v5] (aR z :: st) h := X_of dX4_rankOf_15 rfl
theorem x_X4_rankOf_16 {v0 v1 v2 v3 v5 : AV} {z : Int} {st : List AV} {h : AH} : X mX4_rankOf 16 [v0, v1, v2, v3, aI z, v5] st h = X mX4_rankOf 18 [v0, v1, v2, v3, aI z, v5] (aI z :: st) h := X_of dX4_rankOf_16 rfl
theorem x_X4_rankOf_18 {a0 : Nat} {a1 : Option Nat} {a2 : Int} {al : List AV} {h : AH} (ho : isO h 4 a0 = true) : X mX4_rankOf 18 al [aI a2, aR a1, aR (some a0)] h = cK (E mX4_worthOf [aR (some a0), aR a1, aI a2] h) fun v h2 => X mX4_rankOf 21 al (v.toList ++ []) h2 := x_cal (as := [aR (some a0), aR a1, aI a2]) (rest := []) dX4_rankOf_18 (fun _ => rfl) cT_4_160 rfl rfl ho
theorem x_X4_rankOf_21 {v1 v2 v3 v4 v5 : AV} {z : Option Nat} {st : List AV} {h : AH} : X mX4_rankOf 21 [aR z, v1, v2, v3, v4, v5] st h = X mX4_rankOf 22 [aR z, v1, v2, v3, v4, v5] (aR z :: st) h := X_of dX4_rankOf_21 rfl
theorem x_X4_rankOf_22 {v0 v2 v3 v4 v5 : AV} {z : Option Nat} {st : List AV} {h : AH} : X mX4_rankOf 22 [v0, aR z, v2, v3, v4, v5] st h = X mX4_rankOf 23 [v0, aR z, v2, v3, v4, v5] (aR z :: st) h := X_of dX4_rankOf_22 rfl
theorem x_X4_rankOf_23 {v0 v1 v3 v4 v5 : AV} {z : Int} {st : List AV} {h : AH} : X mX4_rankOf 23 [v0, v1, aI z, v3, v4, v5] st h = X mX4_rankOf 24 [v0, v1, aI z, v3, v4, v5] (aI z :: st) h := X_of dX4_rankOf_23 rfl
theorem x_X4_rankOf_24 {a0 : Nat} {a1 : Option Nat} {a2 : Int} {r0 : Option Nat} {al : List AV} {h : AH} (ho : isO h 4 a0 = true) : X mX4_rankOf 24 al [aI a2, aR a1, aR (some a0), aR r0] h = cK (E mX4_worthOf [aR (some a0), aR a1, aI a2] h) fun v h2 => X mX4_rankOf 27 al (v.toList ++ [aR r0]) h2 := x_cal (as := [aR (some a0), aR a1, aI a2]) (rest := [aR r0]) dX4_rankOf_24 (fun _ => rfl) cT_4_160 rfl rfl ho
theorem x_X4_rankOf_27 {a0 : Nat} {a1 : Option Nat} {al : List AV} {h : AH} (ho : isO h 0 a0 = true) : X mX4_rankOf 27 al [aR a1, aR (some a0)] h = cK (E mX0_against [aR (some a0), aR a1] h) fun v h2 => X mX4_rankOf 30 al (v.toList ++ []) h2 := x_cal (as := [aR (some a0), aR a1]) (rest := []) dX4_rankOf_27 (fun _ => rfl) cT_4_182 rfl rfl ho
theorem x_X4_rankOf_30 {v0 v1 v2 v3 v5 : AV} {y : Int} {z : Int} {st : List AV} {h : AH} : X mX4_rankOf 30 [v0, v1, v2, v3, aI y, v5] (aI z :: st) h = X mX4_rankOf 32 [v0, v1, v2, v3, aI y, aI z] st h := X_of dX4_rankOf_30 rfl
theorem x_X4_rankOf_32 {v0 v1 v2 v3 v4 : AV} {z : Int} {st : List AV} {h : AH} : X mX4_rankOf 32 [v0, v1, v2, v3, v4, aI z] st h = X mX4_rankOf 34 [v0, v1, v2, v3, v4, aI z] (aI z :: st) h := X_of dX4_rankOf_32 rfl
theorem x_X4_rankOf_34 {a : Int} {al st : List AV} {h : AH} : X mX4_rankOf 34 al (aI a :: st) h = if 0 < a then X mX4_rankOf 48 al st h else X mX4_rankOf 37 al st h := x_gt0 dX4_rankOf_34 rfl
theorem x_X4_rankOf_37 {v0 v1 v2 v3 v4 : AV} {z : Int} {st : List AV} {h : AH} : X mX4_rankOf 37 [v0, v1, v2, v3, v4, aI z] st h = X mX4_rankOf 39 [v0, v1, v2, v3, v4, aI z] (aI z :: st) h := X_of dX4_rankOf_37 rfl
theorem x_X4_rankOf_39 {a : Int} {al st : List AV} {h : AH} : X mX4_rankOf 39 al (aI a :: st) h = if ¬ a = 0 then X mX4_rankOf 51 al st h else X mX4_rankOf 42 al st h := x_ne0 dX4_rankOf_39 rfl
theorem x_X4_rankOf_42 {v0 v1 v2 v3 v5 : AV} {z : Int} {st : List AV} {h : AH} : X mX4_rankOf 42 [v0, v1, v2, v3, aI z, v5] st h = X mX4_rankOf 44 [v0, v1, v2, v3, aI z, v5] (aI z :: st) h := X_of dX4_rankOf_42 rfl
theorem x_X4_rankOf_44 {v0 v1 v3 v4 v5 : AV} {z : Int} {st : List AV} {h : AH} : X mX4_rankOf 44 [v0, v1, aI z, v3, v4, v5] st h = X mX4_rankOf 45 [v0, v1, aI z, v3, v4, v5] (aI z :: st) h := X_of dX4_rankOf_44 rfl
theorem x_X4_rankOf_45 {a b : Int} {al st : List AV} {h : AH} : X mX4_rankOf 45 al (aI b :: aI a :: st) h = if b ≤ a then X mX4_rankOf 51 al st h else X mX4_rankOf 48 al st h := x_geC dX4_rankOf_45 rfl
theorem x_X4_rankOf_48 {v0 v1 v4 v5 : AV} {y : Int} {z : Int} {st : List AV} {h : AH} : X mX4_rankOf 48 [v0, v1, aI y, aI z, v4, v5] st h = X mX4_rankOf 51 [v0, v1, aI y, aI (w32 (z + 1)), v4, v5] st h := X_of dX4_rankOf_48 rfl
theorem x_X4_rankOf_51 {v0 v1 v2 v5 : AV} {y : Int} {z : Int} {st : List AV} {h : AH} : X mX4_rankOf 51 [v0, v1, v2, aI y, aI z, v5] st h = X mX4_rankOf 54 [v0, v1, v2, aI y, aI (w32 (z + 1)), v5] st h := X_of dX4_rankOf_51 rfl
theorem x_X4_rankOf_54 {al st : List AV} {h : AH} : X mX4_rankOf 54 al st h = X mX4_rankOf 5 al st h := X_of dX4_rankOf_54 rfl
theorem x_X4_rankOf_57 {v0 v1 v2 v4 v5 : AV} {z : Int} {st : List AV} {h : AH} : X mX4_rankOf 57 [v0, v1, v2, aI z, v4, v5] st h = X mX4_rankOf 58 [v0, v1, v2, aI z, v4, v5] (aI z :: st) h := X_of dX4_rankOf_57 rfl
theorem x_X4_rankOf_58 {z : Int} {al : List AV} {h : AH} : X mX4_rankOf 58 al [aI z] h = some (some (aI z), h) := X_ofR dX4_rankOf_58 rfl
theorem e_X4_bestMachine {p0 : Option Nat} {h : AH} : E mX4_bestMachine [aR p0] h = X mX4_bestMachine 0 [aR p0, aU, aU, aU, aU, aU] [] h := rfl
theorem x_X4_bestMachine_0 {al st : List AV} {h : AH} : X mX4_bestMachine 0 al st h = X mX4_bestMachine 2 al (aI (-9) :: st) h := X_of dX4_bestMachine_0 rfl
theorem x_X4_bestMachine_2 {v1 v2 v3 v4 v5 : AV} {y : Option Nat} {z : Int} {st : List AV} {h : AH} : X mX4_bestMachine 2 [aR y, v1, v2, v3, v4, v5] (aI z :: st) h = X mX4_bestMachine 3 [aR y, aI z, v2, v3, v4, v5] st h := X_of dX4_bestMachine_2 rfl
theorem x_X4_bestMachine_3 {al st : List AV} {h : AH} : X mX4_bestMachine 3 al st h = X mX4_bestMachine 4 al (aR none :: st) h := X_of dX4_bestMachine_3 rfl
theorem x_X4_bestMachine_4 {v0 v2 v3 v4 v5 : AV} {y : Int} {z : Option Nat} {st : List AV} {h : AH} : X mX4_bestMachine 4 [v0, aI y, v2, v3, v4, v5] (aR z :: st) h = X mX4_bestMachine 5 [v0, aI y, aR z, v3, v4, v5] st h := X_of dX4_bestMachine_4 rfl
theorem x_X4_bestMachine_5 {al st : List AV} {h : AH} : X mX4_bestMachine 5 al st h = X mX4_bestMachine 6 al (aI 0 :: st) h := X_of dX4_bestMachine_5 rfl
theorem x_X4_bestMachine_6 {v0 v1 v3 v4 v5 : AV} {y : Option Nat} {z : Int} {st : List AV} {h : AH} : X mX4_bestMachine 6 [v0, v1, aR y, v3, v4, v5] (aI z :: st) h = X mX4_bestMachine 7 [v0, v1, aR y, aI z, v4, v5] st h := X_of dX4_bestMachine_6 rfl
theorem x_X4_bestMachine_7 {v0 v1 v2 v4 v5 : AV} {z : Int} {st : List AV} {h : AH} : X mX4_bestMachine 7 [v0, v1, v2, aI z, v4, v5] st h = X mX4_bestMachine 8 [v0, v1, v2, aI z, v4, v5] (aI z :: st) h := X_of dX4_bestMachine_7 rfl
theorem x_X4_bestMachine_8 {v1 v2 v3 v4 v5 : AV} {z : Option Nat} {st : List AV} {h : AH} : X mX4_bestMachine 8 [aR z, v1, v2, v3, v4, v5] st h = X mX4_bestMachine 9 [aR z, v1, v2, v3, v4, v5] (aR z :: st) h := X_of dX4_bestMachine_8 rfl
theorem x_X4_bestMachine_9 {a : Nat} {al st : List AV} {h : AH} : X mX4_bestMachine 9 al (aR (some a) :: st) h = gK (rd h 4 a 6) fun v => X mX4_bestMachine 12 al (v :: st) h := x_get dX4_bestMachine_9 fT_4_42
theorem x_X4_bestMachine_12 {a b : Int} {al st : List AV} {h : AH} : X mX4_bestMachine 12 al (aI b :: aI a :: st) h = if b ≤ a then X mX4_bestMachine 64 al st h else X mX4_bestMachine 15 al st h := x_geC dX4_bestMachine_12 rfl
theorem x_X4_bestMachine_15 {v1 v2 v3 v4 v5 : AV} {z : Option Nat} {st : List AV} {h : AH} : X mX4_bestMachine 15 [aR z, v1, v2, v3, v4, v5] st h = X mX4_bestMachine 16 [aR z, v1, v2, v3, v4, v5] (aR z :: st) h := X_of dX4_bestMachine_15 rfl
theorem x_X4_bestMachine_16 {v0 v1 v2 v4 v5 : AV} {z : Int} {st : List AV} {h : AH} : X mX4_bestMachine 16 [v0, v1, v2, aI z, v4, v5] st h = X mX4_bestMachine 17 [v0, v1, v2, aI z, v4, v5] (aI z :: st) h := X_of dX4_bestMachine_16 rfl
theorem x_X4_bestMachine_17 {a0 : Nat} {a1 : Int} {al : List AV} {h : AH} (ho : isO h 4 a0 = true) : X mX4_bestMachine 17 al [aI a1, aR (some a0)] h = cK (E mX4_machineAt [aR (some a0), aI a1] h) fun v h2 => X mX4_bestMachine 20 al (v.toList ++ []) h2 := x_cal (as := [aR (some a0), aI a1]) (rest := []) dX4_bestMachine_17 (fun _ => rfl) cT_4_71 rfl rfl ho
theorem x_X4_bestMachine_20 {v0 v1 v2 v4 v5 : AV} {y : Int} {z : Option Nat} {st : List AV} {h : AH} : X mX4_bestMachine 20 [v0, v1, v2, aI y, v4, v5] (aR z :: st) h = X mX4_bestMachine 22 [v0, v1, v2, aI y, aR z, v5] st h := X_of dX4_bestMachine_20 rfl
theorem x_X4_bestMachine_22 {v0 v1 v2 v3 v5 : AV} {z : Option Nat} {st : List AV} {h : AH} : X mX4_bestMachine 22 [v0, v1, v2, v3, aR z, v5] st h = X mX4_bestMachine 24 [v0, v1, v2, v3, aR z, v5] (aR z :: st) h := X_of dX4_bestMachine_22 rfl
theorem x_X4_bestMachine_24n {al st : List AV} {h : AH} : X mX4_bestMachine 24 al (aR none :: st) h = X mX4_bestMachine 58 al st h := X_of dX4_bestMachine_24 rfl
theorem x_X4_bestMachine_24s {a : Nat} {al st : List AV} {h : AH} : X mX4_bestMachine 24 al (aR (some a) :: st) h = X mX4_bestMachine 27 al st h := X_of dX4_bestMachine_24 rfl
theorem x_X4_bestMachine_27 {v1 v2 v3 v4 v5 : AV} {z : Option Nat} {st : List AV} {h : AH} : X mX4_bestMachine 27 [aR z, v1, v2, v3, v4, v5] st h = X mX4_bestMachine 28 [aR z, v1, v2, v3, v4, v5] (aR z :: st) h := X_of dX4_bestMachine_27 rfl
theorem x_X4_bestMachine_28 {v0 v1 v2 v3 v5 : AV} {z : Option Nat} {st : List AV} {h : AH} : X mX4_bestMachine 28 [v0, v1, v2, v3, aR z, v5] st h = X mX4_bestMachine 30 [v0, v1, v2, v3, aR z, v5] (aR z :: st) h := X_of dX4_bestMachine_28 rfl
theorem x_X4_bestMachine_30 {v0 v1 v2 v3 v5 : AV} {z : Option Nat} {st : List AV} {h : AH} : X mX4_bestMachine 30 [v0, v1, v2, v3, aR z, v5] st h = X mX4_bestMachine 32 [v0, v1, v2, v3, aR z, v5] (aR z :: st) h := X_of dX4_bestMachine_30 rfl
theorem x_X4_bestMachine_32 {a : Nat} {al st : List AV} {h : AH} : X mX4_bestMachine 32 al (aR (some a) :: st) h = gK (rd h 1 a 6) fun v => X mX4_bestMachine 35 al (v :: st) h := x_get dX4_bestMachine_32 fT_4_130
theorem x_X4_bestMachine_35 {a0 : Nat} {a1 : Option Nat} {a2 : Int} {al : List AV} {h : AH} (ho : isO h 4 a0 = true) : X mX4_bestMachine 35 al [aI a2, aR a1, aR (some a0)] h = cK (E mX4_worthOf [aR (some a0), aR a1, aI a2] h) fun v h2 => X mX4_bestMachine 38 al (v.toList ++ []) h2 := x_cal (as := [aR (some a0), aR a1, aI a2]) (rest := []) dX4_bestMachine_35 (fun _ => rfl) cT_4_160 rfl rfl ho
theorem x_X4_bestMachine_38 {v0 v1 v2 v3 v5 : AV} {y : Option Nat} {z : Option Nat} {st : List AV} {h : AH} : X mX4_bestMachine 38 [v0, v1, v2, v3, aR y, v5] (aR z :: st) h = X mX4_bestMachine 40 [v0, v1, v2, v3, aR y, aR z] st h := X_of dX4_bestMachine_38 rfl
theorem x_X4_bestMachine_40 {v0 v1 v3 v4 v5 : AV} {z : Option Nat} {st : List AV} {h : AH} : X mX4_bestMachine 40 [v0, v1, aR z, v3, v4, v5] st h = X mX4_bestMachine 41 [v0, v1, aR z, v3, v4, v5] (aR z :: st) h := X_of dX4_bestMachine_40 rfl
theorem x_X4_bestMachine_41n {al st : List AV} {h : AH} : X mX4_bestMachine 41 al (aR none :: st) h = X mX4_bestMachine 53 al st h := X_of dX4_bestMachine_41 rfl
theorem x_X4_bestMachine_41s {a : Nat} {al st : List AV} {h : AH} : X mX4_bestMachine 41 al (aR (some a) :: st) h = X mX4_bestMachine 44 al st h := X_of dX4_bestMachine_41 rfl
theorem x_X4_bestMachine_44 {v0 v1 v2 v3 v4 : AV} {z : Option Nat} {st : List AV} {h : AH} : X mX4_bestMachine 44 [v0, v1, v2, v3, v4, aR z] st h = X mX4_bestMachine 46 [v0, v1, v2, v3, v4, aR z] (aR z :: st) h := X_of dX4_bestMachine_44 rfl
theorem x_X4_bestMachine_46 {v0 v1 v3 v4 v5 : AV} {z : Option Nat} {st : List AV} {h : AH} : X mX4_bestMachine 46 [v0, v1, aR z, v3, v4, v5] st h = X mX4_bestMachine 47 [v0, v1, aR z, v3, v4, v5] (aR z :: st) h := X_of dX4_bestMachine_46 rfl
theorem x_X4_bestMachine_47 {a0 : Nat} {a1 : Option Nat} {al : List AV} {h : AH} (ho : isO h 0 a0 = true) : X mX4_bestMachine 47 al [aR a1, aR (some a0)] h = cK (E mX0_against [aR (some a0), aR a1] h) fun v h2 => X mX4_bestMachine 50 al (v.toList ++ []) h2 := x_cal (as := [aR (some a0), aR a1]) (rest := []) dX4_bestMachine_47 (fun _ => rfl) cT_4_182 rfl rfl ho
theorem x_X4_bestMachine_50 {a : Int} {al st : List AV} {h : AH} : X mX4_bestMachine 50 al (aI a :: st) h = if a ≤ 0 then X mX4_bestMachine 58 al st h else X mX4_bestMachine 53 al st h := x_le0 dX4_bestMachine_50 rfl
theorem x_X4_bestMachine_53 {v0 v1 v2 v3 v4 : AV} {z : Option Nat} {st : List AV} {h : AH} : X mX4_bestMachine 53 [v0, v1, v2, v3, v4, aR z] st h = X mX4_bestMachine 55 [v0, v1, v2, v3, v4, aR z] (aR z :: st) h := X_of dX4_bestMachine_53 rfl
theorem x_X4_bestMachine_55 {v0 v2 v3 v4 v5 : AV} {y : Int} {z : Option Nat} {st : List AV} {h : AH} : X mX4_bestMachine 55 [v0, aI y, v2, v3, v4, v5] (aR z :: st) h = X mX4_bestMachine 56 [v0, aI y, aR z, v3, v4, v5] st h := X_of dX4_bestMachine_55 rfl
theorem x_X4_bestMachine_56 {v0 v1 v2 v4 v5 : AV} {z : Int} {st : List AV} {h : AH} : X mX4_bestMachine 56 [v0, v1, v2, aI z, v4, v5] st h = X mX4_bestMachine 57 [v0, v1, v2, aI z, v4, v5] (aI z :: st) h := X_of dX4_bestMachine_56 rfl
theorem x_X4_bestMachine_57 {v1 v2 v3 v4 v5 : AV} {y : Option Nat} {z : Int} {st : List AV} {h : AH} : X mX4_bestMachine 57 [aR y, v1, v2, v3, v4, v5] (aI z :: st) h = X mX4_bestMachine 58 [aR y, aI z, v2, v3, v4, v5] st h := X_of dX4_bestMachine_57 rfl
theorem x_X4_bestMachine_58 {v0 v1 v4 v5 : AV} {y : Option Nat} {z : Int} {st : List AV} {h : AH} : X mX4_bestMachine 58 [v0, v1, aR y, aI z, v4, v5] st h = X mX4_bestMachine 61 [v0, v1, aR y, aI (w32 (z + 1)), v4, v5] st h := X_of dX4_bestMachine_58 rfl
theorem x_X4_bestMachine_61 {al st : List AV} {h : AH} : X mX4_bestMachine 61 al st h = X mX4_bestMachine 7 al st h := X_of dX4_bestMachine_61 rfl
theorem x_X4_bestMachine_64 {v0 v2 v3 v4 v5 : AV} {z : Int} {st : List AV} {h : AH} : X mX4_bestMachine 64 [v0, aI z, v2, v3, v4, v5] st h = X mX4_bestMachine 65 [v0, aI z, v2, v3, v4, v5] (aI z :: st) h := X_of dX4_bestMachine_64 rfl
theorem x_X4_bestMachine_65 {z : Int} {al : List AV} {h : AH} : X mX4_bestMachine 65 al [aI z] h = some (some (aI z), h) := X_ofR dX4_bestMachine_65 rfl
theorem e_X4_workOnce {p0 : Option Nat} {p1 : Option Nat} {h : AH} : E mX4_workOnce [aR p0, aR p1] h = X mX4_workOnce 0 [aR p0, aR p1, aU] [] h := rfl
theorem x_X4_workOnce_0 {v0 v2 : AV} {z : Option Nat} {st : List AV} {h : AH} : X mX4_workOnce 0 [v0, aR z, v2] st h = X mX4_workOnce 1 [v0, aR z, v2] (aR z :: st) h := X_of dX4_workOnce_0 rfl
theorem x_X4_workOnce_1n {al st : List AV} {h : AH} : X mX4_workOnce 1 al (aR none :: st) h = X mX4_workOnce 4 al st h := X_of dX4_workOnce_1 rfl
theorem x_X4_workOnce_1s {a : Nat} {al st : List AV} {h : AH} : X mX4_workOnce 1 al (aR (some a) :: st) h = X mX4_workOnce 6 al st h := X_of dX4_workOnce_1 rfl
theorem x_X4_workOnce_4 {al st : List AV} {h : AH} : X mX4_workOnce 4 al st h = X mX4_workOnce 5 al (aI 0 :: st) h := X_of dX4_workOnce_4 rfl
theorem x_X4_workOnce_5 {z : Int} {al : List AV} {h : AH} : X mX4_workOnce 5 al [aI z] h = some (some (aI z), h) := X_ofR dX4_workOnce_5 rfl
theorem x_X4_workOnce_6 {v0 v2 : AV} {z : Option Nat} {st : List AV} {h : AH} : X mX4_workOnce 6 [v0, aR z, v2] st h = X mX4_workOnce 7 [v0, aR z, v2] (aR z :: st) h := X_of dX4_workOnce_6 rfl
theorem x_X4_workOnce_7 {v0 v2 : AV} {z : Option Nat} {st : List AV} {h : AH} : X mX4_workOnce 7 [v0, aR z, v2] st h = X mX4_workOnce 8 [v0, aR z, v2] (aR z :: st) h := X_of dX4_workOnce_7 rfl
theorem x_X4_workOnce_8 {a : Nat} {al st : List AV} {h : AH} : X mX4_workOnce 8 al (aR (some a) :: st) h = gK (rd h 1 a 6) fun v => X mX4_workOnce 11 al (v :: st) h := x_get dX4_workOnce_8 fT_4_130
theorem x_X4_workOnce_11 {a0 : Nat} {a1 : Int} {al : List AV} {h : AH} (ho : isO h 1 a0 = true) : X mX4_workOnce 11 al [aI a1, aR (some a0)] h = cK (E mX1_payAt [aR (some a0), aI a1] h) fun v h2 => X mX4_workOnce 14 al (v.toList ++ []) h2 := x_cal (as := [aR (some a0), aI a1]) (rest := []) dX4_workOnce_11 (fun _ => rfl) cT_4_143 rfl rfl ho
theorem x_X4_workOnce_14 {v0 v2 : AV} {y : Option Nat} {z : Int} {st : List AV} {h : AH} : X mX4_workOnce 14 [v0, aR y, v2] (aI z :: st) h = X mX4_workOnce 15 [v0, aR y, aI z] st h := X_of dX4_workOnce_14 rfl
theorem x_X4_workOnce_15 {v0 v2 : AV} {z : Option Nat} {st : List AV} {h : AH} : X mX4_workOnce 15 [v0, aR z, v2] st h = X mX4_workOnce 16 [v0, aR z, v2] (aR z :: st) h := X_of dX4_workOnce_15 rfl
theorem x_X4_workOnce_16 {v0 v2 : AV} {z : Option Nat} {st : List AV} {h : AH} : X mX4_workOnce 16 [v0, aR z, v2] st h = X mX4_workOnce 17 [v0, aR z, v2] (aR z :: st) h := X_of dX4_workOnce_16 rfl
theorem x_X4_workOnce_17 {v1 v2 : AV} {z : Option Nat} {st : List AV} {h : AH} : X mX4_workOnce 17 [aR z, v1, v2] st h = X mX4_workOnce 18 [aR z, v1, v2] (aR z :: st) h := X_of dX4_workOnce_17 rfl
theorem x_X4_workOnce_18 {v0 v2 : AV} {z : Option Nat} {st : List AV} {h : AH} : X mX4_workOnce 18 [v0, aR z, v2] st h = X mX4_workOnce 19 [v0, aR z, v2] (aR z :: st) h := X_of dX4_workOnce_18 rfl
theorem x_X4_workOnce_19 {v0 v2 : AV} {z : Option Nat} {st : List AV} {h : AH} : X mX4_workOnce 19 [v0, aR z, v2] st h = X mX4_workOnce 20 [v0, aR z, v2] (aR z :: st) h := X_of dX4_workOnce_19 rfl
theorem x_X4_workOnce_20 {a : Nat} {al st : List AV} {h : AH} : X mX4_workOnce 20 al (aR (some a) :: st) h = gK (rd h 1 a 6) fun v => X mX4_workOnce 23 al (v :: st) h := x_get dX4_workOnce_20 fT_4_130
theorem x_X4_workOnce_23 {a0 : Nat} {a1 : Int} {r0 : Option Nat} {r1 : Option Nat} {r2 : Option Nat} {al : List AV} {h : AH} (ho : isO h 1 a0 = true) : X mX4_workOnce 23 al [aI a1, aR (some a0), aR r0, aR r1, aR r2] h = cK (E mX1_sumOf [aR (some a0), aI a1] h) fun v h2 => X mX4_workOnce 26 al (v.toList ++ [aR r0, aR r1, aR r2]) h2 := x_cal (as := [aR (some a0), aI a1]) (rest := [aR r0, aR r1, aR r2]) dX4_workOnce_23 (fun _ => rfl) cT_4_153 rfl rfl ho
theorem x_X4_workOnce_26 {a0 : Nat} {a1 : Int} {r0 : Option Nat} {r1 : Option Nat} {al : List AV} {h : AH} (ho : isO h 4 a0 = true) : X mX4_workOnce 26 al [aI a1, aR (some a0), aR r0, aR r1] h = cK (E mX4_draw [aR (some a0), aI a1] h) fun v h2 => X mX4_workOnce 29 al (v.toList ++ [aR r0, aR r1]) h2 := x_cal (as := [aR (some a0), aI a1]) (rest := [aR r0, aR r1]) dX4_workOnce_26 (fun _ => rfl) cT_4_241 rfl rfl ho
theorem x_X4_workOnce_29 {a0 : Nat} {a1 : Int} {r0 : Option Nat} {al : List AV} {h : AH} (ho : isO h 1 a0 = true) : X mX4_workOnce 29 al [aI a1, aR (some a0), aR r0] h = cK (E mX1_goal [aR (some a0), aI a1] h) fun v h2 => X mX4_workOnce 32 al (v.toList ++ [aR r0]) h2 := x_cal (as := [aR (some a0), aI a1]) (rest := [aR r0]) dX4_workOnce_29 (fun _ => rfl) cT_4_244 rfl rfl ho
theorem x_X4_workOnce_32 {a : Nat} {z : Int} {al st : List AV} {h : AH} : X mX4_workOnce 32 al (aI z :: aR (some a) :: st) h = pK (rd h 1 a 6) (X mX4_workOnce 35 al st (wr h 1 a 6 (aI z))) := x_put dX4_workOnce_32 fT_4_130 rfl rfl
theorem x_X4_workOnce_35 {v0 v2 : AV} {z : Option Nat} {st : List AV} {h : AH} : X mX4_workOnce 35 [v0, aR z, v2] st h = X mX4_workOnce 36 [v0, aR z, v2] (aR z :: st) h := X_of dX4_workOnce_35 rfl
theorem x_X4_workOnce_36 {z : Option Nat} {al st : List AV} {h : AH} : X mX4_workOnce 36 al (aR z :: st) h = X mX4_workOnce 37 al (aR z :: aR z :: st) h := X_of dX4_workOnce_36 rfl
theorem x_X4_workOnce_37 {a : Nat} {al st : List AV} {h : AH} : X mX4_workOnce 37 al (aR (some a) :: st) h = gK (rd h 1 a 7) fun v => X mX4_workOnce 40 al (v :: st) h := x_get dX4_workOnce_37 fT_4_212
theorem x_X4_workOnce_40 {al st : List AV} {h : AH} : X mX4_workOnce 40 al st h = X mX4_workOnce 41 al (aI 1 :: st) h := X_of dX4_workOnce_40 rfl
theorem x_X4_workOnce_41 {a b : Int} {al st : List AV} {h : AH} : X mX4_workOnce 41 al (aI b :: aI a :: st) h = X mX4_workOnce 42 al (aI (w32 (a + b)) :: st) h := X_of dX4_workOnce_41 rfl
theorem x_X4_workOnce_42 {a : Nat} {z : Int} {al st : List AV} {h : AH} : X mX4_workOnce 42 al (aI z :: aR (some a) :: st) h = pK (rd h 1 a 7) (X mX4_workOnce 45 al st (wr h 1 a 7 (aI z))) := x_put dX4_workOnce_42 fT_4_212 rfl rfl
theorem x_X4_workOnce_45 {v1 v2 : AV} {z : Option Nat} {st : List AV} {h : AH} : X mX4_workOnce 45 [aR z, v1, v2] st h = X mX4_workOnce 46 [aR z, v1, v2] (aR z :: st) h := X_of dX4_workOnce_45 rfl
theorem x_X4_workOnce_46 {z : Option Nat} {al st : List AV} {h : AH} : X mX4_workOnce 46 al (aR z :: st) h = X mX4_workOnce 47 al (aR z :: aR z :: st) h := X_of dX4_workOnce_46 rfl
theorem x_X4_workOnce_47 {a : Nat} {al st : List AV} {h : AH} : X mX4_workOnce 47 al (aR (some a) :: st) h = gK (rd h 4 a 14) fun v => X mX4_workOnce 50 al (v :: st) h := x_get dX4_workOnce_47 fT_4_68
theorem x_X4_workOnce_50 {v0 v1 : AV} {z : Int} {st : List AV} {h : AH} : X mX4_workOnce 50 [v0, v1, aI z] st h = X mX4_workOnce 51 [v0, v1, aI z] (aI z :: st) h := X_of dX4_workOnce_50 rfl
theorem x_X4_workOnce_51 {a : Int} {al st : List AV} {h : AH} : X mX4_workOnce 51 al (aI a :: st) h = X mX4_workOnce 52 al (aJ a :: st) h := X_of dX4_workOnce_51 rfl
theorem x_X4_workOnce_52 {a b : Int} {al st : List AV} {h : AH} : X mX4_workOnce 52 al (aJ b :: aJ a :: st) h = X mX4_workOnce 53 al (aJ (w64 (a + b)) :: st) h := X_of dX4_workOnce_52 rfl
theorem x_X4_workOnce_53 {a : Nat} {z : Int} {al st : List AV} {h : AH} : X mX4_workOnce 53 al (aJ z :: aR (some a) :: st) h = pK (rd h 4 a 14) (X mX4_workOnce 56 al st (wr h 4 a 14 (aJ z))) := x_put dX4_workOnce_53 fT_4_68 rfl rfl
theorem x_X4_workOnce_56 {v0 v1 : AV} {z : Int} {st : List AV} {h : AH} : X mX4_workOnce 56 [v0, v1, aI z] st h = X mX4_workOnce 57 [v0, v1, aI z] (aI z :: st) h := X_of dX4_workOnce_56 rfl
theorem x_X4_workOnce_57 {z : Int} {al : List AV} {h : AH} : X mX4_workOnce 57 al [aI z] h = some (some (aI z), h) := X_ofR dX4_workOnce_57 rfl
theorem e_X4_draw {p0 : Option Nat} {p1 : Int} {h : AH} : E mX4_draw [aR p0, aI p1] h = X mX4_draw 0 [aR p0, aI p1] [] h := rfl
theorem x_X4_draw_0 {v1 : AV} {z : Option Nat} {st : List AV} {h : AH} : X mX4_draw 0 [aR z, v1] st h = X mX4_draw 1 [aR z, v1] (aR z :: st) h := X_of dX4_draw_0 rfl
theorem x_X4_draw_1 {v1 : AV} {z : Option Nat} {st : List AV} {h : AH} : X mX4_draw 1 [aR z, v1] st h = X mX4_draw 2 [aR z, v1] (aR z :: st) h := X_of dX4_draw_1 rfl
theorem x_X4_draw_2 {a : Nat} {al st : List AV} {h : AH} : X mX4_draw 2 al (aR (some a) :: st) h = gK (rd h 4 a 10) fun v => X mX4_draw 5 al (v :: st) h := x_get dX4_draw_2 fT_4_55
theorem x_X4_draw_5 {a : Int} {al st : List AV} {h : AH} : X mX4_draw 5 al (aI a :: st) h = X mX4_draw 6 al (aJ a :: st) h := X_of dX4_draw_5 rfl
theorem x_X4_draw_6 {al st : List AV} {h : AH} : X mX4_draw 6 al st h = X mX4_draw 9 al (aJ 1103515245 :: st) h := X_of dX4_draw_6 rfl
theorem x_X4_draw_9 {a b : Int} {al st : List AV} {h : AH} : X mX4_draw 9 al (aJ b :: aJ a :: st) h = X mX4_draw 10 al (aJ (w64 (a * b)) :: st) h := X_of dX4_draw_9 rfl
theorem x_X4_draw_10 {al st : List AV} {h : AH} : X mX4_draw 10 al st h = X mX4_draw 13 al (aJ 12345 :: st) h := X_of dX4_draw_10 rfl
theorem x_X4_draw_13 {a b : Int} {al st : List AV} {h : AH} : X mX4_draw 13 al (aJ b :: aJ a :: st) h = X mX4_draw 14 al (aJ (w64 (a + b)) :: st) h := X_of dX4_draw_13 rfl
theorem x_X4_draw_14 {al st : List AV} {h : AH} : X mX4_draw 14 al st h = X mX4_draw 17 al (aJ 2147483647 :: st) h := X_of dX4_draw_14 rfl
theorem x_X4_draw_17 {a b : Int} {al st : List AV} {h : AH} : X mX4_draw 17 al (aJ b :: aJ a :: st) h = X mX4_draw 18 al (aJ (fAndJ a b) :: st) h := X_of dX4_draw_17 rfl
theorem x_X4_draw_18 {a : Int} {al st : List AV} {h : AH} : X mX4_draw 18 al (aJ a :: st) h = X mX4_draw 19 al (aI (w32 a) :: st) h := X_of dX4_draw_18 rfl
theorem x_X4_draw_19 {a : Nat} {z : Int} {al st : List AV} {h : AH} : X mX4_draw 19 al (aI z :: aR (some a) :: st) h = pK (rd h 4 a 10) (X mX4_draw 22 al st (wr h 4 a 10 (aI z))) := x_put dX4_draw_19 fT_4_55 rfl rfl
theorem x_X4_draw_22 {v0 : AV} {z : Int} {st : List AV} {h : AH} : X mX4_draw 22 [v0, aI z] st h = X mX4_draw 23 [v0, aI z] (aI z :: st) h := X_of dX4_draw_22 rfl
theorem x_X4_draw_23 {a : Int} {al st : List AV} {h : AH} : X mX4_draw 23 al (aI a :: st) h = if a ≤ 0 then X mX4_draw 38 al st h else X mX4_draw 26 al st h := x_le0 dX4_draw_23 rfl
theorem x_X4_draw_26 {v1 : AV} {z : Option Nat} {st : List AV} {h : AH} : X mX4_draw 26 [aR z, v1] st h = X mX4_draw 27 [aR z, v1] (aR z :: st) h := X_of dX4_draw_26 rfl
theorem x_X4_draw_27 {a : Nat} {al st : List AV} {h : AH} : X mX4_draw 27 al (aR (some a) :: st) h = gK (rd h 4 a 10) fun v => X mX4_draw 30 al (v :: st) h := x_get dX4_draw_27 fT_4_55
theorem x_X4_draw_30 {al st : List AV} {h : AH} : X mX4_draw 30 al st h = X mX4_draw 32 al (aI 65536 :: st) h := X_of dX4_draw_30 rfl
theorem x_X4_draw_32 {a b : Int} {al st : List AV} {h : AH} : X mX4_draw 32 al (aI b :: aI a :: st) h = if b = 0 then none else X mX4_draw 33 al (aI (w32 (a.tdiv b)) :: st) h := x_div dX4_draw_32
theorem x_X4_draw_33 {v0 : AV} {z : Int} {st : List AV} {h : AH} : X mX4_draw 33 [v0, aI z] st h = X mX4_draw 34 [v0, aI z] (aI z :: st) h := X_of dX4_draw_33 rfl
theorem x_X4_draw_34 {a b : Int} {al st : List AV} {h : AH} : X mX4_draw 34 al (aI b :: aI a :: st) h = if b = 0 then none else X mX4_draw 35 al (aI (a.tmod b) :: st) h := x_rem dX4_draw_34
theorem x_X4_draw_35 {al st : List AV} {h : AH} : X mX4_draw 35 al st h = X mX4_draw 39 al st h := X_of dX4_draw_35 rfl
theorem x_X4_draw_38 {al st : List AV} {h : AH} : X mX4_draw 38 al st h = X mX4_draw 39 al (aI 0 :: st) h := X_of dX4_draw_38 rfl
theorem x_X4_draw_39 {z : Int} {al : List AV} {h : AH} : X mX4_draw 39 al [aI z] h = some (some (aI z), h) := X_ofR dX4_draw_39 rfl
theorem e_X4_mix {p0 : Int} {p1 : Int} {h : AH} : E mX4_mix [aJ p0, aJ p1] h = X mX4_mix 0 [aJ p0, aU, aJ p1, aU] [] h := rfl
theorem x_X4_mix_0 {al st : List AV} {h : AH} : X mX4_mix 0 al st h = X mX4_mix 3 al (aJ 31 :: st) h := X_of dX4_mix_0 rfl
theorem x_X4_mix_3 {v1 v2 v3 : AV} {z : Int} {st : List AV} {h : AH} : X mX4_mix 3 [aJ z, v1, v2, v3] st h = X mX4_mix 4 [aJ z, v1, v2, v3] (aJ z :: st) h := X_of dX4_mix_3 rfl
theorem x_X4_mix_4 {a b : Int} {al st : List AV} {h : AH} : X mX4_mix 4 al (aJ b :: aJ a :: st) h = X mX4_mix 5 al (aJ (w64 (a * b)) :: st) h := X_of dX4_mix_4 rfl
theorem x_X4_mix_5 {v0 v1 v3 : AV} {z : Int} {st : List AV} {h : AH} : X mX4_mix 5 [v0, v1, aJ z, v3] st h = X mX4_mix 6 [v0, v1, aJ z, v3] (aJ z :: st) h := X_of dX4_mix_5 rfl
theorem x_X4_mix_6 {a b : Int} {al st : List AV} {h : AH} : X mX4_mix 6 al (aJ b :: aJ a :: st) h = X mX4_mix 7 al (aJ (w64 (a + b)) :: st) h := X_of dX4_mix_6 rfl
theorem x_X4_mix_7 {z : Int} {al : List AV} {h : AH} : X mX4_mix 7 al [aJ z] h = some (some (aJ z), h) := X_ofR dX4_mix_7 rfl
theorem e_X4_mixMachine {p0 : Int} {p1 : Option Nat} {h : AH} : E mX4_mixMachine [aJ p0, aR p1] h = X mX4_mixMachine 0 [aJ p0, aU, aR p1, aU, aU, aU, aU] [] h := rfl
theorem x_X4_mixMachine_0 {v0 v1 v3 v4 v5 v6 : AV} {z : Option Nat} {st : List AV} {h : AH} : X mX4_mixMachine 0 [v0, v1, aR z, v3, v4, v5, v6] st h = X mX4_mixMachine 1 [v0, v1, aR z, v3, v4, v5, v6] (aR z :: st) h := X_of dX4_mixMachine_0 rfl
theorem x_X4_mixMachine_1n {al st : List AV} {h : AH} : X mX4_mixMachine 1 al (aR none :: st) h = X mX4_mixMachine 4 al st h := X_of dX4_mixMachine_1 rfl
theorem x_X4_mixMachine_1s {a : Nat} {al st : List AV} {h : AH} : X mX4_mixMachine 1 al (aR (some a) :: st) h = X mX4_mixMachine 6 al st h := X_of dX4_mixMachine_1 rfl
theorem x_X4_mixMachine_4 {v1 v2 v3 v4 v5 v6 : AV} {z : Int} {st : List AV} {h : AH} : X mX4_mixMachine 4 [aJ z, v1, v2, v3, v4, v5, v6] st h = X mX4_mixMachine 5 [aJ z, v1, v2, v3, v4, v5, v6] (aJ z :: st) h := X_of dX4_mixMachine_4 rfl
theorem x_X4_mixMachine_5 {z : Int} {al : List AV} {h : AH} : X mX4_mixMachine 5 al [aJ z] h = some (some (aJ z), h) := X_ofR dX4_mixMachine_5 rfl
theorem x_X4_mixMachine_6 {v1 v2 v3 v4 v5 v6 : AV} {z : Int} {st : List AV} {h : AH} : X mX4_mixMachine 6 [aJ z, v1, v2, v3, v4, v5, v6] st h = X mX4_mixMachine 7 [aJ z, v1, v2, v3, v4, v5, v6] (aJ z :: st) h := X_of dX4_mixMachine_6 rfl
theorem x_X4_mixMachine_7 {v0 v1 v3 v4 v5 v6 : AV} {z : Option Nat} {st : List AV} {h : AH} : X mX4_mixMachine 7 [v0, v1, aR z, v3, v4, v5, v6] st h = X mX4_mixMachine 8 [v0, v1, aR z, v3, v4, v5, v6] (aR z :: st) h := X_of dX4_mixMachine_7 rfl
theorem x_X4_mixMachine_8 {a : Nat} {al st : List AV} {h : AH} : X mX4_mixMachine 8 al (aR (some a) :: st) h = gK (rd h 1 a 0) fun v => X mX4_mixMachine 11 al (v :: st) h := x_get dX4_mixMachine_8 fT_4_126
theorem x_X4_mixMachine_11 {a : Int} {al st : List AV} {h : AH} : X mX4_mixMachine 11 al (aI a :: st) h = X mX4_mixMachine 12 al (aJ a :: st) h := X_of dX4_mixMachine_11 rfl
theorem x_X4_mixMachine_12 {a0 : Int} {a1 : Int} {al : List AV} {h : AH} : X mX4_mixMachine 12 al [aJ a1, aJ a0] h = cK (E mX4_mix [aJ a0, aJ a1] h) fun v h2 => X mX4_mixMachine 15 al (v.toList ++ []) h2 := x_cal (as := [aJ a0, aJ a1]) (rest := []) dX4_mixMachine_12 (fun _ => rfl) cT_4_217 rfl rfl rfl
theorem x_X4_mixMachine_15 {v0 v1 v3 v4 v5 v6 : AV} {z : Option Nat} {st : List AV} {h : AH} : X mX4_mixMachine 15 [v0, v1, aR z, v3, v4, v5, v6] st h = X mX4_mixMachine 16 [v0, v1, aR z, v3, v4, v5, v6] (aR z :: st) h := X_of dX4_mixMachine_15 rfl
theorem x_X4_mixMachine_16 {a : Nat} {al st : List AV} {h : AH} : X mX4_mixMachine 16 al (aR (some a) :: st) h = gK (rd h 1 a 1) fun v => X mX4_mixMachine 19 al (v :: st) h := x_get dX4_mixMachine_16 fT_4_127
theorem x_X4_mixMachine_19 {a : Int} {al st : List AV} {h : AH} : X mX4_mixMachine 19 al (aI a :: st) h = X mX4_mixMachine 20 al (aJ a :: st) h := X_of dX4_mixMachine_19 rfl
theorem x_X4_mixMachine_20 {a0 : Int} {a1 : Int} {al : List AV} {h : AH} : X mX4_mixMachine 20 al [aJ a1, aJ a0] h = cK (E mX4_mix [aJ a0, aJ a1] h) fun v h2 => X mX4_mixMachine 23 al (v.toList ++ []) h2 := x_cal (as := [aJ a0, aJ a1]) (rest := []) dX4_mixMachine_20 (fun _ => rfl) cT_4_217 rfl rfl rfl
theorem x_X4_mixMachine_23 {v0 v1 v3 v4 v5 v6 : AV} {z : Option Nat} {st : List AV} {h : AH} : X mX4_mixMachine 23 [v0, v1, aR z, v3, v4, v5, v6] st h = X mX4_mixMachine 24 [v0, v1, aR z, v3, v4, v5, v6] (aR z :: st) h := X_of dX4_mixMachine_23 rfl
theorem x_X4_mixMachine_24 {a : Nat} {al st : List AV} {h : AH} : X mX4_mixMachine 24 al (aR (some a) :: st) h = gK (rd h 1 a 6) fun v => X mX4_mixMachine 27 al (v :: st) h := x_get dX4_mixMachine_24 fT_4_130
theorem x_X4_mixMachine_27 {a : Int} {al st : List AV} {h : AH} : X mX4_mixMachine 27 al (aI a :: st) h = X mX4_mixMachine 28 al (aJ a :: st) h := X_of dX4_mixMachine_27 rfl
theorem x_X4_mixMachine_28 {a0 : Int} {a1 : Int} {al : List AV} {h : AH} : X mX4_mixMachine 28 al [aJ a1, aJ a0] h = cK (E mX4_mix [aJ a0, aJ a1] h) fun v h2 => X mX4_mixMachine 31 al (v.toList ++ []) h2 := x_cal (as := [aJ a0, aJ a1]) (rest := []) dX4_mixMachine_28 (fun _ => rfl) cT_4_217 rfl rfl rfl
theorem x_X4_mixMachine_31 {v0 v1 v3 v4 v5 v6 : AV} {y : Option Nat} {z : Int} {st : List AV} {h : AH} : X mX4_mixMachine 31 [v0, v1, aR y, v3, v4, v5, v6] (aJ z :: st) h = X mX4_mixMachine 32 [v0, v1, aR y, aJ z, aU, v5, v6] st h := X_of dX4_mixMachine_31 rfl
theorem x_X4_mixMachine_32 {al st : List AV} {h : AH} : X mX4_mixMachine 32 al st h = X mX4_mixMachine 33 al (aI 0 :: st) h := X_of dX4_mixMachine_32 rfl
theorem x_X4_mixMachine_33 {v0 v1 v2 v3 v5 v6 : AV} {z : Int} {st : List AV} {h : AH} : X mX4_mixMachine 33 [v0, v1, v2, v3, aU, v5, v6] (aI z :: st) h = X mX4_mixMachine 35 [v0, v1, v2, v3, aU, aI z, v6] st h := X_of dX4_mixMachine_33 rfl
theorem x_X4_mixMachine_35 {v0 v1 v2 v3 v4 v6 : AV} {z : Int} {st : List AV} {h : AH} : X mX4_mixMachine 35 [v0, v1, v2, v3, v4, aI z, v6] st h = X mX4_mixMachine 37 [v0, v1, v2, v3, v4, aI z, v6] (aI z :: st) h := X_of dX4_mixMachine_35 rfl
theorem x_X4_mixMachine_37 {v0 v1 v3 v4 v5 v6 : AV} {z : Option Nat} {st : List AV} {h : AH} : X mX4_mixMachine 37 [v0, v1, aR z, v3, v4, v5, v6] st h = X mX4_mixMachine 38 [v0, v1, aR z, v3, v4, v5, v6] (aR z :: st) h := X_of dX4_mixMachine_37 rfl
theorem x_X4_mixMachine_38 {a : Nat} {al st : List AV} {h : AH} : X mX4_mixMachine 38 al (aR (some a) :: st) h = gK (rd h 1 a 1) fun v => X mX4_mixMachine 41 al (v :: st) h := x_get dX4_mixMachine_38 fT_4_127
theorem x_X4_mixMachine_41 {a b : Int} {al st : List AV} {h : AH} : X mX4_mixMachine 41 al (aI b :: aI a :: st) h = if b ≤ a then X mX4_mixMachine 94 al st h else X mX4_mixMachine 44 al st h := x_geC dX4_mixMachine_41 rfl
theorem x_X4_mixMachine_44 {v0 v1 v2 v4 v5 v6 : AV} {z : Int} {st : List AV} {h : AH} : X mX4_mixMachine 44 [v0, v1, v2, aJ z, v4, v5, v6] st h = X mX4_mixMachine 45 [v0, v1, v2, aJ z, v4, v5, v6] (aJ z :: st) h := X_of dX4_mixMachine_44 rfl
theorem x_X4_mixMachine_45 {v0 v1 v3 v4 v5 v6 : AV} {z : Option Nat} {st : List AV} {h : AH} : X mX4_mixMachine 45 [v0, v1, aR z, v3, v4, v5, v6] st h = X mX4_mixMachine 46 [v0, v1, aR z, v3, v4, v5, v6] (aR z :: st) h := X_of dX4_mixMachine_45 rfl
theorem x_X4_mixMachine_46 {v0 v1 v2 v3 v4 v6 : AV} {z : Int} {st : List AV} {h : AH} : X mX4_mixMachine 46 [v0, v1, v2, v3, v4, aI z, v6] st h = X mX4_mixMachine 48 [v0, v1, v2, v3, v4, aI z, v6] (aI z :: st) h := X_of dX4_mixMachine_46 rfl
theorem x_X4_mixMachine_48 {a0 : Nat} {a1 : Int} {r0 : Int} {al : List AV} {h : AH} (ho : isO h 1 a0 = true) : X mX4_mixMachine 48 al [aI a1, aR (some a0), aJ r0] h = cK (E mX1_payAt [aR (some a0), aI a1] h) fun v h2 => X mX4_mixMachine 51 al (v.toList ++ [aJ r0]) h2 := x_cal (as := [aR (some a0), aI a1]) (rest := [aJ r0]) dX4_mixMachine_48 (fun _ => rfl) cT_4_143 rfl rfl ho
theorem x_X4_mixMachine_51 {a : Int} {al st : List AV} {h : AH} : X mX4_mixMachine 51 al (aI a :: st) h = X mX4_mixMachine 52 al (aJ a :: st) h := X_of dX4_mixMachine_51 rfl
theorem x_X4_mixMachine_52 {a0 : Int} {a1 : Int} {al : List AV} {h : AH} : X mX4_mixMachine 52 al [aJ a1, aJ a0] h = cK (E mX4_mix [aJ a0, aJ a1] h) fun v h2 => X mX4_mixMachine 55 al (v.toList ++ []) h2 := x_cal (as := [aJ a0, aJ a1]) (rest := []) dX4_mixMachine_52 (fun _ => rfl) cT_4_217 rfl rfl rfl
theorem x_X4_mixMachine_55 {v0 v1 v3 v4 v5 v6 : AV} {y : Option Nat} {z : Int} {st : List AV} {h : AH} : X mX4_mixMachine 55 [v0, v1, aR y, v3, v4, v5, v6] (aJ z :: st) h = X mX4_mixMachine 56 [v0, v1, aR y, aJ z, aU, v5, v6] st h := X_of dX4_mixMachine_55 rfl
theorem x_X4_mixMachine_56 {al st : List AV} {h : AH} : X mX4_mixMachine 56 al st h = X mX4_mixMachine 57 al (aI 0 :: st) h := X_of dX4_mixMachine_56 rfl
theorem x_X4_mixMachine_57 {v0 v1 v2 v3 v4 v6 : AV} {y : Int} {z : Int} {st : List AV} {h : AH} : X mX4_mixMachine 57 [v0, v1, v2, v3, v4, aI y, v6] (aI z :: st) h = X mX4_mixMachine 59 [v0, v1, v2, v3, v4, aI y, aI z] st h := X_of dX4_mixMachine_57 rfl
theorem x_X4_mixMachine_59 {v0 v1 v2 v3 v4 v5 : AV} {z : Int} {st : List AV} {h : AH} : X mX4_mixMachine 59 [v0, v1, v2, v3, v4, v5, aI z] st h = X mX4_mixMachine 61 [v0, v1, v2, v3, v4, v5, aI z] (aI z :: st) h := X_of dX4_mixMachine_59 rfl
theorem x_X4_mixMachine_61 {v0 v1 v3 v4 v5 v6 : AV} {z : Option Nat} {st : List AV} {h : AH} : X mX4_mixMachine 61 [v0, v1, aR z, v3, v4, v5, v6] st h = X mX4_mixMachine 62 [v0, v1, aR z, v3, v4, v5, v6] (aR z :: st) h := X_of dX4_mixMachine_61 rfl
theorem x_X4_mixMachine_62 {a : Nat} {al st : List AV} {h : AH} : X mX4_mixMachine 62 al (aR (some a) :: st) h = gK (rd h 1 a 1) fun v => X mX4_mixMachine 65 al (v :: st) h := x_get dX4_mixMachine_62 fT_4_127
theorem x_X4_mixMachine_65 {a b : Int} {al st : List AV} {h : AH} : X mX4_mixMachine 65 al (aI b :: aI a :: st) h = if b ≤ a then X mX4_mixMachine 88 al st h else X mX4_mixMachine 68 al st h := x_geC dX4_mixMachine_65 rfl
theorem x_X4_mixMachine_68 {v0 v1 v2 v4 v5 v6 : AV} {z : Int} {st : List AV} {h : AH} : X mX4_mixMachine 68 [v0, v1, v2, aJ z, v4, v5, v6] st h = X mX4_mixMachine 69 [v0, v1, v2, aJ z, v4, v5, v6] (aJ z :: st) h := X_of dX4_mixMachine_68 rfl
theorem x_X4_mixMachine_69 {v0 v1 v3 v4 v5 v6 : AV} {z : Option Nat} {st : List AV} {h : AH} : X mX4_mixMachine 69 [v0, v1, aR z, v3, v4, v5, v6] st h = X mX4_mixMachine 70 [v0, v1, aR z, v3, v4, v5, v6] (aR z :: st) h := X_of dX4_mixMachine_69 rfl
theorem x_X4_mixMachine_70 {v0 v1 v2 v3 v4 v6 : AV} {z : Int} {st : List AV} {h : AH} : X mX4_mixMachine 70 [v0, v1, v2, v3, v4, aI z, v6] st h = X mX4_mixMachine 72 [v0, v1, v2, v3, v4, aI z, v6] (aI z :: st) h := X_of dX4_mixMachine_70 rfl
theorem x_X4_mixMachine_72 {v0 v1 v2 v3 v4 v5 : AV} {z : Int} {st : List AV} {h : AH} : X mX4_mixMachine 72 [v0, v1, v2, v3, v4, v5, aI z] st h = X mX4_mixMachine 74 [v0, v1, v2, v3, v4, v5, aI z] (aI z :: st) h := X_of dX4_mixMachine_72 rfl
theorem x_X4_mixMachine_74 {a0 : Nat} {a1 : Int} {a2 : Int} {r0 : Int} {al : List AV} {h : AH} (ho : isO h 1 a0 = true) : X mX4_mixMachine 74 al [aI a2, aI a1, aR (some a0), aJ r0] h = cK (E mX1_weightAt [aR (some a0), aI a1, aI a2] h) fun v h2 => X mX4_mixMachine 77 al (v.toList ++ [aJ r0]) h2 := x_cal (as := [aR (some a0), aI a1, aI a2]) (rest := [aJ r0]) dX4_mixMachine_74 (fun _ => rfl) cT_4_149 rfl rfl ho
theorem x_X4_mixMachine_77 {a : Int} {al st : List AV} {h : AH} : X mX4_mixMachine 77 al (aI a :: st) h = X mX4_mixMachine 78 al (aJ a :: st) h := X_of dX4_mixMachine_77 rfl
theorem x_X4_mixMachine_78 {a0 : Int} {a1 : Int} {al : List AV} {h : AH} : X mX4_mixMachine 78 al [aJ a1, aJ a0] h = cK (E mX4_mix [aJ a0, aJ a1] h) fun v h2 => X mX4_mixMachine 81 al (v.toList ++ []) h2 := x_cal (as := [aJ a0, aJ a1]) (rest := []) dX4_mixMachine_78 (fun _ => rfl) cT_4_217 rfl rfl rfl
theorem x_X4_mixMachine_81 {v0 v1 v3 v4 v5 v6 : AV} {y : Option Nat} {z : Int} {st : List AV} {h : AH} : X mX4_mixMachine 81 [v0, v1, aR y, v3, v4, v5, v6] (aJ z :: st) h = X mX4_mixMachine 82 [v0, v1, aR y, aJ z, aU, v5, v6] st h := X_of dX4_mixMachine_81 rfl
theorem x_X4_mixMachine_82 {v0 v1 v2 v3 v4 : AV} {y : Int} {z : Int} {st : List AV} {h : AH} : X mX4_mixMachine 82 [v0, v1, v2, v3, v4, aI y, aI z] st h = X mX4_mixMachine 85 [v0, v1, v2, v3, v4, aI y, aI (w32 (z + 1))] st h := X_of dX4_mixMachine_82 rfl
theorem x_X4_mixMachine_85 {al st : List AV} {h : AH} : X mX4_mixMachine 85 al st h = X mX4_mixMachine 59 al st h := X_of dX4_mixMachine_85 rfl
theorem x_X4_mixMachine_88 {v0 v1 v2 v3 v6 : AV} {z : Int} {st : List AV} {h : AH} : X mX4_mixMachine 88 [v0, v1, v2, v3, aU, aI z, v6] st h = X mX4_mixMachine 91 [v0, v1, v2, v3, aU, aI (w32 (z + 1)), v6] st h := X_of dX4_mixMachine_88 rfl
theorem x_X4_mixMachine_91 {al st : List AV} {h : AH} : X mX4_mixMachine 91 al st h = X mX4_mixMachine 35 al st h := X_of dX4_mixMachine_91 rfl
theorem x_X4_mixMachine_94 {v0 v1 v2 v4 v5 v6 : AV} {z : Int} {st : List AV} {h : AH} : X mX4_mixMachine 94 [v0, v1, v2, aJ z, v4, v5, v6] st h = X mX4_mixMachine 95 [v0, v1, v2, aJ z, v4, v5, v6] (aJ z :: st) h := X_of dX4_mixMachine_94 rfl
theorem x_X4_mixMachine_95 {z : Int} {al : List AV} {h : AH} : X mX4_mixMachine 95 al [aJ z] h = some (some (aJ z), h) := X_ofR dX4_mixMachine_95 rfl
theorem e_X4_mixSheet {p0 : Int} {p1 : Option Nat} {h : AH} : E mX4_mixSheet [aJ p0, aR p1] h = X mX4_mixSheet 0 [aJ p0, aU, aR p1, aU, aU, aU] [] h := rfl
theorem x_X4_mixSheet_0 {v0 v1 v3 v4 v5 : AV} {z : Option Nat} {st : List AV} {h : AH} : X mX4_mixSheet 0 [v0, v1, aR z, v3, v4, v5] st h = X mX4_mixSheet 1 [v0, v1, aR z, v3, v4, v5] (aR z :: st) h := X_of dX4_mixSheet_0 rfl
theorem x_X4_mixSheet_1n {al st : List AV} {h : AH} : X mX4_mixSheet 1 al (aR none :: st) h = X mX4_mixSheet 11 al st h := X_of dX4_mixSheet_1 rfl
theorem x_X4_mixSheet_1s {a : Nat} {al st : List AV} {h : AH} : X mX4_mixSheet 1 al (aR (some a) :: st) h = X mX4_mixSheet 4 al st h := X_of dX4_mixSheet_1 rfl
theorem x_X4_mixSheet_4 {v0 v1 v3 v4 v5 : AV} {z : Option Nat} {st : List AV} {h : AH} : X mX4_mixSheet 4 [v0, v1, aR z, v3, v4, v5] st h = X mX4_mixSheet 5 [v0, v1, aR z, v3, v4, v5] (aR z :: st) h := X_of dX4_mixSheet_4 rfl
theorem x_X4_mixSheet_5 {a : Nat} {al st : List AV} {h : AH} : X mX4_mixSheet 5 al (aR (some a) :: st) h = gK (rd h 3 a 2) fun v => X mX4_mixSheet 8 al (v :: st) h := x_get dX4_mixSheet_5 fT_4_90
theorem x_X4_mixSheet_8 {a : Int} {al st : List AV} {h : AH} : X mX4_mixSheet 8 al (aI a :: st) h = if a = 0 then X mX4_mixSheet 19 al st h else X mX4_mixSheet 11 al st h := x_eq0 dX4_mixSheet_8 rfl
theorem x_X4_mixSheet_11 {v1 v2 v3 v4 v5 : AV} {z : Int} {st : List AV} {h : AH} : X mX4_mixSheet 11 [aJ z, v1, v2, v3, v4, v5] st h = X mX4_mixSheet 12 [aJ z, v1, v2, v3, v4, v5] (aJ z :: st) h := X_of dX4_mixSheet_11 rfl
theorem x_X4_mixSheet_12 {al st : List AV} {h : AH} : X mX4_mixSheet 12 al st h = X mX4_mixSheet 15 al (aJ (-1) :: st) h := X_of dX4_mixSheet_12 rfl
theorem x_X4_mixSheet_15 {a0 : Int} {a1 : Int} {al : List AV} {h : AH} : X mX4_mixSheet 15 al [aJ a1, aJ a0] h = cK (E mX4_mix [aJ a0, aJ a1] h) fun v h2 => X mX4_mixSheet 18 al (v.toList ++ []) h2 := x_cal (as := [aJ a0, aJ a1]) (rest := []) dX4_mixSheet_15 (fun _ => rfl) cT_4_217 rfl rfl rfl
theorem x_X4_mixSheet_18 {z : Int} {al : List AV} {h : AH} : X mX4_mixSheet 18 al [aJ z] h = some (some (aJ z), h) := X_ofR dX4_mixSheet_18 rfl
theorem x_X4_mixSheet_19 {v1 v2 v3 v4 v5 : AV} {z : Int} {st : List AV} {h : AH} : X mX4_mixSheet 19 [aJ z, v1, v2, v3, v4, v5] st h = X mX4_mixSheet 20 [aJ z, v1, v2, v3, v4, v5] (aJ z :: st) h := X_of dX4_mixSheet_19 rfl
theorem x_X4_mixSheet_20 {v0 v1 v3 v4 v5 : AV} {z : Option Nat} {st : List AV} {h : AH} : X mX4_mixSheet 20 [v0, v1, aR z, v3, v4, v5] st h = X mX4_mixSheet 21 [v0, v1, aR z, v3, v4, v5] (aR z :: st) h := X_of dX4_mixSheet_20 rfl
theorem x_X4_mixSheet_21 {a : Nat} {al st : List AV} {h : AH} : X mX4_mixSheet 21 al (aR (some a) :: st) h = gK (rd h 3 a 1) fun v => X mX4_mixSheet 24 al (v :: st) h := x_get dX4_mixSheet_21 fT_4_108
theorem x_X4_mixSheet_24 {a : Nat} {al st : List AV} {h : AH} : X mX4_mixSheet 24 al (aR (some a) :: st) h = gL (ln h a) fun n => X mX4_mixSheet 25 al (aI n :: st) h := x_len dX4_mixSheet_24
theorem x_X4_mixSheet_25 {a : Int} {al st : List AV} {h : AH} : X mX4_mixSheet 25 al (aI a :: st) h = X mX4_mixSheet 26 al (aJ a :: st) h := X_of dX4_mixSheet_25 rfl
theorem x_X4_mixSheet_26 {a0 : Int} {a1 : Int} {al : List AV} {h : AH} : X mX4_mixSheet 26 al [aJ a1, aJ a0] h = cK (E mX4_mix [aJ a0, aJ a1] h) fun v h2 => X mX4_mixSheet 29 al (v.toList ++ []) h2 := x_cal (as := [aJ a0, aJ a1]) (rest := []) dX4_mixSheet_26 (fun _ => rfl) cT_4_217 rfl rfl rfl
theorem x_X4_mixSheet_29 {v0 v1 v3 v4 v5 : AV} {y : Option Nat} {z : Int} {st : List AV} {h : AH} : X mX4_mixSheet 29 [v0, v1, aR y, v3, v4, v5] (aJ z :: st) h = X mX4_mixSheet 30 [v0, v1, aR y, aJ z, aU, v5] st h := X_of dX4_mixSheet_29 rfl
theorem x_X4_mixSheet_30 {al st : List AV} {h : AH} : X mX4_mixSheet 30 al st h = X mX4_mixSheet 31 al (aI 0 :: st) h := X_of dX4_mixSheet_30 rfl
theorem x_X4_mixSheet_31 {v0 v1 v2 v3 v5 : AV} {z : Int} {st : List AV} {h : AH} : X mX4_mixSheet 31 [v0, v1, v2, v3, aU, v5] (aI z :: st) h = X mX4_mixSheet 33 [v0, v1, v2, v3, aU, aI z] st h := X_of dX4_mixSheet_31 rfl
theorem x_X4_mixSheet_33 {v0 v1 v2 v3 v4 : AV} {z : Int} {st : List AV} {h : AH} : X mX4_mixSheet 33 [v0, v1, v2, v3, v4, aI z] st h = X mX4_mixSheet 35 [v0, v1, v2, v3, v4, aI z] (aI z :: st) h := X_of dX4_mixSheet_33 rfl
theorem x_X4_mixSheet_35 {v0 v1 v3 v4 v5 : AV} {z : Option Nat} {st : List AV} {h : AH} : X mX4_mixSheet 35 [v0, v1, aR z, v3, v4, v5] st h = X mX4_mixSheet 36 [v0, v1, aR z, v3, v4, v5] (aR z :: st) h := X_of dX4_mixSheet_35 rfl
theorem x_X4_mixSheet_36 {a : Nat} {al st : List AV} {h : AH} : X mX4_mixSheet 36 al (aR (some a) :: st) h = gK (rd h 3 a 1) fun v => X mX4_mixSheet 39 al (v :: st) h := x_get dX4_mixSheet_36 fT_4_108
theorem x_X4_mixSheet_39 {a : Nat} {al st : List AV} {h : AH} : X mX4_mixSheet 39 al (aR (some a) :: st) h = gL (ln h a) fun n => X mX4_mixSheet 40 al (aI n :: st) h := x_len dX4_mixSheet_39
theorem x_X4_mixSheet_40 {a b : Int} {al st : List AV} {h : AH} : X mX4_mixSheet 40 al (aI b :: aI a :: st) h = if b ≤ a then X mX4_mixSheet 61 al st h else X mX4_mixSheet 43 al st h := x_geC dX4_mixSheet_40 rfl
theorem x_X4_mixSheet_43 {v0 v1 v2 v4 v5 : AV} {z : Int} {st : List AV} {h : AH} : X mX4_mixSheet 43 [v0, v1, v2, aJ z, v4, v5] st h = X mX4_mixSheet 44 [v0, v1, v2, aJ z, v4, v5] (aJ z :: st) h := X_of dX4_mixSheet_43 rfl
theorem x_X4_mixSheet_44 {v0 v1 v3 v4 v5 : AV} {z : Option Nat} {st : List AV} {h : AH} : X mX4_mixSheet 44 [v0, v1, aR z, v3, v4, v5] st h = X mX4_mixSheet 45 [v0, v1, aR z, v3, v4, v5] (aR z :: st) h := X_of dX4_mixSheet_44 rfl
theorem x_X4_mixSheet_45 {a : Nat} {al st : List AV} {h : AH} : X mX4_mixSheet 45 al (aR (some a) :: st) h = gK (rd h 3 a 1) fun v => X mX4_mixSheet 48 al (v :: st) h := x_get dX4_mixSheet_45 fT_4_108
theorem x_X4_mixSheet_48 {v0 v1 v2 v3 v4 : AV} {z : Int} {st : List AV} {h : AH} : X mX4_mixSheet 48 [v0, v1, v2, v3, v4, aI z] st h = X mX4_mixSheet 50 [v0, v1, v2, v3, v4, aI z] (aI z :: st) h := X_of dX4_mixSheet_48 rfl
theorem x_X4_mixSheet_50 {a : Nat} {i : Int} {al st : List AV} {h : AH} : X mX4_mixSheet 50 al (aI i :: aR (some a) :: st) h = if 0 ≤ i then gK (rd h 11 a i.toNat) (fun v => X mX4_mixSheet 51 al (v :: st) h) else none := x_aldJ dX4_mixSheet_50
theorem x_X4_mixSheet_51 {a0 : Int} {a1 : Int} {al : List AV} {h : AH} : X mX4_mixSheet 51 al [aJ a1, aJ a0] h = cK (E mX4_mix [aJ a0, aJ a1] h) fun v h2 => X mX4_mixSheet 54 al (v.toList ++ []) h2 := x_cal (as := [aJ a0, aJ a1]) (rest := []) dX4_mixSheet_51 (fun _ => rfl) cT_4_217 rfl rfl rfl
theorem x_X4_mixSheet_54 {v0 v1 v3 v4 v5 : AV} {y : Option Nat} {z : Int} {st : List AV} {h : AH} : X mX4_mixSheet 54 [v0, v1, aR y, v3, v4, v5] (aJ z :: st) h = X mX4_mixSheet 55 [v0, v1, aR y, aJ z, aU, v5] st h := X_of dX4_mixSheet_54 rfl
theorem x_X4_mixSheet_55 {v0 v1 v2 v3 : AV} {z : Int} {st : List AV} {h : AH} : X mX4_mixSheet 55 [v0, v1, v2, v3, aU, aI z] st h = X mX4_mixSheet 58 [v0, v1, v2, v3, aU, aI (w32 (z + 1))] st h := X_of dX4_mixSheet_55 rfl
theorem x_X4_mixSheet_58 {al st : List AV} {h : AH} : X mX4_mixSheet 58 al st h = X mX4_mixSheet 33 al st h := X_of dX4_mixSheet_58 rfl
theorem x_X4_mixSheet_61 {v0 v1 v2 v4 v5 : AV} {z : Int} {st : List AV} {h : AH} : X mX4_mixSheet 61 [v0, v1, v2, aJ z, v4, v5] st h = X mX4_mixSheet 62 [v0, v1, v2, aJ z, v4, v5] (aJ z :: st) h := X_of dX4_mixSheet_61 rfl
theorem x_X4_mixSheet_62 {z : Int} {al : List AV} {h : AH} : X mX4_mixSheet 62 al [aJ z] h = some (some (aJ z), h) := X_ofR dX4_mixSheet_62 rfl
