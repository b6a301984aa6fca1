noncomputable section
/-! The state at the head of the law's loop, by program: the constructors' run, evaluated once. -/
def zz : IV := (.inl (.ofNat (nat_lit 0)))
def mm : IV := (.inl (.negSucc (nat_lit 0)))
def ii (n : Nat) : IV := (.inl (.ofNat n))
def jj (n : Nat) : IV := (.inl (.negSucc n))
def rr (n : Nat) : Value := .ref n
def nn : Value := .null
def o_0 : Ob := ((nat_lit 23), (ii (nat_lit 1)), zz, (nd (ii (nat_lit 109559397)) .leaf .leaf), .leaf)
def o_1 : Ob := ((nat_lit 23), (ii (nat_lit 1)), zz, (nd (ii (nat_lit 441477)) .leaf .leaf), .leaf)
def o_2 : Ob := ((nat_lit 23), (ii (nat_lit 1)), zz, (nd (ii (nat_lit 21243335)) .leaf .leaf), .leaf)
def o_3 : Ob := ((nat_lit 23), (ii (nat_lit 1)), zz, (nd (ii (nat_lit 611717)) .leaf .leaf), .leaf)
def o_4 : Ob := ((nat_lit 23), (ii (nat_lit 1)), zz, (nd (ii (nat_lit 659105125)) .leaf .leaf), .leaf)
def o_5 : Ob := ((nat_lit 23), (ii (nat_lit 1)), zz, (nd (ii (nat_lit 498)) .leaf .leaf), .leaf)
def o_6 : Ob := ((nat_lit 23), (ii (nat_lit 1)), zz, (nd (ii (nat_lit 1476)) .leaf .leaf), .leaf)
def o_7 : Ob := ((nat_lit 23), (ii (nat_lit 1)), zz, (nd (ii (nat_lit 14836)) .leaf .leaf), .leaf)
def o_8 : Ob := ((nat_lit 23), (ii (nat_lit 1)), zz, (nd (ii (nat_lit 1420)) .leaf .leaf), .leaf)
def o_9 : Ob := ((nat_lit 23), (ii (nat_lit 1)), zz, (nd (ii (nat_lit 1497)) .leaf .leaf), .leaf)
def o_10 : Ob := ((nat_lit 23), (ii (nat_lit 1)), zz, (nd (ii (nat_lit 474565)) .leaf .leaf), .leaf)
def o_11 : Ob := ((nat_lit 23), (ii (nat_lit 1)), zz, (nd (ii (nat_lit 441972)) .leaf .leaf), .leaf)
def o_12 : Ob := ((nat_lit 23), (ii (nat_lit 1)), zz, (nd (ii (nat_lit 12748404)) .leaf .leaf), .leaf)
def o_13 : Ob := ((nat_lit 23), (ii (nat_lit 1)), zz, (nd (ii (nat_lit 777297172)) .leaf .leaf), .leaf)
def o_14 : Ob := ((nat_lit 23), (ii (nat_lit 1)), zz, (nd (ii (nat_lit 492210354)) .leaf .leaf), .leaf)
def o_15 : Ob := ((nat_lit 6), (ii (nat_lit 15)), zz, .leaf, (nd (rr (nat_lit 0)) (nd (rr (nat_lit 1)) (nd (rr (nat_lit 3)) (nd (rr (nat_lit 7)) .leaf .leaf) (nd (rr (nat_lit 11)) .leaf .leaf)) (nd (rr (nat_lit 5)) (nd (rr (nat_lit 9)) .leaf .leaf) (nd (rr (nat_lit 13)) .leaf .leaf))) (nd (rr (nat_lit 2)) (nd (rr (nat_lit 4)) (nd (rr (nat_lit 8)) .leaf .leaf) (nd (rr (nat_lit 12)) .leaf .leaf)) (nd (rr (nat_lit 6)) (nd (rr (nat_lit 10)) .leaf .leaf) (nd (rr (nat_lit 14)) .leaf .leaf)))))
def o_16 : Ob := ((nat_lit 22), (ii (nat_lit 2)), zz, .leaf, (nd (rr (nat_lit 31)) .leaf .leaf))
def o_17 : Ob := ((nat_lit 22), (ii (nat_lit 2)), zz, .leaf, (nd (rr (nat_lit 32)) .leaf .leaf))
def o_18 : Ob := ((nat_lit 22), (ii (nat_lit 2)), zz, .leaf, (nd (rr (nat_lit 33)) .leaf .leaf))
def o_19 : Ob := ((nat_lit 22), (ii (nat_lit 2)), zz, .leaf, (nd (rr (nat_lit 34)) .leaf .leaf))
def o_20 : Ob := ((nat_lit 22), (ii (nat_lit 2)), zz, .leaf, (nd (rr (nat_lit 35)) .leaf .leaf))
def o_21 : Ob := ((nat_lit 22), (ii (nat_lit 2)), zz, .leaf, (nd (rr (nat_lit 36)) .leaf .leaf))
def o_22 : Ob := ((nat_lit 22), (ii (nat_lit 2)), zz, .leaf, (nd (rr (nat_lit 37)) .leaf .leaf))
def o_23 : Ob := ((nat_lit 22), (ii (nat_lit 2)), zz, .leaf, (nd (rr (nat_lit 38)) .leaf .leaf))
def o_24 : Ob := ((nat_lit 22), (ii (nat_lit 2)), zz, .leaf, (nd (rr (nat_lit 39)) .leaf .leaf))
def o_25 : Ob := ((nat_lit 22), (ii (nat_lit 2)), zz, .leaf, (nd (rr (nat_lit 40)) .leaf .leaf))
def o_26 : Ob := ((nat_lit 22), (ii (nat_lit 2)), zz, .leaf, (nd (rr (nat_lit 41)) .leaf .leaf))
def o_27 : Ob := ((nat_lit 22), (ii (nat_lit 2)), zz, .leaf, (nd (rr (nat_lit 42)) .leaf .leaf))
def o_28 : Ob := ((nat_lit 22), (ii (nat_lit 2)), zz, .leaf, (nd (rr (nat_lit 43)) .leaf .leaf))
def o_29 : Ob := ((nat_lit 22), (ii (nat_lit 2)), zz, .leaf, (nd (rr (nat_lit 44)) .leaf .leaf))
def o_30 : Ob := ((nat_lit 22), (ii (nat_lit 2)), zz, .leaf, (nd (rr (nat_lit 45)) .leaf .leaf))
def o_31 : Ob := ((nat_lit 3), (ii (nat_lit 6)), zz, (nd (ii (nat_lit 99)) (nd (ii (nat_lit 104)) (nd (ii (nat_lit 111)) .leaf .leaf) (nd (ii (nat_lit 101)) .leaf .leaf)) (nd (ii (nat_lit 111)) (nd (ii (nat_lit 115)) .leaf .leaf) (nd zz .leaf .leaf))), .leaf)
def o_32 : Ob := ((nat_lit 3), (ii (nat_lit 4)), zz, (nd (ii (nat_lit 109)) (nd (ii (nat_lit 111)) (nd (ii (nat_lit 101)) .leaf .leaf) (nd zz .leaf .leaf)) (nd (ii (nat_lit 100)) (nd zz .leaf .leaf) (nd zz .leaf .leaf))), .leaf)
def o_33 : Ob := ((nat_lit 3), (ii (nat_lit 5)), zz, (nd (ii (nat_lit 116)) (nd (ii (nat_lit 104)) (nd (ii (nat_lit 110)) .leaf .leaf) (nd zz .leaf .leaf)) (nd (ii (nat_lit 105)) (nd (ii (nat_lit 103)) .leaf .leaf) (nd zz .leaf .leaf))), .leaf)
def o_34 : Ob := ((nat_lit 3), (ii (nat_lit 4)), zz, (nd (ii (nat_lit 114)) (nd (ii (nat_lit 117)) (nd (ii (nat_lit 101)) .leaf .leaf) (nd zz .leaf .leaf)) (nd (ii (nat_lit 108)) (nd zz .leaf .leaf) (nd zz .leaf .leaf))), .leaf)
def o_35 : Ob := ((nat_lit 3), (ii (nat_lit 6)), zz, (nd (ii (nat_lit 115)) (nd (ii (nat_lit 116)) (nd (ii (nat_lit 105)) .leaf .leaf) (nd (ii (nat_lit 101)) .leaf .leaf)) (nd (ii (nat_lit 114)) (nd (ii (nat_lit 107)) .leaf .leaf) (nd zz .leaf .leaf))), .leaf)
def o_36 : Ob := ((nat_lit 3), (ii (nat_lit 2)), zz, (nd (ii (nat_lit 111)) (nd (ii (nat_lit 114)) (nd zz .leaf .leaf) (nd zz .leaf .leaf)) (nd zz (nd zz .leaf .leaf) (nd zz .leaf .leaf))), .leaf)
def o_37 : Ob := ((nat_lit 3), (ii (nat_lit 3)), zz, (nd (ii (nat_lit 97)) (nd (ii (nat_lit 110)) (nd zz .leaf .leaf) (nd zz .leaf .leaf)) (nd (ii (nat_lit 100)) (nd zz .leaf .leaf) (nd zz .leaf .leaf))), .leaf)
def o_38 : Ob := ((nat_lit 3), (ii (nat_lit 3)), zz, (nd (ii (nat_lit 110)) (nd (ii (nat_lit 111)) (nd zz .leaf .leaf) (nd zz .leaf .leaf)) (nd (ii (nat_lit 116)) (nd zz .leaf .leaf) (nd zz .leaf .leaf))), .leaf)
def o_39 : Ob := ((nat_lit 3), (ii (nat_lit 3)), zz, (nd (ii (nat_lit 97)) (nd (ii (nat_lit 108)) (nd zz .leaf .leaf) (nd zz .leaf .leaf)) (nd (ii (nat_lit 108)) (nd zz .leaf .leaf) (nd zz .leaf .leaf))), .leaf)
def o_40 : Ob := ((nat_lit 3), (ii (nat_lit 3)), zz, (nd (ii (nat_lit 97)) (nd (ii (nat_lit 110)) (nd zz .leaf .leaf) (nd zz .leaf .leaf)) (nd (ii (nat_lit 121)) (nd zz .leaf .leaf) (nd zz .leaf .leaf))), .leaf)
def o_41 : Ob := ((nat_lit 3), (ii (nat_lit 4)), zz, (nd (ii (nat_lit 110)) (nd (ii (nat_lit 111)) (nd (ii (nat_lit 101)) .leaf .leaf) (nd zz .leaf .leaf)) (nd (ii (nat_lit 110)) (nd zz .leaf .leaf) (nd zz .leaf .leaf))), .leaf)
def o_42 : Ob := ((nat_lit 3), (ii (nat_lit 4)), zz, (nd (ii (nat_lit 109)) (nd (ii (nat_lit 111)) (nd (ii (nat_lit 116)) .leaf .leaf) (nd zz .leaf .leaf)) (nd (ii (nat_lit 115)) (nd zz .leaf .leaf) (nd zz .leaf .leaf))), .leaf)
def o_43 : Ob := ((nat_lit 3), (ii (nat_lit 5)), zz, (nd (ii (nat_lit 108)) (nd (ii (nat_lit 101)) (nd (ii (nat_lit 115)) .leaf .leaf) (nd zz .leaf .leaf)) (nd (ii (nat_lit 97)) (nd (ii (nat_lit 116)) .leaf .leaf) (nd zz .leaf .leaf))), .leaf)
def o_44 : Ob := ((nat_lit 3), (ii (nat_lit 6)), zz, (nd (ii (nat_lit 119)) (nd (ii (nat_lit 101)) (nd (ii (nat_lit 103)) .leaf .leaf) (nd (ii (nat_lit 116)) .leaf .leaf)) (nd (ii (nat_lit 105)) (nd (ii (nat_lit 104)) .leaf .leaf) (nd zz .leaf .leaf))), .leaf)
def o_45 : Ob := ((nat_lit 3), (ii (nat_lit 6)), zz, (nd (ii (nat_lit 110)) (nd (ii (nat_lit 117)) (nd (ii (nat_lit 98)) .leaf .leaf) (nd (ii (nat_lit 114)) .leaf .leaf)) (nd (ii (nat_lit 109)) (nd (ii (nat_lit 101)) .leaf .leaf) (nd zz .leaf .leaf))), .leaf)
def o_46 : Ob := ((nat_lit 1), ((.inr (.inr (nat_lit 6)))), topV, (nd ((.inr (.inr (nat_lit 0)))) (nd ((.inr (.inr (nat_lit 1)))) (nd ((.inr (.inr (nat_lit 3)))) .leaf .leaf) (nd ((.inr (.inr (nat_lit 5)))) .leaf .leaf)) (nd ((.inr (.inr (nat_lit 2)))) (nd ((.inr (.inr (nat_lit 4)))) .leaf .leaf) (nd topV .leaf .leaf))), .leaf)
def o_47 : Ob := ((nat_lit 0), zz, zz, .leaf, .leaf)
def o_48 : Ob := ((nat_lit 0), zz, zz, .leaf, .leaf)
def o_49 : Ob := ((nat_lit 0), zz, zz, .leaf, .leaf)
def o_50 : Ob := ((nat_lit 0), zz, zz, .leaf, .leaf)
def o_51 : Ob := ((nat_lit 0), zz, zz, .leaf, .leaf)
def o_52 : Ob := ((nat_lit 0), zz, zz, .leaf, .leaf)
def o_53 : Ob := ((nat_lit 0), zz, zz, .leaf, .leaf)
def o_54 : Ob := ((nat_lit 0), zz, zz, .leaf, .leaf)
def o_55 : Ob := ((nat_lit 0), zz, zz, .leaf, .leaf)
def o_56 : Ob := ((nat_lit 0), zz, zz, .leaf, .leaf)
def o_57 : Ob := ((nat_lit 0), zz, zz, .leaf, .leaf)
def o_58 : Ob := ((nat_lit 0), zz, zz, .leaf, .leaf)
def o_59 : Ob := ((nat_lit 0), zz, zz, .leaf, .leaf)
def o_60 : Ob := ((nat_lit 0), zz, zz, .leaf, .leaf)
def o_61 : Ob := ((nat_lit 0), zz, zz, .leaf, .leaf)
def o_62 : Ob := ((nat_lit 0), zz, zz, .leaf, .leaf)
def o_63 : Ob := ((nat_lit 0), zz, zz, .leaf, .leaf)
def o_64 : Ob := ((nat_lit 20), (ii (nat_lit 15)), zz, (nd zz .leaf (nd mm .leaf .leaf)), (nd (rr (nat_lit 65)) (nd nn (nd (rr (nat_lit 66)) (nd (rr (nat_lit 82)) .leaf .leaf) (nd (rr (nat_lit 158)) .leaf .leaf)) (nd (rr (nat_lit 75)) (nd (rr (nat_lit 149)) .leaf .leaf) (nd (rr (nat_lit 169)) .leaf .leaf))) (nd nn (nd (rr (nat_lit 70)) (nd (rr (nat_lit 92)) .leaf .leaf) (nd (rr (nat_lit 168)) .leaf .leaf)) (nd (rr (nat_lit 80)) (nd (rr (nat_lit 153)) .leaf .leaf) .leaf))))
def o_65 : Ob := ((nat_lit 3), (ii (nat_lit 800)), zz, .leaf, .leaf)
def o_66 : Ob := ((nat_lit 10), (ii (nat_lit 6)), zz, (nd zz (nd zz (nd (ii (nat_lit 4)) .leaf .leaf) (nd (ii (nat_lit 6)) .leaf .leaf)) (nd zz (nd (ii (nat_lit 2)) .leaf .leaf) .leaf)), (nd (rr (nat_lit 67)) (nd (rr (nat_lit 68)) .leaf .leaf) (nd (rr (nat_lit 69)) .leaf .leaf)))
def o_67 : Ob := ((nat_lit 1), (ii (nat_lit 10)), zz, (nd (ii (nat_lit 1)) (nd (ii (nat_lit 2)) (nd (ii (nat_lit 4)) .leaf .leaf) .leaf) (nd (ii (nat_lit 3)) .leaf .leaf)), .leaf)
def o_68 : Ob := ((nat_lit 1), (ii (nat_lit 252)), zz, (nd (ii (nat_lit 3)) (nd (ii (nat_lit 6)) (nd (ii (nat_lit 12)) .leaf .leaf) (nd (ii (nat_lit 9)) .leaf .leaf)) (nd (ii (nat_lit 5)) (nd (ii (nat_lit 10)) .leaf .leaf) .leaf)), .leaf)
def o_69 : Ob := ((nat_lit 1), (ii (nat_lit 1024)), zz, (nd mm (nd mm (nd zz (nd mm (nd mm (nd mm (nd mm (nd mm (nd mm (nd mm (nd mm .leaf .leaf) .leaf) (nd mm .leaf .leaf)) (nd mm (nd mm .leaf .leaf) (nd mm .leaf .leaf))) (nd mm (nd mm (nd mm .leaf .leaf) (nd mm .leaf .leaf)) (nd mm (nd mm .leaf .leaf) (nd mm .leaf .leaf)))) (nd mm (nd mm (nd mm (nd mm .leaf .leaf) (nd mm .leaf .leaf)) (nd mm (nd mm .leaf .leaf) (nd mm .leaf .leaf))) (nd mm (nd mm (nd mm .leaf .leaf) (nd mm .leaf .leaf)) (nd mm (nd mm .leaf .leaf) (nd mm .leaf .leaf))))) (nd mm (nd mm (nd mm (nd mm (nd mm .leaf .leaf) (nd mm .leaf .leaf)) (nd mm (nd mm .leaf .leaf) (nd mm .leaf .leaf))) (nd mm (nd mm (nd mm .leaf .leaf) (nd mm .leaf .leaf)) (nd mm (nd mm .leaf .leaf) (nd mm .leaf .leaf)))) (nd mm (nd mm (nd mm (nd mm .leaf .leaf) (nd mm .leaf .leaf)) (nd mm (nd mm .leaf .leaf) (nd mm .leaf .leaf))) (nd mm (nd mm (nd mm .leaf .leaf) (nd mm .leaf .leaf)) (nd mm (nd mm .leaf .leaf) (nd mm .leaf .leaf)))))) (nd mm (nd mm (nd mm (nd mm (nd mm (nd mm .leaf .leaf) (nd mm .leaf .leaf)) (nd mm (nd mm .leaf .leaf) (nd mm .leaf .leaf))) (nd mm (nd mm (nd mm .leaf .leaf) (nd mm .leaf .leaf)) (nd mm (nd mm .leaf .leaf) (nd mm .leaf .leaf)))) (nd mm (nd mm (nd mm (nd mm .leaf .leaf) (nd mm .leaf .leaf)) (nd mm (nd mm .leaf .leaf) (nd mm .leaf .leaf))) (nd mm (nd mm (nd mm .leaf .leaf) (nd mm .leaf .leaf)) (nd mm (nd mm .leaf .leaf) (nd mm .leaf .leaf))))) (nd mm (nd mm (nd mm (nd mm (nd mm .leaf .leaf) (nd mm .leaf .leaf)) (nd mm (nd mm .leaf .leaf) (nd mm .leaf .leaf))) (nd mm (nd mm (nd mm .leaf .leaf) (nd mm .leaf .leaf)) (nd mm (nd mm .leaf .leaf) (nd mm .leaf .leaf)))) (nd mm (nd mm (nd mm (nd mm .leaf .leaf) (nd mm .leaf .leaf)) (nd mm (nd mm .leaf .leaf) (nd mm .leaf .leaf))) (nd mm (nd mm (nd mm .leaf .leaf) (nd mm .leaf .leaf)) (nd mm (nd mm .leaf .leaf) (nd mm .leaf .leaf))))))) (nd mm (nd mm (nd mm (nd mm (nd mm (nd mm (nd mm .leaf .leaf) (nd mm .leaf .leaf)) (nd mm (nd mm .leaf .leaf) (nd mm .leaf .leaf))) (nd mm (nd mm (nd mm .leaf .leaf) (nd mm .leaf .leaf)) (nd mm (nd mm .leaf .leaf) (nd mm .leaf .leaf)))) (nd mm (nd mm (nd mm (nd mm .leaf .leaf) (nd mm .leaf .leaf)) (nd mm (nd mm .leaf .leaf) (nd mm .leaf .leaf))) (nd mm (nd mm (nd mm .leaf .leaf) (nd mm .leaf .leaf)) (nd mm (nd mm .leaf .leaf) (nd mm .leaf .leaf))))) (nd mm (nd mm (nd mm (nd mm (nd mm .leaf .leaf) (nd mm .leaf .leaf)) (nd mm (nd mm .leaf .leaf) (nd mm .leaf .leaf))) (nd mm (nd mm (nd mm .leaf .leaf) (nd mm .leaf .leaf)) (nd mm (nd mm .leaf .leaf) (nd mm .leaf .leaf)))) (nd mm (nd mm (nd mm (nd mm .leaf .leaf) (nd mm .leaf .leaf)) (nd mm (nd mm .leaf .leaf) (nd mm .leaf .leaf))) (nd mm (nd mm (nd mm .leaf .leaf) (nd mm .leaf .leaf)) (nd mm (nd mm .leaf .leaf) (nd mm .leaf .leaf)))))) (nd mm (nd mm (nd mm (nd mm (nd mm (nd mm .leaf .leaf) (nd mm .leaf .leaf)) (nd mm (nd mm .leaf .leaf) (nd mm .leaf .leaf))) (nd mm (nd mm (nd mm .leaf .leaf) (nd mm .leaf .leaf)) (nd mm (nd mm .leaf .leaf) (nd mm .leaf .leaf)))) (nd mm (nd mm (nd mm (nd mm .leaf .leaf) (nd mm .leaf .leaf)) (nd mm (nd mm .leaf .leaf) (nd mm .leaf .leaf))) (nd mm (nd mm (nd mm .leaf .leaf) (nd mm .leaf .leaf)) (nd mm (nd mm .leaf .leaf) (nd mm .leaf .leaf))))) (nd mm (nd mm (nd mm (nd mm (nd mm .leaf .leaf) (nd mm .leaf .leaf)) (nd mm (nd mm .leaf .leaf) (nd mm .leaf .leaf))) (nd mm (nd mm (nd mm .leaf .leaf) (nd mm .leaf .leaf)) (nd mm (nd mm .leaf .leaf) (nd mm .leaf .leaf)))) (nd mm (nd mm (nd mm (nd mm .leaf .leaf) (nd mm .leaf .leaf)) (nd mm (nd mm .leaf .leaf) (nd mm .leaf .leaf))) (nd mm (nd mm (nd mm .leaf .leaf) (nd mm .leaf .leaf)) (nd mm (nd mm .leaf .leaf) (nd mm .leaf .leaf)))))))) (nd (ii (nat_lit 2)) (nd (ii (nat_lit 5)) (nd mm (nd mm (nd mm (nd mm (nd mm (nd mm .leaf .leaf) (nd mm .leaf .leaf)) (nd mm (nd mm .leaf .leaf) (nd mm .leaf .leaf))) (nd mm (nd mm (nd mm .leaf .leaf) (nd mm .leaf .leaf)) (nd mm (nd mm .leaf .leaf) (nd mm .leaf .leaf)))) (nd mm (nd mm (nd mm (nd mm .leaf .leaf) (nd mm .leaf .leaf)) (nd mm (nd mm .leaf .leaf) (nd mm .leaf .leaf))) (nd mm (nd mm (nd mm .leaf .leaf) (nd mm .leaf .leaf)) (nd mm (nd mm .leaf .leaf) (nd mm .leaf .leaf))))) (nd mm (nd mm (nd mm (nd mm (nd mm .leaf .leaf) (nd mm .leaf .leaf)) (nd mm (nd mm .leaf .leaf) (nd mm .leaf .leaf))) (nd mm (nd mm (nd mm .leaf .leaf) (nd mm .leaf .leaf)) (nd mm (nd mm .leaf .leaf) (nd mm .leaf .leaf)))) (nd mm (nd mm (nd mm (nd mm .leaf .leaf) (nd mm .leaf .leaf)) (nd mm (nd mm .leaf .leaf) (nd mm .leaf .leaf))) (nd mm (nd mm (nd mm .leaf .leaf) (nd mm .leaf .leaf)) (nd mm (nd mm .leaf .leaf) (nd mm .leaf .leaf)))))) (nd mm (nd mm (nd mm (nd mm (nd mm (nd mm .leaf .leaf) (nd mm .leaf .leaf)) (nd mm (nd mm .leaf .leaf) (nd mm .leaf .leaf))) (nd mm (nd mm (nd mm .leaf .leaf) (nd mm .leaf .leaf)) (nd mm (nd mm .leaf .leaf) (nd mm .leaf .leaf)))) (nd mm (nd mm (nd mm (nd mm .leaf .leaf) (nd mm .leaf .leaf)) (nd mm (nd mm .leaf .leaf) (nd mm .leaf .leaf))) (nd mm (nd mm (nd mm .leaf .leaf) (nd mm .leaf .leaf)) (nd mm (nd mm .leaf .leaf) (nd mm .leaf .leaf))))) (nd mm (nd mm (nd mm (nd mm (nd mm .leaf .leaf) (nd mm .leaf .leaf)) (nd mm (nd mm .leaf .leaf) (nd mm .leaf .leaf))) (nd mm (nd mm (nd mm .leaf .leaf) (nd mm .leaf .leaf)) (nd mm (nd mm .leaf .leaf) (nd mm .leaf .leaf)))) (nd mm (nd mm (nd mm (nd mm .leaf .leaf) (nd mm .leaf .leaf)) (nd mm (nd mm .leaf .leaf) (nd mm .leaf .leaf))) (nd mm (nd mm (nd mm .leaf .leaf) (nd mm .leaf .leaf)) (nd mm (nd mm .leaf .leaf) (nd mm .leaf .leaf))))))) (nd mm (nd mm (nd mm (nd mm (nd mm (nd mm (nd mm .leaf .leaf) (nd mm .leaf .leaf)) (nd mm (nd mm .leaf .leaf) (nd mm .leaf .leaf))) (nd mm (nd mm (nd mm .leaf .leaf) (nd mm .leaf .leaf)) (nd mm (nd mm .leaf .leaf) (nd mm .leaf .leaf)))) (nd mm (nd mm (nd mm (nd mm .leaf .leaf) (nd mm .leaf .leaf)) (nd mm (nd mm .leaf .leaf) (nd mm .leaf .leaf))) (nd mm (nd mm (nd mm .leaf .leaf) (nd mm .leaf .leaf)) (nd mm (nd mm .leaf .leaf) (nd mm .leaf .leaf))))) (nd mm (nd mm (nd mm (nd mm (nd mm .leaf .leaf) (nd mm .leaf .leaf)) (nd mm (nd mm .leaf .leaf) (nd mm .leaf .leaf))) (nd mm (nd mm (nd mm .leaf .leaf) (nd mm .leaf .leaf)) (nd mm (nd mm .leaf .leaf) (nd mm .leaf .leaf)))) (nd mm (nd mm (nd mm (nd mm .leaf .leaf) (nd mm .leaf .leaf)) (nd mm (nd mm .leaf .leaf) (nd mm .leaf .leaf))) (nd mm (nd mm (nd mm .leaf .leaf) (nd mm .leaf .leaf)) (nd mm (nd mm .leaf .leaf) (nd mm .leaf .leaf)))))) (nd mm (nd mm (nd mm (nd mm (nd mm (nd mm .leaf .leaf) (nd mm .leaf .leaf)) (nd mm (nd mm .leaf .leaf) (nd mm .leaf .leaf))) (nd mm (nd mm (nd mm .leaf .leaf) (nd mm .leaf .leaf)) (nd mm (nd mm .leaf .leaf) (nd mm .leaf .leaf)))) (nd mm (nd mm (nd mm (nd mm .leaf .leaf) (nd mm .leaf .leaf)) (nd mm (nd mm .leaf .leaf) (nd mm .leaf .leaf))) (nd mm (nd mm (nd mm .leaf .leaf) (nd mm .leaf .leaf)) (nd mm (nd mm .leaf .leaf) (nd mm .leaf .leaf))))) (nd mm (nd mm (nd mm (nd mm (nd mm .leaf .leaf) (nd mm .leaf .leaf)) (nd mm (nd mm .leaf .leaf) (nd mm .leaf .leaf))) (nd mm (nd mm (nd mm .leaf .leaf) (nd mm .leaf .leaf)) (nd mm (nd mm .leaf .leaf) (nd mm .leaf .leaf)))) (nd mm (nd mm (nd mm (nd mm .leaf .leaf) (nd mm .leaf .leaf)) (nd mm (nd mm .leaf .leaf) (nd mm .leaf .leaf))) (nd mm (nd mm (nd mm .leaf .leaf) (nd mm .leaf .leaf)) (nd mm (nd mm .leaf .leaf) (nd mm .leaf .leaf))))))))) (nd mm (nd mm (nd mm (nd mm (nd mm (nd mm (nd mm (nd mm (nd mm .leaf .leaf) (nd mm .leaf .leaf)) (nd mm (nd mm .leaf .leaf) (nd mm .leaf .leaf))) (nd mm (nd mm (nd mm .leaf .leaf) (nd mm .leaf .leaf)) (nd mm (nd mm .leaf .leaf) (nd mm .leaf .leaf)))) (nd mm (nd mm (nd mm (nd mm .leaf .leaf) (nd mm .leaf .leaf)) (nd mm (nd mm .leaf .leaf) (nd mm .leaf .leaf))) (nd mm (nd mm (nd mm .leaf .leaf) (nd mm .leaf .leaf)) (nd mm (nd mm .leaf .leaf) (nd mm .leaf .leaf))))) (nd mm (nd mm (nd mm (nd mm (nd mm .leaf .leaf) (nd mm .leaf .leaf)) (nd mm (nd mm .leaf .leaf) (nd mm .leaf .leaf))) (nd mm (nd mm (nd mm .leaf .leaf) (nd mm .leaf .leaf)) (nd mm (nd mm .leaf .leaf) (nd mm .leaf .leaf)))) (nd mm (nd mm (nd mm (nd mm .leaf .leaf) (nd mm .leaf .leaf)) (nd mm (nd mm .leaf .leaf) (nd mm .leaf .leaf))) (nd mm (nd mm (nd mm .leaf .leaf) (nd mm .leaf .leaf)) (nd mm (nd mm .leaf .leaf) (nd mm .leaf .leaf)))))) (nd mm (nd mm (nd mm (nd mm (nd mm (nd mm .leaf .leaf) (nd mm .leaf .leaf)) (nd mm (nd mm .leaf .leaf) (nd mm .leaf .leaf))) (nd mm (nd mm (nd mm .leaf .leaf) (nd mm .leaf .leaf)) (nd mm (nd mm .leaf .leaf) (nd mm .leaf .leaf)))) (nd mm (nd mm (nd mm (nd mm .leaf .leaf) (nd mm .leaf .leaf)) (nd mm (nd mm .leaf .leaf) (nd mm .leaf .leaf))) (nd mm (nd mm (nd mm .leaf .leaf) (nd mm .leaf .leaf)) (nd mm (nd mm .leaf .leaf) (nd mm .leaf .leaf))))) (nd mm (nd mm (nd mm (nd mm (nd mm .leaf .leaf) (nd mm .leaf .leaf)) (nd mm (nd mm .leaf .leaf) (nd mm .leaf .leaf))) (nd mm (nd mm (nd mm .leaf .leaf) (nd mm .leaf .leaf)) (nd mm (nd mm .leaf .leaf) (nd mm .leaf .leaf)))) (nd mm (nd mm (nd mm (nd mm .leaf .leaf) (nd mm .leaf .leaf)) (nd mm (nd mm .leaf .leaf) (nd mm .leaf .leaf))) (nd mm (nd mm (nd mm .leaf .leaf) (nd mm .leaf .leaf)) (nd mm (nd mm .leaf .leaf) (nd mm .leaf .leaf))))))) (nd (ii (nat_lit 3)) (nd mm (nd mm (nd mm (nd mm (nd mm (nd mm .leaf .leaf) (nd mm .leaf .leaf)) (nd mm (nd mm .leaf .leaf) (nd mm .leaf .leaf))) (nd mm (nd mm (nd mm .leaf .leaf) (nd mm .leaf .leaf)) (nd mm (nd mm .leaf .leaf) (nd mm .leaf .leaf)))) (nd mm (nd mm (nd mm (nd mm .leaf .leaf) (nd mm .leaf .leaf)) (nd mm (nd mm .leaf .leaf) (nd mm .leaf .leaf))) (nd mm (nd mm (nd mm .leaf .leaf) (nd mm .leaf .leaf)) (nd mm (nd mm .leaf .leaf) (nd mm .leaf .leaf))))) (nd mm (nd mm (nd mm (nd mm (nd mm .leaf .leaf) (nd mm .leaf .leaf)) (nd mm (nd mm .leaf .leaf) (nd mm .leaf .leaf))) (nd mm (nd mm (nd mm .leaf .leaf) (nd mm .leaf .leaf)) (nd mm (nd mm .leaf .leaf) (nd mm .leaf .leaf)))) (nd mm (nd mm (nd mm (nd mm .leaf .leaf) (nd mm .leaf .leaf)) (nd mm (nd mm .leaf .leaf) (nd mm .leaf .leaf))) (nd mm (nd mm (nd mm .leaf .leaf) (nd mm .leaf .leaf)) (nd mm (nd mm .leaf .leaf) (nd mm .leaf .leaf)))))) (nd mm (nd mm (nd mm (nd mm (nd mm (nd mm .leaf .leaf) (nd mm .leaf .leaf)) (nd mm (nd mm .leaf .leaf) (nd mm .leaf .leaf))) (nd mm (nd mm (nd mm .leaf .leaf) (nd mm .leaf .leaf)) (nd mm (nd mm .leaf .leaf) (nd mm .leaf .leaf)))) (nd mm (nd mm (nd mm (nd mm .leaf .leaf) (nd mm .leaf .leaf)) (nd mm (nd mm .leaf .leaf) (nd mm .leaf .leaf))) (nd mm (nd mm (nd mm .leaf .leaf) (nd mm .leaf .leaf)) (nd mm (nd mm .leaf .leaf) (nd mm .leaf .leaf))))) (nd mm (nd mm (nd mm (nd mm (nd mm .leaf .leaf) (nd mm .leaf .leaf)) (nd mm (nd mm .leaf .leaf) (nd mm .leaf .leaf))) (nd mm (nd mm (nd mm .leaf .leaf) (nd mm .leaf .leaf)) (nd mm (nd mm .leaf .leaf) (nd mm .leaf .leaf)))) (nd mm (nd mm (nd mm (nd mm .leaf .leaf) (nd mm .leaf .leaf)) (nd mm (nd mm .leaf .leaf) (nd mm .leaf .leaf))) (nd mm (nd mm (nd mm .leaf .leaf) (nd mm .leaf .leaf)) (nd mm (nd mm .leaf .leaf) (nd mm .leaf .leaf)))))))) (nd (ii (nat_lit 1)) (nd (ii (nat_lit 4)) (nd mm (nd mm (nd mm (nd mm (nd mm (nd mm .leaf .leaf) (nd mm .leaf .leaf)) (nd mm (nd mm .leaf .leaf) (nd mm .leaf .leaf))) (nd mm (nd mm (nd mm .leaf .leaf) (nd mm .leaf .leaf)) (nd mm (nd mm .leaf .leaf) (nd mm .leaf .leaf)))) (nd mm (nd mm (nd mm (nd mm .leaf .leaf) (nd mm .leaf .leaf)) (nd mm (nd mm .leaf .leaf) (nd mm .leaf .leaf))) (nd mm (nd mm (nd mm .leaf .leaf) (nd mm .leaf .leaf)) (nd mm (nd mm .leaf .leaf) (nd mm .leaf .leaf))))) (nd mm (nd mm (nd mm (nd mm (nd mm .leaf .leaf) (nd mm .leaf .leaf)) (nd mm (nd mm .leaf .leaf) (nd mm .leaf .leaf))) (nd mm (nd mm (nd mm .leaf .leaf) (nd mm .leaf .leaf)) (nd mm (nd mm .leaf .leaf) (nd mm .leaf .leaf)))) (nd mm (nd mm (nd mm (nd mm .leaf .leaf) (nd mm .leaf .leaf)) (nd mm (nd mm .leaf .leaf) (nd mm .leaf .leaf))) (nd mm (nd mm (nd mm .leaf .leaf) (nd mm .leaf .leaf)) (nd mm (nd mm .leaf .leaf) (nd mm .leaf .leaf)))))) (nd mm (nd mm (nd mm (nd mm (nd mm (nd mm .leaf .leaf) (nd mm .leaf .leaf)) (nd mm (nd mm .leaf .leaf) (nd mm .leaf .leaf))) (nd mm (nd mm (nd mm .leaf .leaf) (nd mm .leaf .leaf)) (nd mm (nd mm .leaf .leaf) (nd mm .leaf .leaf)))) (nd mm (nd mm (nd mm (nd mm .leaf .leaf) (nd mm .leaf .leaf)) (nd mm (nd mm .leaf .leaf) (nd mm .leaf .leaf))) (nd mm (nd mm (nd mm .leaf .leaf) (nd mm .leaf .leaf)) (nd mm (nd mm .leaf .leaf) (nd mm .leaf .leaf))))) (nd mm (nd mm (nd mm (nd mm (nd mm .leaf .leaf) (nd mm .leaf .leaf)) (nd mm (nd mm .leaf .leaf) (nd mm .leaf .leaf))) (nd mm (nd mm (nd mm .leaf .leaf) (nd mm .leaf .leaf)) (nd mm (nd mm .leaf .leaf) (nd mm .leaf .leaf)))) (nd mm (nd mm (nd mm (nd mm .leaf .leaf) (nd mm .leaf .leaf)) (nd mm (nd mm .leaf .leaf) (nd mm .leaf .leaf))) (nd mm (nd mm (nd mm .leaf .leaf) (nd mm .leaf .leaf)) (nd mm (nd mm .leaf .leaf) (nd mm .leaf .leaf))))))) (nd mm (nd mm (nd mm (nd mm (nd mm (nd mm (nd mm .leaf .leaf) (nd mm .leaf .leaf)) (nd mm (nd mm .leaf .leaf) (nd mm .leaf .leaf))) (nd mm (nd mm (nd mm .leaf .leaf) (nd mm .leaf .leaf)) (nd mm (nd mm .leaf .leaf) (nd mm .leaf .leaf)))) (nd mm (nd mm (nd mm (nd mm .leaf .leaf) (nd mm .leaf .leaf)) (nd mm (nd mm .leaf .leaf) (nd mm .leaf .leaf))) (nd mm (nd mm (nd mm .leaf .leaf) (nd mm .leaf .leaf)) (nd mm (nd mm .leaf .leaf) (nd mm .leaf .leaf))))) (nd mm (nd mm (nd mm (nd mm (nd mm .leaf .leaf) (nd mm .leaf .leaf)) (nd mm (nd mm .leaf .leaf) (nd mm .leaf .leaf))) (nd mm (nd mm (nd mm .leaf .leaf) (nd mm .leaf .leaf)) (nd mm (nd mm .leaf .leaf) (nd mm .leaf .leaf)))) (nd mm (nd mm (nd mm (nd mm .leaf .leaf) (nd mm .leaf .leaf)) (nd mm (nd mm .leaf .leaf) (nd mm .leaf .leaf))) (nd mm (nd mm (nd mm .leaf .leaf) (nd mm .leaf .leaf)) (nd mm (nd mm .leaf .leaf) (nd mm .leaf .leaf)))))) (nd mm (nd mm (nd mm (nd mm (nd mm (nd mm .leaf .leaf) (nd mm .leaf .leaf)) (nd mm (nd mm .leaf .leaf) (nd mm .leaf .leaf))) (nd mm (nd mm (nd mm .leaf .leaf) (nd mm .leaf .leaf)) (nd mm (nd mm .leaf .leaf) (nd mm .leaf .leaf)))) (nd mm (nd mm (nd mm (nd mm .leaf .leaf) (nd mm .leaf .leaf)) (nd mm (nd mm .leaf .leaf) (nd mm .leaf .leaf))) (nd mm (nd mm (nd mm .leaf .leaf) (nd mm .leaf .leaf)) (nd mm (nd mm .leaf .leaf) (nd mm .leaf .leaf))))) (nd mm (nd mm (nd mm (nd mm (nd mm .leaf .leaf) (nd mm .leaf .leaf)) (nd mm (nd mm .leaf .leaf) (nd mm .leaf .leaf))) (nd mm (nd mm (nd mm .leaf .leaf) (nd mm .leaf .leaf)) (nd mm (nd mm .leaf .leaf) (nd mm .leaf .leaf)))) (nd mm (nd mm (nd mm (nd mm .leaf .leaf) (nd mm .leaf .leaf)) (nd mm (nd mm .leaf .leaf) (nd mm .leaf .leaf))) (nd mm (nd mm (nd mm .leaf .leaf) (nd mm .leaf .leaf)) (nd mm (nd mm .leaf .leaf) (nd mm .leaf .leaf)))))))))), .leaf)
def o_70 : Ob := ((nat_lit 13), (ii (nat_lit 8)), zz, .leaf, (nd (rr (nat_lit 71)) (nd (rr (nat_lit 72)) (nd (rr (nat_lit 74)) .leaf .leaf) .leaf) (nd (rr (nat_lit 73)) .leaf .leaf)))
def o_71 : Ob := ((nat_lit 1), (ii (nat_lit 10)), zz, (nd (ii (nat_lit 1)) (nd (ii (nat_lit 2)) (nd (ii (nat_lit 4)) .leaf .leaf) .leaf) (nd (ii (nat_lit 3)) .leaf .leaf)), .leaf)
def o_72 : Ob := ((nat_lit 2), (ii (nat_lit 252)), zz, .leaf, .leaf)
def o_73 : Ob := ((nat_lit 7), (ii (nat_lit 10)), zz, .leaf, .leaf)
def o_74 : Ob := ((nat_lit 1), (ii (nat_lit 252)), zz, .leaf, .leaf)
def o_75 : Ob := ((nat_lit 12), (ii (nat_lit 9)), zz, .leaf, (nd (rr (nat_lit 76)) (nd (rr (nat_lit 77)) (nd (rr (nat_lit 79)) .leaf .leaf) (nd (rr (nat_lit 66)) .leaf .leaf)) (nd (rr (nat_lit 78)) .leaf (nd (rr (nat_lit 70)) .leaf .leaf))))
def o_76 : Ob := ((nat_lit 1), (ii (nat_lit 252)), zz, .leaf, .leaf)
def o_77 : Ob := ((nat_lit 1), (ii (nat_lit 252)), zz, .leaf, .leaf)
def o_78 : Ob := ((nat_lit 1), (ii (nat_lit 252)), zz, .leaf, .leaf)
def o_79 : Ob := ((nat_lit 2), (ii (nat_lit 252)), zz, .leaf, .leaf)
def o_80 : Ob := ((nat_lit 18), (ii (nat_lit 7)), zz, (nd zz .leaf (nd mm .leaf .leaf)), (nd (rr (nat_lit 81)) (nd nn .leaf (nd (rr (nat_lit 70)) .leaf .leaf)) (nd nn (nd (rr (nat_lit 66)) .leaf .leaf) (nd (rr (nat_lit 75)) .leaf .leaf))))
def o_81 : Ob := ((nat_lit 1), (ii (nat_lit 252)), zz, .leaf, .leaf)
def o_82 : Ob := ((nat_lit 19), (ii (nat_lit 13)), zz, .leaf, (nd (rr (nat_lit 83)) (nd (rr (nat_lit 84)) (nd (rr (nat_lit 86)) (nd (rr (nat_lit 90)) .leaf .leaf) .leaf) (nd (rr (nat_lit 88)) (nd (rr (nat_lit 66)) .leaf .leaf) .leaf)) (nd (rr (nat_lit 85)) (nd (rr (nat_lit 87)) (nd (rr (nat_lit 91)) .leaf .leaf) .leaf) (nd (rr (nat_lit 89)) .leaf .leaf))))
def o_83 : Ob := ((nat_lit 1), (ii (nat_lit 252)), zz, .leaf, .leaf)
def o_84 : Ob := ((nat_lit 1), (ii (nat_lit 252)), zz, .leaf, .leaf)
def o_85 : Ob := ((nat_lit 1), (ii (nat_lit 252)), zz, .leaf, .leaf)
def o_86 : Ob := ((nat_lit 1), (ii (nat_lit 6300)), zz, .leaf, .leaf)
def o_87 : Ob := ((nat_lit 1), (ii (nat_lit 252)), zz, .leaf, .leaf)
def o_88 : Ob := ((nat_lit 1), (ii (nat_lit 252)), zz, .leaf, .leaf)
def o_89 : Ob := ((nat_lit 1), (ii (nat_lit 252)), zz, .leaf, .leaf)
def o_90 : Ob := ((nat_lit 1), (ii (nat_lit 252)), zz, .leaf, .leaf)
def o_91 : Ob := ((nat_lit 1), (ii (nat_lit 252)), zz, .leaf, .leaf)
def o_92 : Ob := ((nat_lit 11), (ii (nat_lit 5)), zz, .leaf, (nd (rr (nat_lit 93)) (nd (rr (nat_lit 94)) .leaf .leaf) .leaf))
def o_93 : Ob := ((nat_lit 8), (ii (nat_lit 10)), zz, .leaf, (nd (rr (nat_lit 99)) (nd (rr (nat_lit 104)) (nd (rr (nat_lit 114)) (nd (rr (nat_lit 134)) .leaf .leaf) .leaf) (nd (rr (nat_lit 124)) (nd (rr (nat_lit 144)) .leaf .leaf) .leaf)) (nd (rr (nat_lit 109)) (nd (rr (nat_lit 119)) (nd (rr (nat_lit 139)) .leaf .leaf) .leaf) (nd (rr (nat_lit 129)) .leaf .leaf))))
def o_94 : Ob := ((nat_lit 13), (ii (nat_lit 8)), zz, .leaf, (nd (rr (nat_lit 95)) (nd (rr (nat_lit 96)) (nd (rr (nat_lit 98)) .leaf .leaf) .leaf) (nd (rr (nat_lit 97)) .leaf .leaf)))
def o_95 : Ob := ((nat_lit 1), (ii (nat_lit 10)), zz, .leaf, .leaf)
def o_96 : Ob := ((nat_lit 2), (ii (nat_lit 252)), zz, .leaf, .leaf)
def o_97 : Ob := ((nat_lit 7), (ii (nat_lit 10)), zz, .leaf, .leaf)
def o_98 : Ob := ((nat_lit 1), (ii (nat_lit 252)), zz, .leaf, .leaf)
def o_99 : Ob := ((nat_lit 13), (ii (nat_lit 8)), zz, .leaf, (nd (rr (nat_lit 100)) (nd (rr (nat_lit 101)) (nd (rr (nat_lit 103)) .leaf .leaf) .leaf) (nd (rr (nat_lit 102)) .leaf .leaf)))
def o_100 : Ob := ((nat_lit 1), (ii (nat_lit 10)), zz, .leaf, .leaf)
def o_101 : Ob := ((nat_lit 2), (ii (nat_lit 252)), zz, .leaf, .leaf)
def o_102 : Ob := ((nat_lit 7), (ii (nat_lit 10)), zz, .leaf, .leaf)
def o_103 : Ob := ((nat_lit 1), (ii (nat_lit 252)), zz, .leaf, .leaf)
def o_104 : Ob := ((nat_lit 13), (ii (nat_lit 8)), zz, .leaf, (nd (rr (nat_lit 105)) (nd (rr (nat_lit 106)) (nd (rr (nat_lit 108)) .leaf .leaf) .leaf) (nd (rr (nat_lit 107)) .leaf .leaf)))
def o_105 : Ob := ((nat_lit 1), (ii (nat_lit 10)), zz, .leaf, .leaf)
def o_106 : Ob := ((nat_lit 2), (ii (nat_lit 252)), zz, .leaf, .leaf)
def o_107 : Ob := ((nat_lit 7), (ii (nat_lit 10)), zz, .leaf, .leaf)
def o_108 : Ob := ((nat_lit 1), (ii (nat_lit 252)), zz, .leaf, .leaf)
def o_109 : Ob := ((nat_lit 13), (ii (nat_lit 8)), zz, .leaf, (nd (rr (nat_lit 110)) (nd (rr (nat_lit 111)) (nd (rr (nat_lit 113)) .leaf .leaf) .leaf) (nd (rr (nat_lit 112)) .leaf .leaf)))
def o_110 : Ob := ((nat_lit 1), (ii (nat_lit 10)), zz, .leaf, .leaf)
def o_111 : Ob := ((nat_lit 2), (ii (nat_lit 252)), zz, .leaf, .leaf)
def o_112 : Ob := ((nat_lit 7), (ii (nat_lit 10)), zz, .leaf, .leaf)
def o_113 : Ob := ((nat_lit 1), (ii (nat_lit 252)), zz, .leaf, .leaf)
def o_114 : Ob := ((nat_lit 13), (ii (nat_lit 8)), zz, .leaf, (nd (rr (nat_lit 115)) (nd (rr (nat_lit 116)) (nd (rr (nat_lit 118)) .leaf .leaf) .leaf) (nd (rr (nat_lit 117)) .leaf .leaf)))
def o_115 : Ob := ((nat_lit 1), (ii (nat_lit 10)), zz, .leaf, .leaf)
def o_116 : Ob := ((nat_lit 2), (ii (nat_lit 252)), zz, .leaf, .leaf)
def o_117 : Ob := ((nat_lit 7), (ii (nat_lit 10)), zz, .leaf, .leaf)
def o_118 : Ob := ((nat_lit 1), (ii (nat_lit 252)), zz, .leaf, .leaf)
def o_119 : Ob := ((nat_lit 13), (ii (nat_lit 8)), zz, .leaf, (nd (rr (nat_lit 120)) (nd (rr (nat_lit 121)) (nd (rr (nat_lit 123)) .leaf .leaf) .leaf) (nd (rr (nat_lit 122)) .leaf .leaf)))
def o_120 : Ob := ((nat_lit 1), (ii (nat_lit 10)), zz, .leaf, .leaf)
def o_121 : Ob := ((nat_lit 2), (ii (nat_lit 252)), zz, .leaf, .leaf)
def o_122 : Ob := ((nat_lit 7), (ii (nat_lit 10)), zz, .leaf, .leaf)
def o_123 : Ob := ((nat_lit 1), (ii (nat_lit 252)), zz, .leaf, .leaf)
def o_124 : Ob := ((nat_lit 13), (ii (nat_lit 8)), zz, .leaf, (nd (rr (nat_lit 125)) (nd (rr (nat_lit 126)) (nd (rr (nat_lit 128)) .leaf .leaf) .leaf) (nd (rr (nat_lit 127)) .leaf .leaf)))
def o_125 : Ob := ((nat_lit 1), (ii (nat_lit 10)), zz, .leaf, .leaf)
def o_126 : Ob := ((nat_lit 2), (ii (nat_lit 252)), zz, .leaf, .leaf)
def o_127 : Ob := ((nat_lit 7), (ii (nat_lit 10)), zz, .leaf, .leaf)
def o_128 : Ob := ((nat_lit 1), (ii (nat_lit 252)), zz, .leaf, .leaf)
def o_129 : Ob := ((nat_lit 13), (ii (nat_lit 8)), zz, .leaf, (nd (rr (nat_lit 130)) (nd (rr (nat_lit 131)) (nd (rr (nat_lit 133)) .leaf .leaf) .leaf) (nd (rr (nat_lit 132)) .leaf .leaf)))
def o_130 : Ob := ((nat_lit 1), (ii (nat_lit 10)), zz, .leaf, .leaf)
def o_131 : Ob := ((nat_lit 2), (ii (nat_lit 252)), zz, .leaf, .leaf)
def o_132 : Ob := ((nat_lit 7), (ii (nat_lit 10)), zz, .leaf, .leaf)
def o_133 : Ob := ((nat_lit 1), (ii (nat_lit 252)), zz, .leaf, .leaf)
def o_134 : Ob := ((nat_lit 13), (ii (nat_lit 8)), zz, .leaf, (nd (rr (nat_lit 135)) (nd (rr (nat_lit 136)) (nd (rr (nat_lit 138)) .leaf .leaf) .leaf) (nd (rr (nat_lit 137)) .leaf .leaf)))
def o_135 : Ob := ((nat_lit 1), (ii (nat_lit 10)), zz, .leaf, .leaf)
def o_136 : Ob := ((nat_lit 2), (ii (nat_lit 252)), zz, .leaf, .leaf)
def o_137 : Ob := ((nat_lit 7), (ii (nat_lit 10)), zz, .leaf, .leaf)
def o_138 : Ob := ((nat_lit 1), (ii (nat_lit 252)), zz, .leaf, .leaf)
def o_139 : Ob := ((nat_lit 13), (ii (nat_lit 8)), zz, .leaf, (nd (rr (nat_lit 140)) (nd (rr (nat_lit 141)) (nd (rr (nat_lit 143)) .leaf .leaf) .leaf) (nd (rr (nat_lit 142)) .leaf .leaf)))
def o_140 : Ob := ((nat_lit 1), (ii (nat_lit 10)), zz, .leaf, .leaf)
def o_141 : Ob := ((nat_lit 2), (ii (nat_lit 252)), zz, .leaf, .leaf)
def o_142 : Ob := ((nat_lit 7), (ii (nat_lit 10)), zz, .leaf, .leaf)
def o_143 : Ob := ((nat_lit 1), (ii (nat_lit 252)), zz, .leaf, .leaf)
def o_144 : Ob := ((nat_lit 13), (ii (nat_lit 8)), zz, .leaf, (nd (rr (nat_lit 145)) (nd (rr (nat_lit 146)) (nd (rr (nat_lit 148)) .leaf .leaf) .leaf) (nd (rr (nat_lit 147)) .leaf .leaf)))
def o_145 : Ob := ((nat_lit 1), (ii (nat_lit 10)), zz, .leaf, .leaf)
def o_146 : Ob := ((nat_lit 2), (ii (nat_lit 252)), zz, .leaf, .leaf)
def o_147 : Ob := ((nat_lit 7), (ii (nat_lit 10)), zz, .leaf, .leaf)
def o_148 : Ob := ((nat_lit 1), (ii (nat_lit 252)), zz, .leaf, .leaf)
def o_149 : Ob := ((nat_lit 17), (ii (nat_lit 9)), zz, (nd zz (nd mm (nd (ii (nat_lit 6)) .leaf .leaf) .leaf) .leaf), (nd nn (nd nn (nd nn (nd (rr (nat_lit 152)) .leaf .leaf) .leaf) (nd (rr (nat_lit 150)) .leaf .leaf)) (nd nn .leaf (nd (rr (nat_lit 151)) .leaf .leaf))))
def o_150 : Ob := ((nat_lit 1), (ii (nat_lit 801)), zz, .leaf, .leaf)
def o_151 : Ob := ((nat_lit 1), (ii (nat_lit 801)), zz, .leaf, .leaf)
def o_152 : Ob := ((nat_lit 1), (ii (nat_lit 801)), zz, .leaf, .leaf)
def o_153 : Ob := ((nat_lit 15), (ii (nat_lit 4)), zz, .leaf, (nd (rr (nat_lit 154)) (nd (rr (nat_lit 149)) .leaf .leaf) (nd (rr (nat_lit 66)) .leaf .leaf)))
def o_154 : Ob := ((nat_lit 14), (ii (nat_lit 5)), zz, .leaf, (nd (rr (nat_lit 155)) (nd (rr (nat_lit 156)) .leaf .leaf) (nd (rr (nat_lit 157)) .leaf .leaf)))
def o_155 : Ob := ((nat_lit 1), (ii (nat_lit 800)), zz, .leaf, .leaf)
def o_156 : Ob := ((nat_lit 1), (ii (nat_lit 800)), zz, .leaf, .leaf)
def o_157 : Ob := ((nat_lit 1), (ii (nat_lit 800)), zz, .leaf, .leaf)
def o_158 : Ob := ((nat_lit 16), (ii (nat_lit 4)), zz, .leaf, (nd (rr (nat_lit 159)) (nd (rr (nat_lit 163)) (nd (rr (nat_lit 153)) .leaf .leaf) .leaf) (nd (rr (nat_lit 149)) .leaf .leaf)))
def o_159 : Ob := ((nat_lit 10), (ii (nat_lit 6)), zz, .leaf, (nd (rr (nat_lit 160)) (nd (rr (nat_lit 161)) .leaf .leaf) (nd (rr (nat_lit 162)) .leaf .leaf)))
def o_160 : Ob := ((nat_lit 1), (ii (nat_lit 10)), zz, .leaf, .leaf)
def o_161 : Ob := ((nat_lit 1), (ii (nat_lit 252)), zz, .leaf, .leaf)
def o_162 : Ob := ((nat_lit 1), (ii (nat_lit 1024)), zz, .leaf, .leaf)
def o_163 : Ob := ((nat_lit 13), (ii (nat_lit 8)), zz, .leaf, (nd (rr (nat_lit 164)) (nd (rr (nat_lit 165)) (nd (rr (nat_lit 167)) .leaf .leaf) .leaf) (nd (rr (nat_lit 166)) .leaf .leaf)))
def o_164 : Ob := ((nat_lit 1), (ii (nat_lit 10)), zz, .leaf, .leaf)
def o_165 : Ob := ((nat_lit 2), (ii (nat_lit 252)), zz, .leaf, .leaf)
def o_166 : Ob := ((nat_lit 7), (ii (nat_lit 10)), zz, .leaf, .leaf)
def o_167 : Ob := ((nat_lit 1), (ii (nat_lit 252)), zz, .leaf, .leaf)
def o_168 : Ob := ((nat_lit 2), (ii (nat_lit 252)), zz, .leaf, .leaf)
def o_169 : Ob := ((nat_lit 1), (ii (nat_lit 65)), zz, .leaf, .leaf)
def o_170 : Ob := ((nat_lit 21), (ii (nat_lit 36)), zz, (nd zz (nd zz .leaf (nd zz .leaf (nd (ii (nat_lit 6)) .leaf .leaf))) (nd zz .leaf (nd zz .leaf (nd zz .leaf (nd mm .leaf .leaf))))), (nd (rr (nat_lit 171)) (nd (rr (nat_lit 172)) (nd (rr (nat_lit 174)) (nd (rr (nat_lit 175)) (nd (rr (nat_lit 180)) .leaf .leaf) .leaf) (nd (rr (nat_lit 177)) .leaf .leaf)) (nd (rr (nat_lit 176)) (nd nn (nd (rr (nat_lit 182)) (nd (rr (nat_lit 186)) .leaf .leaf) .leaf) .leaf) .leaf)) (nd (rr (nat_lit 173)) (nd (rr (nat_lit 175)) (nd nn (nd (rr (nat_lit 181)) .leaf .leaf) .leaf) (nd (rr (nat_lit 178)) (nd (rr (nat_lit 184)) .leaf .leaf) .leaf)) (nd (rr (nat_lit 171)) (nd nn (nd (rr (nat_lit 183)) (nd (rr (nat_lit 187)) .leaf .leaf) .leaf) .leaf) (nd (rr (nat_lit 179)) (nd (rr (nat_lit 185)) .leaf .leaf) .leaf)))))
def o_171 : Ob := ((nat_lit 1), (ii (nat_lit 4104)), zz, (nd (ii (nat_lit 4)) (nd (ii (nat_lit 2)) (nd mm .leaf (nd (ii (nat_lit 4)) .leaf .leaf)) (nd zz (nd (ii (nat_lit 2)) .leaf .leaf) .leaf)) (nd zz (nd zz (nd (ii (nat_lit 1)) .leaf .leaf) .leaf) (nd zz (nd (ii (nat_lit 3)) .leaf .leaf) .leaf))), .leaf)
def o_172 : Ob := ((nat_lit 1), (ii (nat_lit 4104)), zz, .leaf, .leaf)
def o_173 : Ob := ((nat_lit 1), (ii (nat_lit 4104)), zz, .leaf, .leaf)
def o_174 : Ob := ((nat_lit 1), (ii (nat_lit 41040)), zz, .leaf, .leaf)
def o_175 : Ob := ((nat_lit 1), (ii (nat_lit 60)), zz, (nd (ii (nat_lit 97)) .leaf (nd zz (nd zz .leaf (nd (ii (nat_lit 99)) .leaf .leaf)) (nd (ii (nat_lit 98)) (nd zz (nd (ii (nat_lit 100)) .leaf .leaf) .leaf) .leaf))), .leaf)
def o_176 : Ob := ((nat_lit 1), (ii (nat_lit 60)), zz, .leaf, .leaf)
def o_177 : Ob := ((nat_lit 1), (ii (nat_lit 252)), zz, (nd (ii (nat_lit 3)) (nd (ii (nat_lit 6)) (nd (ii (nat_lit 12)) .leaf .leaf) (nd (ii (nat_lit 9)) .leaf .leaf)) (nd (ii (nat_lit 5)) (nd (ii (nat_lit 10)) .leaf .leaf) .leaf)), .leaf)
def o_178 : Ob := ((nat_lit 1), (ii (nat_lit 1024)), zz, (nd mm (nd mm (nd zz (nd mm (nd mm (nd mm (nd mm (nd mm (nd mm (nd mm (nd mm .leaf .leaf) .leaf) (nd mm .leaf .leaf)) (nd mm (nd mm .leaf .leaf) (nd mm .leaf .leaf))) (nd mm (nd mm (nd mm .leaf .leaf) (nd mm .leaf .leaf)) (nd mm (nd mm .leaf .leaf) (nd mm .leaf .leaf)))) (nd mm (nd mm (nd mm (nd mm .leaf .leaf) (nd mm .leaf .leaf)) (nd mm (nd mm .leaf .leaf) (nd mm .leaf .leaf))) (nd mm (nd mm (nd mm .leaf .leaf) (nd mm .leaf .leaf)) (nd mm (nd mm .leaf .leaf) (nd mm .leaf .leaf))))) (nd mm (nd mm (nd mm (nd mm (nd mm .leaf .leaf) (nd mm .leaf .leaf)) (nd mm (nd mm .leaf .leaf) (nd mm .leaf .leaf))) (nd mm (nd mm (nd mm .leaf .leaf) (nd mm .leaf .leaf)) (nd mm (nd mm .leaf .leaf) (nd mm .leaf .leaf)))) (nd mm (nd mm (nd mm (nd mm .leaf .leaf) (nd mm .leaf .leaf)) (nd mm (nd mm .leaf .leaf) (nd mm .leaf .leaf))) (nd mm (nd mm (nd mm .leaf .leaf) (nd mm .leaf .leaf)) (nd mm (nd mm .leaf .leaf) (nd mm .leaf .leaf)))))) (nd mm (nd mm (nd mm (nd mm (nd mm (nd mm .leaf .leaf) (nd mm .leaf .leaf)) (nd mm (nd mm .leaf .leaf) (nd mm .leaf .leaf))) (nd mm (nd mm (nd mm .leaf .leaf) (nd mm .leaf .leaf)) (nd mm (nd mm .leaf .leaf) (nd mm .leaf .leaf)))) (nd mm (nd mm (nd mm (nd mm .leaf .leaf) (nd mm .leaf .leaf)) (nd mm (nd mm .leaf .leaf) (nd mm .leaf .leaf))) (nd mm (nd mm (nd mm .leaf .leaf) (nd mm .leaf .leaf)) (nd mm (nd mm .leaf .leaf) (nd mm .leaf .leaf))))) (nd mm (nd mm (nd mm (nd mm (nd mm .leaf .leaf) (nd mm .leaf .leaf)) (nd mm (nd mm .leaf .leaf) (nd mm .leaf .leaf))) (nd mm (nd mm (nd mm .leaf .leaf) (nd mm .leaf .leaf)) (nd mm (nd mm .leaf .leaf) (nd mm .leaf .leaf)))) (nd mm (nd mm (nd mm (nd mm .leaf .leaf) (nd mm .leaf .leaf)) (nd mm (nd mm .leaf .leaf) (nd mm .leaf .leaf))) (nd mm (nd mm (nd mm .leaf .leaf) (nd mm .leaf .leaf)) (nd mm (nd mm .leaf .leaf) (nd mm .leaf .leaf))))))) (nd mm (nd mm (nd mm (nd mm (nd mm (nd mm (nd mm .leaf .leaf) (nd mm .leaf .leaf)) (nd mm (nd mm .leaf .leaf) (nd mm .leaf .leaf))) (nd mm (nd mm (nd mm .leaf .leaf) (nd mm .leaf .leaf)) (nd mm (nd mm .leaf .leaf) (nd mm .leaf .leaf)))) (nd mm (nd mm (nd mm (nd mm .leaf .leaf) (nd mm .leaf .leaf)) (nd mm (nd mm .leaf .leaf) (nd mm .leaf .leaf))) (nd mm (nd mm (nd mm .leaf .leaf) (nd mm .leaf .leaf)) (nd mm (nd mm .leaf .leaf) (nd mm .leaf .leaf))))) (nd mm (nd mm (nd mm (nd mm (nd mm .leaf .leaf) (nd mm .leaf .leaf)) (nd mm (nd mm .leaf .leaf) (nd mm .leaf .leaf))) (nd mm (nd mm (nd mm .leaf .leaf) (nd mm .leaf .leaf)) (nd mm (nd mm .leaf .leaf) (nd mm .leaf .leaf)))) (nd mm (nd mm (nd mm (nd mm .leaf .leaf) (nd mm .leaf .leaf)) (nd mm (nd mm .leaf .leaf) (nd mm .leaf .leaf))) (nd mm (nd mm (nd mm .leaf .leaf) (nd mm .leaf .leaf)) (nd mm (nd mm .leaf .leaf) (nd mm .leaf .leaf)))))) (nd mm (nd mm (nd mm (nd mm (nd mm (nd mm .leaf .leaf) (nd mm .leaf .leaf)) (nd mm (nd mm .leaf .leaf) (nd mm .leaf .leaf))) (nd mm (nd mm (nd mm .leaf .leaf) (nd mm .leaf .leaf)) (nd mm (nd mm .leaf .leaf) (nd mm .leaf .leaf)))) (nd mm (nd mm (nd mm (nd mm .leaf .leaf) (nd mm .leaf .leaf)) (nd mm (nd mm .leaf .leaf) (nd mm .leaf .leaf))) (nd mm (nd mm (nd mm .leaf .leaf) (nd mm .leaf .leaf)) (nd mm (nd mm .leaf .leaf) (nd mm .leaf .leaf))))) (nd mm (nd mm (nd mm (nd mm (nd mm .leaf .leaf) (nd mm .leaf .leaf)) (nd mm (nd mm .leaf .leaf) (nd mm .leaf .leaf))) (nd mm (nd mm (nd mm .leaf .leaf) (nd mm .leaf .leaf)) (nd mm (nd mm .leaf .leaf) (nd mm .leaf .leaf)))) (nd mm (nd mm (nd mm (nd mm .leaf .leaf) (nd mm .leaf .leaf)) (nd mm (nd mm .leaf .leaf) (nd mm .leaf .leaf))) (nd mm (nd mm (nd mm .leaf .leaf) (nd mm .leaf .leaf)) (nd mm (nd mm .leaf .leaf) (nd mm .leaf .leaf)))))))) (nd (ii (nat_lit 2)) (nd (ii (nat_lit 5)) (nd mm (nd mm (nd mm (nd mm (nd mm (nd mm .leaf .leaf) (nd mm .leaf .leaf)) (nd mm (nd mm .leaf .leaf) (nd mm .leaf .leaf))) (nd mm (nd mm (nd mm .leaf .leaf) (nd mm .leaf .leaf)) (nd mm (nd mm .leaf .leaf) (nd mm .leaf .leaf)))) (nd mm (nd mm (nd mm (nd mm .leaf .leaf) (nd mm .leaf .leaf)) (nd mm (nd mm .leaf .leaf) (nd mm .leaf .leaf))) (nd mm (nd mm (nd mm .leaf .leaf) (nd mm .leaf .leaf)) (nd mm (nd mm .leaf .leaf) (nd mm .leaf .leaf))))) (nd mm (nd mm (nd mm (nd mm (nd mm .leaf .leaf) (nd mm .leaf .leaf)) (nd mm (nd mm .leaf .leaf) (nd mm .leaf .leaf))) (nd mm (nd mm (nd mm .leaf .leaf) (nd mm .leaf .leaf)) (nd mm (nd mm .leaf .leaf) (nd mm .leaf .leaf)))) (nd mm (nd mm (nd mm (nd mm .leaf .leaf) (nd mm .leaf .leaf)) (nd mm (nd mm .leaf .leaf) (nd mm .leaf .leaf))) (nd mm (nd mm (nd mm .leaf .leaf) (nd mm .leaf .leaf)) (nd mm (nd mm .leaf .leaf) (nd mm .leaf .leaf)))))) (nd mm (nd mm (nd mm (nd mm (nd mm (nd mm .leaf .leaf) (nd mm .leaf .leaf)) (nd mm (nd mm .leaf .leaf) (nd mm .leaf .leaf))) (nd mm (nd mm (nd mm .leaf .leaf) (nd mm .leaf .leaf)) (nd mm (nd mm .leaf .leaf) (nd mm .leaf .leaf)))) (nd mm (nd mm (nd mm (nd mm .leaf .leaf) (nd mm .leaf .leaf)) (nd mm (nd mm .leaf .leaf) (nd mm .leaf .leaf))) (nd mm (nd mm (nd mm .leaf .leaf) (nd mm .leaf .leaf)) (nd mm (nd mm .leaf .leaf) (nd mm .leaf .leaf))))) (nd mm (nd mm (nd mm (nd mm (nd mm .leaf .leaf) (nd mm .leaf .leaf)) (nd mm (nd mm .leaf .leaf) (nd mm .leaf .leaf))) (nd mm (nd mm (nd mm .leaf .leaf) (nd mm .leaf .leaf)) (nd mm (nd mm .leaf .leaf) (nd mm .leaf .leaf)))) (nd mm (nd mm (nd mm (nd mm .leaf .leaf) (nd mm .leaf .leaf)) (nd mm (nd mm .leaf .leaf) (nd mm .leaf .leaf))) (nd mm (nd mm (nd mm .leaf .leaf) (nd mm .leaf .leaf)) (nd mm (nd mm .leaf .leaf) (nd mm .leaf .leaf))))))) (nd mm (nd mm (nd mm (nd mm (nd mm (nd mm (nd mm .leaf .leaf) (nd mm .leaf .leaf)) (nd mm (nd mm .leaf .leaf) (nd mm .leaf .leaf))) (nd mm (nd mm (nd mm .leaf .leaf) (nd mm .leaf .leaf)) (nd mm (nd mm .leaf .leaf) (nd mm .leaf .leaf)))) (nd mm (nd mm (nd mm (nd mm .leaf .leaf) (nd mm .leaf .leaf)) (nd mm (nd mm .leaf .leaf) (nd mm .leaf .leaf))) (nd mm (nd mm (nd mm .leaf .leaf) (nd mm .leaf .leaf)) (nd mm (nd mm .leaf .leaf) (nd mm .leaf .leaf))))) (nd mm (nd mm (nd mm (nd mm (nd mm .leaf .leaf) (nd mm .leaf .leaf)) (nd mm (nd mm .leaf .leaf) (nd mm .leaf .leaf))) (nd mm (nd mm (nd mm .leaf .leaf) (nd mm .leaf .leaf)) (nd mm (nd mm .leaf .leaf) (nd mm .leaf .leaf)))) (nd mm (nd mm (nd mm (nd mm .leaf .leaf) (nd mm .leaf .leaf)) (nd mm (nd mm .leaf .leaf) (nd mm .leaf .leaf))) (nd mm (nd mm (nd mm .leaf .leaf) (nd mm .leaf .leaf)) (nd mm (nd mm .leaf .leaf) (nd mm .leaf .leaf)))))) (nd mm (nd mm (nd mm (nd mm (nd mm (nd mm .leaf .leaf) (nd mm .leaf .leaf)) (nd mm (nd mm .leaf .leaf) (nd mm .leaf .leaf))) (nd mm (nd mm (nd mm .leaf .leaf) (nd mm .leaf .leaf)) (nd mm (nd mm .leaf .leaf) (nd mm .leaf .leaf)))) (nd mm (nd mm (nd mm (nd mm .leaf .leaf) (nd mm .leaf .leaf)) (nd mm (nd mm .leaf .leaf) (nd mm .leaf .leaf))) (nd mm (nd mm (nd mm .leaf .leaf) (nd mm .leaf .leaf)) (nd mm (nd mm .leaf .leaf) (nd mm .leaf .leaf))))) (nd mm (nd mm (nd mm (nd mm (nd mm .leaf .leaf) (nd mm .leaf .leaf)) (nd mm (nd mm .leaf .leaf) (nd mm .leaf .leaf))) (nd mm (nd mm (nd mm .leaf .leaf) (nd mm .leaf .leaf)) (nd mm (nd mm .leaf .leaf) (nd mm .leaf .leaf)))) (nd mm (nd mm (nd mm (nd mm .leaf .leaf) (nd mm .leaf .leaf)) (nd mm (nd mm .leaf .leaf) (nd mm .leaf .leaf))) (nd mm (nd mm (nd mm .leaf .leaf) (nd mm .leaf .leaf)) (nd mm (nd mm .leaf .leaf) (nd mm .leaf .leaf))))))))) (nd mm (nd mm (nd mm (nd mm (nd mm (nd mm (nd mm (nd mm (nd mm .leaf .leaf) (nd mm .leaf .leaf)) (nd mm (nd mm .leaf .leaf) (nd mm .leaf .leaf))) (nd mm (nd mm (nd mm .leaf .leaf) (nd mm .leaf .leaf)) (nd mm (nd mm .leaf .leaf) (nd mm .leaf .leaf)))) (nd mm (nd mm (nd mm (nd mm .leaf .leaf) (nd mm .leaf .leaf)) (nd mm (nd mm .leaf .leaf) (nd mm .leaf .leaf))) (nd mm (nd mm (nd mm .leaf .leaf) (nd mm .leaf .leaf)) (nd mm (nd mm .leaf .leaf) (nd mm .leaf .leaf))))) (nd mm (nd mm (nd mm (nd mm (nd mm .leaf .leaf) (nd mm .leaf .leaf)) (nd mm (nd mm .leaf .leaf) (nd mm .leaf .leaf))) (nd mm (nd mm (nd mm .leaf .leaf) (nd mm .leaf .leaf)) (nd mm (nd mm .leaf .leaf) (nd mm .leaf .leaf)))) (nd mm (nd mm (nd mm (nd mm .leaf .leaf) (nd mm .leaf .leaf)) (nd mm (nd mm .leaf .leaf) (nd mm .leaf .leaf))) (nd mm (nd mm (nd mm .leaf .leaf) (nd mm .leaf .leaf)) (nd mm (nd mm .leaf .leaf) (nd mm .leaf .leaf)))))) (nd mm (nd mm (nd mm (nd mm (nd mm (nd mm .leaf .leaf) (nd mm .leaf .leaf)) (nd mm (nd mm .leaf .leaf) (nd mm .leaf .leaf))) (nd mm (nd mm (nd mm .leaf .leaf) (nd mm .leaf .leaf)) (nd mm (nd mm .leaf .leaf) (nd mm .leaf .leaf)))) (nd mm (nd mm (nd mm (nd mm .leaf .leaf) (nd mm .leaf .leaf)) (nd mm (nd mm .leaf .leaf) (nd mm .leaf .leaf))) (nd mm (nd mm (nd mm .leaf .leaf) (nd mm .leaf .leaf)) (nd mm (nd mm .leaf .leaf) (nd mm .leaf .leaf))))) (nd mm (nd mm (nd mm (nd mm (nd mm .leaf .leaf) (nd mm .leaf .leaf)) (nd mm (nd mm .leaf .leaf) (nd mm .leaf .leaf))) (nd mm (nd mm (nd mm .leaf .leaf) (nd mm .leaf .leaf)) (nd mm (nd mm .leaf .leaf) (nd mm .leaf .leaf)))) (nd mm (nd mm (nd mm (nd mm .leaf .leaf) (nd mm .leaf .leaf)) (nd mm (nd mm .leaf .leaf) (nd mm .leaf .leaf))) (nd mm (nd mm (nd mm .leaf .leaf) (nd mm .leaf .leaf)) (nd mm (nd mm .leaf .leaf) (nd mm .leaf .leaf))))))) (nd (ii (nat_lit 3)) (nd mm (nd mm (nd mm (nd mm (nd mm (nd mm .leaf .leaf) (nd mm .leaf .leaf)) (nd mm (nd mm .leaf .leaf) (nd mm .leaf .leaf))) (nd mm (nd mm (nd mm .leaf .leaf) (nd mm .leaf .leaf)) (nd mm (nd mm .leaf .leaf) (nd mm .leaf .leaf)))) (nd mm (nd mm (nd mm (nd mm .leaf .leaf) (nd mm .leaf .leaf)) (nd mm (nd mm .leaf .leaf) (nd mm .leaf .leaf))) (nd mm (nd mm (nd mm .leaf .leaf) (nd mm .leaf .leaf)) (nd mm (nd mm .leaf .leaf) (nd mm .leaf .leaf))))) (nd mm (nd mm (nd mm (nd mm (nd mm .leaf .leaf) (nd mm .leaf .leaf)) (nd mm (nd mm .leaf .leaf) (nd mm .leaf .leaf))) (nd mm (nd mm (nd mm .leaf .leaf) (nd mm .leaf .leaf)) (nd mm (nd mm .leaf .leaf) (nd mm .leaf .leaf)))) (nd mm (nd mm (nd mm (nd mm .leaf .leaf) (nd mm .leaf .leaf)) (nd mm (nd mm .leaf .leaf) (nd mm .leaf .leaf))) (nd mm (nd mm (nd mm .leaf .leaf) (nd mm .leaf .leaf)) (nd mm (nd mm .leaf .leaf) (nd mm .leaf .leaf)))))) (nd mm (nd mm (nd mm (nd mm (nd mm (nd mm .leaf .leaf) (nd mm .leaf .leaf)) (nd mm (nd mm .leaf .leaf) (nd mm .leaf .leaf))) (nd mm (nd mm (nd mm .leaf .leaf) (nd mm .leaf .leaf)) (nd mm (nd mm .leaf .leaf) (nd mm .leaf .leaf)))) (nd mm (nd mm (nd mm (nd mm .leaf .leaf) (nd mm .leaf .leaf)) (nd mm (nd mm .leaf .leaf) (nd mm .leaf .leaf))) (nd mm (nd mm (nd mm .leaf .leaf) (nd mm .leaf .leaf)) (nd mm (nd mm .leaf .leaf) (nd mm .leaf .leaf))))) (nd mm (nd mm (nd mm (nd mm (nd mm .leaf .leaf) (nd mm .leaf .leaf)) (nd mm (nd mm .leaf .leaf) (nd mm .leaf .leaf))) (nd mm (nd mm (nd mm .leaf .leaf) (nd mm .leaf .leaf)) (nd mm (nd mm .leaf .leaf) (nd mm .leaf .leaf)))) (nd mm (nd mm (nd mm (nd mm .leaf .leaf) (nd mm .leaf .leaf)) (nd mm (nd mm .leaf .leaf) (nd mm .leaf .leaf))) (nd mm (nd mm (nd mm .leaf .leaf) (nd mm .leaf .leaf)) (nd mm (nd mm .leaf .leaf) (nd mm .leaf .leaf)))))))) (nd (ii (nat_lit 1)) (nd (ii (nat_lit 4)) (nd mm (nd mm (nd mm (nd mm (nd mm (nd mm .leaf .leaf) (nd mm .leaf .leaf)) (nd mm (nd mm .leaf .leaf) (nd mm .leaf .leaf))) (nd mm (nd mm (nd mm .leaf .leaf) (nd mm .leaf .leaf)) (nd mm (nd mm .leaf .leaf) (nd mm .leaf .leaf)))) (nd mm (nd mm (nd mm (nd mm .leaf .leaf) (nd mm .leaf .leaf)) (nd mm (nd mm .leaf .leaf) (nd mm .leaf .leaf))) (nd mm (nd mm (nd mm .leaf .leaf) (nd mm .leaf .leaf)) (nd mm (nd mm .leaf .leaf) (nd mm .leaf .leaf))))) (nd mm (nd mm (nd mm (nd mm (nd mm .leaf .leaf) (nd mm .leaf .leaf)) (nd mm (nd mm .leaf .leaf) (nd mm .leaf .leaf))) (nd mm (nd mm (nd mm .leaf .leaf) (nd mm .leaf .leaf)) (nd mm (nd mm .leaf .leaf) (nd mm .leaf .leaf)))) (nd mm (nd mm (nd mm (nd mm .leaf .leaf) (nd mm .leaf .leaf)) (nd mm (nd mm .leaf .leaf) (nd mm .leaf .leaf))) (nd mm (nd mm (nd mm .leaf .leaf) (nd mm .leaf .leaf)) (nd mm (nd mm .leaf .leaf) (nd mm .leaf .leaf)))))) (nd mm (nd mm (nd mm (nd mm (nd mm (nd mm .leaf .leaf) (nd mm .leaf .leaf)) (nd mm (nd mm .leaf .leaf) (nd mm .leaf .leaf))) (nd mm (nd mm (nd mm .leaf .leaf) (nd mm .leaf .leaf)) (nd mm (nd mm .leaf .leaf) (nd mm .leaf .leaf)))) (nd mm (nd mm (nd mm (nd mm .leaf .leaf) (nd mm .leaf .leaf)) (nd mm (nd mm .leaf .leaf) (nd mm .leaf .leaf))) (nd mm (nd mm (nd mm .leaf .leaf) (nd mm .leaf .leaf)) (nd mm (nd mm .leaf .leaf) (nd mm .leaf .leaf))))) (nd mm (nd mm (nd mm (nd mm (nd mm .leaf .leaf) (nd mm .leaf .leaf)) (nd mm (nd mm .leaf .leaf) (nd mm .leaf .leaf))) (nd mm (nd mm (nd mm .leaf .leaf) (nd mm .leaf .leaf)) (nd mm (nd mm .leaf .leaf) (nd mm .leaf .leaf)))) (nd mm (nd mm (nd mm (nd mm .leaf .leaf) (nd mm .leaf .leaf)) (nd mm (nd mm .leaf .leaf) (nd mm .leaf .leaf))) (nd mm (nd mm (nd mm .leaf .leaf) (nd mm .leaf .leaf)) (nd mm (nd mm .leaf .leaf) (nd mm .leaf .leaf))))))) (nd mm (nd mm (nd mm (nd mm (nd mm (nd mm (nd mm .leaf .leaf) (nd mm .leaf .leaf)) (nd mm (nd mm .leaf .leaf) (nd mm .leaf .leaf))) (nd mm (nd mm (nd mm .leaf .leaf) (nd mm .leaf .leaf)) (nd mm (nd mm .leaf .leaf) (nd mm .leaf .leaf)))) (nd mm (nd mm (nd mm (nd mm .leaf .leaf) (nd mm .leaf .leaf)) (nd mm (nd mm .leaf .leaf) (nd mm .leaf .leaf))) (nd mm (nd mm (nd mm .leaf .leaf) (nd mm .leaf .leaf)) (nd mm (nd mm .leaf .leaf) (nd mm .leaf .leaf))))) (nd mm (nd mm (nd mm (nd mm (nd mm .leaf .leaf) (nd mm .leaf .leaf)) (nd mm (nd mm .leaf .leaf) (nd mm .leaf .leaf))) (nd mm (nd mm (nd mm .leaf .leaf) (nd mm .leaf .leaf)) (nd mm (nd mm .leaf .leaf) (nd mm .leaf .leaf)))) (nd mm (nd mm (nd mm (nd mm .leaf .leaf) (nd mm .leaf .leaf)) (nd mm (nd mm .leaf .leaf) (nd mm .leaf .leaf))) (nd mm (nd mm (nd mm .leaf .leaf) (nd mm .leaf .leaf)) (nd mm (nd mm .leaf .leaf) (nd mm .leaf .leaf)))))) (nd mm (nd mm (nd mm (nd mm (nd mm (nd mm .leaf .leaf) (nd mm .leaf .leaf)) (nd mm (nd mm .leaf .leaf) (nd mm .leaf .leaf))) (nd mm (nd mm (nd mm .leaf .leaf) (nd mm .leaf .leaf)) (nd mm (nd mm .leaf .leaf) (nd mm .leaf .leaf)))) (nd mm (nd mm (nd mm (nd mm .leaf .leaf) (nd mm .leaf .leaf)) (nd mm (nd mm .leaf .leaf) (nd mm .leaf .leaf))) (nd mm (nd mm (nd mm .leaf .leaf) (nd mm .leaf .leaf)) (nd mm (nd mm .leaf .leaf) (nd mm .leaf .leaf))))) (nd mm (nd mm (nd mm (nd mm (nd mm .leaf .leaf) (nd mm .leaf .leaf)) (nd mm (nd mm .leaf .leaf) (nd mm .leaf .leaf))) (nd mm (nd mm (nd mm .leaf .leaf) (nd mm .leaf .leaf)) (nd mm (nd mm .leaf .leaf) (nd mm .leaf .leaf)))) (nd mm (nd mm (nd mm (nd mm .leaf .leaf) (nd mm .leaf .leaf)) (nd mm (nd mm .leaf .leaf) (nd mm .leaf .leaf))) (nd mm (nd mm (nd mm .leaf .leaf) (nd mm .leaf .leaf)) (nd mm (nd mm .leaf .leaf) (nd mm .leaf .leaf)))))))))), .leaf)
def o_179 : Ob := ((nat_lit 1), (ii (nat_lit 330)), zz, .leaf, .leaf)
def o_180 : Ob := ((nat_lit 2), (ii (nat_lit 252)), zz, .leaf, .leaf)
def o_181 : Ob := ((nat_lit 1), (ii (nat_lit 252)), zz, .leaf, .leaf)
def o_182 : Ob := ((nat_lit 1), (ii (nat_lit 252)), zz, .leaf, .leaf)
def o_183 : Ob := ((nat_lit 1), (ii (nat_lit 252)), zz, .leaf, .leaf)
def o_184 : Ob := ((nat_lit 1), (ii (nat_lit 100)), zz, .leaf, .leaf)
def o_185 : Ob := ((nat_lit 1), (ii (nat_lit 800)), zz, .leaf, .leaf)
def o_186 : Ob := ((nat_lit 5), (ii (nat_lit 15)), zz, .leaf, (nd (rr (nat_lit 16)) (nd (rr (nat_lit 17)) (nd (rr (nat_lit 19)) (nd (rr (nat_lit 23)) .leaf .leaf) (nd (rr (nat_lit 27)) .leaf .leaf)) (nd (rr (nat_lit 21)) (nd (rr (nat_lit 25)) .leaf .leaf) (nd (rr (nat_lit 29)) .leaf .leaf))) (nd (rr (nat_lit 18)) (nd (rr (nat_lit 20)) (nd (rr (nat_lit 24)) .leaf .leaf) (nd (rr (nat_lit 28)) .leaf .leaf)) (nd (rr (nat_lit 22)) (nd (rr (nat_lit 26)) .leaf .leaf) (nd (rr (nat_lit 30)) .leaf .leaf)))))
def o_187 : Ob := ((nat_lit 1), (ii (nat_lit 330)), zz, .leaf, .leaf)
def o_188 : Ob := ((nat_lit 4), (ii (nat_lit 1)), zz, .leaf, .leaf)
def am1 : AM := ⟨(nd o_0 (nd o_1 (nd o_3 (nd o_7 (nd o_15 (nd o_31 (nd o_63 (nd o_127 .leaf .leaf) .leaf) (nd o_95 (nd o_159 .leaf .leaf) .leaf)) (nd o_47 (nd o_79 (nd o_143 .leaf .leaf) .leaf) (nd o_111 (nd o_175 .leaf .leaf) .leaf))) (nd o_23 (nd o_39 (nd o_71 (nd o_135 .leaf .leaf) .leaf) (nd o_103 (nd o_167 .leaf .leaf) .leaf)) (nd o_55 (nd o_87 (nd o_151 .leaf .leaf) .leaf) (nd o_119 (nd o_183 .leaf .leaf) .leaf)))) (nd o_11 (nd o_19 (nd o_35 (nd o_67 (nd o_131 .leaf .leaf) .leaf) (nd o_99 (nd o_163 .leaf .leaf) .leaf)) (nd o_51 (nd o_83 (nd o_147 .leaf .leaf) .leaf) (nd o_115 (nd o_179 .leaf .leaf) .leaf))) (nd o_27 (nd o_43 (nd o_75 (nd o_139 .leaf .leaf) .leaf) (nd o_107 (nd o_171 .leaf .leaf) .leaf)) (nd o_59 (nd o_91 (nd o_155 .leaf .leaf) .leaf) (nd o_123 (nd o_187 .leaf .leaf) .leaf))))) (nd o_5 (nd o_9 (nd o_17 (nd o_33 (nd o_65 (nd o_129 .leaf .leaf) .leaf) (nd o_97 (nd o_161 .leaf .leaf) .leaf)) (nd o_49 (nd o_81 (nd o_145 .leaf .leaf) .leaf) (nd o_113 (nd o_177 .leaf .leaf) .leaf))) (nd o_25 (nd o_41 (nd o_73 (nd o_137 .leaf .leaf) .leaf) (nd o_105 (nd o_169 .leaf .leaf) .leaf)) (nd o_57 (nd o_89 (nd o_153 .leaf .leaf) .leaf) (nd o_121 (nd o_185 .leaf .leaf) .leaf)))) (nd o_13 (nd o_21 (nd o_37 (nd o_69 (nd o_133 .leaf .leaf) .leaf) (nd o_101 (nd o_165 .leaf .leaf) .leaf)) (nd o_53 (nd o_85 (nd o_149 .leaf .leaf) .leaf) (nd o_117 (nd o_181 .leaf .leaf) .leaf))) (nd o_29 (nd o_45 (nd o_77 (nd o_141 .leaf .leaf) .leaf) (nd o_109 (nd o_173 .leaf .leaf) .leaf)) (nd o_61 (nd o_93 (nd o_157 .leaf .leaf) .leaf) (nd o_125 .leaf .leaf)))))) (nd o_2 (nd o_4 (nd o_8 (nd o_16 (nd o_32 (nd o_64 (nd o_128 .leaf .leaf) .leaf) (nd o_96 (nd o_160 .leaf .leaf) .leaf)) (nd o_48 (nd o_80 (nd o_144 .leaf .leaf) .leaf) (nd o_112 (nd o_176 .leaf .leaf) .leaf))) (nd o_24 (nd o_40 (nd o_72 (nd o_136 .leaf .leaf) .leaf) (nd o_104 (nd o_168 .leaf .leaf) .leaf)) (nd o_56 (nd o_88 (nd o_152 .leaf .leaf) .leaf) (nd o_120 (nd o_184 .leaf .leaf) .leaf)))) (nd o_12 (nd o_20 (nd o_36 (nd o_68 (nd o_132 .leaf .leaf) .leaf) (nd o_100 (nd o_164 .leaf .leaf) .leaf)) (nd o_52 (nd o_84 (nd o_148 .leaf .leaf) .leaf) (nd o_116 (nd o_180 .leaf .leaf) .leaf))) (nd o_28 (nd o_44 (nd o_76 (nd o_140 .leaf .leaf) .leaf) (nd o_108 (nd o_172 .leaf .leaf) .leaf)) (nd o_60 (nd o_92 (nd o_156 .leaf .leaf) .leaf) (nd o_124 (nd o_188 .leaf .leaf) .leaf))))) (nd o_6 (nd o_10 (nd o_18 (nd o_34 (nd o_66 (nd o_130 .leaf .leaf) .leaf) (nd o_98 (nd o_162 .leaf .leaf) .leaf)) (nd o_50 (nd o_82 (nd o_146 .leaf .leaf) .leaf) (nd o_114 (nd o_178 .leaf .leaf) .leaf))) (nd o_26 (nd o_42 (nd o_74 (nd o_138 .leaf .leaf) .leaf) (nd o_106 (nd o_170 .leaf .leaf) .leaf)) (nd o_58 (nd o_90 (nd o_154 .leaf .leaf) .leaf) (nd o_122 (nd o_186 .leaf .leaf) .leaf)))) (nd o_14 (nd o_22 (nd o_38 (nd o_70 (nd o_134 .leaf .leaf) .leaf) (nd o_102 (nd o_166 .leaf .leaf) .leaf)) (nd o_54 (nd o_86 (nd o_150 .leaf .leaf) .leaf) (nd o_118 (nd o_182 .leaf .leaf) .leaf))) (nd o_30 (nd o_46 (nd o_78 (nd o_142 .leaf .leaf) .leaf) (nd o_110 (nd o_174 .leaf .leaf) .leaf)) (nd o_62 (nd o_94 (nd o_158 .leaf .leaf) .leaf) (nd o_126 .leaf .leaf))))))), (nat_lit 189), (nat_lit 82445)⟩
def ls1 : ALs := [some ((.inr (rr (nat_lit 46)))), some ((.inr (rr (nat_lit 64)))), some ((.inr (rr (nat_lit 170)))), some ((.inr (rr (nat_lit 188)))), some ((.inl zz)), none, none, none, none]
def eqV (a b : IV) : Bool := match a, b with
  | (.inl x), (.inl y) => eqI x y
  | (.inr (.inl (p, q))), (.inr (.inl (u, v))) => eqI p u && eqI q v
  | (.inr (.inr i)), (.inr (.inr j)) => Nat.beq i j
  | _, _ => false
def eqR (a b : Value) : Bool := match a, b with
  | .null, .null => true
  | .ref x, .ref y => Nat.beq x y
  | _, _ => false
def eqT {α : Type} (f : α → α → Bool) : Tr α → Tr α → Bool
  | .leaf, .leaf => true
  | .inner z _ a l r, .inner z' _ b l' r' => Nat.beq z z' && (f a b && (eqT f l l' && eqT f r r'))
  | _, _ => false
def eqO (a b : Ob) : Bool := match a, b with
  | ⟨κ, n, d, i, r⟩, ⟨κ', n', d', i', r'⟩ => Nat.beq κ κ' && (eqV n n' && (eqV d d' && (eqT eqV i i' && eqT eqR r r')))
def eqB (a b : Option AB) : Bool := match a, b with
  | none, none => true
  | some ((.inl x)), some ((.inl y)) => eqV x y
  | some ((.inr x)), some ((.inr y)) => eqR x y
  | _, _ => false
def eqL : ALs → ALs → Bool
  | [], [] => true
  | a :: l, b :: l' => eqB a b && eqL l l'
  | _, _ => false
def eqM (a b : AM) : Bool := match a, b with
  | ⟨t, n, s⟩, ⟨t', n', s'⟩ => Nat.beq n n' && (Nat.beq s s' && eqT eqO t t')
def isH (r : Option ARes) : Bool := match r with
  | some ((.inr (ls, [], m))) => eqL ls ls1 && eqM m am1
  | _ => false
theorem eqV_ok {a b : IV} (h : eqV a b = true) : a = b := by
  unfold eqV at h
  split at h
  · rw [eqI_t h]
  · obtain ⟨h1, h2⟩ := and_t h; rw [eqI_t h1, eqI_t h2]
  · rw [nbq_t h]
  · cases h
theorem eqR_ok {a b : Value} (h : eqR a b = true) : a = b := by
  unfold eqR at h
  split at h
  · rfl
  · rw [nbq_t h]
  · cases h
theorem eqT_ok {α : Type} {f : α → α → Bool} (hf : ∀ a b, f a b = true → a = b) : ∀ t t' : Tr α, eqT f t t' = true → t = t' := by
  intro t
  induction t with
  | leaf => intro t' h; cases t' with
    | leaf => rfl
    | inner z u b l r => cases h
  | inner z u a l r i1 i2 => intro t' h; cases t' with
    | leaf => cases h
    | inner z' u' b l' r' =>
      obtain ⟨h0, h1⟩ := and_t (show (Nat.beq z z' && (f a b && (eqT f l l' && eqT f r r'))) = true from h)
      obtain ⟨h1, h2⟩ := and_t h1
      obtain ⟨h2, h3⟩ := and_t h2
      rw [nbq_t h0, hf a b h1, i1 _ h2, i2 _ h3]
theorem eqO_ok (a b : Ob) (h : eqO a b = true) : a = b := by
  obtain ⟨κ, n, d, i, r⟩ := a
  obtain ⟨κ', n', d', i', r'⟩ := b
  obtain ⟨h1, h2⟩ := and_t (show (Nat.beq κ κ' && (eqV n n' && (eqV d d' && (eqT eqV i i' && eqT eqR r r')))) = true from h)
  obtain ⟨h2, h3⟩ := and_t h2
  obtain ⟨h0, h3⟩ := and_t h3
  obtain ⟨h3, h4⟩ := and_t h3
  rw [nbq_t h1, eqV_ok h2, eqV_ok h0, eqT_ok (fun _ _ => eqV_ok) _ _ h3, eqT_ok (fun _ _ => eqR_ok) _ _ h4]
theorem eqB_ok {a b : Option AB} (h : eqB a b = true) : a = b := by
  unfold eqB at h
  split at h
  · rfl
  · rw [eqV_ok h]
  · rw [eqR_ok h]
  · cases h
theorem eqL_ok : ∀ l l' : ALs, eqL l l' = true → l = l' := by
  intro l
  induction l with
  | nil => intro l' h; cases l' with
    | nil => rfl
    | cons b l' => cases h
  | cons a l ih => intro l' h; cases l' with
    | nil => cases h
    | cons b l' =>
      obtain ⟨h1, h2⟩ := and_t (show (eqB a b && eqL l l') = true from h)
      rw [eqB_ok h1, ih _ h2]
theorem eqM_ok {a b : AM} (h : eqM a b = true) : a = b := by
  obtain ⟨t, n, s⟩ := a
  obtain ⟨t', n', s'⟩ := b
  obtain ⟨h1, h2⟩ := and_t (show (Nat.beq n n' && (Nat.beq s s' && eqT eqO t t')) = true from h)
  obtain ⟨h2, h3⟩ := and_t h2
  rw [nbq_t h1, nbq_t h2, eqT_ok eqO_ok _ _ h3]
theorem ph1 : isH (arun none 23 200000 1400 353 (alab 353 0) (aent 9 [(.inr (.ref 46))]) [] am0) = true := by decide +kernel
theorem ph1_e : arun none 23 200000 1400 353 (alab 353 0) (aent 9 [(.inr (.ref 46))]) [] am0 = some ((.inr (ls1, [], am1))) := by
  have h := ph1
  unfold isH at h
  split at h
  · rename_i ls m e
    obtain ⟨h1, h2⟩ := and_t h
    rw [e, eqL_ok _ _ h1, eqM_ok h2]
  · cases h
/-- from the head of the loop, with the script's object as told -/
def fin (r : Option ARes) : Bool := match r with
  | some ((.inl ((.inl (some ((.inl ((.inl n)))))), m))) => eqI n 1 && (Nat.ble m.2.1 300 && Nat.ble m.2.2 90000)
  | _ => false
def run2 (sel : Option Int) (ob : Ob) : Bool := match am1 with
  | ⟨t, n, s⟩ => match tset oo ob 24 t 46 with
    | some t' => fin (arun sel 0 200000 1400 353 (alab 353 23) ls1 [] ⟨t', n, s⟩)
    | none => false
def bx (L : IV) (l : List IV) : Ob := (1, L, topV, tol topV ((.inr (.inr 0)) :: l) 3, .leaf)
def al3 (f : IV → Bool) : List IV → Bool
  | [] => true
  | a :: l => f a && al3 f l
def chk (sel : Nat) (P2 P3 : List IV) (a : IV) : Bool := al3 (fun b => al3 (fun c => run2 (some (.ofNat sel)) (bx ((.inl 6)) [a, b, c, topV, topV])) P3) P2
end
