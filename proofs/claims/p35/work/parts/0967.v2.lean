/-! THE CERTIFICATES: what each method, so called, may write -/
def ug_s (l st : List ug_T) : Option (List ug_T × List ug_T × Nat × List Nat) := some (l, st, 0, [])
def ug_s1 (l st : List ug_T) (x : Nat) : Option (List ug_T × List ug_T × Nat × List Nat) := some (l, st, x, [])
def ug_s2 (l st : List ug_T) (x : List Nat) : Option (List ug_T × List ug_T × Nat × List Nat) := some (l, st, 0, x)
def ug_l0 : List ug_T := [some (.inl [0]), ug_z, ug_z, ug_z, ug_z, ug_z]
def ug_l1 : List ug_T := [some (.inl [0])]
def ug_l2 : List ug_T := [ug_z]
def ug_l3 : List ug_T := [ug_z, ug_z]
def ug_l4 : List ug_T := [ug_z, some (.inl [0])]
def ug_x0 : ug_X := (70, [some (.inl [0]), ug_z, ug_z, ug_z, ug_z, ug_z], some (ug_z), 680564733841876926926749214863536422914, [[ug_s ug_l0 [], ug_s ug_l0 ug_l1, none, none, ug_s ug_l0 ug_l2, none, none, ug_s ug_l0 ug_l3, none, none, ug_s ug_l0 [], ug_s ug_l0 ug_l2, ug_s ug_l0 [], ug_s ug_l0 ug_l1, ug_s1 ug_l0 ug_l4 88, none, none, ug_s ug_l0 [], ug_s ug_l0 ug_l1, ug_s1 ug_l0 ug_l4 88, none, none, ug_s ug_l0 [], ug_s ug_l0 ug_l1, ug_s1 ug_l0 ug_l4 88, none, none, ug_s ug_l0 [], ug_s ug_l0 ug_l1, none, ug_s1 ug_l0 ug_l4 88, none],
  [none, ug_s ug_l0 [], ug_s ug_l0 ug_l1, none, ug_s1 ug_l0 ug_l4 88, none, none, ug_s ug_l0 [], ug_s ug_l0 ug_l1, none, none, ug_s ug_l0 ug_l2]])
def ug_l5 : List ug_T := [some (.inl [80]), ug_z, ug_z, ug_z, ug_z, ug_z]
def ug_l6 : List ug_T := [some (.inl [80])]
def ug_l7 : List ug_T := [ug_z, some (.inl [80])]
def ug_x1 : ug_X := (133, [some (.inl [80]), ug_z, ug_z, ug_z, ug_z, ug_z], some (ug_z), 113078212145816597093331040047546785012958969400042031171422026141077078016, [[ug_s ug_l5 [], ug_s ug_l5 ug_l6, none, none, ug_s ug_l5 ug_l2, none, ug_s ug_l5 ug_l3, ug_s ug_l5 ug_l2, none, none, ug_s ug_l5 ug_l3, none, none, ug_s ug_l5 [], ug_s ug_l5 ug_l2, ug_s ug_l5 [], ug_s ug_l5 ug_l6, ug_s1 ug_l5 ug_l7 89, none, none, ug_s ug_l5 [], ug_s ug_l5 ug_l6, ug_s1 ug_l5 ug_l7 89, none, none, ug_s ug_l5 [], ug_s ug_l5 ug_l6, ug_s1 ug_l5 ug_l7 89, none, none, ug_s ug_l5 [], ug_s ug_l5 ug_l6],
  [none, ug_s1 ug_l5 ug_l7 89, none, none, ug_s ug_l5 [], ug_s ug_l5 ug_l6, none, ug_s1 ug_l5 ug_l7 89, none, none, ug_s ug_l5 [], ug_s ug_l5 ug_l6, none, none, ug_s ug_l5 ug_l2]])
def ug_l8 : List ug_T := [some (.inl [0]), ug_z]
def ug_l9 : List ug_T := [some (.inl [0]), some (.inl [0])]
def ug_l10 : List ug_T := [ug_z, ug_z, some (.inl [0])]
def ug_x2 : ug_X := (72, [some (.inl [0]), ug_z], some (ug_z), 680564733841876926926749214863536422912, [[ug_s ug_l8 [], ug_s ug_l8 ug_l2, none, none, ug_s ug_l8 [], ug_s ug_l8 ug_l2, ug_s ug_l8 ug_l8, none, none, ug_s ug_l8 ug_l3, none, none, ug_s ug_l8 [], ug_s ug_l8 ug_l2, ug_s ug_l8 [], ug_s ug_l8 ug_l1, ug_s ug_l8 ug_l9, none, none, ug_s ug_l8 ug_l4, ug_s ug_l8 ug_l10, ug_s ug_l8 ug_l4, none, none, ug_s ug_l8 [], ug_s ug_l8 ug_l1, none, none, ug_s ug_l8 ug_l2]])
def ug_l11 : List ug_T := [some (.inl [80]), ug_z]
def ug_l12 : List ug_T := [some (.inl [80]), some (.inl [80])]
def ug_l13 : List ug_T := [ug_z, ug_z, some (.inl [80])]
def ug_x3 : ug_X := (135, [some (.inl [80]), ug_z], some (ug_z), 113078212145816597093331040047546785012958969400039613319782796882727665664, [[ug_s ug_l11 [], ug_s ug_l11 ug_l2, none, none, ug_s ug_l11 [], ug_s ug_l11 ug_l2, ug_s ug_l11 ug_l11, none, none, ug_s ug_l11 ug_l3, none, none, ug_s ug_l11 [], ug_s ug_l11 ug_l2, ug_s ug_l11 [], ug_s ug_l11 ug_l6, ug_s ug_l11 ug_l12, none, none, ug_s ug_l11 ug_l7, ug_s ug_l11 ug_l13, ug_s ug_l11 ug_l7, none, none, ug_s ug_l11 [], ug_s ug_l11 ug_l6, none, none, ug_s ug_l11 ug_l2]])
def ug_l14 : List ug_T := [some (.inl [20])]
def ug_l15 : List ug_T := [some (.inl [0]), some (.inl [20])]
def ug_l16 : List ug_T := [some (.inl [2, 11]), some (.inl [20])]
def ug_l17 : List ug_T := [some (.inl [0]), some (.inl [2, 11]), some (.inl [20])]
def ug_l18 : List ug_T := [some (.inl [1]), some (.inl [2, 11]), some (.inl [20])]
def ug_l19 : List ug_T := [some (.inl [0]), some (.inl [1]), some (.inl [2, 11]), some (.inl [20])]
def ug_l20 : List ug_T := [ug_z, some (.inl [1]), some (.inl [2, 11]), some (.inl [20])]
def ug_l21 : List ug_T := [some (.inl [20]), some (.inl [0])]
def ug_x4 : ug_X := (73, [some (.inl [0])], some (ug_z), 7764466285838586866971520147720747617928058299592404962142636720223160, [[ug_s ug_l8 [], ug_s2 ug_l8 ug_l1 [20], none, none, ug_s ug_l8 ug_l14, ug_s2 ug_l8 ug_l15 [2, 11], none, none, ug_s ug_l8 ug_l16, ug_s2 ug_l8 ug_l17 [1], none, none, ug_s ug_l8 ug_l18, ug_s ug_l8 ug_l19, none, none, ug_s1 ug_l8 ug_l20 90, none, none, ug_s ug_l8 ug_l2, ug_s ug_l8 [], ug_s ug_l8 ug_l1, ug_s ug_l8 ug_l4, none, none, ug_s ug_l8 [], ug_s ug_l8 ug_l1, ug_s2 ug_l8 ug_l9 [20], none, none, ug_s ug_l8 ug_l21, none],
  [none, ug_s ug_l8 ug_l4, none, none, ug_s ug_l8 [], ug_s ug_l8 ug_l2, none, none, ug_s ug_l8 [], ug_s1 ug_l8 ug_l1 130, none, none, ug_s ug_l8 [], ug_s ug_l8 ug_l2]])
def ug_l22 : List ug_T := [some (.inl [82])]
def ug_l23 : List ug_T := [ug_z, some (.inl [82])]
def ug_l24 : List ug_T := [some (.inl [80]), ug_z, some (.inl [82])]
def ug_l25 : List ug_T := [some (.inl [81]), ug_z, some (.inl [82])]
def ug_l26 : List ug_T := [ug_z, some (.inl [81]), ug_z, some (.inl [82])]
def ug_l27 : List ug_T := [ug_z, ug_z, some (.inl [82])]
def ug_l28 : List ug_T := [some (.inl [80]), ug_z, some (.inl [80])]
def ug_l29 : List ug_T := [some (.inl [121])]
def ug_l30 : List ug_T := [ug_z, some (.inl [121])]
def ug_l31 : List ug_T := [ug_z, ug_z, some (.inl [121])]
def ug_x5 : ug_X := (150, [some (.inl [80])], some (ug_z), 16371947054120171983655885629022356562218204433234264333370155955618782010749616896597819392, [[ug_s ug_l11 [], ug_s ug_l11 ug_l6, ug_s ug_l11 ug_l12, none, none, ug_s ug_l11 ug_l7, none, none, ug_s ug_l11 [], ug_s ug_l11 ug_l2, ug_s ug_l11 [], ug_s ug_l11 ug_l2, ug_s ug_l11 ug_l11, none, none, ug_s ug_l11 ug_l3, none, none, ug_s ug_l11 [], ug_s2 ug_l11 ug_l6 [82], none, none, ug_s ug_l11 ug_l22, ug_s ug_l11 ug_l23, ug_s2 ug_l11 ug_l24 [81], none, none, ug_s ug_l11 ug_l25, ug_s ug_l11 ug_l26, ug_s ug_l11 ug_l27, ug_s ug_l11 [], none],
  [none, ug_s ug_l11 [], none, none, ug_s ug_l11 [], ug_s ug_l11 ug_l6, ug_s ug_l11 ug_l7, none, none, ug_s ug_l11 [], ug_s1 ug_l11 ug_l6 91, none, none, ug_s ug_l11 [], ug_s ug_l11 ug_l6, ug_s ug_l11 ug_l7, none, none, ug_s ug_l11 [], ug_s ug_l11 ug_l6, ug_s ug_l11 ug_l7, none, none, ug_s ug_l11 [], ug_s ug_l11 ug_l6, ug_s ug_l11 ug_l7, none, none, ug_s ug_l11 [], ug_s ug_l11 ug_l6, ug_s ug_l11 ug_l7, none],
  [none, ug_s ug_l11 [], ug_s ug_l11 ug_l6, ug_s ug_l11 ug_l7, ug_s ug_l11 ug_l28, none, none, ug_s ug_l11 ug_l13, ug_s ug_l11 ug_l7, none, none, ug_s ug_l11 [], ug_s ug_l11 ug_l6, ug_s ug_l11 ug_l7, none, none, ug_s ug_l11 [], ug_s ug_l11 ug_l6, ug_s ug_l11 ug_l12, none, none, ug_s1 ug_l11 ug_l7 92, none, none, ug_s ug_l11 [], ug_s ug_l11 ug_l6, none, none, ug_s ug_l11 ug_l7, ug_s ug_l11 ug_l28, none, none],
  [ug_s ug_l11 ug_l13, ug_s ug_l11 ug_l7, none, none, ug_s ug_l11 [], ug_s ug_l11 ug_l6, none, none, ug_s ug_l11 ug_l7, ug_s ug_l11 ug_l28, none, none, ug_s ug_l11 ug_l13, ug_s ug_l11 ug_l7, none, none, ug_s ug_l11 [], ug_s ug_l11 ug_l6, none, none, ug_s ug_l11 ug_l2, none, none, ug_s ug_l11 [], ug_s ug_l11 ug_l6, ug_s1 ug_l11 ug_l7 93, none, none, ug_s ug_l11 ug_l2, none, none, ug_s ug_l11 []],
  [ug_s1 ug_l11 ug_l6 131, none, none, ug_s ug_l11 [], none, none, ug_s ug_l11 [], ug_s ug_l11 ug_l6, ug_s ug_l11 ug_l12, none, none, ug_s ug_l11 ug_l7, none, none, ug_s ug_l11 ug_l6, ug_s ug_l11 ug_l12, none, none, ug_s ug_l11 ug_l7, none, none, ug_s ug_l11 ug_l6, ug_s ug_l11 ug_l12, none, none, ug_s ug_l11 ug_l7, none, none, ug_s ug_l11 ug_l6, ug_s ug_l11 ug_l12, none, none],
  [ug_s ug_l11 ug_l7, none, none, ug_s ug_l11 ug_l6, ug_s ug_l11 ug_l7, none, none, ug_s ug_l11 [], ug_s ug_l11 ug_l6, none, none, ug_s ug_l11 ug_l2, none, none, ug_s ug_l11 [], ug_s ug_l11 ug_l6, none, none, ug_s ug_l11 ug_l2, ug_s ug_l11 [], ug_s ug_l11 ug_l6, none, none, ug_s ug_l11 ug_l2, none, none, ug_s ug_l11 [], ug_s ug_l11 ug_l6, none, none, ug_s ug_l11 ug_l2, ug_s ug_l11 []],
  [ug_s ug_l11 ug_l6, ug_s ug_l11 ug_l12, none, none, ug_s ug_l11 ug_l7, none, none, ug_s ug_l11 [], ug_s1 ug_l11 ug_l6 94, none, none, ug_s ug_l11 [], ug_s1 ug_l11 ug_l6 95, none, none, ug_s ug_l11 [], ug_s ug_l11 ug_l6, ug_s ug_l11 ug_l7, none, none, ug_s ug_l11 [], ug_s ug_l11 ug_l6, ug_s ug_l11 ug_l7, none, none, ug_s ug_l11 [], ug_s ug_l11 ug_l2, ug_s ug_l11 [], ug_s ug_l11 ug_l2, ug_s ug_l11 ug_l3, none, none],
  [ug_s ug_l11 [], ug_s2 ug_l11 ug_l6 [121], none, none, ug_s ug_l11 ug_l29, ug_s ug_l11 ug_l30, ug_s ug_l11 ug_l31, ug_s ug_l11 [], none, none, ug_s ug_l11 [], none, none, ug_s ug_l11 [], ug_s ug_l11 ug_l2]])
def ug_x6 : ug_X := (75, [some (.inl [0])], some (ug_z), 0, [[ug_s ug_l1 [], ug_s ug_l1 ug_l1, none, none, ug_s ug_l1 ug_l2]])
def ug_x7 : ug_X := (151, [some (.inl [80])], some (ug_z), 0, [[ug_s ug_l6 [], ug_s ug_l6 ug_l6, none, none, ug_s ug_l6 ug_l2]])
def ug_l32 : List ug_T := [some (.inl [0]), ug_z, ug_z]
def ug_l33 : List ug_T := [some (.inl [26])]
def ug_l34 : List ug_T := [some (.inl [32])]
def ug_l35 : List ug_T := [ug_z, some (.inl [32])]
def ug_l36 : List ug_T := [some (.inl [29])]
def ug_l37 : List ug_T := [ug_z, some (.inl [29])]
def ug_l38 : List ug_T := [ug_z, some (.inl [26])]
def ug_l39 : List ug_T := [some (.inl [28])]
def ug_l40 : List ug_T := [ug_z, some (.inl [28])]
def ug_l41 : List ug_T := [some (.inl [31])]
def ug_l42 : List ug_T := [ug_z, some (.inl [31])]
def ug_l43 : List ug_T := [some (.inl [27])]
def ug_l44 : List ug_T := [some (.inl [30])]
def ug_l45 : List ug_T := [ug_z, some (.inl [30])]
def ug_l46 : List ug_T := [ug_z, some (.inl [27])]
def ug_x8 : ug_X := (79, [some (.inl [0]), ug_z, ug_z], some (ug_z), 323519360005807677536004181044235568083645733070486903550240528794624, [[ug_s ug_l32 [], ug_s ug_l32 ug_l1, ug_s1 ug_l32 ug_l4 96, none, none, ug_s ug_l32 ug_l2, none, none, ug_s ug_l32 [], ug_s ug_l32 ug_l2, ug_s ug_l32 [], ug_s ug_l32 ug_l2, none, none, none, none, none, none, none, none, none, none, none, none, none, none, none, none, none, none, none, none],
  [none, none, none, none, none, none, none, none, none, none, none, none, none, none, none, none, none, none, none, none, ug_s ug_l32 [], ug_s2 ug_l32 ug_l1 [26], none, none, ug_s2 ug_l32 ug_l33 [27], none, none, ug_s ug_l32 ug_l43, ug_s ug_l32 ug_l46, ug_s ug_l32 ug_l2, ug_s ug_l32 [], ug_s2 ug_l32 ug_l1 [26]],
  [none, none, ug_s2 ug_l32 ug_l33 [28], none, none, ug_s ug_l32 ug_l39, ug_s ug_l32 ug_l40, ug_s ug_l32 ug_l2, ug_s ug_l32 [], ug_s2 ug_l32 ug_l1 [26], none, none, ug_s2 ug_l32 ug_l33 [31], none, none, ug_s ug_l32 ug_l41, ug_s ug_l32 ug_l42, ug_s ug_l32 ug_l2, ug_s ug_l32 [], ug_s2 ug_l32 ug_l1 [26], none, none, ug_s2 ug_l32 ug_l33 [29], none, none, ug_s ug_l32 ug_l36, ug_s ug_l32 ug_l37, ug_s ug_l32 ug_l2, ug_s ug_l32 [], ug_s2 ug_l32 ug_l1 [26], none, none],
  [ug_s ug_l32 ug_l33, ug_s1 ug_l32 ug_l38 137, none, none, ug_s ug_l32 ug_l2, none, none, ug_s ug_l32 [], ug_s ug_l32 ug_l2, none, none, ug_s ug_l32 [], ug_s ug_l32 ug_l2, ug_s ug_l32 [], ug_s2 ug_l32 ug_l1 [26], none, none, ug_s2 ug_l32 ug_l33 [32], none, none, ug_s ug_l32 ug_l34, ug_s ug_l32 ug_l35, ug_s ug_l32 ug_l2, ug_s ug_l32 [], ug_s2 ug_l32 ug_l1 [26], none, none, ug_s2 ug_l32 ug_l33 [30], none, none, ug_s ug_l32 ug_l44, ug_s ug_l32 ug_l45],
  [ug_s ug_l32 ug_l2, ug_s ug_l32 [], ug_s ug_l32 ug_l1, ug_s ug_l32 ug_l4, ug_s1 ug_l32 ug_l10 147, none, none, ug_s ug_l32 ug_l2]])
def ug_l47 : List ug_T := [some (.inl [80]), ug_z, ug_z]
def ug_l48 : List ug_T := [ug_z, ug_z, ug_z]
def ug_l49 : List ug_T := [some (.inl [109])]
def ug_l50 : List ug_T := [ug_z, some (.inl [109])]
def ug_l51 : List ug_T := [ug_z, ug_z, some (.inl [109])]
def ug_l52 : List ug_T := [some (.inl [109]), ug_z, some (.inl [80])]
def ug_l53 : List ug_T := [ug_z, some (.inl [109]), ug_z, some (.inl [80])]
def ug_l54 : List ug_T := [some (.inl [80]), ug_z, ug_z, some (.inl [80])]
def ug_l55 : List ug_T := [some (.inl [109]), ug_z, ug_z, some (.inl [80])]
def ug_l56 : List ug_T := [ug_z, some (.inl [109]), ug_z, ug_z, some (.inl [80])]
def ug_l57 : List ug_T := [ug_z, ug_z, ug_z, some (.inl [80])]
def ug_l58 : List ug_T := [ug_z, ug_z, some (.inl [109]), ug_z, some (.inl [80])]
def ug_x9 : ug_X := (188, [some (.inl [80]), ug_z, ug_z], some (ug_z), 12433080910244666053884556203670521002511403769933692936904025444889660923967013444911104, [[ug_s ug_l47 [], ug_s ug_l47 ug_l6, ug_s1 ug_l47 ug_l7 97, none, none, ug_s ug_l47 ug_l2, none, none, ug_s ug_l47 [], ug_s ug_l47 ug_l2, ug_s ug_l47 ug_l3, none, ug_s1 ug_l47 ug_l48 104, none, none, ug_s ug_l47 ug_l2, none, none, ug_s ug_l47 [], ug_s ug_l47 ug_l2, ug_s ug_l47 [], ug_s1 ug_l47 ug_l6 113, none, none, ug_s ug_l47 [], ug_s ug_l47 ug_l2, none, none, none, none, none, none],
  [none, none, none, none, none, none, none, none, none, none, none, none, none, none, none, none, none, none, none, none, none, none, none, none, none, none, none, none, none, none, none, none],
  [none, none, none, none, none, none, none, none, none, none, none, none, ug_s ug_l47 [], ug_s2 ug_l47 ug_l6 [109], none, none, ug_s ug_l47 ug_l49, ug_s ug_l47 ug_l50, ug_s ug_l47 ug_l2, ug_s ug_l47 [], ug_s2 ug_l47 ug_l6 [109], none, none, ug_s ug_l47 ug_l49, none, ug_s ug_l47 ug_l50, ug_s ug_l47 ug_l51, ug_s ug_l47 ug_l50, ug_s ug_l47 ug_l2, ug_s ug_l47 [], ug_s2 ug_l47 ug_l6 [109], none],
  [none, ug_s ug_l47 ug_l49, none, ug_s ug_l47 ug_l50, ug_s ug_l47 ug_l51, ug_s ug_l47 ug_l50, ug_s ug_l47 ug_l2, ug_s ug_l47 [], ug_s2 ug_l47 ug_l6 [109], none, none, ug_s ug_l47 ug_l49, none, ug_s ug_l47 ug_l50, ug_s ug_l47 ug_l51, ug_s ug_l47 ug_l50, ug_s ug_l47 ug_l2, ug_s ug_l47 [], ug_s2 ug_l47 ug_l6 [109], none, none, ug_s ug_l47 ug_l49, none, ug_s ug_l47 ug_l50, ug_s ug_l47 ug_l51, ug_s ug_l47 ug_l50, ug_s ug_l47 ug_l2, ug_s ug_l47 [], ug_s2 ug_l47 ug_l6 [109], none, none, ug_s ug_l47 ug_l49],
  [none, ug_s ug_l47 ug_l50, ug_s ug_l47 ug_l51, ug_s ug_l47 ug_l50, ug_s ug_l47 ug_l2, ug_s ug_l47 [], ug_s2 ug_l47 ug_l6 [109], none, none, ug_s ug_l47 ug_l49, none, ug_s ug_l47 ug_l50, ug_s ug_l47 ug_l51, ug_s ug_l47 ug_l50, ug_s ug_l47 ug_l2, ug_s ug_l47 [], ug_s ug_l47 ug_l6, ug_s ug_l47 ug_l7, ug_s ug_l47 ug_l13, none, none, ug_s ug_l47 ug_l7, ug_s ug_l47 ug_l13, none, none, ug_s ug_l47 ug_l7, ug_s2 ug_l47 ug_l28 [109], none, none, ug_s ug_l47 ug_l52, none, ug_s ug_l47 ug_l53],
  [ug_s ug_l47 ug_l58, ug_s ug_l47 ug_l53, ug_s1 ug_l47 ug_l13 126, none, none, ug_s ug_l47 ug_l13, ug_s2 ug_l47 ug_l54 [109], none, none, ug_s ug_l47 ug_l55, none, ug_s ug_l47 ug_l56, ug_s1 ug_l47 ug_l57 207, none, none, ug_s ug_l47 ug_l2, ug_s ug_l47 [], ug_s ug_l47 ug_l6, ug_s ug_l47 ug_l7, ug_s2 ug_l47 ug_l28 [109], none, none, ug_s ug_l47 ug_l52, none, ug_s ug_l47 ug_l53, ug_s1 ug_l47 ug_l13 205, none, none, ug_s ug_l47 ug_l2, ug_s ug_l47 [], ug_s ug_l47 ug_l6, ug_s1 ug_l47 ug_l7 206],
  [none, none, ug_s ug_l47 ug_l2]])
def ug_l59 : List ug_T := [some (.inl [50])]
def ug_l60 : List ug_T := [some (.inl [0]), some (.inl [50])]
def ug_l61 : List ug_T := [some (.inl [2, 11]), some (.inl [50])]
def ug_l62 : List ug_T := [some (.inl [0]), some (.inl [2, 11]), some (.inl [50])]
def ug_l63 : List ug_T := [some (.inl [26]), some (.inl [2, 11]), some (.inl [50])]
def ug_l64 : List ug_T := [ug_z, some (.inl [26]), some (.inl [2, 11]), some (.inl [50])]
def ug_l65 : List ug_T := [some (.inl [0]), ug_z, some (.inl [26]), some (.inl [2, 11]), some (.inl [50])]
def ug_l66 : List ug_T := [some (.inl [26]), ug_z, some (.inl [26]), some (.inl [2, 11]), some (.inl [50])]
def ug_l67 : List ug_T := [ug_z, ug_z, some (.inl [26]), some (.inl [2, 11]), some (.inl [50])]
def ug_l68 : List ug_T := [ug_z, some (.inl [50])]
def ug_x10 : ug_X := (81, [some (.inl [0]), ug_z, ug_z], some (ug_z), 323519360005807677536004181044235568083645733070486903550240528794624, [[ug_s ug_l32 [], ug_s ug_l32 ug_l1, ug_s1 ug_l32 ug_l4 96, none, none, ug_s ug_l32 ug_l2, none, none, ug_s ug_l32 [], ug_s1 ug_l32 ug_l2 98, none, none, ug_s ug_l32 ug_l2, none, none, ug_s ug_l32 [], ug_s ug_l32 ug_l2, ug_s ug_l32 [], ug_s2 ug_l32 ug_l1 [50], none, none, ug_s ug_l32 ug_l59, ug_s2 ug_l32 ug_l60 [2, 11], none, none, ug_s ug_l32 ug_l61, ug_s2 ug_l32 ug_l62 [26], none, none, ug_s ug_l32 ug_l63, ug_s ug_l32 ug_l64, ug_s2 ug_l32 ug_l65 [26]],
  [none, none, ug_s ug_l32 ug_l66, none, none, ug_s1 ug_l32 ug_l67 133, none, none, ug_s ug_l32 [], ug_s2 ug_l32 ug_l1 [50], none, none, ug_s ug_l32 ug_l59, ug_s1 ug_l32 ug_l68 134, none, none, ug_s ug_l32 ug_l2]])
def ug_x11 : ug_X := (189, [some (.inl [80]), ug_z, ug_z], some (ug_z), 12433080910244666053884556203670521002511403769933692936904025444889660923967013444911104, [[ug_s ug_l47 [], ug_s ug_l47 ug_l6, ug_s1 ug_l47 ug_l7 97, none, none, ug_s ug_l47 ug_l2, none, none, ug_s ug_l47 [], ug_s1 ug_l47 ug_l2 99, none, none, ug_s ug_l47 ug_l2, none, none, ug_s ug_l47 [], ug_s ug_l47 ug_l2, ug_s ug_l47 [], ug_s1 ug_l47 ug_l6 113, none, none, ug_s ug_l47 [], ug_s ug_l47 ug_l6, ug_s ug_l47 ug_l7, ug_s ug_l47 ug_l13, ug_s2 ug_l47 ug_l54 [109], none, none, ug_s ug_l47 ug_l55, none, ug_s ug_l47 ug_l56, ug_s1 ug_l47 ug_l57 200],
  [none, none, ug_s ug_l47 ug_l2]])
def ug_l69 : List ug_T := [some (.inl [26]), some (.inl [26])]
def ug_l70 : List ug_T := [ug_z, ug_z, some (.inl [26])]
def ug_l71 : List ug_T := [ug_z, ug_z, ug_z, some (.inl [26])]
def ug_x12 : ug_X := (83, [some (.inl [0]), ug_z, ug_z], some (ug_z), 869250123739323814696772079065475899771578922868749658772743967997952, [[ug_s ug_l32 [], ug_s ug_l32 ug_l1, ug_s1 ug_l32 ug_l4 96, none, none, ug_s ug_l32 ug_l2, none, none, ug_s ug_l32 [], ug_s2 ug_l32 ug_l1 [26], none, none, ug_s ug_l32 ug_l33, ug_s1 ug_l32 ug_l38 137, none, none, ug_s ug_l32 ug_l2, ug_s ug_l32 ug_l3, none, none, ug_s ug_l32 [], ug_s ug_l32 ug_l2, ug_s ug_l32 [], ug_s1 ug_l32 ug_l1 141, none, none, ug_s ug_l32 [], ug_s2 ug_l32 ug_l1 [26], none, none, ug_s ug_l32 ug_l33, ug_s ug_l32 ug_l69],
  [none, none, ug_s ug_l32 ug_l38, ug_s ug_l32 ug_l70, ug_s ug_l32 ug_l71, ug_s ug_l32 ug_l70, ug_s ug_l32 ug_l38, none, none, ug_s ug_l32 [], ug_s ug_l32 ug_l2]])
def ug_l72 : List ug_T := [some (.inl [108])]
def ug_l73 : List ug_T := [ug_z, some (.inl [108])]
def ug_l74 : List ug_T := [ug_z, ug_z, some (.inl [108])]
def ug_x13 : ug_X := (191, [some (.inl [80]), ug_z, ug_z], some (ug_z), 75593131934287569607618101718316767695269334921196853057116377007270351354785037471973376, [[ug_s ug_l47 [], ug_s ug_l47 ug_l6, ug_s1 ug_l47 ug_l7 97, none, none, ug_s ug_l47 ug_l2, none, none, ug_s ug_l47 [], ug_s2 ug_l47 ug_l6 [108], none, none, ug_s ug_l47 ug_l72, none, ug_s ug_l47 ug_l73, ug_s ug_l47 ug_l74, ug_s ug_l47 ug_l73, ug_s ug_l47 ug_l2, ug_s ug_l47 ug_l3, none, none, ug_s ug_l47 [], ug_s ug_l47 ug_l2, none, none, ug_s ug_l47 [], ug_s ug_l47 ug_l2, ug_s ug_l47 ug_l3, none, none, ug_s ug_l47 [], ug_s ug_l47 ug_l2],
  [ug_s ug_l47 [], ug_s1 ug_l47 ug_l6 113, none, none, ug_s ug_l47 [], ug_s2 ug_l47 ug_l6 [109], none, none, ug_s ug_l47 ug_l49, none, ug_s ug_l47 ug_l50, ug_s ug_l47 ug_l51, ug_s ug_l47 ug_l50, ug_s ug_l47 ug_l51, none, none, ug_s ug_l47 ug_l50, ug_s ug_l47 ug_l51, none, none, ug_s ug_l47 ug_l50, ug_s ug_l47 ug_l51, ug_s ug_l47 [], ug_s1 ug_l47 ug_l6 201, none, none, ug_s ug_l47 [], ug_s ug_l47 ug_l2]])
def ug_l75 : List ug_T := [some (.inl [2, 11])]
def ug_x14 : ug_X := (84, [some (.inl [0]), ug_z], some (ug_z), 869250123714215407755225356010132742078748257204340236994887829946368, [[ug_s ug_l8 [], ug_s1 ug_l8 ug_l2 98, none, none, ug_s ug_l8 ug_l2, none, none, ug_s ug_l8 [], ug_s2 ug_l8 ug_l1 [2, 11], none, none, ug_s ug_l8 ug_l75, none, none, ug_s ug_l8 ug_l2, none, none, ug_s ug_l8 [], ug_s ug_l8 ug_l2, ug_s ug_l8 [], ug_s1 ug_l8 ug_l1 141, none, none, ug_s ug_l8 [], ug_s2 ug_l8 ug_l1 [26], none, none, ug_s ug_l8 ug_l33, ug_s ug_l8 ug_l38, none, none, ug_s ug_l8 []],
  [ug_s ug_l8 ug_l2]])
def ug_l76 : List ug_T := [some (.inl [89])]
def ug_l77 : List ug_T := [some (.inl [80]), some (.inl [89])]
def ug_l78 : List ug_T := [ug_z, some (.inl [89])]
def ug_x15 : ug_X := (192, [some (.inl [80]), ug_z], some (ug_z), 75593131934287569607618101718316767695269334921196853057116377007270351354785037471973376, [[ug_s ug_l11 [], ug_s1 ug_l11 ug_l2 99, none, none, ug_s ug_l11 ug_l2, none, none, ug_s ug_l11 [], ug_s2 ug_l11 ug_l6 [89], none, none, ug_s ug_l11 ug_l76, ug_s ug_l11 ug_l77, none, none, ug_s ug_l11 ug_l78, ug_s ug_l11 ug_l2, none, none, ug_s ug_l11 [], ug_s ug_l11 ug_l2, ug_s ug_l11 [], ug_s1 ug_l11 ug_l6 113, none, none, ug_s ug_l11 [], ug_s2 ug_l11 ug_l6 [109], none, none, ug_s ug_l11 ug_l49, none, ug_s ug_l11 ug_l50],
  [ug_s ug_l11 ug_l51, ug_s ug_l11 [], ug_s1 ug_l11 ug_l6 201, none, none, ug_s ug_l11 [], ug_s ug_l11 ug_l2]])
def ug_l79 : List ug_T := [some (.inl [0]), ug_z, some (.inl [26])]
def ug_l80 : List ug_T := [some (.inl [26]), ug_z, some (.inl [26])]
def ug_l81 : List ug_T := [some (.inl [31]), ug_z, some (.inl [26])]
def ug_l82 : List ug_T := [ug_z, some (.inl [31]), ug_z, some (.inl [26])]
def ug_x16 : ug_X := (85, [some (.inl [0]), ug_z, ug_z], some (ug_z), 869250123689107000813678632954789584385917591539930815217034376249344, [[ug_s ug_l32 [], ug_s ug_l32 ug_l1, ug_s1 ug_l32 ug_l4 96, none, none, ug_s ug_l32 ug_l2, none, none, ug_s ug_l32 [], ug_s ug_l32 ug_l1, ug_s1 ug_l32 ug_l4 96, none, none, ug_s ug_l32 ug_l2, none, none, ug_s ug_l32 [], ug_s ug_l32 ug_l2, ug_s ug_l32 ug_l3, none, none, ug_s ug_l32 [], ug_s ug_l32 ug_l2, ug_s ug_l32 [], ug_s1 ug_l32 ug_l1 141, none, none, ug_s ug_l32 [], ug_s2 ug_l32 ug_l1 [26], none, none, ug_s ug_l32 ug_l33],
  [ug_s ug_l32 ug_l38, ug_s2 ug_l32 ug_l79 [26], none, none, ug_s2 ug_l32 ug_l80 [31], none, none, ug_s ug_l32 ug_l81, ug_s ug_l32 ug_l82, ug_s1 ug_l32 ug_l70 142, none, none, ug_s ug_l32 [], ug_s2 ug_l32 ug_l1 [26], none, none, ug_s2 ug_l32 ug_l33 [31], none, none, ug_s ug_l32 ug_l41, ug_s ug_l32 ug_l42, ug_s ug_l32 ug_l2]])
def ug_l83 : List ug_T := [some (.inl [80]), ug_z, some (.inl [109])]
def ug_l84 : List ug_T := [some (.inl [109]), ug_z, some (.inl [109])]
def ug_l85 : List ug_T := [ug_z, some (.inl [109]), ug_z, some (.inl [109])]
def ug_l86 : List ug_T := [ug_z, ug_z, some (.inl [109]), ug_z, some (.inl [109])]
def ug_l87 : List ug_T := [some (.inl [80]), ug_z, ug_z, some (.inl [109])]
def ug_l88 : List ug_T := [some (.inl [109]), ug_z, ug_z, some (.inl [109])]
def ug_l89 : List ug_T := [ug_z, some (.inl [109]), ug_z, ug_z, some (.inl [109])]
def ug_l90 : List ug_T := [ug_z, ug_z, some (.inl [109]), ug_z, ug_z, some (.inl [109])]
def ug_l91 : List ug_T := [ug_z, ug_z, ug_z, some (.inl [109])]
def ug_l92 : List ug_T := [some (.inl [80]), ug_z, ug_z, ug_z, some (.inl [109])]
def ug_l93 : List ug_T := [some (.inl [109]), ug_z, ug_z, ug_z, some (.inl [109])]
def ug_l94 : List ug_T := [ug_z, some (.inl [109]), ug_z, ug_z, ug_z, some (.inl [109])]
def ug_l95 : List ug_T := [ug_z, ug_z, ug_z, ug_z, some (.inl [109])]
def ug_x17 : ug_X := (193, [some (.inl [80]), ug_z, ug_z], some (ug_z), 75593131934287569607618101718316767695269334921196853057116377007270351354785037471973376, [[ug_s ug_l47 [], ug_s ug_l47 ug_l6, ug_s1 ug_l47 ug_l7 97, none, none, ug_s ug_l47 ug_l2, none, none, ug_s ug_l47 [], ug_s ug_l47 ug_l6, ug_s1 ug_l47 ug_l7 97, none, none, ug_s ug_l47 ug_l2, none, none, ug_s ug_l47 [], ug_s ug_l47 ug_l2, ug_s ug_l47 ug_l3, none, none, ug_s ug_l47 [], ug_s ug_l47 ug_l2, ug_s ug_l47 [], ug_s1 ug_l47 ug_l6 113, none, none, ug_s ug_l47 [], ug_s2 ug_l47 ug_l6 [109], none, none, ug_s ug_l47 ug_l49],
  [none, ug_s ug_l47 ug_l50, ug_s ug_l47 ug_l51, ug_s ug_l47 ug_l50, ug_s2 ug_l47 ug_l83 [109], none, none, ug_s ug_l47 ug_l84, none, ug_s ug_l47 ug_l85, ug_s ug_l47 ug_l86, ug_s ug_l47 ug_l85, ug_s ug_l47 ug_l51, ug_s ug_l47 [], ug_s2 ug_l47 ug_l6 [109], none, none, ug_s ug_l47 ug_l49, none, ug_s ug_l47 ug_l50, ug_s ug_l47 ug_l51, ug_s ug_l47 ug_l50, ug_s ug_l47 ug_l85, ug_s ug_l47 ug_l51, ug_s2 ug_l47 ug_l87 [109], none, none, ug_s ug_l47 ug_l88, none, ug_s ug_l47 ug_l89, ug_s ug_l47 ug_l90, ug_s ug_l47 ug_l89],
  [ug_s ug_l47 ug_l91, ug_s2 ug_l47 ug_l92 [109], none, none, ug_s ug_l47 ug_l93, ug_s ug_l47 ug_l94, ug_s ug_l47 ug_l95, ug_s ug_l47 ug_l91, ug_s ug_l47 ug_l51, ug_s ug_l47 [], ug_s1 ug_l47 ug_l6 201, none, none, ug_s ug_l47 [], ug_s2 ug_l47 ug_l6 [108], none, none, ug_s ug_l47 ug_l72, none, ug_s ug_l47 ug_l73, ug_s ug_l47 ug_l74, ug_s ug_l47 ug_l73, ug_s ug_l47 ug_l2]])
def ug_x18 : ug_X := (86, [some (.inl [0]), ug_z, ug_z], some (ug_z), 869250123689107000813678632954789584385917591539930815217033705160704, [[ug_s ug_l32 [], ug_s ug_l32 ug_l1, ug_s1 ug_l32 ug_l4 96, none, none, ug_s ug_l32 ug_l2, none, none, ug_s ug_l32 [], ug_s ug_l32 ug_l1, ug_s1 ug_l32 ug_l4 96, none, none, ug_s ug_l32 ug_l2, none, none, ug_s ug_l32 [], ug_s ug_l32 ug_l2, ug_s ug_l32 ug_l3, none, none, ug_s ug_l32 [], ug_s ug_l32 ug_l2, ug_s ug_l32 [], ug_s1 ug_l32 ug_l1 141, none, none, ug_s ug_l32 [], ug_s2 ug_l32 ug_l1 [26], none, none, ug_s ug_l32 ug_l33],
  [ug_s ug_l32 ug_l38, ug_s1 ug_l32 ug_l70 145, none, none, ug_s ug_l32 [], ug_s ug_l32 ug_l2]])
def ug_x19 : ug_X := (195, [some (.inl [80]), ug_z, ug_z], some (ug_z), 75593131934287569607618101718316767695269334921196853057116377007270351354785037471973376, [[ug_s ug_l47 [], ug_s ug_l47 ug_l6, ug_s1 ug_l47 ug_l7 97, none, none, ug_s ug_l47 ug_l2, none, none, ug_s ug_l47 [], ug_s ug_l47 ug_l6, ug_s1 ug_l47 ug_l7 97, none, none, ug_s ug_l47 ug_l2, none, none, ug_s ug_l47 [], ug_s ug_l47 ug_l2, ug_s ug_l47 ug_l3, none, none, ug_s ug_l47 [], ug_s ug_l47 ug_l2, ug_s ug_l47 [], ug_s1 ug_l47 ug_l6 113, none, none, ug_s ug_l47 [], ug_s ug_l47 ug_l6, ug_s ug_l47 ug_l7, ug_s1 ug_l47 ug_l13 204, none],
  [none, ug_s ug_l47 [], ug_s1 ug_l47 ug_l6 201, none, none, ug_s ug_l47 [], ug_s ug_l47 ug_l2]])
def ug_l96 : List ug_T := [some (.inl [0]), some (.inl [26])]
def ug_l97 : List ug_T := [some (.inl [2, 11]), some (.inl [26])]
def ug_l98 : List ug_T := [some (.inl [0]), some (.inl [2, 11]), some (.inl [26])]
def ug_l99 : List ug_T := [some (.inl [50]), some (.inl [2, 11]), some (.inl [26])]
def ug_l100 : List ug_T := [ug_z, some (.inl [50]), some (.inl [2, 11]), some (.inl [26])]
def ug_l101 : List ug_T := [some (.inl [0]), ug_z, some (.inl [50]), some (.inl [2, 11]), some (.inl [26])]
def ug_l102 : List ug_T := [some (.inl [2, 11]), ug_z, some (.inl [50]), some (.inl [2, 11]), some (.inl [26])]
def ug_l103 : List ug_T := [ug_z, ug_z, some (.inl [50]), some (.inl [2, 11]), some (.inl [26])]
def ug_x20 : ug_X := (87, [some (.inl [0]), ug_z], some (ug_z), 1192769483833010916528189790803412519780131985764669538545487959294976, [[ug_s ug_l32 [], ug_s ug_l32 ug_l2, ug_s ug_l32 ug_l3, none, ug_s1 ug_l32 ug_l48 100, none, none, ug_s ug_l32 ug_l2, none, none, ug_s ug_l32 [], ug_s ug_l32 ug_l2, ug_s ug_l32 [], ug_s ug_l32 ug_l2, none, none, ug_s ug_l32 [], ug_s1 ug_l32 ug_l1 141, none, none, ug_s ug_l32 [], ug_s ug_l32 ug_l2, ug_s ug_l32 [], ug_s ug_l32 ug_l2, ug_s ug_l32 ug_l3, none, none, ug_s ug_l32 [], ug_s2 ug_l32 ug_l1 [26], none, none, ug_s ug_l32 ug_l33],
  [ug_s2 ug_l32 ug_l96 [2, 11], none, none, ug_s ug_l32 ug_l97, ug_s2 ug_l32 ug_l98 [50], none, none, ug_s ug_l32 ug_l99, ug_s ug_l32 ug_l100, ug_s2 ug_l32 ug_l101 [2, 11], none, none, ug_s ug_l32 ug_l102, none, none, ug_s1 ug_l32 ug_l103 150, none, none, ug_s ug_l32 [], none, none, ug_s ug_l32 [], none, none, ug_s ug_l32 [], ug_s2 ug_l32 ug_l1 [26], none, none, ug_s ug_l32 ug_l33, none, none, ug_s ug_l32 ug_l2]])
def ug_x21 : ug_X := (198, [some (.inl [80]), ug_z], some (ug_z), 76090455170697356249773483966463588535369791071994200778694452543308451618282810109853696, [[ug_s ug_l11 [], ug_s1 ug_l11 ug_l2 101, none, none, ug_s ug_l11 ug_l2, none, none, ug_s ug_l11 [], ug_s ug_l11 ug_l2, ug_s ug_l11 [], ug_s ug_l11 ug_l2, none, none, ug_s ug_l11 [], ug_s2 ug_l11 ug_l6 [108], none, none, ug_s ug_l11 ug_l72, none, ug_s ug_l11 ug_l73, ug_s ug_l11 ug_l2, ug_s ug_l11 [], ug_s1 ug_l11 ug_l6 113, none, none, ug_s ug_l11 [], ug_s ug_l11 ug_l6, ug_s1 ug_l11 ug_l7 159, none, none, ug_s ug_l11 [], ug_s1 ug_l11 ug_l6 201],
  [none, none, ug_s ug_l11 [], ug_s2 ug_l11 ug_l6 [108], none, none, ug_s ug_l11 ug_l72, none, ug_s ug_l11 ug_l73, ug_s ug_l11 ug_l2]])
def ug_l104 : List ug_T := [some (.inl [55])]
def ug_l105 : List ug_T := [ug_z, some (.inl [55])]
def ug_l106 : List ug_T := [some (.inl [40])]
def ug_l107 : List ug_T := [some (.inl [0]), some (.inl [40])]
def ug_l108 : List ug_T := [some (.inl [26]), some (.inl [40])]
def ug_x22 : ug_X := (88, [some (.inl [0])], some (ug_z), 862719939047967948432373741432720211026331263156336971753572402200576, [[ug_s ug_l1 [], ug_s2 ug_l1 ug_l1 [55], none, none, ug_s ug_l1 ug_l104, ug_s ug_l1 ug_l105, none, none, ug_s ug_l1 [], ug_s2 ug_l1 ug_l1 [40], none, none, ug_s ug_l1 ug_l106, ug_s2 ug_l1 ug_l107 [26], none, none, ug_s1 ug_l1 ug_l108 102, none, none, ug_s ug_l1 ug_l2]])
def ug_l109 : List ug_T := [some (.inl [80]), ug_z, some (.inl [108])]
def ug_l110 : List ug_T := [some (.inl [112]), ug_z, some (.inl [108])]
def ug_l111 : List ug_T := [ug_z, some (.inl [112]), ug_z, some (.inl [108])]
def ug_l112 : List ug_T := [some (.inl [80]), ug_z, some (.inl [112]), ug_z, some (.inl [108])]
def ug_l113 : List ug_T := [ug_z, ug_z, some (.inl [112]), ug_z, some (.inl [108])]
def ug_x23 : ug_X := (199, [some (.inl [80])], some (ug_z), 63657374260452690195888927762793067532858387302060507832703907595982842344387428088807424, [[ug_s ug_l11 [], ug_s ug_l11 ug_l6, none, none, ug_s ug_l11 ug_l2, none, none, ug_s ug_l11 [], ug_s ug_l11 ug_l2, ug_s ug_l11 [], ug_s ug_l11 ug_l6, ug_s ug_l11 ug_l12, none, none, ug_s ug_l11 ug_l7, ug_s ug_l11 ug_l13, ug_s ug_l11 ug_l7, none, none, ug_s ug_l11 [], ug_s ug_l11 ug_l2, ug_s ug_l11 [], ug_s ug_l11 ug_l2, none, ug_s ug_l11 ug_l3, none, none, ug_s ug_l11 [], ug_s2 ug_l11 ug_l6 [108], none, none, ug_s ug_l11 ug_l72],
  [ug_s ug_l11 ug_l73, ug_s2 ug_l11 ug_l109 [112], none, none, ug_s ug_l11 ug_l110, none, ug_s ug_l11 ug_l111, ug_s ug_l11 ug_l112, none, none, ug_s ug_l11 ug_l113, ug_s ug_l11 ug_l111, ug_s ug_l11 ug_l113, ug_s ug_l11 ug_l111, ug_s ug_l11 ug_l74, ug_s ug_l11 [], none, none, ug_s ug_l11 [], none, none, ug_s ug_l11 [], ug_s ug_l11 ug_l2]])
def ug_l114 : List ug_T := [some (.inl [57, 58, 59, 60, 61, 62, 63, 64, 65, 66])]
def ug_l115 : List ug_T := [ug_z, some (.inl [57, 58, 59, 60, 61, 62, 63, 64, 65, 66])]
def ug_x24 : ug_X := (91, [some (.inl [0]), ug_z, ug_z], some (ug_z), 1186237653354628150965348663828863749640034354591932652782957657326592, [[ug_s ug_l32 [], ug_s ug_l32 ug_l1, ug_s1 ug_l32 ug_l4 96, none, none, ug_s ug_l32 ug_l2, none, none, ug_s ug_l32 [], ug_s1 ug_l32 ug_l2 98, none, none, ug_s ug_l32 ug_l2, none, none, ug_s ug_l32 [], ug_s ug_l32 ug_l2, ug_s ug_l32 [], ug_s ug_l32 ug_l1, ug_s1 ug_l32 ug_l4 132, none, none, ug_s ug_l32 ug_l114, ug_s ug_l32 ug_l115, ug_s ug_l32 ug_l2]])
def ug_x25 : ug_X := (204, [some (.inl [80]), ug_z, ug_z], some (ug_z), 12433080910244666053884556203670521002511403769933692936904025444889660923967013444911104, [[ug_s ug_l47 [], ug_s ug_l47 ug_l6, ug_s1 ug_l47 ug_l7 97, none, none, ug_s ug_l47 ug_l2, none, none, ug_s ug_l47 [], ug_s1 ug_l47 ug_l2 99, none, none, ug_s ug_l47 ug_l2, none, none, ug_s ug_l47 [], ug_s ug_l47 ug_l2, ug_s ug_l47 [], ug_s1 ug_l47 ug_l6 113, none, none, ug_s ug_l47 [], ug_s ug_l47 ug_l6, ug_s ug_l47 ug_l7, ug_s1 ug_l47 ug_l13 196, none, none, ug_s ug_l47 ug_l2]])
def ug_l116 : List ug_T := [some (.inl [0]), ug_z, ug_z, ug_z]
def ug_l117 : List ug_T := [some (.inl [0]), ug_z, ug_z, some (.inl [57, 58, 59, 60, 61, 62, 63, 64, 65, 66])]
def ug_l118 : List ug_T := [some (.inl [57, 58, 59, 60, 61, 62, 63, 64, 65, 66]), ug_z]
def ug_l119 : List ug_T := [ug_z, some (.inl [57, 58, 59, 60, 61, 62, 63, 64, 65, 66]), ug_z]
def ug_x26 : ug_X := (92, [some (.inl [0]), ug_z], some (ug_z), 1186237653354628150965348663828863749640034354591932652782957657326592, [[ug_s ug_l116 [], ug_s1 ug_l116 ug_l2 98, none, none, ug_s ug_l116 ug_l2, none, none, ug_s ug_l116 [], ug_s ug_l116 ug_l2, ug_s ug_l116 [], ug_s2 ug_l116 ug_l1 [2, 11], none, none, ug_s ug_l116 ug_l75, none, none, ug_s ug_l116 ug_l2, ug_s ug_l116 ug_l3, ug_s ug_l116 ug_l2, ug_s ug_l117 [], ug_s ug_l117 ug_l2, none, none, ug_s ug_l117 [], ug_s ug_l117 ug_l1, ug_s1 ug_l117 ug_l4 132, none, none, ug_s ug_l117 ug_l114, ug_s ug_l117 [], ug_s ug_l117 ug_l114, ug_s ug_l117 ug_l115],
  [ug_s ug_l117 ug_l2, ug_s ug_l117 ug_l118, ug_s ug_l117 ug_l119, ug_s ug_l117 ug_l3, none, none, ug_s ug_l117 [], ug_s ug_l117 ug_l2, ug_s ug_l117 [], none, none, ug_s ug_l117 [], none, none, ug_s ug_l117 [], none, ug_s ug_l117 ug_l2]])
def ug_l120 : List ug_T := [ug_z, some (.inl [80]), ug_z]
def ug_l121 : List ug_T := [ug_z, ug_z, some (.inl [80]), ug_z]
def ug_x27 : ug_X := (205, [some (.inl [80]), ug_z], some (ug_z), 12433080910244666053884556203670521002511403769933692936904025444889660923967013444911104, [[ug_s ug_l47 [], ug_s1 ug_l47 ug_l2 99, none, none, ug_s ug_l47 ug_l2, none, none, ug_s ug_l47 [], ug_s ug_l47 ug_l2, ug_s ug_l47 [], ug_s1 ug_l47 ug_l6 113, none, none, ug_s ug_l47 [], ug_s2 ug_l47 ug_l6 [89], none, none, ug_s ug_l47 ug_l76, ug_s ug_l47 ug_l77, none, none, ug_s ug_l47 ug_l78, ug_s ug_l47 ug_l2, ug_s ug_l47 ug_l3, ug_s ug_l47 ug_l2, ug_s ug_l47 [], ug_s ug_l47 ug_l2, none, none, ug_s ug_l47 [], ug_s ug_l47 ug_l6, ug_s ug_l47 ug_l7],
  [ug_s1 ug_l47 ug_l13 196, none, none, ug_s ug_l47 ug_l2, ug_s ug_l47 ug_l11, ug_s ug_l47 ug_l120, ug_s1 ug_l47 ug_l121 196, none, none, ug_s ug_l47 ug_l3, none, none, ug_s ug_l47 [], ug_s ug_l47 ug_l2, ug_s ug_l47 [], none, none, ug_s ug_l47 [], none, none, ug_s ug_l47 [], none, ug_s ug_l47 ug_l2]])
def ug_l122 : List ug_T := [some (.inl [0]), ug_z, ug_z, ug_z, ug_z, ug_z, ug_z]
def ug_l123 : List ug_T := [some (.inl [0]), ug_z, some (.inl [57, 58, 59, 60, 61, 62, 63, 64, 65, 66]), ug_z, ug_z, ug_z, ug_z]
def ug_x28 : ug_X := (93, [some (.inl [0]), ug_z], some (ug_z), 1186237653354628150965348663828863749640034354591932652782957657326592, [[ug_s ug_l122 [], ug_s ug_l122 ug_l1, ug_s1 ug_l122 ug_l4 96, none, none, ug_s ug_l122 ug_l2, none, none, ug_s ug_l122 [], ug_s ug_l122 ug_l2, ug_s ug_l122 [], ug_s ug_l122 ug_l1, ug_s1 ug_l122 ug_l4 132, none, none, ug_s ug_l122 ug_l114, ug_s ug_l123 [], ug_s2 ug_l123 ug_l1 [26], none, none, ug_s2 ug_l123 ug_l33 [27], none, none, ug_s ug_l123 ug_l43, ug_s ug_l123 ug_l46, ug_s ug_l123 ug_l2, ug_s ug_l123 [], none, ug_s ug_l123 ug_l2, none, ug_s ug_l123 [], none],
  [ug_s ug_l123 ug_l2, none, ug_s ug_l123 [], ug_s ug_l123 ug_l2, none, ug_s ug_l123 [], none, ug_s ug_l123 ug_l2, none, none, ug_s ug_l123 ug_l3, none, none, ug_s ug_l123 [], ug_s ug_l123 ug_l114, none, ug_s ug_l123 ug_l115, ug_s ug_l123 ug_l2, ug_s ug_l123 ug_l3, ug_s ug_l123 ug_l2, ug_s ug_l123 ug_l3, none, none, ug_s ug_l123 [], none, ug_s1 ug_l123 ug_l2 108, none, none, ug_s ug_l123 ug_l2, none, ug_s ug_l123 ug_l3, none],
  [none, ug_s ug_l123 [], none, ug_s ug_l123 ug_l2, none, ug_s ug_l123 [], none, ug_s1 ug_l123 ug_l2 108, none, none, ug_s ug_l123 ug_l2, none, ug_s ug_l123 [], none, none, ug_s ug_l123 [], none, none, ug_s ug_l123 [], none, ug_s ug_l123 ug_l2]])
def ug_l124 : List ug_T := [some (.inl [80]), ug_z, ug_z, ug_z]
def ug_l125 : List ug_T := [some (.inl [113]), ug_z]
def ug_l126 : List ug_T := [ug_z, some (.inl [113]), ug_z]
def ug_x29 : ug_X := (206, [some (.inl [80]), ug_z], some (ug_z), 12433080910244666053884556203670521002511403769933692947288619161959316181028006103351296, [[ug_s ug_l124 [], ug_s ug_l124 ug_l6, ug_s1 ug_l124 ug_l7 97, none, none, ug_s ug_l124 ug_l2, none, none, ug_s ug_l124 [], ug_s ug_l124 ug_l2, ug_s ug_l124 [], ug_s1 ug_l124 ug_l6 113, none, none, ug_s ug_l124 [], ug_s ug_l124 ug_l6, ug_s1 ug_l124 ug_l7 197, none, none, ug_s ug_l124 [], none, ug_s ug_l124 ug_l2, ug_s ug_l124 [], ug_s ug_l124 ug_l2, ug_s ug_l124 [], ug_s ug_l124 ug_l2, none, none, ug_s ug_l124 ug_l3, none, none, ug_s ug_l124 []],
  [ug_s2 ug_l124 ug_l6 [109], none, none, ug_s ug_l124 ug_l49, ug_s ug_l124 ug_l50, ug_s ug_l124 ug_l2, ug_s2 ug_l124 ug_l11 [113], none, none, ug_s ug_l124 ug_l125, ug_s ug_l124 ug_l126, ug_s ug_l124 ug_l3, ug_s ug_l124 ug_l48, ug_s ug_l124 ug_l3, ug_s ug_l124 ug_l2, none, none, ug_s ug_l124 [], ug_s ug_l124 ug_l2, none, none, ug_s ug_l124 [], ug_s1 ug_l124 ug_l2 126, none, none, ug_s ug_l124 ug_l2, ug_s1 ug_l124 ug_l3 126, none, none, ug_s ug_l124 ug_l3, none, none],
  [ug_s ug_l124 [], ug_s ug_l124 ug_l2, ug_s ug_l124 [], none, none, ug_s ug_l124 [], none, none, ug_s ug_l124 [], ug_s ug_l124 ug_l2]])
def ug_l127 : List ug_T := [some (.inl [0]), ug_z, some (.inl [57, 58, 59, 60, 61, 62, 63, 64, 65, 66]), ug_z, ug_z, ug_z]
def ug_l128 : List ug_T := [some (.inl [71])]
def ug_l129 : List ug_T := [ug_z, some (.inl [71])]
def ug_l130 : List ug_T := [ug_z, some (.inl [71]), ug_z, some (.inl [71])]
def ug_l131 : List ug_T := [ug_z, ug_z, some (.inl [71])]
def ug_l132 : List ug_T := [ug_z, ug_z, ug_z, some (.inl [71])]
def ug_x30 : ug_X := (94, [some (.inl [0]), ug_z], some (ug_z), 1186237653354628150965348663828863749640034354594293836024392479933440, [[ug_s ug_l0 [], ug_s ug_l0 ug_l1, ug_s1 ug_l0 ug_l4 96, none, none, ug_s ug_l0 ug_l2, none, none, ug_s ug_l0 [], ug_s ug_l0 ug_l2, ug_s ug_l0 [], ug_s ug_l0 ug_l1, ug_s1 ug_l0 ug_l4 132, none, none, ug_s ug_l0 ug_l114, ug_s ug_l127 [], ug_s2 ug_l127 ug_l1 [71], none, none, ug_s ug_l127 ug_l128, ug_s1 ug_l127 ug_l129 194, none, none, ug_s ug_l127 [], ug_s ug_l127 ug_l2, ug_s ug_l127 [], ug_s ug_l127 ug_l2, none, ug_s ug_l127 [], none, ug_s ug_l127 ug_l2],
  [none, none, ug_s ug_l127 ug_l3, none, none, ug_s ug_l127 [], ug_s ug_l127 ug_l114, none, ug_s ug_l127 ug_l115, ug_s ug_l127 ug_l2, none, none, ug_s ug_l127 ug_l3, ug_s ug_l127 ug_l2, none, ug_s ug_l127 [], ug_s2 ug_l127 ug_l1 [71], none, none, ug_s ug_l127 ug_l128, none, ug_s ug_l127 ug_l129, ug_s ug_l127 ug_l2, none, none, ug_s ug_l127 [], none, none, ug_s ug_l127 [], ug_s2 ug_l127 ug_l1 [71], none, none],
  [ug_s ug_l127 ug_l128, none, ug_s ug_l127 ug_l129, ug_s ug_l127 ug_l130, ug_s ug_l127 ug_l131, ug_s ug_l127 ug_l132, ug_s ug_l127 ug_l131, ug_s ug_l127 [], none, none, ug_s ug_l127 [], none, none, ug_s ug_l127 [], ug_s ug_l127 ug_l2]])
def ug_l133 : List ug_T := [some (.inl [114])]
def ug_l134 : List ug_T := [ug_z, some (.inl [114])]
def ug_l135 : List ug_T := [ug_z, ug_z, some (.inl [114])]
def ug_l136 : List ug_T := [some (.inl [80]), some (.inl [114])]
def ug_l137 : List ug_T := [some (.inl [113]), some (.inl [114])]
def ug_l138 : List ug_T := [ug_z, some (.inl [113]), some (.inl [114])]
def ug_x31 : ug_X := (207, [some (.inl [80]), ug_z], some (ug_z), 12433080910244666053884556203670521002511403769933692968057806596098626695149991420231680, [[ug_s ug_l124 [], ug_s ug_l124 ug_l6, ug_s1 ug_l124 ug_l7 97, none, none, ug_s ug_l124 ug_l2, none, none, ug_s ug_l124 [], ug_s ug_l124 ug_l2, ug_s ug_l124 [], ug_s1 ug_l124 ug_l6 113, none, none, ug_s ug_l124 [], ug_s ug_l124 ug_l6, ug_s1 ug_l124 ug_l7 197, none, none, ug_s ug_l124 [], ug_s ug_l124 ug_l2, ug_s ug_l124 [], ug_s ug_l124 ug_l2, none, none, ug_s ug_l124 ug_l3, none, none, ug_s ug_l124 [], ug_s2 ug_l124 ug_l6 [114], none, none],
  [ug_s ug_l124 ug_l133, ug_s ug_l124 ug_l134, ug_s ug_l124 ug_l135, ug_s ug_l124 [], none, none, ug_s ug_l124 [], none, none, ug_s ug_l124 [], ug_s ug_l124 ug_l2, ug_s ug_l124 [], ug_s ug_l124 ug_l2, ug_s ug_l124 [], ug_s ug_l124 ug_l2, none, none, ug_s ug_l124 ug_l3, none, none, ug_s ug_l124 [], ug_s2 ug_l124 ug_l6 [114], none, none, ug_s ug_l124 ug_l133, ug_s2 ug_l124 ug_l136 [113], none, none, ug_s ug_l124 ug_l137, ug_s ug_l124 ug_l138, ug_s ug_l124 ug_l134, ug_s ug_l124 ug_l2],
  [none, none, ug_s ug_l124 [], none, none, ug_s ug_l124 [], ug_s2 ug_l124 ug_l6 [114], none, none, ug_s ug_l124 ug_l133, ug_s2 ug_l124 ug_l136 [113], none, none, ug_s ug_l124 ug_l137, ug_s ug_l124 ug_l138, ug_s ug_l124 ug_l134, ug_s ug_l124 ug_l135, ug_s ug_l124 [], none, none, ug_s ug_l124 [], none, none, ug_s ug_l124 [], ug_s ug_l124 ug_l2]])
def ug_l139 : List ug_T := [some (.inl [0]), ug_z, ug_z, ug_z, ug_z]
def ug_l140 : List ug_T := [ug_z, some (.inl [0]), some (.inl [0])]
def ug_l141 : List ug_T := [some (.inl [57, 58, 59, 60, 61, 62, 63, 64, 65, 66]), some (.inl [0])]
def ug_l142 : List ug_T := [ug_z, some (.inl [57, 58, 59, 60, 61, 62, 63, 64, 65, 66]), some (.inl [0])]
def ug_l143 : List ug_T := [some (.inl [70])]
def ug_l144 : List ug_T := [ug_z, some (.inl [70])]
def ug_x32 : ug_X := (95, [some (.inl [0]), ug_z, ug_z, ug_z], some (ug_z), 1186237653354628150965348663828863749640034354593113244403675068630016, [[ug_s ug_l139 [], ug_s ug_l139 ug_l1, ug_s1 ug_l139 ug_l4 96, none, none, ug_s ug_l139 ug_l2, none, none, ug_s ug_l139 [], ug_s ug_l139 ug_l2, ug_s ug_l139 ug_l3, none, ug_s1 ug_l139 ug_l48 100, none, none, ug_s ug_l139 ug_l2, none, none, ug_s ug_l139 [], ug_s ug_l139 ug_l2, ug_s ug_l139 ug_l3, none, none, ug_s ug_l139 [], ug_s ug_l139 ug_l2, ug_s ug_l139 [], ug_s ug_l139 ug_l1, ug_s ug_l139 ug_l9, ug_s1 ug_l139 ug_l140 132, none, none, ug_s ug_l139 ug_l141],
  [ug_s1 ug_l139 ug_l142 255, none, none, ug_s ug_l139 ug_l2, none, ug_s ug_l139 [], ug_s ug_l139 ug_l2, ug_s ug_l139 ug_l3, none, none, ug_s ug_l139 [], none, ug_s ug_l139 ug_l2, ug_s ug_l139 [], ug_s ug_l139 ug_l2, none, ug_s ug_l139 ug_l3, none, none, ug_s ug_l139 [], ug_s2 ug_l139 ug_l1 [70], none, none, ug_s ug_l139 ug_l143, ug_s ug_l139 ug_l144, ug_s ug_l139 ug_l2, none, none, ug_s ug_l139 [], ug_s ug_l139 ug_l2]])
def ug_l145 : List ug_T := [some (.inl [80]), ug_z, ug_z, ug_z, ug_z, ug_z, ug_z, ug_z]
def ug_l146 : List ug_T := [some (.inl [115])]
def ug_l147 : List ug_T := [ug_z, some (.inl [115])]
def ug_l148 : List ug_T := [ug_z, ug_z, some (.inl [115])]
def ug_l149 : List ug_T := [some (.inl [113])]
def ug_l150 : List ug_T := [ug_z, some (.inl [113])]
def ug_l151 : List ug_T := [some (.inl [80]), some (.inl [113]), ug_z]
def ug_l152 : List ug_T := [some (.inl [115]), some (.inl [113]), ug_z]
def ug_l153 : List ug_T := [ug_z, some (.inl [115]), some (.inl [113]), ug_z]
def ug_x33 : ug_X := (208, [some (.inl [80]), ug_z, ug_z, ug_z], some (ug_z), 12433080910244666053884556203670521002511403769933692988826994030237937209271976737112064, [[ug_s ug_l145 [], ug_s ug_l145 ug_l6, ug_s1 ug_l145 ug_l7 97, none, none, ug_s ug_l145 ug_l2, none, none, ug_s ug_l145 [], ug_s ug_l145 ug_l2, ug_s ug_l145 ug_l3, none, ug_s1 ug_l145 ug_l48 104, none, none, ug_s ug_l145 ug_l2, none, none, ug_s ug_l145 [], ug_s ug_l145 ug_l2, ug_s ug_l145 ug_l3, none, none, ug_s ug_l145 [], ug_s ug_l145 ug_l2, ug_s ug_l145 [], ug_s1 ug_l145 ug_l6 113, none, none, ug_s ug_l145 [], ug_s ug_l145 ug_l6, ug_s1 ug_l145 ug_l7 197],
  [none, none, ug_s ug_l145 [], ug_s ug_l145 ug_l2, none, ug_s ug_l145 [], ug_s ug_l145 ug_l2, none, ug_s ug_l145 [], none, ug_s ug_l145 ug_l2, none, none, ug_s ug_l145 ug_l3, none, none, ug_s ug_l145 [], ug_s ug_l145 ug_l2, none, ug_s ug_l145 [], ug_s ug_l145 ug_l2, none, ug_s ug_l145 [], none, ug_s ug_l145 ug_l2, none, ug_s ug_l145 ug_l3, none, none, ug_s ug_l145 [], none, ug_s ug_l145 ug_l2],
  [none, none, ug_s ug_l145 [], ug_s2 ug_l145 ug_l6 [113], none, none, ug_s ug_l145 ug_l149, none, ug_s ug_l145 ug_l150, ug_s ug_l145 ug_l2, ug_s2 ug_l145 ug_l11 [113], none, none, ug_s ug_l145 ug_l125, ug_s2 ug_l145 ug_l151 [115], none, none, ug_s ug_l145 ug_l152, none, ug_s ug_l145 ug_l153, ug_s ug_l145 ug_l126, ug_s ug_l145 ug_l3, ug_s1 ug_l145 ug_l2 126, none, none, ug_s ug_l145 ug_l2, ug_s ug_l145 ug_l3, none, none, ug_s ug_l145 [], ug_s ug_l145 ug_l2, none],
  [ug_s ug_l145 [], none, none, ug_s ug_l145 [], none, none, ug_s ug_l145 [], none, ug_s ug_l145 ug_l2, none, none, ug_s ug_l145 [], none, none, ug_s ug_l145 [], ug_s2 ug_l145 ug_l6 [115], none, none, ug_s ug_l145 ug_l146, none, ug_s ug_l145 ug_l147, none, ug_s ug_l145 ug_l148, ug_s ug_l145 [], none, none, ug_s ug_l145 [], none, none, ug_s ug_l145 [], none, none],
  [ug_s ug_l145 [], ug_s ug_l145 ug_l2, ug_s ug_l145 ug_l3, none, none, ug_s ug_l145 [], none, ug_s ug_l145 ug_l2, ug_s ug_l145 [], ug_s ug_l145 ug_l2, none, ug_s ug_l145 ug_l3, none, none, ug_s ug_l145 [], ug_s2 ug_l145 ug_l6 [115], none, none, ug_s ug_l145 ug_l146, ug_s ug_l145 ug_l147, ug_s ug_l145 ug_l2, none, none, ug_s ug_l145 [], ug_s ug_l145 ug_l2]])
def ug_l154 : List ug_T := [some (.inl [0]), ug_z, some (.inl [57, 58, 59, 60, 61, 62, 63, 64, 65, 66]), ug_z, ug_z]
def ug_l155 : List ug_T := [ug_z, ug_z, some (.inl [57, 58, 59, 60, 61, 62, 63, 64, 65, 66])]
def ug_x34 : ug_X := (97, [some (.inl [0]), ug_z], some (ug_z), 1186237653354628150965348663828863749640034354591932652782957657326592, [[ug_s ug_l139 [], ug_s ug_l139 ug_l1, ug_s1 ug_l139 ug_l4 96, none, none, ug_s ug_l139 ug_l2, none, none, ug_s ug_l139 [], ug_s ug_l139 ug_l2, ug_s ug_l139 [], ug_s ug_l139 ug_l1, ug_s1 ug_l139 ug_l4 132, none, none, ug_s ug_l139 ug_l114, ug_s ug_l154 [], ug_s ug_l154 ug_l2, ug_s ug_l154 [], ug_s ug_l154 ug_l2, none, ug_s ug_l154 [], none, ug_s ug_l154 ug_l2, none, ug_s ug_l154 ug_l3, none, none, ug_s ug_l154 [], ug_s ug_l154 ug_l114, ug_s ug_l154 ug_l115, none],
  [ug_s ug_l154 ug_l155, ug_s ug_l154 ug_l115, ug_s ug_l154 ug_l2, ug_s ug_l154 ug_l118, ug_s ug_l154 ug_l119, ug_s ug_l154 ug_l3, none, none, ug_s ug_l154 [], ug_s ug_l154 ug_l2, ug_s ug_l154 ug_l3, none, ug_s ug_l154 ug_l48, ug_s ug_l154 ug_l3, ug_s ug_l154 ug_l2, ug_s ug_l154 [], none, none, ug_s ug_l154 [], none, none, ug_s ug_l154 [], ug_s ug_l154 ug_l2]])
def ug_x35 : ug_X := (209, [some (.inl [80]), ug_z], some (ug_z), 12433080910244666053884556203670521002511403769933692936904025444889660923967013444911104, [[ug_s ug_l124 [], ug_s ug_l124 ug_l6, ug_s1 ug_l124 ug_l7 97, none, none, ug_s ug_l124 ug_l2, none, none, ug_s ug_l124 [], ug_s ug_l124 ug_l2, ug_s ug_l124 [], ug_s1 ug_l124 ug_l6 113, none, none, ug_s ug_l124 [], ug_s ug_l124 ug_l2, ug_s ug_l124 [], ug_s ug_l124 ug_l2, ug_s ug_l124 [], ug_s ug_l124 ug_l2, none, ug_s ug_l124 ug_l3, none, none, ug_s ug_l124 [], ug_s ug_l124 ug_l6, ug_s ug_l124 ug_l7, ug_s ug_l124 ug_l13, ug_s ug_l124 ug_l57, ug_s1 ug_l124 ug_l13 196, none, none],
  [ug_s ug_l124 ug_l2, ug_s ug_l124 ug_l11, ug_s ug_l124 ug_l120, ug_s1 ug_l124 ug_l121 196, none, none, ug_s ug_l124 ug_l3, none, none, ug_s ug_l124 [], ug_s ug_l124 ug_l2, ug_s ug_l124 ug_l3, ug_s ug_l124 ug_l48, ug_s ug_l124 ug_l3, ug_s ug_l124 ug_l2, ug_s ug_l124 [], none, none, ug_s ug_l124 [], none, none, ug_s ug_l124 [], ug_s ug_l124 ug_l2]])
def ug_l156 : List ug_T := [some (.inl [0]), ug_z, ug_z, ug_z, some (.inl [57, 58, 59, 60, 61, 62, 63, 64, 65, 66])]
def ug_x36 : ug_X := (98, [some (.inl [0]), ug_z, ug_z, ug_z], some (ug_z), 1186237653354628150965348663828863749640034354591932652782957657326592, [[ug_s ug_l139 [], ug_s ug_l139 ug_l1, ug_s1 ug_l139 ug_l4 96, none, none, ug_s ug_l139 ug_l2, none, none, ug_s ug_l139 [], ug_s1 ug_l139 ug_l2 98, none, none, ug_s ug_l139 ug_l2, none, none, ug_s ug_l139 [], ug_s1 ug_l139 ug_l2 98, none, none, ug_s ug_l139 ug_l2, none, none, ug_s ug_l139 [], ug_s ug_l139 ug_l2, ug_s ug_l139 [], ug_s ug_l139 ug_l1, ug_s1 ug_l139 ug_l4 132, none, none, ug_s ug_l139 ug_l114, none, ug_s ug_l156 []],
  [none, ug_s ug_l156 ug_l114, ug_s ug_l156 ug_l115, ug_s ug_l156 ug_l2, none, ug_s ug_l156 ug_l118, ug_s ug_l156 ug_l119, ug_s ug_l156 ug_l3, ug_s1 ug_l156 ug_l2 108, none, none, ug_s ug_l156 ug_l2]])
def ug_x37 : ug_X := (210, [some (.inl [80]), ug_z, ug_z, ug_z], some (ug_z), 12433080910244666053884556203670521002511403769933692936904025444889660923967013444911104, [[ug_s ug_l124 [], ug_s ug_l124 ug_l6, ug_s1 ug_l124 ug_l7 97, none, none, ug_s ug_l124 ug_l2, none, none, ug_s ug_l124 [], ug_s1 ug_l124 ug_l2 99, none, none, ug_s ug_l124 ug_l2, none, none, ug_s ug_l124 [], ug_s1 ug_l124 ug_l2 99, none, none, ug_s ug_l124 ug_l2, none, none, ug_s ug_l124 [], ug_s ug_l124 ug_l2, ug_s ug_l124 [], ug_s1 ug_l124 ug_l6 113, none, none, ug_s ug_l124 [], ug_s ug_l124 ug_l6, ug_s ug_l124 ug_l7, ug_s1 ug_l124 ug_l13 196],
  [none, none, ug_s ug_l124 ug_l2, ug_s ug_l124 ug_l11, ug_s ug_l124 ug_l120, ug_s1 ug_l124 ug_l121 196, none, none, ug_s ug_l124 ug_l3, ug_s1 ug_l124 ug_l2 126, none, none, ug_s ug_l124 ug_l2]])
def ug_l157 : List ug_T := [some (.inl [0]), ug_z, ug_z, ug_z, ug_z, ug_z, ug_z, ug_z, ug_z, ug_z]
def ug_l158 : List ug_T := [some (.inl [0]), ug_z, ug_z, some (.inl [57, 58, 59, 60, 61, 62, 63, 64, 65, 66]), ug_z, ug_z, ug_z, ug_z, ug_z, ug_z]
def ug_x38 : ug_X := (99, [some (.inl [0]), ug_z, ug_z], some (ug_z), 1186237653354628150965348663828863749640034354591932652782957657326592, [[ug_s ug_l157 [], ug_s ug_l157 ug_l1, ug_s1 ug_l157 ug_l4 96, none, none, ug_s ug_l157 ug_l2, none, none, ug_s ug_l157 [], ug_s ug_l157 ug_l2, ug_s ug_l157 ug_l3, ug_s1 ug_l157 ug_l48 100, none, none, ug_s ug_l157 ug_l2, none, none, ug_s ug_l157 [], ug_s ug_l157 ug_l2, ug_s ug_l157 [], ug_s ug_l157 ug_l1, ug_s1 ug_l157 ug_l4 132, none, none, ug_s ug_l157 ug_l114, ug_s ug_l158 [], ug_s ug_l158 ug_l2, none, ug_s ug_l158 [], ug_s ug_l158 ug_l2, none, ug_s ug_l158 []],
  [ug_s ug_l158 ug_l2, none, ug_s ug_l158 [], ug_s ug_l158 ug_l2, none, ug_s ug_l158 [], none, ug_s ug_l158 ug_l2, none, none, ug_s ug_l158 ug_l3, none, none, ug_s ug_l158 [], none, ug_s ug_l158 ug_l2, none, ug_s ug_l158 ug_l3, none, none, ug_s ug_l158 [], none, ug_s ug_l158 ug_l2, ug_s ug_l158 ug_l3, ug_s ug_l158 ug_l2, none, ug_s ug_l158 [], none, ug_s ug_l158 ug_l2, none, none, ug_s ug_l158 ug_l3],
  [none, none, ug_s ug_l158 [], ug_s ug_l158 ug_l114, none, ug_s ug_l158 ug_l115, ug_s ug_l158 ug_l2, ug_s ug_l158 ug_l118, none, ug_s ug_l158 ug_l119, ug_s ug_l158 ug_l3, ug_s1 ug_l158 ug_l2 108, none, none, ug_s ug_l158 ug_l2, none, ug_s ug_l158 [], none, ug_s ug_l158 ug_l2, none, ug_s ug_l158 ug_l3, none, none, ug_s ug_l158 [], none, ug_s ug_l158 ug_l2, none, ug_s ug_l158 [], none, ug_s ug_l158 ug_l2, none, ug_s ug_l158 []],
  [none, ug_s ug_l158 ug_l2, none, ug_s ug_l158 [], none, none, ug_s ug_l158 [], none, none, ug_s ug_l158 [], none, none, ug_s ug_l158 [], none, none, ug_s ug_l158 [], ug_s ug_l158 ug_l2, none, none, ug_s ug_l158 [], none, ug_s ug_l158 ug_l2, ug_s ug_l158 [], ug_s ug_l158 ug_l2, ug_s ug_l158 ug_l3, none, none, ug_s ug_l158 [], none, ug_s ug_l158 ug_l2, none, none],
  [ug_s ug_l158 [], none, ug_s ug_l158 ug_l2]])
def ug_l159 : List ug_T := [some (.inl [80]), ug_z, ug_z, ug_z, ug_z, ug_z, ug_z, ug_z, ug_z]
def ug_x39 : ug_X := (211, [some (.inl [80]), ug_z, ug_z], some (ug_z), 12433080910244666053884556203670521002511403769933692947288619161959316181028006103351296, [[ug_s ug_l159 [], ug_s ug_l159 ug_l6, ug_s1 ug_l159 ug_l7 97, none, none, ug_s ug_l159 ug_l2, none, none, ug_s ug_l159 [], ug_s ug_l159 ug_l2, ug_s ug_l159 ug_l3, ug_s1 ug_l159 ug_l48 104, none, none, ug_s ug_l159 ug_l2, none, none, ug_s ug_l159 [], ug_s ug_l159 ug_l2, ug_s ug_l159 [], ug_s1 ug_l159 ug_l6 113, none, none, ug_s ug_l159 [], ug_s ug_l159 ug_l6, ug_s1 ug_l159 ug_l7 197, none, none, ug_s ug_l159 [], ug_s ug_l159 ug_l2, ug_s ug_l159 [], ug_s ug_l159 ug_l2],
  [none, ug_s ug_l159 [], ug_s ug_l159 ug_l2, none, ug_s ug_l159 [], ug_s ug_l159 ug_l2, none, ug_s ug_l159 [], none, ug_s ug_l159 ug_l2, none, none, ug_s ug_l159 ug_l3, none, none, ug_s ug_l159 [], none, ug_s ug_l159 ug_l2, ug_s ug_l159 ug_l3, ug_s ug_l159 ug_l2, none, ug_s ug_l159 [], none, ug_s ug_l159 ug_l2, none, none, ug_s ug_l159 ug_l3, none, none, ug_s ug_l159 [], ug_s2 ug_l159 ug_l6 [113], none],
  [none, ug_s ug_l159 ug_l149, none, ug_s ug_l159 ug_l150, ug_s ug_l159 ug_l2, ug_s2 ug_l159 ug_l11 [113], none, none, ug_s ug_l159 ug_l125, none, ug_s ug_l159 ug_l126, ug_s ug_l159 ug_l3, ug_s1 ug_l159 ug_l2 126, none, none, ug_s ug_l159 ug_l2, none, ug_s ug_l159 [], none, ug_s ug_l159 ug_l2, ug_s ug_l159 ug_l3, none, none, ug_s ug_l159 [], none, none, ug_s ug_l159 [], none, ug_s ug_l159 ug_l2, ug_s ug_l159 [], none, ug_s ug_l159 ug_l2],
  [none, ug_s ug_l159 [], none, ug_s ug_l159 ug_l2, none, ug_s ug_l159 [], none, none, ug_s ug_l159 [], none, none, ug_s ug_l159 [], none, none, ug_s ug_l159 [], none, none, ug_s ug_l159 [], ug_s ug_l159 ug_l2, none, none, ug_s ug_l159 [], ug_s ug_l159 ug_l2, none, none, ug_s ug_l159 [], ug_s ug_l159 ug_l2, ug_s ug_l159 ug_l3, none, none, ug_s ug_l159 [], none],
  [ug_s ug_l159 ug_l2, none, none, ug_s ug_l159 [], none, ug_s ug_l159 ug_l2]])
def ug_l160 : List ug_T := [some (.inl [0]), ug_z, ug_z, some (.inl [57, 58, 59, 60, 61, 62, 63, 64, 65, 66]), ug_z, ug_z, ug_z]
def ug_l161 : List ug_T := [some (.inl [0]), ug_z, ug_z, some (.inl [57, 58, 59, 60, 61, 62, 63, 64, 65, 66]), some (.inl [57, 58, 59, 60, 61, 62, 63, 64, 65, 66]), ug_z, ug_z]
def ug_x40 : ug_X := (100, [some (.inl [0]), ug_z, ug_z], some (ug_z), 1186237653354628150965348663828863749640034354591932652782957657326592, [[ug_s ug_l122 [], ug_s ug_l122 ug_l1, ug_s1 ug_l122 ug_l4 96, none, none, ug_s ug_l122 ug_l2, none, none, ug_s ug_l122 [], ug_s ug_l122 ug_l1, ug_s1 ug_l122 ug_l4 96, none, none, ug_s ug_l122 ug_l2, none, none, ug_s ug_l122 [], ug_s ug_l122 ug_l2, ug_s ug_l122 ug_l3, none, none, ug_s ug_l122 [], ug_s ug_l122 ug_l2, ug_s ug_l122 [], ug_s ug_l122 ug_l1, ug_s1 ug_l122 ug_l4 132, none, none, ug_s ug_l122 ug_l114, ug_s ug_l160 [], ug_s ug_l160 ug_l1, ug_s1 ug_l160 ug_l4 132],
  [none, none, ug_s ug_l160 ug_l114, none, ug_s ug_l161 [], ug_s ug_l161 ug_l2, none, ug_s ug_l161 [], ug_s ug_l161 ug_l2, none, ug_s ug_l161 [], none, ug_s ug_l161 ug_l2, none, none, ug_s ug_l161 ug_l3, none, none, ug_s ug_l161 [], ug_s ug_l161 ug_l114, none, ug_s ug_l161 ug_l115, ug_s ug_l161 ug_l2, none, ug_s ug_l161 ug_l118, none, ug_s ug_l161 ug_l119, ug_s ug_l161 ug_l3, none, none, ug_s ug_l161 [], none],
  [none, ug_s ug_l161 [], none, none, ug_s ug_l161 [], none, none, ug_s ug_l161 [], none, ug_s ug_l161 ug_l2]])
def ug_l162 : List ug_T := [some (.inl [80]), ug_z, ug_z, ug_z, ug_z]
def ug_x41 : ug_X := (212, [some (.inl [80]), ug_z, ug_z], some (ug_z), 12433080910244666053884556203670521002511403769933692947288619161959316181028006103351296, [[ug_s ug_l162 [], ug_s ug_l162 ug_l6, ug_s1 ug_l162 ug_l7 97, none, none, ug_s ug_l162 ug_l2, none, none, ug_s ug_l162 [], ug_s ug_l162 ug_l6, ug_s1 ug_l162 ug_l7 97, none, none, ug_s ug_l162 ug_l2, none, none, ug_s ug_l162 [], ug_s ug_l162 ug_l2, ug_s ug_l162 ug_l3, none, none, ug_s ug_l162 [], ug_s ug_l162 ug_l2, ug_s ug_l162 [], ug_s1 ug_l162 ug_l6 113, none, none, ug_s ug_l162 [], ug_s ug_l162 ug_l6, ug_s1 ug_l162 ug_l7 197, none, none],
  [ug_s ug_l162 [], ug_s ug_l162 ug_l2, ug_s ug_l162 [], ug_s ug_l162 ug_l2, none, ug_s ug_l162 [], none, ug_s ug_l162 ug_l2, none, none, ug_s ug_l162 ug_l3, none, none, ug_s ug_l162 [], ug_s ug_l162 ug_l6, ug_s ug_l162 ug_l7, none, ug_s1 ug_l162 ug_l13 196, none, none, ug_s ug_l162 ug_l2, ug_s2 ug_l162 ug_l11 [113], none, none, ug_s ug_l162 ug_l125, none, ug_s ug_l162 ug_l126, ug_s ug_l162 ug_l3, none, none, ug_s ug_l162 [], none],
  [none, ug_s ug_l162 [], none, none, ug_s ug_l162 [], none, none, ug_s ug_l162 [], ug_s ug_l162 ug_l2]])
def ug_l163 : List ug_T := [some (.inl [0]), ug_z, some (.inl [57, 58, 59, 60, 61, 62, 63, 64, 65, 66]), ug_z]
def ug_x42 : ug_X := (101, [some (.inl [0]), ug_z], some (ug_z), 1186237653354628150965348663828863749640034354591932652782957657326592, [[ug_s ug_l116 [], ug_s ug_l116 ug_l1, ug_s1 ug_l116 ug_l4 96, none, none, ug_s ug_l116 ug_l2, none, none, ug_s ug_l116 [], ug_s ug_l116 ug_l2, ug_s ug_l116 [], ug_s ug_l116 ug_l1, ug_s1 ug_l116 ug_l4 132, none, none, ug_s ug_l116 ug_l114, ug_s ug_l163 [], ug_s ug_l163 ug_l2, ug_s ug_l163 [], ug_s ug_l163 ug_l2, none, none, ug_s ug_l163 ug_l3, none, none, ug_s ug_l163 [], ug_s ug_l163 ug_l114, ug_s ug_l163 ug_l115, ug_s ug_l163 ug_l2, ug_s ug_l163 ug_l3, none, none],
  [ug_s ug_l163 [], ug_s ug_l163 ug_l2, ug_s ug_l163 [], none, none, ug_s ug_l163 [], none, none, ug_s ug_l163 [], none, ug_s ug_l163 ug_l2]])
def ug_x43 : ug_X := (213, [some (.inl [80]), ug_z], some (ug_z), 12433080910244666053884556203670521002511403769933692936904025444889660923967013444911104, [[ug_s ug_l47 [], ug_s ug_l47 ug_l6, ug_s1 ug_l47 ug_l7 97, none, none, ug_s ug_l47 ug_l2, none, none, ug_s ug_l47 [], ug_s ug_l47 ug_l2, ug_s ug_l47 [], ug_s1 ug_l47 ug_l6 113, none, none, ug_s ug_l47 [], ug_s ug_l47 ug_l2, ug_s ug_l47 [], ug_s ug_l47 ug_l2, none, none, ug_s ug_l47 ug_l3, none, none, ug_s ug_l47 [], ug_s ug_l47 ug_l6, ug_s ug_l47 ug_l7, ug_s1 ug_l47 ug_l13 196, none, none, ug_s ug_l47 ug_l2, ug_s ug_l47 ug_l3, none],
  [none, ug_s ug_l47 [], ug_s ug_l47 ug_l2, ug_s ug_l47 [], none, none, ug_s ug_l47 [], none, none, ug_s ug_l47 [], none, ug_s ug_l47 ug_l2]])
def ug_l164 : List ug_T := [some (.inl [72])]
def ug_l165 : List ug_T := [ug_z, some (.inl [72])]
def ug_x44 : ug_X := (102, [some (.inl [0]), ug_z, ug_z], some (ug_z), 323519360005807677536004181044235568083645733077570453274544996615168, [[ug_s ug_l116 [], ug_s ug_l116 ug_l1, ug_s1 ug_l116 ug_l4 96, none, none, ug_s ug_l116 ug_l2, none, none, ug_s ug_l116 [], ug_s ug_l116 ug_l2, ug_s ug_l116 ug_l3, ug_s1 ug_l116 ug_l48 100, none, none, ug_s ug_l116 ug_l2, none, none, ug_s ug_l116 [], ug_s ug_l116 ug_l2, ug_s ug_l116 [], ug_s ug_l116 ug_l1, ug_s1 ug_l116 ug_l4 144, none, none, ug_s ug_l116 ug_l2, ug_s ug_l116 [], ug_s ug_l116 ug_l2, none, ug_s ug_l116 ug_l3, none, none, ug_s ug_l116 []],
  [ug_s ug_l116 ug_l2, ug_s ug_l116 ug_l3, none, none, ug_s ug_l116 [], ug_s ug_l116 ug_l2, ug_s ug_l116 [], ug_s ug_l116 ug_l2, ug_s ug_l116 ug_l3, none, none, ug_s ug_l116 [], ug_s2 ug_l116 ug_l1 [72], none, none, ug_s ug_l116 ug_l164, ug_s ug_l116 ug_l165, ug_s ug_l116 ug_l2, none, none, ug_s ug_l116 [], ug_s ug_l116 ug_l2]])
def ug_l166 : List ug_T := [some (.inl [109]), some (.inl [80])]
def ug_l167 : List ug_T := [ug_z, some (.inl [109]), some (.inl [80])]
def ug_l168 : List ug_T := [some (.inl [117])]
def ug_l169 : List ug_T := [ug_z, some (.inl [117])]
def ug_x45 : ug_X := (216, [some (.inl [80]), ug_z, ug_z], some (ug_z), 12433080910244666053884556203670521002511403769933693186134274654561387093430837247475712, [[ug_s ug_l124 [], ug_s ug_l124 ug_l6, ug_s1 ug_l124 ug_l7 97, none, none, ug_s ug_l124 ug_l2, none, none, ug_s ug_l124 [], ug_s ug_l124 ug_l2, ug_s ug_l124 ug_l3, ug_s1 ug_l124 ug_l48 104, none, none, ug_s ug_l124 ug_l2, none, none, ug_s ug_l124 [], ug_s ug_l124 ug_l2, ug_s ug_l124 [], ug_s1 ug_l124 ug_l6 113, none, none, ug_s ug_l124 [], ug_s ug_l124 ug_l6, ug_s1 ug_l124 ug_l7 198, none, none, ug_s ug_l124 [], ug_s ug_l124 ug_l6, ug_s2 ug_l124 ug_l12 [109], none],
  [none, ug_s ug_l124 ug_l166, ug_s ug_l124 ug_l167, ug_s ug_l124 ug_l7, ug_s2 ug_l124 ug_l28 [109], none, none, ug_s ug_l124 ug_l52, none, ug_s ug_l124 ug_l53, ug_s ug_l124 ug_l58, ug_s ug_l124 ug_l53, ug_s ug_l124 ug_l13, ug_s ug_l124 ug_l57, ug_s ug_l124 ug_l13, ug_s1 ug_l124 ug_l7 199, none, none, ug_s ug_l124 ug_l2, ug_s ug_l124 [], ug_s ug_l124 ug_l2, ug_s ug_l124 ug_l3, none, none, ug_s ug_l124 [], none, ug_s ug_l124 ug_l2, ug_s ug_l124 [], ug_s ug_l124 ug_l2, ug_s ug_l124 ug_l3, none, none],
  [ug_s ug_l124 [], ug_s ug_l124 ug_l2, ug_s ug_l124 [], ug_s ug_l124 ug_l2, ug_s ug_l124 ug_l3, none, none, ug_s ug_l124 [], ug_s2 ug_l124 ug_l6 [117], none, none, ug_s ug_l124 ug_l168, ug_s ug_l124 ug_l169, ug_s ug_l124 ug_l2, none, none, ug_s ug_l124 [], ug_s ug_l124 ug_l2]])
def ug_l170 : List ug_T := [some (.inl [26]), ug_z]
def ug_l171 : List ug_T := [some (.inl [27]), ug_z]
def ug_l172 : List ug_T := [ug_z, some (.inl [27]), ug_z]
def ug_x46 : ug_X := (105, [some (.inl [0]), ug_z, ug_z], some (ug_z), 323519360005807677536004181044235568083645733070486903550240528794624, [[ug_s ug_l122 [], ug_s ug_l122 ug_l1, ug_s1 ug_l122 ug_l4 96, none, none, ug_s ug_l122 ug_l2, none, none, ug_s ug_l122 [], ug_s ug_l122 ug_l2, ug_s ug_l122 ug_l3, ug_s1 ug_l122 ug_l48 100, none, none, ug_s ug_l122 ug_l2, none, none, ug_s ug_l122 [], ug_s ug_l122 ug_l2, ug_s ug_l122 [], ug_s ug_l122 ug_l2, ug_s ug_l122 [], ug_s ug_l122 ug_l2, none, ug_s ug_l122 [], ug_s ug_l122 ug_l2, none, ug_s ug_l122 [], none, ug_s ug_l122 ug_l2, none, ug_s ug_l122 ug_l3],
  [none, none, ug_s ug_l122 [], ug_s ug_l122 ug_l1, ug_s ug_l122 ug_l4, none, ug_s1 ug_l122 ug_l10 138, none, none, ug_s ug_l122 ug_l2, ug_s2 ug_l122 ug_l8 [26], none, none, ug_s2 ug_l122 ug_l170 [27], none, none, ug_s ug_l122 ug_l171, ug_s ug_l122 ug_l172, ug_s ug_l122 ug_l3, ug_s1 ug_l122 ug_l2 108, none, none, ug_s ug_l122 ug_l2, none, ug_s ug_l122 [], none, ug_s ug_l122 ug_l2, none, ug_s ug_l122 ug_l3, none, none, ug_s ug_l122 []],
  [none, ug_s ug_l122 ug_l2, none, ug_s ug_l122 [], none, ug_s ug_l122 ug_l2, ug_s ug_l122 [], none, none, ug_s ug_l122 [], none, none, ug_s ug_l122 [], ug_s ug_l122 ug_l2, none, none, ug_s ug_l122 [], ug_s ug_l122 ug_l2, none, none, ug_s ug_l122 [], none, ug_s ug_l122 ug_l2]])
def ug_l173 : List ug_T := [some (.inl [116])]
def ug_l174 : List ug_T := [ug_z, some (.inl [116])]
def ug_l175 : List ug_T := [some (.inl [109]), ug_z]
def ug_l176 : List ug_T := [ug_z, some (.inl [109]), ug_z]
def ug_l177 : List ug_T := [some (.inl [116]), ug_z]
def ug_l178 : List ug_T := [ug_z, some (.inl [116]), ug_z]
def ug_l179 : List ug_T := [some (.inl [109]), ug_z, ug_z]
def ug_l180 : List ug_T := [ug_z, some (.inl [109]), ug_z, ug_z]
def ug_x47 : ug_X := (217, [some (.inl [80]), ug_z, ug_z], some (ug_z), 12433080910244666053884556203670521002511403769933693019980775181446902980454954712432640, [[ug_s ug_l162 [], ug_s ug_l162 ug_l6, ug_s1 ug_l162 ug_l7 97, none, none, ug_s ug_l162 ug_l2, none, none, ug_s ug_l162 [], ug_s ug_l162 ug_l2, ug_s ug_l162 ug_l3, ug_s1 ug_l162 ug_l48 104, none, none, ug_s ug_l162 ug_l2, none, none, ug_s ug_l162 [], ug_s ug_l162 ug_l2, ug_s ug_l162 [], ug_s1 ug_l162 ug_l6 113, none, none, ug_s ug_l162 [], ug_s ug_l162 ug_l6, ug_s1 ug_l162 ug_l7 198, none, none, ug_s ug_l162 [], ug_s ug_l162 ug_l2, ug_s ug_l162 [], ug_s ug_l162 ug_l2],
  [none, ug_s ug_l162 [], none, ug_s ug_l162 ug_l2, none, ug_s ug_l162 ug_l3, none, none, ug_s ug_l162 [], ug_s2 ug_l162 ug_l6 [116], none, none, ug_s ug_l162 ug_l173, none, ug_s ug_l162 ug_l174, ug_s ug_l162 ug_l2, ug_s2 ug_l162 ug_l11 [109], none, none, ug_s ug_l162 ug_l175, ug_s ug_l162 ug_l176, ug_s ug_l162 ug_l3, ug_s1 ug_l162 ug_l2 126, none, none, ug_s ug_l162 ug_l2, ug_s2 ug_l162 ug_l11 [116], none, none, ug_s ug_l162 ug_l177, ug_s ug_l162 ug_l178, ug_s ug_l162 ug_l3],
  [ug_s2 ug_l162 ug_l47 [109], none, none, ug_s ug_l162 ug_l179, ug_s ug_l162 ug_l180, ug_s ug_l162 ug_l48, ug_s1 ug_l162 ug_l3 126, none, none, ug_s ug_l162 ug_l3, none, none, ug_s ug_l162 [], none, ug_s ug_l162 ug_l2, ug_s ug_l162 [], none, none, ug_s ug_l162 [], none, none, ug_s ug_l162 [], ug_s ug_l162 ug_l2, none, none, ug_s ug_l162 [], ug_s ug_l162 ug_l2, none, none, ug_s ug_l162 [], ug_s2 ug_l162 ug_l6 [116], none],
  [none, ug_s ug_l162 ug_l173, ug_s ug_l162 ug_l174, ug_s ug_l162 ug_l2, ug_s2 ug_l162 ug_l11 [109], none, none, ug_s ug_l162 ug_l175, ug_s ug_l162 ug_l176, ug_s ug_l162 ug_l3, ug_s1 ug_l162 ug_l2 126, none, none, ug_s ug_l162 ug_l2]])
def ug_x48 : ug_X := (106, [some (.inl [0]), ug_z], some (ug_z), 0, [[ug_s ug_l8 [], ug_s ug_l8 ug_l1, ug_s1 ug_l8 ug_l4 96, none, none, ug_s ug_l8 ug_l2, none, none, ug_s ug_l8 [], ug_s2 ug_l8 ug_l1 [26], none, none, ug_s ug_l8 ug_l33, ug_s1 ug_l8 ug_l38 146, none, none, ug_s ug_l8 ug_l2, none, none, ug_s ug_l8 [], ug_s ug_l8 ug_l2]])
def ug_x49 : ug_X := (218, [some (.inl [80]), ug_z], some (ug_z), 11935757673834879411729173955523700162410947619136345219220172552752681381867113053945856, [[ug_s ug_l11 [], ug_s ug_l11 ug_l6, ug_s1 ug_l11 ug_l7 97, none, none, ug_s ug_l11 ug_l2, none, none, ug_s ug_l11 [], ug_s ug_l11 ug_l2, ug_s ug_l11 [], ug_s1 ug_l11 ug_l6 113, none, none, ug_s ug_l11 [], ug_s ug_l11 ug_l6, ug_s1 ug_l11 ug_l7 203, none, none, ug_s ug_l11 ug_l2]])
def ug_l181 : List ug_T := [some (.inl [2, 11]), ug_z]
def ug_l182 : List ug_T := [some (.inl [71]), ug_z]
def ug_l183 : List ug_T := [ug_z, some (.inl [71]), ug_z]
def ug_x50 : ug_X := (108, [some (.inl [0]), ug_z, ug_z], some (ug_z), 323519758526442653765592515450834468691971158579190544925380837901312, [[ug_s ug_l139 [], ug_s ug_l139 ug_l2, ug_s ug_l139 ug_l3, none, ug_s1 ug_l139 ug_l48 100, none, none, ug_s ug_l139 ug_l2, none, none, ug_s ug_l139 [], ug_s ug_l139 ug_l2, ug_s ug_l139 ug_l3, ug_s1 ug_l139 ug_l48 100, none, none, ug_s ug_l139 ug_l2, none, none, ug_s ug_l139 [], ug_s ug_l139 ug_l2, ug_s ug_l139 [], ug_s2 ug_l139 ug_l1 [2, 11], none, none, ug_s ug_l139 ug_l75, none, none, ug_s ug_l139 ug_l2, none, none, ug_s ug_l139 []],
  [none, ug_s ug_l139 ug_l2, ug_s ug_l139 [], ug_s ug_l139 ug_l1, ug_s1 ug_l139 ug_l4 151, none, none, ug_s ug_l139 [], ug_s ug_l139 ug_l2, ug_s ug_l139 [], ug_s ug_l139 ug_l2, none, ug_s ug_l139 [], none, ug_s ug_l139 ug_l2, ug_s2 ug_l139 ug_l8 [2, 11], none, none, ug_s ug_l139 ug_l181, none, none, ug_s ug_l139 ug_l3, none, none, ug_s ug_l139 [], ug_s2 ug_l139 ug_l1 [71], none, none, ug_s ug_l139 ug_l128, none, ug_s ug_l139 ug_l129, ug_s ug_l139 ug_l2],
  [ug_s2 ug_l139 ug_l8 [71], none, none, ug_s ug_l139 ug_l182, ug_s ug_l139 ug_l183, ug_s ug_l139 ug_l3, none, none, ug_s ug_l139 [], none, ug_s ug_l139 ug_l2, ug_s ug_l139 [], none, none, ug_s ug_l139 [], none, none, ug_s ug_l139 [], ug_s ug_l139 ug_l2, none, none, ug_s ug_l139 [], ug_s ug_l139 ug_l2, none, none, ug_s ug_l139 [], ug_s2 ug_l139 ug_l1 [71], none, none, ug_s ug_l139 ug_l128, ug_s ug_l139 ug_l129, ug_s ug_l139 ug_l2]])
def ug_l184 : List ug_T := [some (.inl [118])]
def ug_l185 : List ug_T := [ug_z, some (.inl [118])]
def ug_l186 : List ug_T := [ug_z, ug_z, some (.inl [118])]
def ug_l187 : List ug_T := [some (.inl [89]), ug_z]
def ug_l188 : List ug_T := [some (.inl [80]), some (.inl [89]), ug_z]
def ug_l189 : List ug_T := [ug_z, some (.inl [89]), ug_z]
def ug_l190 : List ug_T := [ug_z, some (.inl [118]), ug_z, some (.inl [118])]
def ug_l191 : List ug_T := [some (.inl [80]), ug_z, ug_z, some (.inl [118])]
def ug_l192 : List ug_T := [some (.inl [109]), ug_z, ug_z, some (.inl [118])]
def ug_l193 : List ug_T := [ug_z, some (.inl [109]), ug_z, ug_z, some (.inl [118])]
def ug_l194 : List ug_T := [ug_z, ug_z, some (.inl [109]), ug_z, ug_z, some (.inl [118])]
def ug_l195 : List ug_T := [ug_z, ug_z, ug_z, some (.inl [118])]
def ug_l196 : List ug_T := [some (.inl [118]), ug_z]
def ug_l197 : List ug_T := [ug_z, some (.inl [118]), ug_z]
def ug_x51 : ug_X := (219, [some (.inl [80]), ug_z, ug_z], some (ug_z), 12433080910244666053884556203670521002511403769933693273105247035019749871316650761912320, [[ug_s ug_l162 [], ug_s1 ug_l162 ug_l2 103, none, none, ug_s ug_l162 ug_l2, none, none, ug_s ug_l162 [], ug_s ug_l162 ug_l2, ug_s ug_l162 ug_l3, ug_s1 ug_l162 ug_l48 104, none, none, ug_s ug_l162 ug_l2, none, none, ug_s ug_l162 [], ug_s ug_l162 ug_l2, ug_s ug_l162 [], ug_s2 ug_l162 ug_l6 [89], none, none, ug_s ug_l162 ug_l76, ug_s ug_l162 ug_l77, none, none, ug_s ug_l162 ug_l78, ug_s ug_l162 ug_l2, none, none, ug_s ug_l162 [], none],
  [ug_s ug_l162 ug_l2, ug_s ug_l162 [], ug_s1 ug_l162 ug_l6 158, none, none, ug_s ug_l162 [], ug_s ug_l162 ug_l2, ug_s ug_l162 [], ug_s ug_l162 ug_l2, none, ug_s ug_l162 ug_l3, none, none, ug_s ug_l162 [], ug_s2 ug_l162 ug_l6 [118], none, none, ug_s ug_l162 ug_l184, ug_s ug_l162 ug_l185, ug_s ug_l162 ug_l186, ug_s ug_l162 [], none, none, ug_s ug_l162 [], none, none, ug_s ug_l162 [], ug_s ug_l162 ug_l2, ug_s ug_l162 [], ug_s ug_l162 ug_l2, ug_s ug_l162 ug_l3, none],
  [none, ug_s ug_l162 [], ug_s1 ug_l162 ug_l6 202, none, none, ug_s ug_l162 [], ug_s ug_l162 ug_l2, none, ug_s ug_l162 [], none, ug_s ug_l162 ug_l2, ug_s2 ug_l162 ug_l11 [89], none, none, ug_s ug_l162 ug_l187, ug_s ug_l162 ug_l188, none, none, ug_s ug_l162 ug_l189, ug_s ug_l162 ug_l3, none, none, ug_s ug_l162 [], ug_s2 ug_l162 ug_l6 [118], none, none, ug_s ug_l162 ug_l184, none, ug_s ug_l162 ug_l185, ug_s ug_l162 ug_l190, ug_s ug_l162 ug_l186, ug_s2 ug_l162 ug_l191 [109]],
  [none, none, ug_s ug_l162 ug_l192, none, ug_s ug_l162 ug_l193, none, ug_s ug_l162 ug_l194, ug_s ug_l162 ug_l193, ug_s1 ug_l162 ug_l195 126, none, none, ug_s ug_l162 ug_l195, ug_s ug_l162 ug_l186, ug_s ug_l162 [], none, none, ug_s ug_l162 [], none, none, ug_s ug_l162 [], none, none, ug_s ug_l162 [], none, none, ug_s ug_l162 [], ug_s ug_l162 ug_l2, ug_s ug_l162 [], ug_s ug_l162 ug_l2, none, ug_s ug_l162 [], none],
  [ug_s ug_l162 ug_l2, ug_s2 ug_l162 ug_l11 [89], none, none, ug_s ug_l162 ug_l187, ug_s ug_l162 ug_l188, none, none, ug_s ug_l162 ug_l189, ug_s ug_l162 ug_l3, none, none, ug_s ug_l162 [], ug_s2 ug_l162 ug_l6 [118], none, none, ug_s ug_l162 ug_l184, none, ug_s ug_l162 ug_l185, ug_s ug_l162 ug_l2, ug_s2 ug_l162 ug_l11 [118], none, none, ug_s ug_l162 ug_l196, ug_s ug_l162 ug_l197, ug_s ug_l162 ug_l3, none, none, ug_s ug_l162 [], none, ug_s ug_l162 ug_l2, ug_s ug_l162 []],
  [none, none, ug_s ug_l162 [], none, none, ug_s ug_l162 [], ug_s ug_l162 ug_l2, none, none, ug_s ug_l162 [], ug_s ug_l162 ug_l2, none, none, ug_s ug_l162 [], ug_s2 ug_l162 ug_l6 [118], none, none, ug_s ug_l162 ug_l184, ug_s ug_l162 ug_l185, ug_s ug_l162 ug_l2]])
def ug_l198 : List ug_T := [ug_z, ug_z, ug_z, some (.inl [0])]
def ug_l199 : List ug_T := [some (.inl [33])]
def ug_x52 : ug_X := (110, [some (.inl [0]), ug_z], some (ug_z), 323519758526442653765592515450834468691971158576829361683946015294464, [[ug_s ug_l8 [], ug_s ug_l8 ug_l2, ug_s ug_l8 ug_l3, none, ug_s1 ug_l8 ug_l48 100, none, none, ug_s ug_l8 ug_l2, none, none, ug_s ug_l8 [], ug_s ug_l8 ug_l2, ug_s ug_l8 [], ug_s ug_l8 ug_l1, ug_s ug_l8 ug_l4, ug_s ug_l8 ug_l10, ug_s1 ug_l8 ug_l198 139, none, none, ug_s ug_l8 [], ug_s2 ug_l8 ug_l1 [33], none, none, ug_s1 ug_l8 ug_l199 149, none, none, ug_s1 ug_l8 ug_l2 108, none, none, ug_s ug_l8 ug_l2]])
def ug_x53 : ug_X := (220, [some (.inl [80]), ug_z], some (ug_z), 12433080910244666053884556203670521002511403769933692940798248088790781645364885691826176, [[ug_s ug_l124 [], ug_s1 ug_l124 ug_l2 101, none, none, ug_s ug_l124 ug_l2, none, none, ug_s ug_l124 [], ug_s ug_l124 ug_l2, ug_s ug_l124 [], ug_s1 ug_l124 ug_l6 158, none, none, ug_s ug_l124 [], ug_s ug_l124 ug_l6, ug_s1 ug_l124 ug_l7 159, none, none, ug_s ug_l124 [], ug_s ug_l124 ug_l2, ug_s ug_l124 [], ug_s ug_l124 ug_l2, ug_s ug_l124 [], ug_s ug_l124 ug_l2, ug_s2 ug_l124 ug_l11 [89], none, none, ug_s ug_l124 ug_l187, ug_s ug_l124 ug_l188, none, none, ug_s ug_l124 ug_l189],
  [ug_s ug_l124 ug_l3, none, none, ug_s ug_l124 [], ug_s2 ug_l124 ug_l6 [109], none, none, ug_s ug_l124 ug_l49, none, ug_s ug_l124 ug_l50, ug_s ug_l124 ug_l51, ug_s ug_l124 ug_l50, ug_s ug_l124 ug_l2, none, none, ug_s ug_l124 [], none, none, ug_s ug_l124 [], none, none, ug_s ug_l124 [], none, none, ug_s ug_l124 [], ug_s ug_l124 ug_l2]])
def ug_x54 : ug_X := (111, [some (.inl [0]), ug_z], some (ug_z), 0, [[ug_s ug_l32 [], ug_s ug_l32 ug_l2, ug_s ug_l32 [], ug_s ug_l32 ug_l2, ug_s2 ug_l32 ug_l8 [2, 11], none, none, ug_s ug_l32 ug_l181, none, none, ug_s ug_l32 ug_l3, none, none, ug_s ug_l32 [], ug_s2 ug_l32 ug_l1 [26], none, none, ug_s2 ug_l32 ug_l33 [30], none, none, ug_s ug_l32 ug_l44, ug_s ug_l32 ug_l45, ug_s ug_l32 ug_l2, ug_s ug_l32 ug_l3, none, none, ug_s ug_l32 [], ug_s ug_l32 ug_l2, ug_s ug_l32 [], none, none, ug_s ug_l32 []],
  [none, none, ug_s ug_l32 [], ug_s ug_l32 ug_l2]])
def ug_x55 : ug_X := (221, [some (.inl [80]), ug_z], some (ug_z), 0, [[ug_s ug_l47 [], ug_s ug_l47 ug_l2, ug_s ug_l47 [], ug_s ug_l47 ug_l2, ug_s2 ug_l47 ug_l11 [89], none, none, ug_s ug_l47 ug_l187, ug_s ug_l47 ug_l188, none, none, ug_s ug_l47 ug_l189, ug_s ug_l47 ug_l3, none, none, ug_s ug_l47 [], ug_s2 ug_l47 ug_l6 [108], none, none, ug_s ug_l47 ug_l72, none, ug_s ug_l47 ug_l73, ug_s ug_l47 ug_l74, ug_s ug_l47 ug_l73, ug_s ug_l47 ug_l2, ug_s ug_l47 ug_l3, none, none, ug_s ug_l47 [], ug_s ug_l47 ug_l2, ug_s ug_l47 [], none],
  [none, ug_s ug_l47 [], none, none, ug_s ug_l47 [], ug_s ug_l47 ug_l2]])
def ug_l200 : List ug_T := [some (.inl [0]), some (.inl [33])]
def ug_l201 : List ug_T := [some (.inl [26]), some (.inl [33])]
def ug_l202 : List ug_T := [some (.inl [2, 11]), some (.inl [33])]
def ug_l203 : List ug_T := [some (.inl [0]), some (.inl [2, 11]), some (.inl [33])]
def ug_l204 : List ug_T := [some (.inl [50]), some (.inl [2, 11]), some (.inl [33])]
def ug_l205 : List ug_T := [ug_z, some (.inl [50]), some (.inl [2, 11]), some (.inl [33])]
def ug_l206 : List ug_T := [some (.inl [0]), ug_z, some (.inl [50]), some (.inl [2, 11]), some (.inl [33])]
def ug_l207 : List ug_T := [some (.inl [2, 11]), ug_z, some (.inl [50]), some (.inl [2, 11]), some (.inl [33])]
def ug_l208 : List ug_T := [ug_z, ug_z, some (.inl [50]), some (.inl [2, 11]), some (.inl [33])]
def ug_l209 : List ug_T := [some (.inl [38])]
def ug_l210 : List ug_T := [ug_z, some (.inl [38])]
def ug_x56 : ug_X := (112, [some (.inl [0]), ug_z], some (ug_z), 323519758526442653765592515450834468691971158576829361683946015294464, [[ug_s ug_l32 [], ug_s ug_l32 ug_l1, ug_s1 ug_l32 ug_l4 96, none, none, ug_s ug_l32 ug_l2, none, none, ug_s ug_l32 [], ug_s ug_l32 ug_l2, ug_s ug_l32 [], ug_s2 ug_l32 ug_l1 [33], none, none, ug_s ug_l32 ug_l199, ug_s2 ug_l32 ug_l200 [26], none, none, ug_s1 ug_l32 ug_l201 135, none, none, ug_s ug_l32 [], ug_s ug_l32 ug_l2, ug_s ug_l32 [], ug_s ug_l32 ug_l2, none, ug_s ug_l32 ug_l3, none, none, ug_s ug_l32 [], ug_s2 ug_l32 ug_l1 [33], none],
  [none, ug_s ug_l32 ug_l199, ug_s2 ug_l32 ug_l200 [2, 11], none, none, ug_s ug_l32 ug_l202, ug_s2 ug_l32 ug_l203 [50], none, none, ug_s ug_l32 ug_l204, ug_s ug_l32 ug_l205, ug_s2 ug_l32 ug_l206 [2, 11], none, none, ug_s ug_l32 ug_l207, none, none, ug_s1 ug_l32 ug_l208 136, none, none, ug_s ug_l32 [], ug_s2 ug_l32 ug_l1 [33], none, none, ug_s2 ug_l32 ug_l199 [38], none, none, ug_s ug_l32 ug_l209, ug_s ug_l32 ug_l210, ug_s ug_l32 ug_l2, none, none],
  [ug_s ug_l32 [], ug_s ug_l32 ug_l2, ug_s ug_l32 [], none, none, ug_s ug_l32 [], none, none, ug_s ug_l32 [], none, ug_s ug_l32 ug_l2]])
def ug_x57 : ug_X := (222, [some (.inl [80]), ug_z], some (ug_z), 12433080910244666053884556203670521002511403769933692940798248088790781645364885691826176, [[ug_s ug_l47 [], ug_s ug_l47 ug_l6, ug_s1 ug_l47 ug_l7 97, none, none, ug_s ug_l47 ug_l2, none, none, ug_s ug_l47 [], ug_s ug_l47 ug_l2, ug_s ug_l47 [], ug_s1 ug_l47 ug_l6 158, none, none, ug_s ug_l47 [], ug_s ug_l47 ug_l2, ug_s ug_l47 [], ug_s ug_l47 ug_l2, none, ug_s ug_l47 ug_l3, none, none, ug_s ug_l47 [], ug_s1 ug_l47 ug_l6 202, none, none, ug_s ug_l47 [], ug_s2 ug_l47 ug_l6 [109], none, none, ug_s ug_l47 ug_l49, none],
  [ug_s ug_l47 ug_l50, ug_s ug_l47 ug_l51, ug_s ug_l47 ug_l50, ug_s ug_l47 ug_l2, none, none, ug_s ug_l47 [], ug_s ug_l47 ug_l2, ug_s ug_l47 [], none, none, ug_s ug_l47 [], none, none, ug_s ug_l47 [], none, ug_s ug_l47 ug_l2]])
def ug_l211 : List ug_T := [some (.inl [0]), ug_z, ug_z, some (.inl [0])]
def ug_l212 : List ug_T := [some (.inl [2, 11]), ug_z, ug_z, some (.inl [0])]
def ug_l213 : List ug_T := [some (.inl [36])]
def ug_l214 : List ug_T := [ug_z, some (.inl [36])]
def ug_x58 : ug_X := (113, [some (.inl [0]), ug_z, ug_z, ug_z], some (ug_z), 323519758526442653765592515450834468691971158576829361683946015294464, [[ug_s ug_l116 [], ug_s ug_l116 ug_l2, ug_s ug_l116 ug_l3, none, ug_s1 ug_l116 ug_l48 100, none, none, ug_s ug_l116 ug_l2, none, none, ug_s ug_l116 [], ug_s ug_l116 ug_l2, ug_s ug_l116 ug_l3, ug_s1 ug_l116 ug_l48 100, none, none, ug_s ug_l116 ug_l2, none, none, ug_s ug_l116 [], ug_s ug_l116 ug_l2, ug_s ug_l116 [], ug_s ug_l116 ug_l2, ug_s ug_l116 ug_l3, none, none, ug_s ug_l116 [], ug_s ug_l116 ug_l1, ug_s1 ug_l116 ug_l4 96, none, none, ug_s ug_l116 ug_l2],
  [none, none, ug_s ug_l116 [], ug_s ug_l116 ug_l2, ug_s ug_l116 [], ug_s ug_l116 ug_l1, ug_s ug_l116 ug_l4, ug_s ug_l116 ug_l10, ug_s2 ug_l116 ug_l211 [2, 11], none, none, ug_s ug_l116 ug_l212, none, none, ug_s1 ug_l116 ug_l198 139, none, none, ug_s ug_l116 [], ug_s ug_l116 ug_l2, ug_s ug_l116 ug_l3, none, none, ug_s ug_l116 [], ug_s2 ug_l116 ug_l1 [33], none, none, ug_s1 ug_l116 ug_l199 153, none, none, ug_s1 ug_l116 ug_l2 108, none, none],
  [ug_s ug_l116 ug_l2, ug_s ug_l116 [], ug_s ug_l116 ug_l2, none, none, ug_s ug_l116 [], ug_s2 ug_l116 ug_l1 [33], none, none, ug_s2 ug_l116 ug_l199 [38], none, none, ug_s ug_l116 ug_l209, ug_s ug_l116 ug_l210, ug_s ug_l116 ug_l2, none, none, ug_s ug_l116 [], ug_s2 ug_l116 ug_l1 [33], none, none, ug_s2 ug_l116 ug_l199 [36], none, none, ug_s ug_l116 ug_l213, ug_s ug_l116 ug_l214, ug_s1 ug_l116 ug_l2 108, none, none, ug_s ug_l116 ug_l2]])
def ug_x59 : ug_X := (223, [some (.inl [80]), ug_z, ug_z, ug_z], some (ug_z), 12433080910244666053884556203670521002511403769933692940798248088790781645364885691826176, [[ug_s ug_l124 [], ug_s1 ug_l124 ug_l2 101, none, none, ug_s ug_l124 ug_l2, none, none, ug_s ug_l124 [], ug_s ug_l124 ug_l2, ug_s ug_l124 ug_l3, ug_s1 ug_l124 ug_l48 104, none, none, ug_s ug_l124 ug_l2, none, none, ug_s ug_l124 [], ug_s ug_l124 ug_l2, ug_s ug_l124 ug_l3, none, none, ug_s ug_l124 [], ug_s ug_l124 ug_l6, ug_s1 ug_l124 ug_l7 97, none, none, ug_s ug_l124 ug_l2, none, none, ug_s ug_l124 [], ug_s ug_l124 ug_l2, ug_s ug_l124 []],
  [ug_s1 ug_l124 ug_l6 113, none, none, ug_s ug_l124 [], ug_s ug_l124 ug_l6, ug_s1 ug_l124 ug_l7 159, none, none, ug_s ug_l124 [], ug_s ug_l124 ug_l2, none, none, ug_s ug_l124 [], ug_s2 ug_l124 ug_l6 [109], none, none, ug_s ug_l124 ug_l49, none, ug_s ug_l124 ug_l50, ug_s ug_l124 ug_l51, ug_s ug_l124 ug_l50, ug_s ug_l124 ug_l2, none, none, ug_s ug_l124 [], ug_s ug_l124 ug_l2, ug_s ug_l124 ug_l3, none, none, ug_s ug_l124 [], ug_s2 ug_l124 ug_l6 [109], none],
  [none, ug_s ug_l124 ug_l49, none, ug_s ug_l124 ug_l50, ug_s ug_l124 ug_l51, ug_s ug_l124 ug_l50, ug_s1 ug_l124 ug_l2 126, none, none, ug_s ug_l124 ug_l2, none, none, ug_s ug_l124 [], ug_s1 ug_l124 ug_l6 160, none, none, ug_s ug_l124 ug_l2]])
def ug_x60 : ug_X := (114, [some (.inl [0]), ug_z, ug_z], some (ug_z), 323519758526442653765592515450834468691971158576829361683946015294464, [[ug_s ug_l139 [], ug_s ug_l139 ug_l1, ug_s1 ug_l139 ug_l4 96, none, none, ug_s ug_l139 ug_l2, none, none, ug_s ug_l139 [], ug_s ug_l139 ug_l2, ug_s ug_l139 ug_l3, none, ug_s1 ug_l139 ug_l48 100, none, none, ug_s ug_l139 ug_l2, none, none, ug_s ug_l139 [], ug_s ug_l139 ug_l2, ug_s ug_l139 [], ug_s ug_l139 ug_l2, ug_s ug_l139 [], ug_s2 ug_l139 ug_l1 [33], none, none, ug_s ug_l139 ug_l199, ug_s2 ug_l139 ug_l200 [26], none, none, ug_s1 ug_l139 ug_l201 135, none],
  [none, ug_s ug_l139 [], ug_s ug_l139 ug_l2, none, ug_s ug_l139 [], none, ug_s ug_l139 ug_l2, ug_s ug_l139 ug_l3, none, none, ug_s ug_l139 [], ug_s2 ug_l139 ug_l1 [33], none, none, ug_s ug_l139 ug_l199, ug_s2 ug_l139 ug_l200 [2, 11], none, none, ug_s ug_l139 ug_l202, ug_s2 ug_l139 ug_l203 [50], none, none, ug_s ug_l139 ug_l204, ug_s ug_l139 ug_l205, ug_s1 ug_l139 ug_l208 136, none, none, ug_s ug_l139 [], ug_s2 ug_l139 ug_l1 [33], none, none, ug_s2 ug_l139 ug_l199 [38]],
  [none, none, ug_s ug_l139 ug_l209, ug_s ug_l139 ug_l210, ug_s ug_l139 ug_l2, none, none, ug_s ug_l139 [], none, none, ug_s ug_l139 [], none, none, ug_s ug_l139 [], none, none, ug_s ug_l139 [], ug_s ug_l139 ug_l2]])
def ug_x61 : ug_X := (224, [some (.inl [80]), ug_z, ug_z], some (ug_z), 12433080910244666053884556203670521002511403769933692940798248088790781645364885691826176, [[ug_s ug_l162 [], ug_s ug_l162 ug_l6, ug_s1 ug_l162 ug_l7 97, none, none, ug_s ug_l162 ug_l2, none, none, ug_s ug_l162 [], ug_s1 ug_l162 ug_l2 103, none, none, ug_s ug_l162 ug_l2, none, none, ug_s ug_l162 [], ug_s ug_l162 ug_l2, ug_s ug_l162 [], ug_s1 ug_l162 ug_l6 158, none, none, ug_s ug_l162 [], ug_s ug_l162 ug_l2, ug_s ug_l162 [], ug_s ug_l162 ug_l2, none, ug_s ug_l162 [], none, ug_s ug_l162 ug_l2, ug_s ug_l162 ug_l3, none, none],
  [ug_s ug_l162 [], ug_s1 ug_l162 ug_l6 202, none, none, ug_s ug_l162 [], ug_s2 ug_l162 ug_l6 [109], none, none, ug_s ug_l162 ug_l49, none, ug_s ug_l162 ug_l50, ug_s ug_l162 ug_l51, ug_s ug_l162 ug_l50, ug_s ug_l162 ug_l2, none, none, ug_s ug_l162 [], none, none, ug_s ug_l162 [], none, none, ug_s ug_l162 [], none, none, ug_s ug_l162 [], ug_s ug_l162 ug_l2]])
def ug_x62 : ug_X := (115, [some (.inl [0]), ug_z], some (ug_z), 323519758526442653765592515450834468691971158576829361683946015294464, [[ug_s ug_l8 [], ug_s ug_l8 ug_l2, ug_s ug_l8 ug_l3, none, ug_s1 ug_l8 ug_l48 100, none, none, ug_s ug_l8 ug_l2, none, none, ug_s ug_l8 [], ug_s ug_l8 ug_l2, ug_s ug_l8 [], ug_s ug_l8 ug_l1, ug_s ug_l8 ug_l4, ug_s ug_l8 ug_l10, ug_s2 ug_l8 ug_l211 [2, 11], none, none, ug_s ug_l8 ug_l212, none, none, ug_s1 ug_l8 ug_l198 139, none, none, ug_s ug_l8 [], ug_s2 ug_l8 ug_l1 [33], none, none, ug_s1 ug_l8 ug_l199 152, none, none],
  [ug_s1 ug_l8 ug_l2 108, none, none, ug_s ug_l8 ug_l2]])
def ug_x63 : ug_X := (226, [some (.inl [80]), ug_z], some (ug_z), 12433080910244666053884556203670521002511403769933692940798248088790781645364885691826176, [[ug_s ug_l11 [], ug_s1 ug_l11 ug_l2 101, none, none, ug_s ug_l11 ug_l2, none, none, ug_s ug_l11 [], ug_s ug_l11 ug_l2, ug_s ug_l11 [], ug_s1 ug_l11 ug_l6 113, none, none, ug_s ug_l11 [], ug_s ug_l11 ug_l6, ug_s1 ug_l11 ug_l7 159, none, none, ug_s ug_l11 [], ug_s1 ug_l11 ug_l6 115, none, none, ug_s1 ug_l11 ug_l2 126, none, none, ug_s ug_l11 ug_l2]])
def ug_l215 : List ug_T := [ug_z, some (.inl [26]), ug_z]
def ug_x64 : ug_X := (116, [some (.inl [0]), ug_z], some (ug_z), 0, [[ug_s ug_l122 [], ug_s ug_l122 ug_l2, ug_s ug_l122 ug_l3, ug_s1 ug_l122 ug_l48 100, none, none, ug_s ug_l122 ug_l2, none, none, ug_s ug_l122 [], ug_s ug_l122 ug_l2, ug_s ug_l122 [], ug_s ug_l122 ug_l2, ug_s ug_l122 [], none, ug_s ug_l122 ug_l2, ug_s ug_l122 [], ug_s ug_l122 ug_l2, none, ug_s ug_l122 [], none, ug_s ug_l122 ug_l2, ug_s2 ug_l122 ug_l8 [2, 11], none, none, ug_s ug_l122 ug_l181, none, none, ug_s ug_l122 ug_l3, none, none, ug_s ug_l122 []],
  [ug_s ug_l122 ug_l2, none, ug_s ug_l122 [], none, ug_s ug_l122 ug_l2, ug_s2 ug_l122 ug_l8 [2, 11], none, none, ug_s ug_l122 ug_l181, none, none, ug_s ug_l122 ug_l3, none, none, ug_s ug_l122 [], ug_s2 ug_l122 ug_l1 [26], none, none, ug_s2 ug_l122 ug_l33 [31], none, none, ug_s ug_l122 ug_l41, none, ug_s ug_l122 ug_l42, ug_s ug_l122 ug_l2, ug_s2 ug_l122 ug_l8 [26], none, none, ug_s ug_l122 ug_l170, none, ug_s1 ug_l122 ug_l215 124, none],
  [none, ug_s ug_l122 ug_l3, ug_s1 ug_l122 ug_l2 108, none, none, ug_s ug_l122 ug_l2, none, ug_s ug_l122 [], none, ug_s ug_l122 ug_l2, none, ug_s ug_l122 ug_l3, none, none, ug_s ug_l122 [], none, ug_s ug_l122 ug_l2, ug_s ug_l122 ug_l3, none, none, ug_s ug_l122 [], none, ug_s ug_l122 ug_l2, ug_s ug_l122 [], none, ug_s ug_l122 ug_l2, none, ug_s ug_l122 ug_l3, ug_s ug_l122 ug_l2, none, ug_s ug_l122 ug_l3, ug_s ug_l122 ug_l2],
  [ug_s ug_l122 [], none, none, ug_s ug_l122 [], none, none, ug_s ug_l122 [], none, none, ug_s ug_l122 [], none, none, ug_s ug_l122 [], ug_s ug_l122 ug_l2, none, none, ug_s ug_l122 [], ug_s ug_l122 ug_l2, none, ug_s ug_l122 ug_l3, none, none, ug_s ug_l122 [], ug_s ug_l122 ug_l2, none, none, ug_s ug_l122 [], ug_s ug_l122 ug_l2]])
def ug_l216 : List ug_T := [some (.inl [80]), ug_z, ug_z, ug_z, ug_z, ug_z, ug_z]
def ug_l217 : List ug_T := [some (.inl [108]), ug_z]
def ug_l218 : List ug_T := [ug_z, some (.inl [108]), ug_z]
def ug_l219 : List ug_T := [ug_z, ug_z, some (.inl [108]), ug_z]
def ug_x65 : ug_X := (227, [some (.inl [80]), ug_z], some (ug_z), 0, [[ug_s ug_l216 [], ug_s ug_l216 ug_l2, ug_s ug_l216 ug_l3, ug_s1 ug_l216 ug_l48 104, none, none, ug_s ug_l216 ug_l2, none, none, ug_s ug_l216 [], ug_s ug_l216 ug_l2, ug_s ug_l216 [], none, ug_s ug_l216 ug_l2, ug_s ug_l216 [], ug_s ug_l216 ug_l2, ug_s ug_l216 [], ug_s ug_l216 ug_l2, none, ug_s ug_l216 [], none, ug_s ug_l216 ug_l2, ug_s2 ug_l216 ug_l11 [89], none, none, ug_s ug_l216 ug_l187, ug_s ug_l216 ug_l188, none, none, ug_s ug_l216 ug_l189, ug_s ug_l216 ug_l3, none],
  [none, ug_s ug_l216 [], ug_s ug_l216 ug_l2, none, ug_s ug_l216 [], none, ug_s ug_l216 ug_l2, ug_s2 ug_l216 ug_l11 [89], none, none, ug_s ug_l216 ug_l187, ug_s ug_l216 ug_l188, none, none, ug_s ug_l216 ug_l189, ug_s ug_l216 ug_l3, none, none, ug_s ug_l216 [], ug_s2 ug_l216 ug_l6 [108], none, none, ug_s ug_l216 ug_l72, none, ug_s ug_l216 ug_l73, none, ug_s ug_l216 ug_l74, ug_s ug_l216 ug_l73, ug_s ug_l216 ug_l2, ug_s2 ug_l216 ug_l11 [108], none, none],
  [ug_s ug_l216 ug_l217, none, ug_s ug_l216 ug_l218, ug_s ug_l216 ug_l3, ug_s ug_l216 ug_l2, ug_s2 ug_l216 ug_l11 [108], none, none, ug_s ug_l216 ug_l217, none, ug_s ug_l216 ug_l218, none, ug_s ug_l216 ug_l219, ug_s ug_l216 ug_l218, ug_s ug_l216 ug_l3, ug_s ug_l216 ug_l48, ug_s ug_l216 ug_l3, ug_s1 ug_l216 ug_l2 126, none, none, ug_s ug_l216 ug_l2, none, ug_s ug_l216 [], none, ug_s ug_l216 ug_l2, none, ug_s ug_l216 ug_l3, none, none, ug_s ug_l216 [], none, ug_s ug_l216 ug_l2],
  [ug_s ug_l216 ug_l3, none, none, ug_s ug_l216 [], none, none, ug_s ug_l216 [], none, ug_s ug_l216 ug_l2, none, ug_s ug_l216 ug_l3, ug_s ug_l216 ug_l2, none, ug_s ug_l216 ug_l3, ug_s ug_l216 ug_l2, ug_s ug_l216 [], none, ug_s ug_l216 ug_l2, ug_s ug_l216 [], none, none, ug_s ug_l216 [], none, none, ug_s ug_l216 [], none, none, ug_s ug_l216 [], none, none, ug_s ug_l216 [], ug_s ug_l216 ug_l2],
  [none, none, ug_s ug_l216 [], ug_s ug_l216 ug_l2, none, none, ug_s ug_l216 [], ug_s ug_l216 ug_l2, none, none, ug_s ug_l216 [], ug_s ug_l216 ug_l2]])
def ug_x66 : ug_X := (117, [some (.inl [0]), ug_z], some (ug_z), 0, [[ug_s ug_l8 [], ug_s ug_l8 ug_l1, ug_s1 ug_l8 ug_l4 96, none, none, ug_s ug_l8 ug_l2, none, none, ug_s ug_l8 [], ug_s2 ug_l8 ug_l1 [26], none, none, ug_s ug_l8 ug_l33, ug_s1 ug_l8 ug_l38 124, none, none, ug_s ug_l8 ug_l2, none, none, ug_s ug_l8 [], ug_s ug_l8 ug_l2]])
def ug_x67 : ug_X := (228, [some (.inl [80]), ug_z], some (ug_z), 0, [[ug_s ug_l11 [], ug_s ug_l11 ug_l6, ug_s1 ug_l11 ug_l7 97, none, none, ug_s ug_l11 ug_l2, none, none, ug_s ug_l11 [], ug_s2 ug_l11 ug_l6 [108], none, none, ug_s ug_l11 ug_l72, ug_s ug_l11 ug_l73, ug_s ug_l11 ug_l2, ug_s2 ug_l11 ug_l11 [108], none, none, ug_s ug_l11 ug_l217, none, ug_s ug_l11 ug_l218, ug_s ug_l11 ug_l219, ug_s ug_l11 ug_l218, ug_s ug_l11 ug_l3, ug_s ug_l11 ug_l48, ug_s ug_l11 ug_l3, ug_s ug_l11 ug_l2, none, none, ug_s ug_l11 [], ug_s ug_l11 ug_l2]])
def ug_x68 : ug_X := (118, [some (.inl [0]), ug_z], some (ug_z), 323519758526442653765592515450834468691971158576829361683946015294464, [[ug_s ug_l122 [], ug_s ug_l122 ug_l2, ug_s ug_l122 ug_l3, ug_s1 ug_l122 ug_l48 100, none, none, ug_s ug_l122 ug_l2, none, none, ug_s ug_l122 [], ug_s ug_l122 ug_l2, ug_s ug_l122 [], ug_s ug_l122 ug_l1, ug_s ug_l122 ug_l4, ug_s1 ug_l122 ug_l10 155, none, none, ug_s ug_l122 ug_l2, ug_s ug_l122 [], none, ug_s ug_l122 ug_l2, ug_s ug_l122 [], ug_s ug_l122 ug_l2, none, ug_s ug_l122 [], none, ug_s ug_l122 ug_l2, ug_s2 ug_l122 ug_l8 [2, 11], none, none, ug_s ug_l122 ug_l181, none],
  [none, ug_s ug_l122 ug_l3, none, none, ug_s ug_l122 [], none, ug_s ug_l122 ug_l2, ug_s ug_l122 ug_l3, ug_s ug_l122 ug_l2, none, ug_s ug_l122 [], none, ug_s ug_l122 ug_l2, ug_s2 ug_l122 ug_l8 [2, 11], none, none, ug_s ug_l122 ug_l181, none, none, ug_s ug_l122 ug_l3, none, none, ug_s ug_l122 [], ug_s ug_l122 ug_l2, ug_s2 ug_l122 ug_l8 [2, 11], none, none, ug_s ug_l122 ug_l181, none, none, ug_s ug_l122 ug_l3, none],
  [none, ug_s ug_l122 [], ug_s ug_l122 ug_l1, none, ug_s ug_l122 ug_l4, none, ug_s1 ug_l122 ug_l10 155, none, none, ug_s ug_l122 ug_l2, none, ug_s ug_l122 [], none, ug_s ug_l122 ug_l2, ug_s ug_l122 ug_l3, none, none, ug_s ug_l122 [], none, ug_s ug_l122 ug_l2, ug_s ug_l122 [], none, ug_s ug_l122 ug_l2, none, ug_s ug_l122 ug_l3, ug_s ug_l122 ug_l2, none, ug_s ug_l122 ug_l3, ug_s ug_l122 ug_l2, ug_s ug_l122 [], none, none],
  [ug_s ug_l122 [], none, none, ug_s ug_l122 [], none, none, ug_s ug_l122 [], none, none, ug_s ug_l122 [], ug_s ug_l122 ug_l2, none, none, ug_s ug_l122 [], ug_s ug_l122 ug_l2, none, ug_s ug_l122 ug_l3, none, none, ug_s ug_l122 [], ug_s ug_l122 ug_l2, none, none, ug_s ug_l122 [], ug_s ug_l122 ug_l2]])
def ug_x69 : ug_X := (229, [some (.inl [80]), ug_z], some (ug_z), 12433080910244666053884556203670521002511403769933692940798248088790781645364885691826176, [[ug_s ug_l5 [], ug_s ug_l5 ug_l2, ug_s ug_l5 ug_l3, ug_s1 ug_l5 ug_l48 104, none, none, ug_s ug_l5 ug_l2, none, none, ug_s ug_l5 [], ug_s ug_l5 ug_l2, ug_s ug_l5 [], ug_s1 ug_l5 ug_l6 158, none, none, ug_s ug_l5 [], ug_s ug_l5 ug_l6, none, ug_s1 ug_l5 ug_l7 159, none, none, ug_s ug_l5 [], ug_s1 ug_l5 ug_l6 160, none, none, ug_s ug_l5 ug_l2, ug_s ug_l5 [], none, ug_s ug_l5 ug_l2, ug_s ug_l5 [], ug_s ug_l5 ug_l2, none],
  [ug_s ug_l5 [], none, ug_s ug_l5 ug_l2, ug_s2 ug_l5 ug_l11 [89], none, none, ug_s ug_l5 ug_l187, ug_s ug_l5 ug_l188, none, none, ug_s ug_l5 ug_l189, ug_s ug_l5 ug_l3, none, none, ug_s ug_l5 [], none, ug_s ug_l5 ug_l2, ug_s ug_l5 ug_l3, ug_s ug_l5 ug_l2, none, ug_s ug_l5 [], none, ug_s ug_l5 ug_l2, ug_s2 ug_l5 ug_l11 [89], none, none, ug_s ug_l5 ug_l187, ug_s ug_l5 ug_l188, none, none, ug_s ug_l5 ug_l189, ug_s ug_l5 ug_l3],
  [none, none, ug_s ug_l5 [], ug_s1 ug_l5 ug_l6 158, none, none, ug_s ug_l5 [], ug_s ug_l5 ug_l6, none, ug_s ug_l5 ug_l7, none, ug_s1 ug_l5 ug_l13 204, none, none, ug_s ug_l5 [], ug_s ug_l5 ug_l6, none, ug_s1 ug_l5 ug_l7 159, none, none, ug_s ug_l5 [], ug_s1 ug_l5 ug_l6 160, none, none, ug_s ug_l5 ug_l2, ug_s ug_l5 ug_l3, none, none, ug_s ug_l5 [], none, none, ug_s ug_l5 []],
  [none, ug_s ug_l5 ug_l2, none, ug_s ug_l5 ug_l3, ug_s ug_l5 ug_l2, none, ug_s ug_l5 ug_l3, ug_s ug_l5 ug_l2, ug_s ug_l5 [], ug_s1 ug_l5 ug_l6 160, none, none, ug_s ug_l5 ug_l2, ug_s ug_l5 [], none, none, ug_s ug_l5 [], none, none, ug_s ug_l5 [], none, none, ug_s ug_l5 [], none, none, ug_s ug_l5 [], ug_s ug_l5 ug_l2, none, none, ug_s ug_l5 [], ug_s ug_l5 ug_l2, none],
  [none, ug_s ug_l5 [], ug_s ug_l5 ug_l2, none, none, ug_s ug_l5 [], ug_s ug_l5 ug_l2]])
def ug_x70 : ug_X := (120, [some (.inl [0]), ug_z], some (ug_z), 0, [[ug_s ug_l116 [], ug_s ug_l116 ug_l1, ug_s1 ug_l116 ug_l4 96, none, none, ug_s ug_l116 ug_l2, none, none, ug_s ug_l116 [], ug_s ug_l116 ug_l2, ug_s ug_l116 [], ug_s ug_l116 ug_l2, ug_s ug_l116 [], ug_s ug_l116 ug_l2, ug_s ug_l116 [], ug_s ug_l116 ug_l2, ug_s ug_l116 ug_l3, none, none, ug_s ug_l116 [], ug_s2 ug_l116 ug_l1 [26], none, none, ug_s ug_l116 ug_l33, ug_s1 ug_l116 ug_l38 137, none, none, ug_s ug_l116 ug_l2, none, none, ug_s ug_l116 [], none],
  [none, ug_s ug_l116 [], none, none, ug_s ug_l116 [], none, none, ug_s ug_l116 [], ug_s ug_l116 ug_l2]])
def ug_l220 : List ug_T := [some (.inl [108]), ug_z, ug_z]
def ug_l221 : List ug_T := [ug_z, some (.inl [108]), ug_z, ug_z]
def ug_l222 : List ug_T := [ug_z, ug_z, some (.inl [108]), ug_z, ug_z]
def ug_x71 : ug_X := (230, [some (.inl [80]), ug_z], some (ug_z), 0, [[ug_s ug_l124 [], ug_s ug_l124 ug_l6, ug_s1 ug_l124 ug_l7 97, none, none, ug_s ug_l124 ug_l2, none, none, ug_s ug_l124 [], ug_s ug_l124 ug_l2, ug_s ug_l124 [], ug_s ug_l124 ug_l2, ug_s ug_l124 [], ug_s ug_l124 ug_l2, ug_s ug_l124 [], ug_s ug_l124 ug_l2, ug_s ug_l124 ug_l3, none, none, ug_s ug_l124 [], ug_s ug_l124 ug_l2, ug_s ug_l124 ug_l3, ug_s2 ug_l124 ug_l47 [108], none, none, ug_s ug_l124 ug_l220, none, ug_s ug_l124 ug_l221, ug_s ug_l124 ug_l222, ug_s ug_l124 ug_l221, ug_s ug_l124 ug_l48, ug_s ug_l124 ug_l3],
  [ug_s ug_l124 ug_l2, ug_s ug_l124 [], none, none, ug_s ug_l124 [], none, none, ug_s ug_l124 [], ug_s ug_l124 ug_l2]])
def ug_l223 : List ug_T := [ug_z, ug_z, ug_z, ug_z, some (.inl [0])]
def ug_l224 : List ug_T := [ug_z, some (.inl [33])]
def ug_x72 : ug_X := (121, [some (.inl [0]), ug_z, ug_z, ug_z], some (ug_z), 323519758526442653765592515450834468691971158576829361683946015294464, [[ug_s ug_l0 [], ug_s ug_l0 ug_l1, ug_s1 ug_l0 ug_l4 96, none, none, ug_s ug_l0 ug_l2, none, none, ug_s ug_l0 [], ug_s ug_l0 ug_l2, ug_s ug_l0 ug_l3, none, ug_s1 ug_l0 ug_l48 100, none, none, ug_s ug_l0 ug_l2, none, none, ug_s ug_l0 [], ug_s ug_l0 ug_l2, ug_s ug_l0 ug_l3, none, ug_s1 ug_l0 ug_l48 100, none, none, ug_s ug_l0 ug_l2, none, none, ug_s ug_l0 [], ug_s ug_l0 ug_l2, ug_s ug_l0 [], ug_s ug_l0 ug_l2],
  [none, ug_s ug_l0 [], ug_s ug_l0 ug_l2, none, ug_s ug_l0 [], none, ug_s ug_l0 ug_l2, ug_s ug_l0 ug_l3, none, none, ug_s ug_l0 [], ug_s ug_l0 ug_l1, ug_s ug_l0 ug_l4, ug_s ug_l0 ug_l10, ug_s2 ug_l0 ug_l211 [2, 11], none, none, ug_s ug_l0 ug_l212, none, none, ug_s ug_l0 ug_l198, none, ug_s ug_l0 ug_l223, ug_s1 ug_l0 ug_l198 139, none, none, ug_s ug_l0 [], ug_s2 ug_l0 ug_l1 [33], none, none, ug_s ug_l0 ug_l199, ug_s1 ug_l0 ug_l224 140],
  [none, none, ug_s ug_l0 ug_l2, none, none, ug_s ug_l0 [], none, none, ug_s ug_l0 [], none, none, ug_s ug_l0 [], none, none, ug_s ug_l0 [], none, ug_s ug_l0 ug_l2]])
def ug_x73 : ug_X := (231, [some (.inl [80]), ug_z, ug_z, ug_z], some (ug_z), 12433080910244666053884556203670521002511403769933692940798248088790781645364885691826176, [[ug_s ug_l5 [], ug_s ug_l5 ug_l6, ug_s1 ug_l5 ug_l7 97, none, none, ug_s ug_l5 ug_l2, none, none, ug_s ug_l5 [], ug_s1 ug_l5 ug_l2 101, none, none, ug_s ug_l5 ug_l2, none, none, ug_s ug_l5 [], ug_s ug_l5 ug_l2, ug_s ug_l5 ug_l3, none, ug_s1 ug_l5 ug_l48 104, none, none, ug_s ug_l5 ug_l2, none, none, ug_s ug_l5 [], ug_s ug_l5 ug_l2, ug_s ug_l5 [], ug_s ug_l5 ug_l2, none, ug_s ug_l5 [], ug_s ug_l5 ug_l2],
  [none, ug_s ug_l5 [], none, ug_s ug_l5 ug_l2, ug_s ug_l5 ug_l3, none, none, ug_s ug_l5 [], ug_s1 ug_l5 ug_l6 113, none, none, ug_s ug_l5 [], ug_s ug_l5 ug_l6, ug_s ug_l5 ug_l12, none, none, ug_s ug_l5 ug_l7, none, ug_s ug_l5 ug_l13, ug_s ug_l5 ug_l7, none, none, ug_s ug_l5 [], ug_s ug_l5 ug_l6, ug_s1 ug_l5 ug_l7 159, none, none, ug_s ug_l5 [], ug_s ug_l5 ug_l6, ug_s1 ug_l5 ug_l7 116, none, none],
  [ug_s ug_l5 ug_l2, none, none, ug_s ug_l5 [], none, none, ug_s ug_l5 [], none, none, ug_s ug_l5 [], none, none, ug_s ug_l5 [], none, ug_s ug_l5 ug_l2]])
def ug_l225 : List ug_T := [some (.inl [67])]
def ug_l226 : List ug_T := [ug_z, some (.inl [67])]
def ug_l227 : List ug_T := [ug_z, ug_z, some (.inl [67])]
def ug_x74 : ug_X := (122, [some (.inl [0]), ug_z, ug_z], some (ug_z), 6901746346790563787434755862277025452451108972171271998878062282276864, [[ug_s ug_l32 [], ug_s ug_l32 ug_l1, ug_s1 ug_l32 ug_l4 96, none, none, ug_s ug_l32 ug_l2, none, none, ug_s ug_l32 [], ug_s1 ug_l32 ug_l2 98, none, none, ug_s ug_l32 ug_l2, none, none, ug_s ug_l32 [], ug_s ug_l32 ug_l2, ug_s ug_l32 [], ug_s2 ug_l32 ug_l1 [67], none, none, ug_s ug_l32 ug_l225, ug_s ug_l32 ug_l226, ug_s1 ug_l32 ug_l227 143, none, none, ug_s ug_l32 ug_l2]])
def ug_l228 : List ug_T := [some (.inl [119])]
def ug_l229 : List ug_T := [some (.inl [80]), some (.inl [119])]
def ug_l230 : List ug_T := [ug_z, some (.inl [119])]
def ug_l231 : List ug_T := [ug_z, ug_z, some (.inl [119])]
def ug_l232 : List ug_T := [some (.inl [120])]
def ug_l233 : List ug_T := [some (.inl [80]), some (.inl [120])]
def ug_l234 : List ug_T := [ug_z, some (.inl [120])]
def ug_l235 : List ug_T := [ug_z, ug_z, some (.inl [120])]
def ug_x75 : ug_X := (232, [some (.inl [80]), ug_z, ug_z], some (ug_z), 16296287810675888690147565507275025288411747149327490007082965588512424207462404239887695872, [[ug_s ug_l47 [], ug_s ug_l47 ug_l6, none, none, ug_s ug_l47 ug_l2, none, ug_s ug_l47 ug_l3, none, none, ug_s ug_l47 [], ug_s ug_l47 ug_l6, ug_s1 ug_l47 ug_l7 97, none, none, ug_s ug_l47 ug_l2, none, none, ug_s ug_l47 [], ug_s1 ug_l47 ug_l2 99, none, none, ug_s ug_l47 ug_l2, none, none, ug_s ug_l47 [], ug_s ug_l47 ug_l2, ug_s ug_l47 [], ug_s2 ug_l47 ug_l6 [119], none, none, ug_s ug_l47 ug_l228, ug_s ug_l47 ug_l229],
  [none, none, ug_s ug_l47 ug_l230, ug_s ug_l47 ug_l231, ug_s ug_l47 [], ug_s2 ug_l47 ug_l6 [120], none, none, ug_s ug_l47 ug_l232, ug_s ug_l47 ug_l233, none, none, ug_s ug_l47 ug_l234, ug_s ug_l47 ug_l235, ug_s ug_l47 [], ug_s ug_l47 ug_l6, ug_s ug_l47 ug_l12, none, none, ug_s ug_l47 ug_l7, ug_s ug_l47 ug_l13, ug_s ug_l47 ug_l7, none, none, ug_s ug_l47 [], ug_s ug_l47 ug_l6, none, none, ug_s ug_l47 ug_l2, ug_s ug_l47 ug_l3, ug_s ug_l47 ug_l2]])
def ug_x76 : ug_X := (123, [some (.inl [0])], some (ug_z), 6901746346790563787434755862277025452451108972170386555162524223799296, [[ug_s ug_l8 [], ug_s2 ug_l8 ug_l1 [67], none, none, ug_s ug_l8 ug_l225, none, none, ug_s ug_l8 ug_l2, ug_s ug_l8 [], ug_s2 ug_l8 ug_l1 [67], none, none, ug_s ug_l8 ug_l225, ug_s ug_l8 ug_l226, none, none, ug_s ug_l8 [], ug_s ug_l8 ug_l2]])
def ug_x77 : ug_X := (233, [some (.inl [80])], some (ug_z), 16296287810675888690147565507275025288411747149327490005089123594835050398106693649467179008, [[ug_s ug_l11 [], ug_s ug_l11 ug_l6, none, none, ug_s ug_l11 ug_l2, ug_s ug_l11 [], ug_s ug_l11 ug_l6, ug_s ug_l11 ug_l7, none, none, ug_s ug_l11 [], ug_s ug_l11 ug_l2]])
def ug_l236 : List ug_T := [some (.inl [67]), ug_z, ug_z]
def ug_l237 : List ug_T := [some (.inl [70]), ug_z]
def ug_l238 : List ug_T := [ug_z, some (.inl [70]), ug_z]
def ug_x78 : ug_X := (125, [some (.inl [0]), ug_z, ug_z], some (ug_z), 1186237653354628150965348663828863749640034354593113244403675068630016, [[ug_s ug_l122 [], ug_s ug_l122 ug_l2, ug_s ug_l122 ug_l3, ug_s2 ug_l122 ug_l32 [67], none, none, ug_s ug_l122 ug_l236, none, none, ug_s1 ug_l122 ug_l48 100, none, none, ug_s ug_l122 ug_l2, none, none, ug_s ug_l122 [], ug_s ug_l122 ug_l2, ug_s ug_l122 ug_l3, ug_s1 ug_l122 ug_l48 100, none, none, ug_s ug_l122 ug_l2, none, none, ug_s ug_l122 [], ug_s ug_l122 ug_l2, ug_s ug_l122 [], ug_s ug_l122 ug_l1, ug_s1 ug_l122 ug_l4 148, none, none, ug_s ug_l122 ug_l2],
  [ug_s ug_l122 [], ug_s ug_l122 ug_l2, none, none, ug_s ug_l122 [], ug_s ug_l122 ug_l2, ug_s ug_l122 [], ug_s ug_l122 ug_l2, none, none, ug_s ug_l122 [], none, ug_s ug_l122 ug_l2, ug_s ug_l122 [], none, none, ug_s ug_l122 ug_l2, none, ug_s ug_l122 [], ug_s ug_l122 ug_l2, none, ug_s ug_l122 [], ug_s ug_l122 ug_l2, none, ug_s ug_l122 [], none, ug_s ug_l122 ug_l2, ug_s ug_l122 ug_l3, none, none, ug_s ug_l122 [], none],
  [ug_s ug_l122 ug_l2, ug_s2 ug_l122 ug_l8 [70], none, none, ug_s ug_l122 ug_l237, none, ug_s ug_l122 ug_l238, ug_s ug_l122 ug_l3, ug_s ug_l122 ug_l2, none, ug_s ug_l122 [], none, ug_s ug_l122 ug_l2, ug_s2 ug_l122 ug_l8 [70], none, none, ug_s ug_l122 ug_l237, none, ug_s ug_l122 ug_l238, ug_s ug_l122 ug_l3, ug_s ug_l122 ug_l2, none, ug_s ug_l122 [], none, none, ug_s ug_l122 [], none, none, ug_s ug_l122 [], ug_s ug_l122 ug_l2, ug_s ug_l122 ug_l3, none],
  [none, ug_s ug_l122 [], ug_s2 ug_l122 ug_l1 [70], none, none, ug_s ug_l122 ug_l143, ug_s ug_l122 ug_l144, ug_s ug_l122 ug_l2, ug_s ug_l122 [], ug_s ug_l122 ug_l2, ug_s ug_l122 ug_l3, none, none, ug_s ug_l122 [], none, ug_s ug_l122 ug_l2, none, none, ug_s ug_l122 [], none, none, ug_s ug_l122 ug_l2, none, ug_s ug_l122 ug_l3, ug_s ug_l122 ug_l48, ug_s ug_l122 ug_l3, ug_s ug_l122 ug_l2]])
def ug_x79 : ug_X := (235, [some (.inl [80]), ug_z, ug_z], some (ug_z), 12433080910244666053884556203670521002511403769933692957673212879028971438088998761791488, [[ug_s ug_l145 [], ug_s ug_l145 ug_l2, ug_s ug_l145 ug_l3, ug_s ug_l145 ug_l47, none, none, ug_s1 ug_l145 ug_l48 104, none, none, ug_s ug_l145 ug_l2, none, none, ug_s ug_l145 [], ug_s ug_l145 ug_l2, ug_s ug_l145 ug_l3, ug_s1 ug_l145 ug_l48 104, none, none, ug_s ug_l145 ug_l2, none, none, ug_s ug_l145 [], ug_s ug_l145 ug_l2, ug_s ug_l145 [], ug_s1 ug_l145 ug_l6 113, none, none, ug_s ug_l145 [], ug_s ug_l145 ug_l6, ug_s1 ug_l145 ug_l7 157, none, none],
  [ug_s ug_l145 ug_l2, ug_s ug_l145 [], ug_s ug_l145 ug_l2, none, none, ug_s ug_l145 [], ug_s ug_l145 ug_l2, ug_s ug_l145 [], ug_s ug_l145 ug_l2, none, none, ug_s ug_l145 [], none, ug_s ug_l145 ug_l2, ug_s ug_l145 [], ug_s ug_l145 ug_l2, none, ug_s ug_l145 [], none, none, ug_s ug_l145 ug_l2, none, ug_s ug_l145 [], ug_s ug_l145 ug_l2, none, ug_s ug_l145 [], none, none, ug_s ug_l145 ug_l2, none, ug_s ug_l145 [], none],
  [ug_s ug_l145 ug_l2, none, none, ug_s ug_l145 [], ug_s2 ug_l145 ug_l6 [114], none, none, ug_s ug_l145 ug_l133, none, ug_s ug_l145 ug_l134, ug_s ug_l145 ug_l2, none, none, ug_s ug_l145 [], none, none, ug_s ug_l145 [], none, ug_s ug_l145 ug_l2, none, ug_s ug_l145 [], none, ug_s ug_l145 ug_l2, none, ug_s ug_l145 ug_l3, ug_s ug_l145 ug_l2, none, ug_s ug_l145 [], none, ug_s ug_l145 ug_l2, none, ug_s ug_l145 ug_l3],
  [ug_s ug_l145 ug_l2, none, ug_s ug_l145 [], none, none, ug_s ug_l145 [], none, none, ug_s ug_l145 [], ug_s ug_l145 ug_l2, ug_s ug_l145 ug_l3, none, none, ug_s ug_l145 [], none, ug_s ug_l145 ug_l2, none, none, ug_s ug_l145 [], ug_s ug_l145 ug_l2, ug_s ug_l145 ug_l3, none, none, ug_s ug_l145 [], none, ug_s ug_l145 ug_l2, none, none, ug_s ug_l145 [], none, none, ug_s ug_l145 ug_l2],
  [none, ug_s ug_l145 ug_l3, ug_s ug_l145 ug_l48, ug_s ug_l145 ug_l3, ug_s ug_l145 ug_l2]])
def ug_x80 : ug_X := (126, [some (.inl [0]), ug_z], some (ug_z), 1186237653354628150965348663828863749640034354595474427645109891236864, [[ug_s ug_l122 [], ug_s ug_l122 ug_l2, ug_s ug_l122 ug_l3, ug_s2 ug_l122 ug_l32 [67], none, none, ug_s ug_l122 ug_l236, none, none, ug_s1 ug_l122 ug_l48 100, none, none, ug_s ug_l122 ug_l2, none, none, ug_s ug_l122 [], ug_s ug_l122 ug_l2, ug_s ug_l122 [], ug_s ug_l122 ug_l1, ug_s1 ug_l122 ug_l4 148, none, none, ug_s ug_l122 ug_l2, ug_s ug_l122 [], none, ug_s ug_l122 ug_l2, ug_s ug_l122 [], none, none, ug_s ug_l122 ug_l2, none, ug_s ug_l122 []],
  [ug_s ug_l122 ug_l2, none, ug_s ug_l122 [], none, ug_s ug_l122 ug_l2, ug_s2 ug_l122 ug_l8 [2, 11], none, none, ug_s ug_l122 ug_l181, none, none, ug_s ug_l122 ug_l3, none, none, ug_s ug_l122 [], ug_s ug_l122 ug_l2, none, none, ug_s ug_l122 [], ug_s ug_l122 ug_l1, ug_s ug_l122 ug_l9, none, ug_s1 ug_l122 ug_l140 132, none, none, ug_s ug_l122 ug_l141, ug_s1 ug_l122 ug_l142 256, none, none, ug_s ug_l122 ug_l2, none, ug_s ug_l122 []],
  [none, ug_s ug_l122 ug_l2, none, ug_s ug_l122 ug_l3, none, none, ug_s ug_l122 [], none, ug_s ug_l122 ug_l2, none, ug_s ug_l122 [], none, ug_s ug_l122 ug_l2, ug_s ug_l122 [], none, none, ug_s ug_l122 [], none, none, ug_s ug_l122 [], ug_s ug_l122 ug_l2]])
def ug_x81 : ug_X := (237, [some (.inl [80]), ug_z], some (ug_z), 12433080910244666053884556203670521002511403769933692999211587747307592466332969395552256, [[ug_s ug_l5 [], ug_s ug_l5 ug_l2, ug_s ug_l5 ug_l3, ug_s ug_l5 ug_l47, none, none, ug_s1 ug_l5 ug_l48 104, none, none, ug_s ug_l5 ug_l2, none, none, ug_s ug_l5 [], ug_s ug_l5 ug_l2, ug_s ug_l5 [], ug_s1 ug_l5 ug_l6 113, none, none, ug_s ug_l5 [], ug_s ug_l5 ug_l6, ug_s1 ug_l5 ug_l7 157, none, none, ug_s ug_l5 ug_l2, none, none, ug_s ug_l5 [], none, ug_s ug_l5 ug_l2, ug_s ug_l5 [], none, ug_s ug_l5 ug_l2],
  [ug_s ug_l5 [], ug_s ug_l5 ug_l2, ug_s ug_l5 [], ug_s ug_l5 ug_l2, none, ug_s ug_l5 [], none, ug_s ug_l5 ug_l2, ug_s2 ug_l5 ug_l11 [89], none, none, ug_s ug_l5 ug_l187, ug_s ug_l5 ug_l188, none, none, ug_s ug_l5 ug_l189, ug_s ug_l5 ug_l3, none, none, ug_s ug_l5 [], ug_s ug_l5 ug_l6, none, ug_s1 ug_l5 ug_l7 224, none, none, ug_s ug_l5 ug_l2, none, ug_s ug_l5 [], ug_s ug_l5 ug_l2, none, none, ug_s ug_l5 []],
  [none, ug_s ug_l5 ug_l2, ug_s ug_l5 ug_l3, none, none, ug_s ug_l5 [], none, none, ug_s ug_l5 [], none, ug_s ug_l5 ug_l2, ug_s ug_l5 [], none, ug_s ug_l5 ug_l2, ug_s ug_l5 [], none, none, ug_s ug_l5 [], none, none, ug_s ug_l5 [], ug_s ug_l5 ug_l2]])
def ug_l239 : List ug_T := [some (.inl [49])]
def ug_l240 : List ug_T := [ug_z, some (.inl [49])]
def ug_l241 : List ug_T := [some (.inl [73])]
def ug_l242 : List ug_T := [some (.inl [0]), some (.inl [73])]
def ug_l243 : List ug_T := [some (.inl [26]), some (.inl [73])]
def ug_x82 : ug_X := (128, [some (.inl [0]), ug_z], some (ug_z), 27386129504064957108541111261515585444469727442559870382836589401277988864, [[ug_s ug_l8 [], ug_s ug_l8 ug_l2, ug_s ug_l8 ug_l3, ug_s1 ug_l8 ug_l48 100, none, none, ug_s ug_l8 ug_l2, none, none, ug_s ug_l8 [], ug_s ug_l8 ug_l2, ug_s ug_l8 [], ug_s2 ug_l8 ug_l1 [49], none, none, ug_s ug_l8 ug_l239, ug_s2 ug_l8 ug_l240 [73], ug_s ug_l8 ug_l241, ug_s2 ug_l8 ug_l242 [26], none, none, ug_s1 ug_l8 ug_l243 154, none, none, ug_s ug_l8 [], ug_s ug_l8 ug_l1, ug_s ug_l8 ug_l9, none, none, ug_s ug_l8 ug_l4, ug_s ug_l8 ug_l10, ug_s ug_l8 ug_l198],
  [ug_s ug_l8 ug_l10, ug_s ug_l8 ug_l4, none, none, ug_s ug_l8 [], ug_s ug_l8 ug_l2]])
def ug_l244 : List ug_T := [some (.inl [122])]
def ug_l245 : List ug_T := [ug_z, some (.inl [122])]
def ug_l246 : List ug_T := [ug_z, ug_z, some (.inl [122])]
def ug_l247 : List ug_T := [some (.inl [80]), ug_z, some (.inl [122])]
def ug_l248 : List ug_T := [some (.inl [108]), ug_z, some (.inl [122])]
def ug_l249 : List ug_T := [ug_z, some (.inl [108]), ug_z, some (.inl [122])]
def ug_x83 : ug_X := (238, [some (.inl [80]), ug_z], some (ug_z), 7975367974709495237422842361682067456, [[ug_s ug_l47 [], ug_s ug_l47 ug_l2, ug_s ug_l47 ug_l3, ug_s1 ug_l47 ug_l48 104, none, none, ug_s ug_l47 ug_l2, none, none, ug_s ug_l47 [], ug_s ug_l47 ug_l2, ug_s ug_l47 [], ug_s2 ug_l47 ug_l6 [121], none, none, ug_s ug_l47 ug_l29, ug_s ug_l47 ug_l30, ug_s ug_l47 ug_l31, ug_s ug_l47 [], ug_s ug_l47 ug_l2, ug_s ug_l47 [], ug_s ug_l47 ug_l2, none, ug_s ug_l47 ug_l3, none, none, ug_s ug_l47 [], ug_s2 ug_l47 ug_l6 [122], none, none, ug_s ug_l47 ug_l244, none],
  [ug_s ug_l47 ug_l245, ug_s ug_l47 ug_l246, ug_s ug_l47 ug_l245, ug_s ug_l47 ug_l246, ug_s ug_l47 ug_l245, ug_s2 ug_l47 ug_l247 [108], none, none, ug_s ug_l47 ug_l248, ug_s ug_l47 ug_l249, ug_s ug_l47 ug_l246, ug_s ug_l47 [], none, none, ug_s ug_l47 [], none, none, ug_s ug_l47 [], ug_s ug_l47 ug_l2]])
def ug_l250 : List ug_T := [some (.inl [49]), some (.inl [26])]
def ug_l251 : List ug_T := [ug_z, some (.inl [49]), some (.inl [26])]
def ug_l252 : List ug_T := [some (.inl [73]), some (.inl [26])]
def ug_l253 : List ug_T := [ug_z, some (.inl [40])]
def ug_x84 : ug_X := (129, [some (.inl [0]), ug_z], some (ug_z), 862719939047967948432373741432720211026331263156336971753572402200576, [[ug_s ug_l8 [], ug_s ug_l8 ug_l2, ug_s ug_l8 ug_l3, ug_s1 ug_l8 ug_l48 100, none, none, ug_s ug_l8 ug_l2, none, none, ug_s ug_l8 [], ug_s ug_l8 ug_l1, none, none, ug_s ug_l8 ug_l2, ug_s ug_l8 ug_l3, ug_s ug_l8 ug_l2, ug_s ug_l8 ug_l3, ug_s ug_l8 ug_l2, none, none, ug_s ug_l8 [], ug_s ug_l8 ug_l2, ug_s ug_l8 [], ug_s2 ug_l8 ug_l1 [26], none, none, ug_s ug_l8 ug_l33, ug_s2 ug_l8 ug_l96 [49], none, none, ug_s ug_l8 ug_l250, ug_s2 ug_l8 ug_l251 [73]],
  [ug_s1 ug_l8 ug_l252 156, none, none, ug_s ug_l8 [], ug_s2 ug_l8 ug_l1 [40], none, none, ug_s ug_l8 ug_l106, ug_s ug_l8 ug_l253, none, none, ug_s ug_l8 [], ug_s2 ug_l8 ug_l1 [55], none, none, ug_s ug_l8 ug_l104, ug_s ug_l8 ug_l105, none, none, ug_s ug_l8 [], ug_s ug_l8 ug_l2]])
def ug_l254 : List ug_T := [some (.inl [122]), ug_z, some (.inl [108])]
def ug_l255 : List ug_T := [ug_z, some (.inl [122]), ug_z, some (.inl [108])]
def ug_l256 : List ug_T := [ug_z, ug_z, some (.inl [122]), ug_z, some (.inl [108])]
def ug_x85 : ug_X := (239, [some (.inl [80]), ug_z], some (ug_z), 63657374260452690195888927762793067532858387302060507832703907595982842344387428088807424, [[ug_s ug_l47 [], ug_s ug_l47 ug_l2, ug_s ug_l47 ug_l3, ug_s1 ug_l47 ug_l48 104, none, none, ug_s ug_l47 ug_l2, none, none, ug_s ug_l47 [], ug_s2 ug_l47 ug_l6 [121], none, none, ug_s ug_l47 ug_l29, ug_s ug_l47 ug_l30, ug_s ug_l47 ug_l2, none, none, ug_s ug_l47 [], ug_s ug_l47 ug_l2, ug_s ug_l47 [], ug_s ug_l47 ug_l2, ug_s ug_l47 [], ug_s ug_l47 ug_l2, none, ug_s ug_l47 ug_l3, none, none, ug_s ug_l47 [], ug_s2 ug_l47 ug_l6 [108], none, none],
  [ug_s ug_l47 ug_l72, ug_s ug_l47 ug_l73, ug_s2 ug_l47 ug_l109 [122], none, none, ug_s ug_l47 ug_l254, none, ug_s ug_l47 ug_l255, ug_s ug_l47 ug_l256, ug_s ug_l47 ug_l255, ug_s ug_l47 ug_l256, ug_s ug_l47 ug_l255, ug_s ug_l47 ug_l74, ug_s ug_l47 [], none, none, ug_s ug_l47 [], none, none, ug_s ug_l47 [], ug_s ug_l47 ug_l6, ug_s ug_l47 ug_l7, none, none, ug_s ug_l47 [], ug_s ug_l47 ug_l2]])
def ug_l257 : List ug_T := [some (.inl [26]), some (.inl [0])]
def ug_l258 : List ug_T := [some (.inl [29]), some (.inl [0])]
def ug_l259 : List ug_T := [some (.inl [31]), some (.inl [0])]
def ug_x86 : ug_X := (130, [some (.inl [0]), ug_z], some (ug_z), 0, [[ug_s ug_l8 [], ug_s ug_l8 ug_l2, none, none, none, none, none, none, none, none, none, none, none, none, none, none, none, none, none, none, none, none, none, none, none, none, none, none, none, none, none, none],
  [none, none, none, none, none, none, none, none, none, none, none, none, none, none, none, none, none, none, none, none, none, none, none, none, none, none, none, none, none, none, none, none],
  [none, none, none, none, none, none, none, none, none, none, none, none, none, none, none, none, none, none, none, none, none, none, none, none, ug_s ug_l8 [], ug_s2 ug_l8 ug_l1 [2, 11], none, none, ug_s ug_l8 ug_l75, none, none, ug_s ug_l8 ug_l2],
  [ug_s ug_l8 [], ug_s2 ug_l8 ug_l1 [2, 11], none, none, ug_s ug_l8 ug_l75, none, none, ug_s ug_l8 ug_l2, ug_s ug_l8 [], ug_s2 ug_l8 ug_l1 [26], none, none, ug_s ug_l8 ug_l33, none, none, ug_s ug_l8 ug_l2, ug_s ug_l8 [], ug_s2 ug_l8 ug_l1 [26], none, none, ug_s ug_l8 ug_l33, none, none, ug_s ug_l8 ug_l2, none, ug_s ug_l8 ug_l3, ug_s ug_l8 ug_l2, ug_s ug_l8 [], ug_s2 ug_l8 ug_l1 [26], none, none, ug_s ug_l8 ug_l33],
  [ug_s2 ug_l8 ug_l96 [2, 11], none, none, ug_s1 ug_l8 ug_l97 111, none, none, ug_s ug_l8 ug_l2, ug_s ug_l8 [], ug_s2 ug_l8 ug_l1 [26], none, none, ug_s ug_l8 ug_l33, none, none, ug_s ug_l8 ug_l2, ug_s ug_l8 [], ug_s2 ug_l8 ug_l1 [26], none, none, ug_s1 ug_l8 ug_l33 105, none, none, ug_s ug_l8 ug_l2, ug_s ug_l8 [], ug_s2 ug_l8 ug_l1 [26], none, none, ug_s1 ug_l8 ug_l33 106, none, none, ug_s ug_l8 ug_l2, ug_s ug_l8 []],
  [ug_s2 ug_l8 ug_l1 [26], none, none, ug_s1 ug_l8 ug_l33 107, none, none, ug_s ug_l8 ug_l2, ug_s ug_l8 [], ug_s ug_l8 ug_l1, none, none, ug_s ug_l8 ug_l2, ug_s ug_l8 [], ug_s2 ug_l8 ug_l1 [40], none, none, ug_s ug_l8 ug_l106, none, none, ug_s ug_l8 ug_l2, ug_s ug_l8 [], ug_s2 ug_l8 ug_l1 [67], none, none, ug_s ug_l8 ug_l225, none, none, ug_s ug_l8 ug_l2, ug_s ug_l8 [], ug_s ug_l8 ug_l1, none, none],
  [ug_s1 ug_l8 ug_l2 108, none, none, ug_s ug_l8 ug_l2, ug_s ug_l8 [], ug_s2 ug_l8 ug_l1 [26], none, none, ug_s ug_l8 ug_l33, none, none, ug_s ug_l8 ug_l2, ug_s ug_l8 [], ug_s ug_l8 ug_l1, ug_s2 ug_l8 ug_l9 [26], none, none, ug_s2 ug_l8 ug_l257 [29], none, none, ug_s1 ug_l8 ug_l258 109, none, none, ug_s ug_l8 ug_l2, ug_s ug_l8 [], ug_s2 ug_l8 ug_l1 [26], none, none, ug_s ug_l8 ug_l33, none, none, ug_s ug_l8 ug_l2],
  [ug_s2 ug_l8 ug_l8 [26], none, none, ug_s1 ug_l8 ug_l170 105, none, none, ug_s ug_l8 ug_l3, ug_s ug_l8 ug_l48, ug_s ug_l8 ug_l3, ug_s ug_l8 ug_l2, ug_s ug_l8 [], ug_s ug_l8 ug_l1, ug_s2 ug_l8 ug_l9 [26], none, none, ug_s2 ug_l8 ug_l257 [31], none, none, ug_s1 ug_l8 ug_l259 110, none, none, ug_s ug_l8 ug_l2, ug_s ug_l8 [], ug_s2 ug_l8 ug_l1 [26], none, none, ug_s1 ug_l8 ug_l33 112, none, none, ug_s ug_l8 ug_l2, ug_s ug_l8 [], ug_s ug_l8 ug_l2]])
def ug_l260 : List ug_T := [some (.inl [121]), ug_z]
def ug_l261 : List ug_T := [ug_z, some (.inl [121]), ug_z]
def ug_l262 : List ug_T := [some (.inl [92])]
def ug_l263 : List ug_T := [some (.inl [80]), some (.inl [92])]
def ug_l264 : List ug_T := [ug_z, some (.inl [92])]
def ug_x87 : ug_X := (241, [some (.inl [80]), ug_z], some (ug_z), 11935757673834879411729173955523700162410947619136345219220172552752681381867113053945856, [[ug_s ug_l124 [], ug_s1 ug_l124 ug_l6 113, none, none, ug_s ug_l124 [], ug_s ug_l124 ug_l2, ug_s ug_l124 [], ug_s ug_l124 ug_l2, none, none, none, none, none, none, none, none, none, none, none, none, none, none, none, none, none, none, none, none, none, none, none, none],
  [none, none, none, none, none, none, none, none, none, none, none, none, none, none, none, none, none, none, none, none, none, none, none, none, none, none, none, none, none, none, none, none],
  [none, none, none, none, none, none, none, none, none, none, none, none, none, none, none, none, none, none, none, none, none, none, none, none, none, none, none, none, ug_s ug_l124 [], ug_s2 ug_l124 ug_l6 [89], none, none],
  [ug_s ug_l124 ug_l76, ug_s ug_l124 ug_l77, none, none, ug_s ug_l124 ug_l78, ug_s ug_l124 ug_l2, ug_s ug_l124 [], ug_s2 ug_l124 ug_l6 [92], none, none, ug_s ug_l124 ug_l262, ug_s ug_l124 ug_l263, none, none, ug_s ug_l124 ug_l264, ug_s ug_l124 ug_l2, ug_s ug_l124 [], ug_s2 ug_l124 ug_l6 [109], none, none, ug_s ug_l124 ug_l49, none, ug_s ug_l124 ug_l50, ug_s ug_l124 ug_l2, ug_s ug_l124 [], ug_s2 ug_l124 ug_l6 [109], none, none, ug_s ug_l124 ug_l49, none, ug_s ug_l124 ug_l50, ug_s ug_l124 ug_l2],
  [none, ug_s ug_l124 ug_l3, ug_s ug_l124 ug_l2, ug_s ug_l124 [], ug_s1 ug_l124 ug_l6 117, none, none, ug_s ug_l124 ug_l2, ug_s ug_l124 [], ug_s ug_l124 ug_l6, none, ug_s ug_l124 ug_l7, ug_s1 ug_l124 ug_l13 114, none, none, ug_s ug_l124 ug_l2, ug_s ug_l124 [], ug_s1 ug_l124 ug_l6 115, none, none, ug_s ug_l124 ug_l2, ug_s ug_l124 [], ug_s ug_l124 ug_l2, ug_s ug_l124 [], ug_s ug_l124 ug_l2, ug_s2 ug_l124 ug_l11 [89], none, none, ug_s ug_l124 ug_l187, ug_s ug_l124 ug_l188, none, none],
  [ug_s ug_l124 ug_l189, ug_s ug_l124 ug_l3, none, none, ug_s ug_l124 [], ug_s ug_l124 ug_l6, ug_s1 ug_l124 ug_l7 116, none, none, ug_s ug_l124 ug_l2, none, none, ug_s ug_l124 [], ug_s ug_l124 ug_l2, ug_s ug_l124 ug_l3, ug_s ug_l124 ug_l48, ug_s ug_l124 ug_l3, ug_s ug_l124 ug_l2, ug_s ug_l124 [], none, none, ug_s ug_l124 [], none, none, ug_s ug_l124 [], ug_s ug_l124 ug_l2, ug_s ug_l124 [], ug_s ug_l124 ug_l6, none, ug_s ug_l124 ug_l7, ug_s1 ug_l124 ug_l13 114, none],
  [none, ug_s ug_l124 ug_l2, ug_s ug_l124 [], ug_s ug_l124 ug_l6, none, none, ug_s ug_l124 ug_l2, ug_s ug_l124 [], ug_s ug_l124 ug_l6, none, none, ug_s ug_l124 ug_l2, ug_s ug_l124 [], ug_s ug_l124 ug_l6, none, none, ug_s ug_l124 ug_l2, ug_s ug_l124 [], ug_s2 ug_l124 ug_l6 [121], none, none, ug_s ug_l124 ug_l29, ug_s ug_l124 ug_l30, ug_s ug_l124 ug_l2, none, none, ug_s ug_l124 [], ug_s ug_l124 ug_l2, none, none, ug_s ug_l124 [], ug_s ug_l124 ug_l2],
  [ug_s2 ug_l124 ug_l11 [121], none, none, ug_s ug_l124 ug_l260, ug_s ug_l124 ug_l261, ug_s ug_l124 ug_l3, none, none, ug_s ug_l124 ug_l2, ug_s ug_l124 ug_l3, none, none, ug_s ug_l124 ug_l2, ug_s ug_l124 ug_l3, ug_s ug_l124 ug_l2, ug_s2 ug_l124 ug_l11 [121], none, none, ug_s ug_l124 ug_l260, ug_s ug_l124 ug_l261, ug_s ug_l124 ug_l3, none, none, ug_s ug_l124 ug_l2, ug_s ug_l124 ug_l3, none, none, ug_s ug_l124 ug_l2, ug_s ug_l124 ug_l3, ug_s ug_l124 ug_l2, ug_s ug_l124 [], ug_s2 ug_l124 ug_l6 [109]],
  [none, none, ug_s ug_l124 ug_l49, none, ug_s ug_l124 ug_l50, ug_s ug_l124 ug_l2, ug_s ug_l124 [], ug_s ug_l124 ug_l6, none, ug_s ug_l124 ug_l7, ug_s1 ug_l124 ug_l13 114, none, none, ug_s ug_l124 ug_l2, ug_s ug_l124 [], ug_s ug_l124 ug_l2, ug_s ug_l124 [], ug_s ug_l124 ug_l2, ug_s2 ug_l124 ug_l11 [89], none, none, ug_s ug_l124 ug_l187, ug_s ug_l124 ug_l188, none, none, ug_s ug_l124 ug_l189, ug_s ug_l124 ug_l3, none, none, ug_s ug_l124 [], ug_s ug_l124 ug_l6, ug_s1 ug_l124 ug_l7 118],
  [none, none, ug_s ug_l124 ug_l2, none, none, ug_s ug_l124 [], ug_s ug_l124 ug_l2, ug_s ug_l124 ug_l3, ug_s ug_l124 ug_l48, ug_s ug_l124 ug_l3, ug_s ug_l124 ug_l2, ug_s ug_l124 [], none, none, ug_s ug_l124 [], none, none, ug_s ug_l124 [], ug_s ug_l124 ug_l2, ug_s ug_l124 [], ug_s ug_l124 ug_l6, none, ug_s ug_l124 ug_l7, ug_s1 ug_l124 ug_l13 114, none, none, ug_s ug_l124 ug_l2, ug_s ug_l124 [], ug_s ug_l124 ug_l2, ug_s ug_l124 [], ug_s ug_l124 ug_l2, ug_s2 ug_l124 ug_l11 [89]],
  [none, none, ug_s ug_l124 ug_l187, ug_s ug_l124 ug_l188, none, none, ug_s ug_l124 ug_l189, ug_s ug_l124 ug_l3, none, none, ug_s ug_l124 [], ug_s2 ug_l124 ug_l6 [109], none, none, ug_s ug_l124 ug_l49, none, ug_s ug_l124 ug_l50, ug_s ug_l124 ug_l51, ug_s ug_l124 ug_l50, ug_s ug_l124 ug_l2, ug_s ug_l124 ug_l3, none, none, ug_s ug_l124 [], ug_s ug_l124 ug_l2, ug_s ug_l124 ug_l3, ug_s ug_l124 ug_l48, ug_s ug_l124 ug_l3, ug_s ug_l124 ug_l2, ug_s ug_l124 [], none, none],
  [ug_s ug_l124 [], none, none, ug_s ug_l124 [], ug_s ug_l124 ug_l2, ug_s ug_l124 [], ug_s ug_l124 ug_l2]])
def ug_l265 : List ug_T := [some (.inl [1])]
def ug_l266 : List ug_T := [some (.inl [0]), some (.inl [1])]
def ug_l267 : List ug_T := [ug_z, some (.inl [1])]
def ug_l268 : List ug_T := [ug_z, ug_z, some (.inl [1])]
def ug_l269 : List ug_T := [ug_z, ug_z, ug_z, some (.inl [1])]
def ug_x88 : ug_X := (71, [some (.inl [0]), ug_z], none, 680564733841876926926749214863536422914, [[ug_s ug_l32 [], none, ug_s ug_l32 ug_l2, ug_s ug_l32 [], ug_s ug_l32 ug_l2, none, none, ug_s ug_l32 [], ug_s ug_l32 ug_l1, none, none, ug_s ug_l32 ug_l2, none, none, ug_s ug_l32 ug_l3, none, none, ug_s ug_l32 [], ug_s2 ug_l32 ug_l1 [1], none, none, ug_s ug_l32 ug_l265, ug_s ug_l32 ug_l266, none, none, ug_s ug_l32 ug_l267, ug_s ug_l32 ug_l268, ug_s ug_l32 ug_l269, ug_s ug_l32 ug_l268, ug_s ug_l32 ug_l268, ug_s ug_l32 [], ug_s ug_l32 ug_l1],
  [ug_s ug_l32 ug_l9, none, none, ug_s ug_l32 ug_l4, ug_s ug_l32 ug_l10, ug_s ug_l32 ug_l4, none, none, ug_s ug_l32 [], none, none, ug_s ug_l32 [], none, none, ug_s ug_l32 []]])
def ug_l270 : List ug_T := [some (.inl [81])]
def ug_l271 : List ug_T := [some (.inl [80]), some (.inl [81])]
def ug_l272 : List ug_T := [ug_z, some (.inl [81])]
def ug_l273 : List ug_T := [ug_z, ug_z, some (.inl [81])]
def ug_l274 : List ug_T := [ug_z, ug_z, ug_z, some (.inl [81])]
def ug_x89 : ug_X := (134, [some (.inl [80]), ug_z], none, 113078212145816597093331040047546785012958969400042031171422026141077078016, [[ug_s ug_l47 [], none, ug_s ug_l47 ug_l2, ug_s ug_l47 [], ug_s ug_l47 ug_l2, none, none, ug_s ug_l47 [], ug_s2 ug_l47 ug_l6 [81], none, none, ug_s ug_l47 ug_l270, ug_s ug_l47 ug_l271, none, none, ug_s ug_l47 ug_l272, ug_s ug_l47 ug_l273, ug_s ug_l47 ug_l274, ug_s ug_l47 ug_l273, ug_s ug_l47 ug_l273, ug_s ug_l47 [], ug_s ug_l47 ug_l6, ug_s ug_l47 ug_l12, none, none, ug_s ug_l47 ug_l7, ug_s ug_l47 ug_l13, ug_s ug_l47 ug_l7, none, none, ug_s ug_l47 [], none],
  [none, ug_s ug_l47 [], none, none, ug_s ug_l47 []]])
def ug_l275 : List ug_T := [some (.inl [20]), some (.inl [2, 11]), some (.inl [1]), ug_z, ug_z, ug_z, ug_z]
def ug_l276 : List ug_T := [some (.inl [21])]
def ug_l277 : List ug_T := [some (.inl [1]), some (.inl [21])]
def ug_l278 : List ug_T := [ug_z, some (.inl [1]), some (.inl [21])]
def ug_l279 : List ug_T := [ug_z, some (.inl [20])]
def ug_l280 : List ug_T := [some (.inl [20]), some (.inl [20])]
def ug_l281 : List ug_T := [ug_z, ug_z, some (.inl [20])]
def ug_x90 : ug_X := (37, [some (.inl [20]), some (.inl [2, 11]), some (.inl [1]), ug_z], some (ug_z), 55131104390543652344339715948923775284598993456399348664, [[ug_s ug_l275 [], ug_s ug_l275 ug_l14, ug_s ug_l275 ug_l16, none, none, ug_s ug_l275 [], ug_s2 ug_l275 ug_l14 [2, 11], none, none, ug_s1 ug_l275 ug_l75 119, none, none, ug_s ug_l275 [], ug_s2 ug_l275 ug_l14 [21], none, none, ug_s ug_l275 ug_l276, ug_s ug_l275 ug_l277, ug_s1 ug_l275 ug_l278 120, none, none, ug_s ug_l275 [], ug_s ug_l275 ug_l14, ug_s ug_l275 ug_l279, none, none, ug_s ug_l275 [], ug_s ug_l275 ug_l14, ug_s ug_l275 ug_l279, none, none, ug_s ug_l275 []],
  [ug_s ug_l275 ug_l14, ug_s ug_l275 ug_l279, none, none, ug_s ug_l275 [], ug_s ug_l275 ug_l14, ug_s ug_l275 ug_l279, none, none, ug_s ug_l275 [], ug_s ug_l275 ug_l14, ug_s ug_l275 ug_l279, none, none, ug_s ug_l275 [], ug_s ug_l275 ug_l2, none, ug_s ug_l275 [], ug_s ug_l275 ug_l2, none, ug_s ug_l275 [], none, ug_s ug_l275 ug_l2, none, none, ug_s ug_l275 ug_l3, none, none, ug_s ug_l275 [], none, ug_s ug_l275 ug_l2, none],
  [none, ug_s ug_l275 [], ug_s1 ug_l275 ug_l14 121, none, none, ug_s ug_l275 ug_l2, none, ug_s ug_l275 ug_l3, none, none, ug_s ug_l275 [], ug_s1 ug_l275 ug_l14 121, none, none, ug_s ug_l275 ug_l2, none, ug_s ug_l275 [], none, ug_s ug_l275 ug_l2, none, none, none, none, none, none, none, none, none, none, none, none, none],
  [none, none, none, none, none, none, none, none, none, none, none, none, none, none, none, none, none, none, none, none, none, none, none, none, none, none, none, none, none, none, none, none],
  [ug_s ug_l275 [], ug_s1 ug_l275 ug_l14 164, none, none, ug_s ug_l275 ug_l2, none, ug_s ug_l275 [], none, none, ug_s ug_l275 [], ug_s1 ug_l275 ug_l14 162, none, none, ug_s ug_l275 ug_l2, none, ug_s ug_l275 [], none, none, ug_s ug_l275 [], ug_s ug_l275 ug_l14, none, ug_s ug_l275 ug_l279, ug_s ug_l275 ug_l281, ug_s1 ug_l275 ug_l279 167, none, none, ug_s ug_l275 ug_l2, none, ug_s ug_l275 [], none, none, ug_s ug_l275 []],
  [ug_s1 ug_l275 ug_l14 165, none, none, ug_s ug_l275 ug_l2, none, ug_s ug_l275 [], none, none, ug_s ug_l275 [], ug_s1 ug_l275 ug_l14 163, none, none, ug_s ug_l275 ug_l2, none, ug_s ug_l275 [], none, none, ug_s ug_l275 [], ug_s ug_l275 ug_l14, ug_s1 ug_l275 ug_l279 166, none, none, ug_s ug_l275 ug_l2, none, ug_s ug_l275 [], none, none, ug_s ug_l275 [], none, none, ug_s ug_l275 [], ug_s ug_l275 ug_l14],
  [none, none, ug_s ug_l275 ug_l2, none, none, ug_s ug_l275 [], ug_s ug_l275 ug_l14, ug_s ug_l275 ug_l280, none, none, ug_s ug_l275 ug_l279, none, none, ug_s ug_l275 [], ug_s ug_l275 ug_l14, ug_s ug_l275 ug_l280, none, none, ug_s ug_l275 ug_l279, none, none, ug_s ug_l275 [], ug_s ug_l275 ug_l14, none, none, ug_s ug_l275 ug_l2]])
def ug_l282 : List ug_T := [some (.inl [80]), ug_z, ug_z, ug_z, none, none, ug_z, ug_z]
def ug_l283 : List ug_T := [ug_j, ug_z, ug_z, ug_z, some (.inl [80])]
def ug_l284 : List ug_T := [ug_j]
def ug_l285 : List ug_T := [some (.inl [80]), ug_z, ug_z, ug_z, ug_j, ug_d, ug_z, ug_z]
def ug_l286 : List ug_T := [some (.inl [80]), ug_j]
def ug_l287 : List ug_T := [ug_z, some (.inl [80]), ug_j]
def ug_l288 : List ug_T := [ug_z, ug_z, some (.inl [80]), ug_j]
def ug_l289 : List ug_T := [ug_z, ug_j]
def ug_l290 : List ug_T := [some (.inl [87])]
def ug_l291 : List ug_T := [ug_z, some (.inl [87])]
def ug_l292 : List ug_T := [ug_j, ug_j]
def ug_l293 : List ug_T := [some (.inl [80]), ug_z, ug_z, ug_z, ug_z, none, ug_z, ug_z]
def ug_l294 : List ug_T := [some (.inl [80]), ug_z, ug_z, some (.inl [80]), ug_z]
def ug_l295 : List ug_T := [ug_z, some (.inl [80]), ug_z, ug_z, some (.inl [80]), ug_z]
def ug_l296 : List ug_T := [ug_z, ug_z, some (.inl [80]), ug_z, ug_z, some (.inl [80]), ug_z]
def ug_l297 : List ug_T := [ug_z, ug_z, ug_z, some (.inl [80]), ug_z]
def ug_x91 : ug_X := (142, [some (.inl [80])], none, 28948022309329048855892746252171976963317496166410286080962749757479247151104, [[ug_s ug_l145 [], ug_s ug_l145 ug_l6, ug_s ug_l145 ug_l7, none, none, ug_s ug_l145 [], ug_s ug_l145 ug_l2, ug_s ug_l282 [], ug_s ug_l282 ug_l6, none, none, ug_s ug_l282 ug_l2, none, none, ug_s ug_l282 ug_l3, none, none, ug_s ug_l282 [], ug_s ug_l282 ug_l6, ug_s1 ug_l282 ug_l7 122, none, none, ug_s ug_l282 ug_l2, ug_s ug_l282 [], ug_s ug_l282 ug_l2, ug_s ug_l282 ug_l11, none, none, ug_s ug_l282 ug_l3, none, none, ug_s ug_l282 []],
  [ug_s ug_l282 ug_l6, ug_s ug_l282 ug_l7, ug_s ug_l282 ug_l28, none, none, ug_s ug_l282 ug_l13, ug_s ug_l282 ug_l57, ug_s1 ug_l282 ug_l283 169, none, none, ug_s ug_l282 [], ug_s ug_l282 [], ug_s ug_l282 ug_l2, none, ug_s ug_l282 ug_l3, none, none, ug_s ug_l282 [], ug_s ug_l282 ug_l2, none, ug_s ug_l282 ug_l3, none, none, ug_s ug_l282 [], ug_s ug_l282 ug_l2, none, ug_s ug_l282 ug_l3, none, none, ug_s ug_l282 [], ug_s ug_l282 ug_l2, none],
  [ug_s ug_l282 ug_l3, none, none, ug_s ug_l282 [], none, none, ug_s ug_l282 [], none, none, ug_s ug_l282 [], ug_s1 ug_l282 ug_l2 170, none, none, ug_s ug_l282 ug_l2, none, none, ug_s ug_l282 [], ug_s ug_l282 ug_l2, ug_s ug_l282 [], ug_s ug_l282 ug_l284, none, ug_s ug_l285 [], ug_s ug_l285 ug_l6, ug_s ug_l285 ug_l7, ug_s ug_l285 ug_l13, ug_s1 ug_l285 ug_l7 122, none, none, ug_s1 ug_l285 ug_l2 170, none, none, ug_s ug_l285 ug_l2],
  [none, none, ug_s ug_l285 [], ug_s ug_l285 ug_l2, none, ug_s ug_l285 ug_l3, none, none, ug_s ug_l285 [], none, ug_s ug_l285 ug_l284, ug_s ug_l285 ug_l286, ug_s ug_l285 ug_l287, ug_s ug_l285 ug_l288, ug_s1 ug_l285 ug_l287 122, none, none, ug_s1 ug_l285 ug_l289 233, none, none, ug_s ug_l285 ug_l284, none, ug_s ug_l285 [], none, none, ug_s ug_l285 [], none, none, ug_s ug_l285 [], ug_s ug_l285 ug_l2, none, ug_s ug_l285 ug_l3],
  [none, none, ug_s ug_l285 [], ug_s ug_l285 ug_l2, none, none, ug_s ug_l285 [], ug_s ug_l285 ug_l2, none, ug_s ug_l285 [], ug_s ug_l285 ug_l2, none, ug_s ug_l285 ug_l3, none, none, ug_s ug_l285 [], ug_s ug_l285 ug_l2, none, ug_s ug_l285 [], none, ug_s ug_l285 ug_l2, none, ug_s ug_l285 ug_l3, none, none, ug_s ug_l285 [], ug_s2 ug_l285 ug_l6 [87], none, none, ug_s ug_l285 ug_l290, none, ug_s ug_l285 ug_l291],
  [ug_s ug_l285 ug_l284, none, ug_s ug_l285 ug_l292, ug_s ug_l285 ug_l2, none, none, ug_s ug_l285 [], none, ug_s ug_l285 ug_l2, none, ug_s ug_l285 ug_l3, ug_s ug_l285 ug_l2, none, ug_s ug_l285 [], none, none, ug_s ug_l285 [], none, none, ug_s ug_l285 [], ug_s ug_l285 ug_l6, none, ug_s ug_l285 ug_l7, ug_s ug_l285 ug_l13, ug_s ug_l285 ug_l57, none, ug_s1 ug_l285 ug_l283 169, none, none, ug_s ug_l285 [], ug_s ug_l285 ug_l2, ug_s ug_l285 ug_l3],
  [ug_s ug_l285 ug_l2, ug_s ug_l285 [], none, none, ug_s ug_l282 [], ug_s1 ug_l282 ug_l2 234, none, none, ug_s ug_l282 ug_l2, none, none, ug_s ug_l282 [], ug_s ug_l282 ug_l2, ug_s ug_l282 [], ug_s ug_l282 ug_l2, none, ug_s ug_l293 [], ug_s ug_l293 ug_l6, ug_s ug_l293 ug_l7, ug_s ug_l293 ug_l13, ug_s1 ug_l293 ug_l7 122, none, none, ug_s1 ug_l293 ug_l2 234, none, none, ug_s ug_l293 ug_l2, none, none, ug_s ug_l293 [], ug_s ug_l293 ug_l2, ug_s ug_l293 ug_l3],
  [none, none, ug_s ug_l293 [], none, ug_s ug_l293 ug_l2, none, ug_s ug_l293 ug_l3, ug_s ug_l293 ug_l2, ug_s ug_l293 ug_l11, ug_s ug_l293 ug_l120, ug_s ug_l293 ug_l121, ug_s1 ug_l293 ug_l120 122, none, none, ug_s ug_l293 ug_l3, ug_s ug_l293 ug_l2, none, ug_s ug_l293 ug_l3, ug_s ug_l293 ug_l2, none, ug_s ug_l293 [], none, none, ug_s ug_l293 [], none, none, ug_s ug_l293 [], ug_s ug_l293 ug_l6, ug_s ug_l293 ug_l7, ug_s ug_l293 ug_l13, none, none],
  [ug_s ug_l293 ug_l6, ug_s ug_l293 ug_l7, none, none, ug_s ug_l293 ug_l6, ug_s ug_l293 ug_l7, ug_s ug_l293 ug_l13, none, ug_s ug_l293 ug_l57, ug_s1 ug_l293 ug_l283 169, none, none, ug_s ug_l293 [], ug_s ug_l293 ug_l2, ug_s ug_l293 ug_l3, ug_s ug_l293 ug_l2, ug_s ug_l293 [], none, none, ug_s ug_l282 [], ug_s ug_l282 ug_l2, ug_s ug_l282 ug_l11, ug_s ug_l282 ug_l120, ug_s ug_l282 ug_l121, ug_s ug_l282 ug_l294, ug_s ug_l282 ug_l295, ug_s ug_l282 ug_l296, ug_s1 ug_l282 ug_l295 122, none, none, ug_s1 ug_l282 ug_l297 253, none],
  [none, ug_s ug_l282 ug_l3, ug_s ug_l282 ug_l2, ug_s ug_l282 [], none, none, ug_s ug_l282 []]])
def ug_l298 : List ug_T := [ug_z, ug_z, some (.inl [89])]
def ug_l299 : List ug_T := [ug_z, ug_z, some (.inl [92])]
def ug_l300 : List ug_T := [some (.inl [94])]
def ug_l301 : List ug_T := [ug_z, some (.inl [94])]
def ug_l302 : List ug_T := [ug_z, ug_z, some (.inl [94])]
def ug_l303 : List ug_T := [some (.inl [95])]
def ug_l304 : List ug_T := [ug_z, some (.inl [95])]
def ug_l305 : List ug_T := [ug_z, ug_z, some (.inl [95])]
def ug_l306 : List ug_T := [some (.inl [93])]
def ug_l307 : List ug_T := [ug_z, some (.inl [93])]
def ug_l308 : List ug_T := [ug_z, ug_z, some (.inl [93])]
def ug_l309 : List ug_T := [some (.inl [96])]
def ug_l310 : List ug_T := [ug_z, some (.inl [96])]
def ug_l311 : List ug_T := [ug_z, ug_z, some (.inl [96])]
def ug_l312 : List ug_T := [some (.inl [97])]
def ug_l313 : List ug_T := [ug_z, some (.inl [97])]
def ug_l314 : List ug_T := [ug_z, ug_z, some (.inl [97])]
def ug_x92 : ug_X := (149, [some (.inl [80]), ug_z], none, 312579859919558519412028866560, [[ug_s ug_l47 [], ug_s2 ug_l47 ug_l6 [89], none, none, ug_s ug_l47 ug_l76, ug_s ug_l47 ug_l78, ug_s ug_l47 ug_l298, ug_s ug_l47 [], ug_s2 ug_l47 ug_l6 [92], none, none, ug_s ug_l47 ug_l262, ug_s ug_l47 ug_l264, ug_s ug_l47 ug_l299, ug_s ug_l47 [], ug_s2 ug_l47 ug_l6 [94], none, none, ug_s ug_l47 ug_l300, ug_s ug_l47 ug_l301, none, ug_s ug_l47 ug_l302, ug_s ug_l47 [], ug_s2 ug_l47 ug_l6 [95], none, none, ug_s ug_l47 ug_l303, ug_s ug_l47 ug_l304, ug_s ug_l47 ug_l305, ug_s ug_l47 [], ug_s ug_l47 ug_l2, ug_s ug_l47 []],
  [ug_s ug_l47 ug_l2, none, ug_s ug_l47 ug_l3, none, none, ug_s ug_l47 [], ug_s2 ug_l47 ug_l6 [93], none, none, ug_s ug_l47 ug_l306, none, ug_s ug_l47 ug_l307, ug_s ug_l47 ug_l308, ug_s ug_l47 ug_l307, ug_s ug_l47 ug_l308, ug_s ug_l47 ug_l307, ug_s ug_l47 ug_l308, ug_s ug_l47 [], none, none, ug_s ug_l47 [], none, none, ug_s ug_l47 [], ug_s ug_l47 ug_l2, ug_s ug_l47 [], ug_s ug_l47 ug_l2, ug_s ug_l47 ug_l3, none, none, ug_s ug_l47 [], ug_s2 ug_l47 ug_l6 [96]],
  [none, none, ug_s ug_l47 ug_l309, ug_s ug_l47 ug_l310, ug_s ug_l47 ug_l311, ug_s ug_l47 ug_l310, ug_s ug_l47 ug_l311, ug_s ug_l47 ug_l310, ug_s ug_l47 ug_l311, ug_s ug_l47 [], ug_s2 ug_l47 ug_l6 [97], none, none, ug_s ug_l47 ug_l312, ug_s ug_l47 ug_l313, ug_s ug_l47 ug_l314, ug_s ug_l47 ug_l313, ug_s ug_l47 ug_l314, ug_s ug_l47 ug_l313, ug_s ug_l47 ug_l314, ug_s ug_l47 [], none, none, ug_s ug_l47 [], none, none, ug_s ug_l47 []]])
def ug_l315 : List ug_T := [some (.inl [83])]
def ug_l316 : List ug_T := [some (.inl [80]), some (.inl [83])]
def ug_l317 : List ug_T := [ug_z, some (.inl [83])]
def ug_x93 : ug_X := (144, [some (.inl [80]), ug_z], some (ug_z), 0, [[ug_s ug_l11 [], ug_s ug_l11 ug_l6, none, none, ug_s ug_l11 ug_l2, none, none, ug_s ug_l11 [], ug_s2 ug_l11 ug_l6 [83], none, none, ug_s ug_l11 ug_l315, ug_s ug_l11 ug_l316, none, none, ug_s ug_l11 ug_l317, ug_s ug_l11 ug_l2, ug_s ug_l11 ug_l3, none, none, ug_s ug_l11 [], ug_s ug_l11 ug_l2, none, none, ug_s ug_l11 [], ug_s ug_l11 ug_l2]])
def ug_l318 : List ug_T := [some (.inl [90]), ug_z, some (.inl [109])]
def ug_l319 : List ug_T := [ug_z, some (.inl [90]), ug_z, some (.inl [109])]
def ug_l320 : List ug_T := [some (.inl [95]), some (.inl [80])]
def ug_l321 : List ug_T := [some (.inl [80]), some (.inl [95]), some (.inl [80])]
def ug_l322 : List ug_T := [ug_z, some (.inl [95]), some (.inl [80])]
def ug_l323 : List ug_T := [some (.inl [80]), ug_z, some (.inl [90]), ug_z, some (.inl [109])]
def ug_l324 : List ug_T := [ug_z, ug_z, some (.inl [90]), ug_z, some (.inl [109])]
def ug_l325 : List ug_T := [some (.inl [91]), ug_z, some (.inl [109])]
def ug_l326 : List ug_T := [ug_z, some (.inl [91]), ug_z, some (.inl [109])]
def ug_l327 : List ug_T := [some (.inl [80]), ug_z, some (.inl [91]), ug_z, some (.inl [109])]
def ug_l328 : List ug_T := [ug_z, ug_z, some (.inl [91]), ug_z, some (.inl [109])]
def ug_x94 : ug_X := (169, [some (.inl [80])], none, 11935757673834879411729173955523700162410947619136345219220172552752681381867113053945856, [[ug_s ug_l11 [], ug_s ug_l11 ug_l2, ug_s ug_l11 [], ug_s ug_l11 ug_l2, none, ug_s ug_l11 ug_l3, none, none, ug_s ug_l11 [], ug_s2 ug_l11 ug_l6 [109], none, none, ug_s ug_l11 ug_l49, ug_s ug_l11 ug_l50, ug_s ug_l11 ug_l51, ug_s ug_l11 [], none, none, ug_s ug_l11 [], none, none, ug_s ug_l11 [], ug_s ug_l11 ug_l2, ug_s ug_l11 [], ug_s ug_l11 ug_l2, ug_s2 ug_l11 ug_l11 [89], none, none, ug_s ug_l11 ug_l187, ug_s ug_l11 ug_l188, none, none],
  [ug_s ug_l11 ug_l189, ug_s ug_l11 ug_l3, none, none, ug_s ug_l11 [], ug_s2 ug_l11 ug_l6 [109], none, none, ug_s ug_l11 ug_l49, ug_s ug_l11 ug_l50, ug_s2 ug_l11 ug_l83 [90], none, none, ug_s ug_l11 ug_l318, none, ug_s ug_l11 ug_l319, ug_s ug_l11 ug_l323, none, none, ug_s ug_l11 ug_l324, ug_s ug_l11 ug_l319, ug_s ug_l11 ug_l324, ug_s ug_l11 ug_l319, ug_s ug_l11 ug_l51, ug_s ug_l11 [], ug_s2 ug_l11 ug_l6 [109], none, none, ug_s ug_l11 ug_l49, none, ug_s ug_l11 ug_l50, ug_s ug_l11 ug_l51],
  [ug_s ug_l11 ug_l50, ug_s2 ug_l11 ug_l83 [91], none, none, ug_s ug_l11 ug_l325, none, ug_s ug_l11 ug_l326, ug_s ug_l11 ug_l327, none, none, ug_s ug_l11 ug_l328, ug_s ug_l11 ug_l326, ug_s ug_l11 ug_l328, ug_s ug_l11 ug_l326, ug_s ug_l11 ug_l51, ug_s ug_l11 [], ug_s2 ug_l11 ug_l6 [109], none, none, ug_s ug_l11 ug_l49, none, ug_s ug_l11 ug_l50, ug_s ug_l11 ug_l51, ug_s ug_l11 ug_l50, ug_s ug_l11 ug_l51, ug_s ug_l11 [], ug_s2 ug_l11 ug_l6 [109], none, none, ug_s ug_l11 ug_l49, none, ug_s ug_l11 ug_l50],
  [ug_s ug_l11 ug_l51, ug_s ug_l11 ug_l50, ug_s ug_l11 ug_l51, ug_s ug_l11 [], none, none, ug_s ug_l11 [], none, none, ug_s ug_l11 [], ug_s2 ug_l11 ug_l6 [109], none, none, ug_s ug_l11 ug_l49, none, ug_s ug_l11 ug_l50, ug_s ug_l11 ug_l51, ug_s ug_l11 [], ug_s ug_l11 ug_l6, ug_s2 ug_l11 ug_l12 [95], none, none, ug_s ug_l11 ug_l320, ug_s ug_l11 ug_l321, none, none, ug_s ug_l11 ug_l322, ug_s ug_l11 ug_l7, none, none, ug_s ug_l11 [], ug_s ug_l11 ug_l6],
  [ug_s ug_l11 ug_l7, none, none, ug_s ug_l11 []]])
def ug_l329 : List ug_T := [some (.inl [109]), ug_z, some (.inl [108])]
def ug_l330 : List ug_T := [ug_z, some (.inl [109]), ug_z, some (.inl [108])]
def ug_x95 : ug_X := (170, [some (.inl [80])], none, 324518553658426726783156020576256, [[ug_s ug_l11 [], ug_s ug_l11 ug_l2, ug_s ug_l11 [], ug_s ug_l11 ug_l2, none, ug_s ug_l11 ug_l3, none, none, ug_s ug_l11 [], ug_s2 ug_l11 ug_l6 [108], none, none, ug_s ug_l11 ug_l72, ug_s ug_l11 ug_l73, ug_s2 ug_l11 ug_l109 [109], none, none, ug_s ug_l11 ug_l329, ug_s ug_l11 ug_l330, ug_s ug_l11 ug_l74, ug_s ug_l11 [], none, none, ug_s ug_l11 [], none, none, ug_s ug_l11 []]])
def ug_x96 : ug_X := (76, [some (.inl [0]), ug_z], some (ug_z), 0, [[ug_s ug_l8 [], ug_s ug_l8 ug_l2, none, none, ug_s ug_l8 [], ug_s ug_l8 ug_l2, ug_s2 ug_l8 ug_l8 [2, 11], none, none, ug_s ug_l8 ug_l181, none, none, ug_s ug_l8 ug_l3, none, none, ug_s ug_l8 [], ug_s ug_l8 ug_l2, none, ug_s ug_l8 ug_l3, none, none, ug_s ug_l8 [], ug_s ug_l8 ug_l2, none, none, ug_s ug_l8 [], ug_s ug_l8 ug_l2]])
def ug_l331 : List ug_T := [some (.inl [89]), ug_z, ug_z]
def ug_l332 : List ug_T := [some (.inl [80]), some (.inl [89]), ug_z, ug_z]
def ug_l333 : List ug_T := [ug_z, some (.inl [89]), ug_z, ug_z]
def ug_l334 : List ug_T := [ug_z, ug_z, ug_z, ug_z]
def ug_x97 : ug_X := (167, [some (.inl [80]), ug_z], some (ug_z), 0, [[ug_s ug_l11 [], ug_s ug_l11 ug_l2, ug_s ug_l11 ug_l3, ug_s2 ug_l11 ug_l47 [89], none, none, ug_s ug_l11 ug_l331, ug_s ug_l11 ug_l332, none, none, ug_s ug_l11 ug_l333, ug_s ug_l11 ug_l48, ug_s ug_l11 ug_l334, ug_s1 ug_l11 ug_l48 104, none, none, ug_s ug_l11 ug_l2]])
def ug_x98 : ug_X := (77, [ug_z], some (ug_z), 0, [[ug_s ug_l2 [], ug_s ug_l2 ug_l2, none, none, ug_s ug_l2 [], ug_s ug_l2 ug_l2, none, none, ug_s ug_l2 ug_l3, none, none, ug_s ug_l2 [], ug_s ug_l2 ug_l2, none, none, ug_s ug_l2 [], ug_s ug_l2 ug_l2]])
def ug_x99 : ug_X := (168, [ug_z], some (ug_z), 0, [[ug_s ug_l2 [], ug_s ug_l2 ug_l2, ug_s ug_l2 ug_l3, none, none, ug_s1 ug_l2 ug_l48 104, none, none, ug_s ug_l2 ug_l2]])
def ug_x100 : ug_X := (78, [ug_z, ug_z, ug_z], some (ug_z), 0, [[ug_s ug_l48 [], ug_s ug_l48 ug_l2, ug_s ug_l48 ug_l3, none, none, ug_s ug_l48 [], ug_s ug_l48 ug_l2, ug_s ug_l48 ug_l3, none, none, ug_s ug_l48 [], ug_s ug_l48 ug_l2, none, none, ug_s ug_l48 [], ug_s ug_l48 ug_l2]])
def ug_x101 : ug_X := (196, [ug_z], some (ug_z), 0, [[ug_s ug_l2 [], ug_s ug_l2 ug_l2, ug_s ug_l2 ug_l3, none, ug_s1 ug_l2 ug_l48 104, none, none, ug_s ug_l2 ug_l2]])
def ug_l335 : List ug_T := [some (.inl [40]), some (.inl [26])]
def ug_l336 : List ug_T := [some (.inl [40]), some (.inl [40])]
def ug_l337 : List ug_T := [ug_z, ug_z, some (.inl [40])]
def ug_l338 : List ug_T := [some (.inl [41]), some (.inl [26])]
def ug_l339 : List ug_T := [some (.inl [40]), some (.inl [41]), some (.inl [26])]
def ug_l340 : List ug_T := [ug_z, some (.inl [41]), some (.inl [26])]
def ug_l341 : List ug_T := [some (.inl [40]), ug_z, some (.inl [41]), some (.inl [26])]
def ug_l342 : List ug_T := [ug_z, ug_z, some (.inl [41]), some (.inl [26])]
def ug_l343 : List ug_T := [some (.inl [42]), some (.inl [26])]
def ug_x102 : ug_X := (35, [some (.inl [40]), some (.inl [26])], some (ug_z), 1645699147475003029258648092029469942641635038652358256874225664, [[ug_s ug_l335 [], ug_s ug_l335 ug_l106, none, none, ug_s ug_l335 ug_l2, none, none, ug_s ug_l335 [], ug_s ug_l335 ug_l2, ug_s ug_l335 [], ug_s ug_l335 ug_l106, ug_s ug_l335 ug_l336, none, none, ug_s ug_l335 ug_l253, ug_s ug_l335 ug_l337, ug_s ug_l335 ug_l253, none, none, ug_s ug_l335 [], ug_s ug_l335 ug_l33, ug_s2 ug_l335 ug_l335 [41], none, none, ug_s ug_l335 ug_l338, ug_s ug_l335 ug_l339, none, none, ug_s ug_l335 ug_l340, ug_s ug_l335 ug_l341, none, none],
  [ug_s ug_l335 ug_l342, ug_s ug_l335 ug_l340, none, ug_s ug_l335 ug_l342, ug_s2 ug_l335 ug_l340 [42], ug_s1 ug_l335 ug_l343 123, none, none, ug_s ug_l335 [], ug_s ug_l335 ug_l2]])
def ug_x103 : ug_X := (197, [ug_z], some (ug_z), 0, [[ug_s ug_l2 [], ug_s ug_l2 ug_l2, ug_s ug_l2 ug_l3, none, ug_s1 ug_l2 ug_l48 104, none, none, ug_s ug_l2 ug_l2]])
def ug_x104 : ug_X := (164, [ug_z, ug_z, ug_z], some (ug_z), 0, [[ug_s ug_l48 [], ug_s ug_l48 ug_l2, ug_s ug_l48 ug_l3, none, none, ug_s ug_l48 [], ug_s ug_l48 ug_l2, ug_s ug_l48 ug_l3, none, none, ug_s ug_l48 [], ug_s ug_l48 ug_l2, none, none, ug_s ug_l48 [], ug_s ug_l48 ug_l2]])
def ug_l344 : List ug_T := [some (.inl [26]), ug_z, ug_z]
def ug_x105 : ug_X := (29, [some (.inl [26])], some (ug_z), 0, [[ug_s ug_l344 [], ug_s ug_l344 ug_l2, ug_s ug_l344 [], ug_s ug_l344 ug_l2, ug_s ug_l344 [], ug_s ug_l344 ug_l2, ug_s ug_l344 ug_l170, none, none, ug_s ug_l344 ug_l3, none, none, ug_s ug_l344 [], ug_s2 ug_l344 ug_l33 [32], none, none, ug_s ug_l344 ug_l34, ug_s ug_l344 ug_l35, ug_s ug_l344 ug_l2, none, none, ug_s ug_l344 [], ug_s ug_l344 ug_l2, ug_s ug_l344 ug_l3, ug_s ug_l344 ug_l48, ug_s ug_l344 ug_l3, ug_s ug_l344 ug_l2, ug_s ug_l344 [], none, none, ug_s ug_l344 [], none],
  [none, ug_s ug_l344 [], ug_s ug_l344 ug_l2]])
def ug_x106 : ug_X := (30, [some (.inl [26])], some (ug_z), 0, [[ug_s ug_l344 [], ug_s ug_l344 ug_l2, ug_s ug_l344 [], ug_s ug_l344 ug_l2, ug_s ug_l344 [], ug_s ug_l344 ug_l2, ug_s ug_l344 ug_l170, none, none, ug_s ug_l344 ug_l3, none, none, ug_s ug_l344 [], ug_s ug_l344 ug_l33, ug_s1 ug_l344 ug_l38 124, none, none, ug_s ug_l344 ug_l2, none, none, ug_s ug_l344 [], ug_s ug_l344 ug_l2, ug_s ug_l344 ug_l3, ug_s ug_l344 ug_l48, ug_s ug_l344 ug_l3, ug_s ug_l344 ug_l2, ug_s ug_l344 [], none, none, ug_s ug_l344 [], none, none],
  [ug_s ug_l344 [], ug_s ug_l344 ug_l2]])
def ug_x107 : ug_X := (31, [some (.inl [26])], some (ug_z), 0, [[ug_s ug_l344 [], ug_s ug_l344 ug_l2, ug_s ug_l344 [], ug_s ug_l344 ug_l2, ug_s ug_l344 [], ug_s ug_l344 ug_l2, ug_s ug_l344 ug_l170, none, none, ug_s ug_l344 ug_l3, none, none, ug_s ug_l344 [], ug_s2 ug_l344 ug_l33 [31], none, none, ug_s ug_l344 ug_l41, ug_s ug_l344 ug_l42, ug_s ug_l344 ug_l2, none, none, ug_s ug_l344 [], ug_s ug_l344 ug_l2, ug_s ug_l344 ug_l3, ug_s ug_l344 ug_l48, ug_s ug_l344 ug_l3, ug_s ug_l344 ug_l2, ug_s ug_l344 [], none, none, ug_s ug_l344 [], none],
  [none, ug_s ug_l344 [], ug_s ug_l344 ug_l2]])
def ug_x108 : ug_X := (242, [ug_z], some (ug_z), 0, [[ug_s ug_l2 [], ug_s ug_l2 ug_l2, ug_s ug_l2 ug_l3, ug_s ug_l2 ug_l48, ug_s ug_l2 ug_l3, none, none, ug_s ug_l2 ug_l48, ug_s ug_l2 ug_l3, ug_s ug_l2 ug_l2, ug_s ug_l2 [], ug_s ug_l2 ug_l2, none, none, ug_s ug_l2 ug_l3, ug_s ug_l2 ug_l2, ug_s ug_l2 ug_l3, ug_s ug_l2 ug_l48, ug_s ug_l2 ug_l3, none, none, ug_s ug_l2 ug_l48, ug_s ug_l2 ug_l3, ug_s ug_l2 ug_l2, ug_s ug_l2 [], ug_s ug_l2 ug_l2, ug_s ug_l2 ug_l3, ug_s ug_l2 ug_l48, ug_s ug_l2 ug_l3, ug_s ug_l2 ug_l2, none, none],
  [ug_s ug_l2 ug_l3, ug_s ug_l2 ug_l2, ug_s ug_l2 [], ug_s ug_l2 ug_l2, ug_s ug_l2 ug_l3, none, ug_s ug_l2 ug_l48, ug_s ug_l2 ug_l3, ug_s ug_l2 ug_l2, ug_s ug_l2 [], ug_s ug_l2 ug_l2, ug_s ug_l2 ug_l3, none, ug_s ug_l2 ug_l48, ug_s ug_l2 ug_l3, ug_s ug_l2 ug_l2, ug_s ug_l2 [], ug_s ug_l2 ug_l2, none, ug_s ug_l2 ug_l3, ug_s ug_l2 ug_l2]])
def ug_l345 : List ug_T := [some (.inl [0]), some (.inl [29]), ug_z, ug_z]
def ug_l346 : List ug_T := [some (.inl [29]), ug_z]
def ug_l347 : List ug_T := [ug_z, some (.inl [29]), ug_z]
def ug_x109 : ug_X := (131, [some (.inl [0]), some (.inl [29])], some (ug_z), 0, [[ug_s ug_l345 [], ug_s ug_l345 ug_l2, ug_s ug_l345 [], ug_s ug_l345 ug_l2, ug_s ug_l345 [], ug_s ug_l345 ug_l2, ug_s2 ug_l345 ug_l8 [2, 11], none, none, ug_s ug_l345 ug_l181, none, none, ug_s ug_l345 ug_l3, none, none, ug_s ug_l345 [], ug_s ug_l345 ug_l2, ug_s ug_l345 ug_l346, ug_s ug_l345 ug_l347, ug_s1 ug_l345 ug_l3 108, none, none, ug_s ug_l345 ug_l3, ug_s ug_l345 ug_l2, ug_s ug_l345 [], none, none, ug_s ug_l345 [], none, none, ug_s ug_l345 [], ug_s ug_l345 ug_l2]])
def ug_l348 : List ug_T := [some (.inl [0]), some (.inl [31]), ug_z, ug_z]
def ug_l349 : List ug_T := [some (.inl [31]), ug_z]
def ug_l350 : List ug_T := [ug_z, some (.inl [31]), ug_z]
def ug_x110 : ug_X := (131, [some (.inl [0]), some (.inl [31])], some (ug_z), 0, [[ug_s ug_l348 [], ug_s ug_l348 ug_l2, ug_s ug_l348 [], ug_s ug_l348 ug_l2, ug_s ug_l348 [], ug_s ug_l348 ug_l2, ug_s2 ug_l348 ug_l8 [2, 11], none, none, ug_s ug_l348 ug_l181, none, none, ug_s ug_l348 ug_l3, none, none, ug_s ug_l348 [], ug_s ug_l348 ug_l2, ug_s ug_l348 ug_l349, ug_s ug_l348 ug_l350, ug_s1 ug_l348 ug_l3 108, none, none, ug_s ug_l348 ug_l3, ug_s ug_l348 ug_l2, ug_s ug_l348 [], none, none, ug_s ug_l348 [], none, none, ug_s ug_l348 [], ug_s ug_l348 ug_l2]])
def ug_l351 : List ug_T := [some (.inl [26]), some (.inl [2, 11])]
def ug_l352 : List ug_T := [some (.inl [5, 14])]
def ug_l353 : List ug_T := [some (.inl [26]), some (.inl [5, 14])]
def ug_l354 : List ug_T := [ug_z, some (.inl [5, 14])]
def ug_l355 : List ug_T := [ug_z, ug_z, some (.inl [5, 14])]
def ug_x111 : ug_X := (22, [some (.inl [26]), some (.inl [2, 11])], some (ug_z), 0, [[ug_s ug_l351 [], ug_s ug_l351 ug_l33, none, none, ug_s ug_l351 ug_l2, ug_s ug_l351 ug_l3, none, none, ug_s ug_l351 [], ug_s2 ug_l351 ug_l75 [5, 14], none, none, ug_s ug_l351 ug_l352, ug_s ug_l351 ug_l353, none, none, ug_s ug_l351 ug_l354, none, ug_s1 ug_l351 ug_l355 125, none, none, ug_s ug_l351 ug_l354, ug_s ug_l351 ug_l2, none, none, ug_s ug_l351 [], ug_s ug_l351 ug_l33, none, none, ug_s ug_l351 ug_l2]])
def ug_x112 : ug_X := (32, [some (.inl [26])], some (ug_z), 0, [[ug_s ug_l344 [], ug_s ug_l344 ug_l2, ug_s ug_l344 [], ug_s ug_l344 ug_l2, ug_s ug_l344 [], ug_s ug_l344 ug_l2, ug_s ug_l344 ug_l170, none, none, ug_s ug_l344 ug_l3, none, none, ug_s ug_l344 [], ug_s2 ug_l344 ug_l33 [30], none, none, ug_s ug_l344 ug_l44, ug_s ug_l344 ug_l45, ug_s ug_l344 ug_l2, ug_s ug_l344 ug_l3, none, none, ug_s ug_l344 [], ug_s ug_l344 ug_l2, ug_s ug_l344 ug_l3, ug_s ug_l344 ug_l48, ug_s ug_l344 ug_l3, ug_s ug_l344 ug_l2, ug_s ug_l344 [], none, none, ug_s ug_l344 []],
  [none, none, ug_s ug_l344 [], ug_s ug_l344 ug_l2]])
def ug_l356 : List ug_T := [some (.inl [108]), ug_z, some (.inl [109])]
def ug_l357 : List ug_T := [ug_z, some (.inl [108]), ug_z, some (.inl [109])]
def ug_x113 : ug_X := (171, [some (.inl [80])], none, 11935757673834879411729173955523700162410947619136345219220172552752681381867113053945856, [[ug_s ug_l11 [], ug_s ug_l11 ug_l2, ug_s ug_l11 [], ug_s ug_l11 ug_l2, none, ug_s ug_l11 ug_l3, none, none, ug_s ug_l11 [], ug_s2 ug_l11 ug_l6 [109], none, none, ug_s ug_l11 ug_l49, ug_s ug_l11 ug_l50, ug_s2 ug_l11 ug_l83 [108], none, none, ug_s ug_l11 ug_l356, ug_s ug_l11 ug_l357, ug_s ug_l11 ug_l51, ug_s ug_l11 [], none, none, ug_s ug_l11 [], none, none, ug_s ug_l11 [], ug_s ug_l11 ug_l6, ug_s2 ug_l11 ug_l12 [95], none, none, ug_s ug_l11 ug_l320],
  [ug_s ug_l11 ug_l321, none, none, ug_s ug_l11 ug_l322, ug_s ug_l11 ug_l7, none, none, ug_s ug_l11 [], ug_s ug_l11 ug_l6, ug_s ug_l11 ug_l7, none, none, ug_s ug_l11 []]])
def ug_l358 : List ug_T := [ug_z, ug_z, some (.inl [109]), ug_z]
def ug_x114 : ug_X := (240, [some (.inl [80]), ug_z, ug_z], some (ug_z), 0, [[ug_s ug_l162 [], ug_s ug_l162 ug_l2, ug_s ug_l162 [], ug_s ug_l162 ug_l2, none, ug_s ug_l162 [], none, ug_s ug_l162 ug_l2, ug_s2 ug_l162 ug_l11 [89], none, none, ug_s ug_l162 ug_l187, ug_s ug_l162 ug_l188, none, none, ug_s ug_l162 ug_l189, ug_s ug_l162 ug_l3, none, none, ug_s ug_l162 [], ug_s ug_l162 ug_l2, ug_s ug_l162 ug_l3, none, none, ug_s ug_l162 ug_l2, ug_s2 ug_l162 ug_l11 [109], none, none, ug_s ug_l162 ug_l175, ug_s ug_l162 ug_l176, none, ug_s ug_l162 ug_l358],
  [ug_s ug_l162 ug_l176, ug_s ug_l162 ug_l3, none, ug_s ug_l162 ug_l48, ug_s ug_l162 ug_l3, none, none, ug_s ug_l162 ug_l2, ug_s ug_l162 ug_l3, ug_s ug_l162 ug_l48, none, none, ug_s ug_l162 ug_l2, ug_s2 ug_l162 ug_l11 [109], none, none, ug_s ug_l162 ug_l175, ug_s ug_l162 ug_l176, none, ug_s ug_l162 ug_l358, ug_s ug_l162 ug_l176, ug_s ug_l162 ug_l3, none, none, ug_s ug_l162 ug_l2, ug_s ug_l162 ug_l3, none, ug_s ug_l162 ug_l48, ug_s ug_l162 ug_l3, none, none, ug_s ug_l162 ug_l2],
  [ug_s ug_l162 ug_l3, none, none, ug_s ug_l162 ug_l2, ug_s2 ug_l162 ug_l11 [109], none, none, ug_s ug_l162 ug_l175, ug_s ug_l162 ug_l176, none, ug_s ug_l162 ug_l358, ug_s ug_l162 ug_l176, ug_s1 ug_l162 ug_l3 126, none, none, ug_s ug_l162 ug_l3, ug_s ug_l162 ug_l2, ug_s ug_l162 [], none, none, ug_s ug_l162 [], none, none, ug_s ug_l162 [], ug_s ug_l162 ug_l2]])
def ug_x115 : ug_X := (225, [some (.inl [80])], some (ug_z), 0, [[ug_s ug_l47 [], ug_s ug_l47 ug_l2, ug_s ug_l47 [], ug_s ug_l47 ug_l2, ug_s ug_l47 [], ug_s ug_l47 ug_l2, ug_s2 ug_l47 ug_l11 [89], none, none, ug_s ug_l47 ug_l187, ug_s ug_l47 ug_l188, none, none, ug_s ug_l47 ug_l189, ug_s ug_l47 ug_l3, none, none, ug_s ug_l47 [], ug_s2 ug_l47 ug_l6 [109], none, none, ug_s ug_l47 ug_l49, none, ug_s ug_l47 ug_l50, ug_s ug_l47 ug_l51, ug_s ug_l47 ug_l50, ug_s ug_l47 ug_l2, none, none, ug_s ug_l47 [], ug_s ug_l47 ug_l2, ug_s ug_l47 ug_l3],
  [ug_s ug_l47 ug_l48, ug_s ug_l47 ug_l3, ug_s ug_l47 ug_l2, ug_s ug_l47 [], none, none, ug_s ug_l47 [], none, none, ug_s ug_l47 [], ug_s ug_l47 ug_l2]])
def ug_x116 : ug_X := (186, [some (.inl [80]), ug_z], some (ug_z), 0, [[ug_s ug_l11 [], ug_s2 ug_l11 ug_l6 [109], none, none, ug_s ug_l11 ug_l49, none, ug_s ug_l11 ug_l50, ug_s ug_l11 ug_l51, ug_s ug_l11 ug_l50, ug_s ug_l11 ug_l2, ug_s2 ug_l11 ug_l11 [109], none, none, ug_s ug_l11 ug_l175, ug_s ug_l11 ug_l176, ug_s ug_l11 ug_l3, none, none, ug_s ug_l11 [], ug_s ug_l11 ug_l2, none, none, ug_s ug_l11 [], ug_s ug_l11 ug_l2]])
def ug_l359 : List ug_T := [some (.inl [80]), ug_z, some (.inl [93])]
def ug_l360 : List ug_T := [some (.inl [109]), ug_z, some (.inl [93])]
def ug_l361 : List ug_T := [ug_z, some (.inl [109]), ug_z, some (.inl [93])]
def ug_l362 : List ug_T := [ug_z, ug_z, ug_z, some (.inl [93])]
def ug_x117 : ug_X := (183, [some (.inl [80])], some (ug_z), 0, [[ug_s ug_l6 [], ug_s2 ug_l6 ug_l6 [109], none, none, ug_s ug_l6 ug_l49, none, ug_s ug_l6 ug_l50, ug_s ug_l6 ug_l2, ug_s ug_l6 ug_l3, none, none, ug_s ug_l6 [], ug_s2 ug_l6 ug_l6 [109], none, none, ug_s ug_l6 ug_l49, none, ug_s ug_l6 ug_l50, ug_s ug_l6 ug_l2, none, none, ug_s ug_l6 [], ug_s2 ug_l6 ug_l6 [93], none, none, ug_s ug_l6 ug_l306, none, ug_s ug_l6 ug_l307, ug_s ug_l6 ug_l359, none, none, ug_s ug_l6 ug_l308],
  [ug_s ug_l6 ug_l307, ug_s2 ug_l6 ug_l359 [109], none, none, ug_s ug_l6 ug_l360, none, ug_s ug_l6 ug_l361, ug_s ug_l6 ug_l308, none, ug_s ug_l6 ug_l362, ug_s ug_l6 ug_l308, ug_s ug_l6 ug_l307, ug_s ug_l6 ug_l2]])
def ug_x118 : ug_X := (182, [some (.inl [80]), ug_z], some (ug_z), 0, [[ug_s ug_l11 [], ug_s2 ug_l11 ug_l6 [109], none, none, ug_s ug_l11 ug_l49, none, ug_s ug_l11 ug_l50, ug_s ug_l11 ug_l51, ug_s ug_l11 ug_l50, ug_s ug_l11 ug_l2, ug_s ug_l11 ug_l3, none, none, ug_s ug_l11 [], ug_s2 ug_l11 ug_l6 [109], none, none, ug_s ug_l11 ug_l49, none, ug_s ug_l11 ug_l50, ug_s ug_l11 ug_l51, ug_s ug_l11 ug_l50, ug_s ug_l11 ug_l2, none, none, ug_s ug_l11 [], ug_s ug_l11 ug_l2, none, none, ug_s ug_l11 [], ug_s ug_l11 ug_l2]])
def ug_l363 : List ug_T := [some (.inl [6, 15])]
def ug_l364 : List ug_T := [ug_z, some (.inl [2, 11])]
def ug_x119 : ug_X := (54, [some (.inl [2, 11])], none, 9155405023712470262921316111091836312470655294981024, [[ug_s ug_l75 [], ug_s2 ug_l75 ug_l75 [5, 14], none, none, ug_s ug_l75 ug_l352, ug_s1 ug_l75 ug_l354 127, none, none, ug_s ug_l75 [], ug_s2 ug_l75 ug_l75 [6, 15], none, none, ug_s1 ug_l75 ug_l363 128, none, none, ug_s ug_l75 [], ug_s ug_l75 ug_l75, ug_s ug_l75 ug_l364, none, none, ug_s ug_l75 [], ug_s ug_l75 ug_l75, ug_s ug_l75 ug_l364, none, none, ug_s ug_l75 [], ug_s ug_l75 ug_l75, none, ug_s ug_l75 ug_l364, none, none, ug_s ug_l75 []],
  [ug_s ug_l75 ug_l75, ug_s ug_l75 ug_l364, none, none, ug_s ug_l75 []]])
def ug_l365 : List ug_T := [some (.inl [21]), some (.inl [1]), ug_z, ug_z, ug_z]
def ug_l366 : List ug_T := [ug_z, some (.inl [21])]
def ug_l367 : List ug_T := [some (.inl [24])]
def ug_l368 : List ug_T := [some (.inl [21]), some (.inl [24])]
def ug_l369 : List ug_T := [ug_z, some (.inl [24])]
def ug_l370 : List ug_T := [ug_z, ug_z, some (.inl [24])]
def ug_l371 : List ug_T := [ug_z, ug_z, some (.inl [1]), some (.inl [21])]
def ug_l372 : List ug_T := [some (.inl [21]), some (.inl [21])]
def ug_l373 : List ug_T := [ug_z, ug_z, some (.inl [21])]
def ug_l374 : List ug_T := [some (.inl [22])]
def ug_l375 : List ug_T := [some (.inl [21]), some (.inl [22])]
def ug_l376 : List ug_T := [ug_z, some (.inl [22])]
def ug_l377 : List ug_T := [ug_z, ug_z, some (.inl [22])]
def ug_x120 : ug_X := (58, [some (.inl [21]), some (.inl [1]), ug_z], none, 49039857307708443467467104868809893875799651909904629760, [[ug_s ug_l365 [], ug_s ug_l365 ug_l276, ug_s ug_l365 ug_l366, none, none, ug_s ug_l365 [], ug_s ug_l365 ug_l2, ug_s ug_l365 [], ug_s ug_l365 ug_l2, none, ug_s ug_l365 [], none, ug_s ug_l365 ug_l2, ug_s ug_l365 ug_l3, none, none, ug_s ug_l365 [], ug_s ug_l365 ug_l276, none, none, ug_s ug_l365 ug_l2, none, none, ug_s ug_l365 ug_l3, none, none, ug_s ug_l365 [], ug_s ug_l365 ug_l265, ug_s ug_l365 ug_l267, ug_s1 ug_l365 ug_l268 129, none, none],
  [ug_s ug_l365 ug_l2, ug_s ug_l365 [], ug_s2 ug_l365 ug_l276 [24], none, none, ug_s ug_l365 ug_l367, ug_s ug_l365 ug_l368, none, none, ug_s ug_l365 ug_l369, ug_s ug_l365 ug_l370, ug_s ug_l365 [], ug_s ug_l365 ug_l276, ug_s ug_l365 ug_l277, ug_s ug_l365 ug_l278, ug_s1 ug_l365 ug_l371 209, none, none, ug_s ug_l365 ug_l2, ug_s ug_l365 [], ug_s ug_l365 ug_l276, ug_s ug_l365 ug_l372, none, none, ug_s ug_l365 ug_l366, ug_s ug_l365 ug_l373, ug_s ug_l365 ug_l366, none, none, ug_s ug_l365 [], ug_s2 ug_l365 ug_l276 [22], none],
  [none, ug_s ug_l365 ug_l374, ug_s ug_l365 ug_l375, none, none, ug_s ug_l365 ug_l376, ug_s ug_l365 ug_l377, ug_s ug_l365 ug_l376, ug_s ug_l365 ug_l2, none, ug_s ug_l365 ug_l3, none, none, ug_s ug_l365 [], ug_s2 ug_l365 ug_l276 [22], none, none, ug_s ug_l365 ug_l374, ug_s ug_l365 ug_l375, none, none, ug_s ug_l365 ug_l376, ug_s ug_l365 ug_l377, ug_s ug_l365 ug_l376, ug_s ug_l365 ug_l2, none, ug_s ug_l365 ug_l3, none, none, ug_s ug_l365 [], ug_s ug_l365 [], none],
  [none, ug_s ug_l365 [], none, none, ug_s ug_l365 []]])
def ug_l378 : List ug_T := [some (.inl [20]), ug_z]
def ug_l379 : List ug_T := [some (.inl [21]), ug_z]
def ug_l380 : List ug_T := [some (.inl [20]), some (.inl [22])]
def ug_x121 : ug_X := (38, [some (.inl [20])], some (ug_z), 0, [[ug_s ug_l14 [], ug_s ug_l14 ug_l14, none, none, ug_s ug_l14 ug_l2, ug_s2 ug_l14 ug_l378 [21], none, none, ug_s ug_l14 ug_l379, none, none, ug_s ug_l14 ug_l3, none, none, ug_s ug_l14 [], ug_s2 ug_l14 ug_l14 [21], none, none, ug_s2 ug_l14 ug_l276 [22], none, none, ug_s ug_l14 ug_l374, ug_s ug_l14 ug_l380, none, none, ug_s ug_l14 ug_l376, ug_s ug_l14 ug_l2, none, none, ug_s ug_l14 [], none, ug_s ug_l14 ug_l2]])
def ug_x122 : ug_X := (136, [some (.inl [80]), ug_z], some (ug_z), 0, [[ug_s ug_l11 [], ug_s ug_l11 ug_l2, ug_s ug_l11 ug_l11, none, none, ug_s ug_l11 ug_l3, none, none, ug_s ug_l11 [], ug_s2 ug_l11 ug_l6 [82], none, none, ug_s ug_l11 ug_l22, ug_s ug_l11 ug_l23, ug_s ug_l11 ug_l2, none, none, ug_s ug_l11 ug_l3, ug_s ug_l11 ug_l2, none, none, ug_s ug_l11 [], ug_s ug_l11 ug_l2]])
def ug_l381 : List ug_T := [some (.inl [26]), some (.inl [42])]
def ug_l382 : List ug_T := [some (.inl [42])]
def ug_l383 : List ug_T := [some (.inl [43])]
def ug_l384 : List ug_T := [ug_z, some (.inl [43])]
def ug_l385 : List ug_T := [some (.inl [26]), ug_z, some (.inl [43])]
def ug_l386 : List ug_T := [some (.inl [27]), ug_z, some (.inl [43])]
def ug_l387 : List ug_T := [ug_z, some (.inl [27]), ug_z, some (.inl [43])]
def ug_l388 : List ug_T := [ug_z, ug_z, some (.inl [27]), ug_z, some (.inl [43])]
def ug_l389 : List ug_T := [some (.inl [44])]
def ug_l390 : List ug_T := [ug_z, some (.inl [44])]
def ug_l391 : List ug_T := [some (.inl [26]), ug_z, some (.inl [44])]
def ug_l392 : List ug_T := [some (.inl [28]), ug_z, some (.inl [44])]
def ug_l393 : List ug_T := [ug_z, some (.inl [28]), ug_z, some (.inl [44])]
def ug_l394 : List ug_T := [ug_z, ug_z, some (.inl [28]), ug_z, some (.inl [44])]
def ug_l395 : List ug_T := [some (.inl [45])]
def ug_l396 : List ug_T := [ug_z, some (.inl [45])]
def ug_l397 : List ug_T := [some (.inl [26]), ug_z, some (.inl [45])]
def ug_l398 : List ug_T := [some (.inl [29]), ug_z, some (.inl [45])]
def ug_l399 : List ug_T := [ug_z, some (.inl [29]), ug_z, some (.inl [45])]
def ug_l400 : List ug_T := [ug_z, ug_z, some (.inl [29]), ug_z, some (.inl [45])]
def ug_l401 : List ug_T := [some (.inl [46])]
def ug_l402 : List ug_T := [ug_z, some (.inl [46])]
def ug_l403 : List ug_T := [some (.inl [26]), ug_z, some (.inl [46])]
def ug_l404 : List ug_T := [some (.inl [30]), ug_z, some (.inl [46])]
def ug_l405 : List ug_T := [ug_z, some (.inl [30]), ug_z, some (.inl [46])]
def ug_l406 : List ug_T := [ug_z, ug_z, some (.inl [30]), ug_z, some (.inl [46])]
def ug_l407 : List ug_T := [some (.inl [47])]
def ug_l408 : List ug_T := [ug_z, some (.inl [47])]
def ug_l409 : List ug_T := [some (.inl [26]), ug_z, some (.inl [47])]
def ug_l410 : List ug_T := [some (.inl [31]), ug_z, some (.inl [47])]
def ug_l411 : List ug_T := [ug_z, some (.inl [31]), ug_z, some (.inl [47])]
def ug_l412 : List ug_T := [ug_z, ug_z, some (.inl [31]), ug_z, some (.inl [47])]
def ug_l413 : List ug_T := [some (.inl [48])]
def ug_l414 : List ug_T := [ug_z, some (.inl [48])]
def ug_l415 : List ug_T := [some (.inl [26]), ug_z, some (.inl [48])]
def ug_l416 : List ug_T := [some (.inl [32]), ug_z, some (.inl [48])]
def ug_l417 : List ug_T := [ug_z, some (.inl [32]), ug_z, some (.inl [48])]
def ug_l418 : List ug_T := [ug_z, ug_z, some (.inl [32]), ug_z, some (.inl [48])]
def ug_x123 : ug_X := (17, [some (.inl [26]), some (.inl [42])], none, 194590153796987103678909472119437658899173018778393525616640, [[ug_s ug_l381 [], ug_s ug_l381 ug_l33, ug_s ug_l381 ug_l343, none, none, ug_s ug_l381 ug_l38, none, none, ug_s ug_l381 [], ug_s ug_l381 ug_l33, ug_s ug_l381 ug_l343, none, none, ug_s ug_l381 ug_l38, none, none, ug_s ug_l381 [], ug_s ug_l381 ug_l33, ug_s ug_l381 ug_l343, none, none, ug_s ug_l381 ug_l38, none, none, ug_s ug_l381 [], ug_s ug_l381 ug_l33, ug_s ug_l381 ug_l343, none, none, ug_s ug_l381 ug_l38, none, none],
  [ug_s ug_l381 [], ug_s ug_l381 ug_l33, ug_s ug_l381 ug_l343, none, none, ug_s ug_l381 ug_l38, none, none, ug_s ug_l381 [], ug_s2 ug_l381 ug_l382 [43], none, none, ug_s ug_l381 ug_l383, ug_s ug_l381 ug_l384, ug_s2 ug_l381 ug_l385 [27], none, none, ug_s ug_l381 ug_l386, ug_s ug_l381 ug_l387, none, ug_s ug_l381 ug_l388, none, none, ug_s ug_l381 [], ug_s2 ug_l381 ug_l382 [44], none, none, ug_s ug_l381 ug_l389, ug_s ug_l381 ug_l390, ug_s2 ug_l381 ug_l391 [28], none, none],
  [ug_s ug_l381 ug_l392, ug_s ug_l381 ug_l393, none, ug_s ug_l381 ug_l394, none, none, ug_s ug_l381 [], ug_s2 ug_l381 ug_l382 [45], none, none, ug_s ug_l381 ug_l395, ug_s ug_l381 ug_l396, ug_s2 ug_l381 ug_l397 [29], none, none, ug_s ug_l381 ug_l398, ug_s ug_l381 ug_l399, none, ug_s ug_l381 ug_l400, none, none, ug_s ug_l381 [], ug_s2 ug_l381 ug_l382 [46], none, none, ug_s ug_l381 ug_l401, ug_s ug_l381 ug_l402, ug_s2 ug_l381 ug_l403 [30], none, none, ug_s ug_l381 ug_l404, ug_s ug_l381 ug_l405],
  [none, ug_s ug_l381 ug_l406, none, none, ug_s ug_l381 [], ug_s2 ug_l381 ug_l382 [47], none, none, ug_s ug_l381 ug_l407, ug_s ug_l381 ug_l408, ug_s2 ug_l381 ug_l409 [31], none, none, ug_s ug_l381 ug_l410, ug_s ug_l381 ug_l411, none, ug_s ug_l381 ug_l412, none, none, ug_s ug_l381 [], ug_s2 ug_l381 ug_l382 [48], none, none, ug_s ug_l381 ug_l413, ug_s ug_l381 ug_l414, ug_s2 ug_l381 ug_l415 [32], none, none, ug_s ug_l381 ug_l416, ug_s ug_l381 ug_l417, none, ug_s ug_l381 ug_l418],
  [none, none, ug_s ug_l381 []]])
def ug_x124 : ug_X := (21, [some (.inl [26]), ug_z], some (ug_z), 0, [[ug_s ug_l170 [], ug_s2 ug_l170 ug_l33 [27], none, none, ug_s ug_l170 ug_l43, ug_s ug_l170 ug_l46, ug_s ug_l170 ug_l2, ug_s2 ug_l170 ug_l170 [29], none, none, ug_s ug_l170 ug_l346, ug_s ug_l170 ug_l347, ug_s ug_l170 ug_l3, ug_s ug_l170 ug_l48, ug_s ug_l170 ug_l3, ug_s ug_l170 ug_l2]])
def ug_x125 : ug_X := (243, [ug_z, ug_z], some (ug_z), 0, [[ug_s ug_l48 [], ug_s ug_l48 ug_l2, ug_s ug_l48 ug_l3, ug_s ug_l48 ug_l2, ug_s ug_l48 [], ug_s ug_l48 ug_l2, ug_s ug_l48 ug_l3, ug_s ug_l48 ug_l2, none, none, ug_s ug_l48 [], ug_s ug_l48 ug_l2, none, none, ug_s ug_l48 [], ug_s ug_l48 ug_l2, ug_s ug_l48 ug_l3, ug_s ug_l48 ug_l2, ug_s ug_l48 [], ug_s ug_l48 ug_l2]])
def ug_x126 : ug_X := (166, [ug_z], some (ug_z), 0, [[ug_s ug_l48 [], ug_s ug_l48 ug_l2, ug_s ug_l48 [], ug_s ug_l48 ug_l2, ug_s ug_l48 [], ug_s ug_l48 ug_l2, none, ug_s ug_l48 ug_l3, none, none, ug_s ug_l48 [], ug_s ug_l48 ug_l2, ug_s ug_l48 ug_l3, ug_s ug_l48 ug_l48, ug_s ug_l48 ug_l3, ug_s ug_l48 ug_l48, ug_s ug_l48 ug_l3, ug_s ug_l48 ug_l2, ug_s ug_l48 [], none, none, ug_s ug_l48 [], none, none, ug_s ug_l48 [], ug_s ug_l48 ug_l2]])
def ug_l419 : List ug_T := [some (.inl [5, 14]), ug_z, ug_z, ug_z]
def ug_x127 : ug_X := (246, [some (.inl [5, 14]), ug_z], none, 16416, [[ug_s ug_l419 [], ug_s ug_l419 ug_l2, ug_s ug_l419 [], ug_s ug_l419 ug_l352, ug_s ug_l419 ug_l2, ug_s ug_l419 [], ug_s ug_l419 ug_l2, ug_s ug_l419 ug_l3, none, none, ug_s ug_l419 [], ug_s ug_l419 ug_l352, ug_s ug_l419 ug_l354, ug_s ug_l419 ug_l355, ug_s ug_l419 [], none, none, ug_s ug_l419 [], none, none, ug_s ug_l419 []]])
def ug_l420 : List ug_T := [some (.inl [6, 15]), ug_z, ug_z]
def ug_l421 : List ug_T := [ug_z, some (.inl [6, 15])]
def ug_l422 : List ug_T := [ug_z, ug_z, some (.inl [6, 15])]
def ug_x128 : ug_X := (8, [some (.inl [6, 15])], none, 8980014122875066618037765994021111478898420519207808, [[ug_s ug_l420 [], ug_s ug_l420 ug_l363, ug_s ug_l420 ug_l421, none, none, ug_s ug_l420 [], ug_s ug_l420 ug_l2, ug_s ug_l420 [], ug_s ug_l420 ug_l2, ug_s ug_l420 ug_l3, none, none, ug_s ug_l420 [], ug_s ug_l420 ug_l363, none, none, ug_s ug_l420 ug_l2, ug_s ug_l420 [], ug_s ug_l420 ug_l363, ug_s ug_l420 ug_l421, none, none, ug_s ug_l420 [], ug_s ug_l420 ug_l363, ug_s ug_l420 ug_l421, ug_s ug_l420 ug_l422, none, none, ug_s ug_l420 ug_l421, ug_s ug_l420 ug_l422, none, none],
  [ug_s ug_l420 ug_l421, ug_s1 ug_l420 ug_l422 161, none, none, ug_s ug_l420 ug_l2, ug_s ug_l420 [], ug_s ug_l420 ug_l363, none, ug_s ug_l420 ug_l421, ug_s1 ug_l420 ug_l422 161, none, none, ug_s ug_l420 ug_l2, ug_s ug_l420 [], ug_s ug_l420 ug_l363, ug_s ug_l420 ug_l421, ug_s1 ug_l420 ug_l422 228, none, none, ug_s ug_l420 [], none, none, ug_s ug_l420 [], none, none, ug_s ug_l420 []]])
def ug_l423 : List ug_T := [some (.inl [1]), ug_z, ug_z, ug_z, ug_z]
def ug_x129 : ug_X := (59, [some (.inl [1]), ug_z, ug_z], some (ug_z), 0, [[ug_s ug_l423 [], ug_s ug_l423 ug_l2, ug_s ug_l423 [], ug_s ug_l423 ug_l2, ug_s ug_l423 ug_l3, none, none, ug_s ug_l423 [], ug_s ug_l423 ug_l265, ug_s ug_l423 ug_l267, ug_s ug_l423 ug_l2, none, ug_s ug_l423 [], none, ug_s ug_l423 ug_l2, none, ug_s ug_l423 ug_l3, none, none, ug_s ug_l423 [], none, ug_s ug_l423 ug_l2, none, ug_s ug_l423 ug_l3, none, none, ug_s ug_l423 [], none, ug_s ug_l423 ug_l2, none, ug_s ug_l423 ug_l3, none],
  [none, ug_s ug_l423 [], none, ug_s ug_l423 ug_l2, none, ug_s ug_l423 ug_l3, none, none, ug_s ug_l423 [], ug_s ug_l423 ug_l2, ug_s ug_l423 [], none, none, ug_s ug_l423 [], none, none, ug_s ug_l423 [], ug_s ug_l423 ug_l2]])
def ug_l424 : List ug_T := [some (.inl [0]), some (.inl [2, 11])]
def ug_l425 : List ug_T := [some (.inl [2, 11]), some (.inl [0])]
def ug_x130 : ug_X := (74, [some (.inl [0])], none, 7764466285838531735867129604066361584010583745036340115504589711605760, [[ug_s ug_l8 [], ug_s2 ug_l8 ug_l1 [2, 11], none, none, ug_s ug_l8 ug_l75, ug_s ug_l424 [], ug_s ug_l424 ug_l1, ug_s2 ug_l424 ug_l9 [2, 11], none, none, ug_s ug_l424 ug_l425, none, none, ug_s ug_l424 [], ug_s ug_l424 ug_l1, ug_s ug_l424 ug_l425, none, none, ug_s ug_l424 [], ug_s2 ug_l424 ug_l1 [26], none, none, ug_s ug_l424 ug_l33, ug_s2 ug_l424 ug_l96 [2, 11], none, none, ug_s1 ug_l424 ug_l97 168, none, none, ug_s ug_l424 [], ug_s2 ug_l424 ug_l1 [40], none],
  [none, ug_s ug_l424 ug_l106, ug_s ug_l424 ug_l253, none, none, ug_s ug_l424 [], ug_s2 ug_l424 ug_l1 [67], none, none, ug_s ug_l424 ug_l225, ug_s ug_l424 ug_l226, none, none, ug_s ug_l424 [], ug_s ug_l424 ug_l1, ug_s ug_l424 ug_l4, none, none, ug_s ug_l424 [], ug_s2 ug_l424 ug_l1 [55], none, none, ug_s ug_l424 ug_l104, ug_s ug_l424 ug_l105, none, none, ug_s ug_l424 []]])
def ug_l426 : List ug_T := [some (.inl [80]), some (.inl [94])]
def ug_l427 : List ug_T := [some (.inl [80]), ug_z, some (.inl [94])]
def ug_l428 : List ug_T := [ug_z, some (.inl [80]), ug_z, some (.inl [94])]
def ug_l429 : List ug_T := [some (.inl [80]), some (.inl [95])]
def ug_l430 : List ug_T := [some (.inl [80]), ug_z, some (.inl [95])]
def ug_l431 : List ug_T := [ug_z, some (.inl [80]), ug_z, some (.inl [95])]
def ug_l432 : List ug_T := [ug_z, ug_z, some (.inl [80]), ug_z, some (.inl [95])]
def ug_l433 : List ug_T := [ug_z, ug_z, some (.inl [80]), ug_z, some (.inl [94])]
def ug_l434 : List ug_T := [some (.inl [92]), some (.inl [80])]
def ug_l435 : List ug_T := [some (.inl [89]), some (.inl [80])]
def ug_l436 : List ug_T := [some (.inl [80]), some (.inl [89]), some (.inl [80])]
def ug_l437 : List ug_T := [ug_z, some (.inl [89]), some (.inl [80])]
def ug_l438 : List ug_T := [some (.inl [80]), some (.inl [92]), some (.inl [80])]
def ug_l439 : List ug_T := [ug_z, some (.inl [92]), some (.inl [80])]
def ug_l440 : List ug_T := [ug_z, some (.inl [92]), ug_z, some (.inl [92])]
def ug_l441 : List ug_T := [ug_z, ug_z, ug_z, some (.inl [92])]
def ug_x131 : ug_X := (154, [some (.inl [80])], none, 66111484028782498173134122293246067789447915556613714535392231342579349081634803548160, [[ug_s ug_l47 [], ug_s2 ug_l47 ug_l6 [83], none, none, ug_s ug_l47 ug_l315, ug_s ug_l47 ug_l316, none, none, ug_s ug_l47 ug_l317, ug_s ug_l47 ug_l2, none, none, none, none, none, none, none, none, none, none, none, none, none, none, none, none, none, none, none, none, none, none],
  [none, none, none, none, none, none, none, none, none, none, none, none, none, none, none, none, none, none, none, none, none, none, none, none, ug_s ug_l47 [], ug_s ug_l47 ug_l6, ug_s2 ug_l47 ug_l12 [89], none, none, ug_s ug_l47 ug_l435, ug_s ug_l47 ug_l436, none],
  [none, ug_s ug_l47 ug_l437, ug_s ug_l47 ug_l7, none, ug_s1 ug_l47 ug_l13 172, none, none, ug_s ug_l47 [], ug_s ug_l47 ug_l6, none, none, ug_s ug_l47 ug_l2, none, none, ug_s ug_l47 [], ug_s1 ug_l47 ug_l6 173, none, none, ug_s ug_l47 [], none, none, ug_s ug_l47 [], ug_s ug_l47 ug_l6, ug_s2 ug_l47 ug_l12 [92], none, none, ug_s ug_l47 ug_l434, ug_s ug_l47 ug_l438, none, none, ug_s ug_l47 ug_l439, ug_s ug_l47 ug_l7],
  [none, ug_s1 ug_l47 ug_l13 172, none, none, ug_s ug_l47 [], ug_s ug_l47 ug_l6, none, none, ug_s ug_l47 ug_l2, none, none, ug_s ug_l47 [], ug_s ug_l47 [], ug_s ug_l47 ug_l6, ug_s ug_l47 ug_l7, none, ug_s1 ug_l47 ug_l13 177, none, none, ug_s ug_l47 ug_l2, ug_s ug_l47 [], ug_s ug_l47 ug_l6, ug_s ug_l47 ug_l7, none, none, ug_s1 ug_l47 ug_l13 177, none, none, ug_s ug_l47 ug_l2, ug_s ug_l47 [], ug_s ug_l47 ug_l6, ug_s1 ug_l47 ug_l7 210],
  [none, none, ug_s ug_l47 [], ug_s ug_l47 ug_l2, none, ug_s ug_l47 ug_l3, none, none, ug_s ug_l47 [], ug_s2 ug_l47 ug_l6 [93], none, none, ug_s ug_l47 ug_l306, none, ug_s ug_l47 ug_l307, ug_s ug_l47 ug_l359, none, none, ug_s ug_l47 ug_l308, ug_s ug_l47 ug_l307, ug_s ug_l47 ug_l308, ug_s ug_l47 ug_l307, ug_s ug_l47 ug_l308, ug_s ug_l47 [], ug_s2 ug_l47 ug_l6 [92], none, none, ug_s ug_l47 ug_l262, ug_s ug_l47 ug_l263, none, none, ug_s ug_l47 ug_l264],
  [ug_s ug_l47 ug_l440, ug_s ug_l47 ug_l299, ug_s ug_l47 ug_l441, ug_s ug_l47 ug_l299, ug_s ug_l47 [], none, none, ug_s ug_l47 [], ug_s2 ug_l47 ug_l6 [94], none, none, ug_s ug_l47 ug_l300, ug_s ug_l47 ug_l426, none, none, ug_s ug_l47 ug_l301, ug_s ug_l47 ug_l427, ug_s ug_l47 ug_l428, none, ug_s1 ug_l47 ug_l433 171, none, none, ug_s ug_l47 ug_l302, ug_s ug_l47 [], none, none, ug_s ug_l47 [], ug_s2 ug_l47 ug_l6 [95], none, none, ug_s ug_l47 ug_l303, ug_s ug_l47 ug_l429],
  [none, none, ug_s ug_l47 ug_l304, ug_s ug_l47 ug_l430, ug_s ug_l47 ug_l431, none, none, ug_s1 ug_l47 ug_l432 171, none, none, ug_s ug_l47 ug_l305, ug_s ug_l47 [], none, none, ug_s ug_l47 [], ug_s2 ug_l47 ug_l6 [83], none, none, ug_s ug_l47 ug_l315, ug_s ug_l47 ug_l316, none, none, ug_s ug_l47 ug_l317, ug_s ug_l47 ug_l2, none, ug_s ug_l47 ug_l3, ug_s ug_l47 ug_l2, ug_s ug_l47 [], ug_s ug_l47 ug_l2, none, none, ug_s ug_l47 []],
  [ug_s2 ug_l47 ug_l6 [83], none, none, ug_s ug_l47 ug_l315, ug_s ug_l47 ug_l316, none, none, ug_s ug_l47 ug_l317, ug_s ug_l47 ug_l2, none, ug_s ug_l47 ug_l3, none, none, ug_s ug_l47 [], ug_s ug_l47 ug_l6, ug_s1 ug_l47 ug_l7 174, none, none, ug_s ug_l47 [], ug_s ug_l47 ug_l6, none, none, ug_s ug_l47 ug_l2, none, none, ug_s ug_l47 [], ug_s ug_l47 [], ug_s1 ug_l47 ug_l6 175, none, none, ug_s ug_l47 [], ug_s ug_l47 ug_l6],
  [ug_s1 ug_l47 ug_l7 176, none, none, ug_s ug_l47 []]])
def ug_l442 : List ug_T := [some (.inl [0]), ug_z, some (.inl [55])]
def ug_l443 : List ug_T := [some (.inl [2, 11]), ug_z, some (.inl [55])]
def ug_l444 : List ug_T := [some (.inl [0]), some (.inl [2, 11]), ug_z, some (.inl [55])]
def ug_l445 : List ug_T := [some (.inl [26]), some (.inl [2, 11]), ug_z, some (.inl [55])]
def ug_l446 : List ug_T := [some (.inl [0]), some (.inl [26]), some (.inl [2, 11]), ug_z, some (.inl [55])]
def ug_l447 : List ug_T := [some (.inl [50]), some (.inl [26]), some (.inl [2, 11]), ug_z, some (.inl [55])]
def ug_x132 : ug_X := (89, [some (.inl [0]), ug_z], some (some (.inl [57, 58, 59, 60, 61, 62, 63, 64, 65, 66])), 1186237653354628150965348663828863749640034354591932652782957657326592, [[ug_s ug_l8 [], ug_s2 ug_l8 ug_l1 [55], none, none, ug_s ug_l8 ug_l104, ug_s ug_l8 ug_l105, ug_s2 ug_l8 ug_l442 [2, 11], none, none, ug_s ug_l8 ug_l443, ug_s2 ug_l8 ug_l444 [26], none, none, ug_s ug_l8 ug_l445, ug_s2 ug_l8 ug_l446 [50], none, none, ug_s1 ug_l8 ug_l447 178, none, none, ug_s ug_l8 ug_l114]])
def ug_l448 : List ug_T := [some (.inl [50]), some (.inl [2, 11]), some (.inl [26]), ug_z, ug_z]
def ug_l449 : List ug_T := [some (.inl [6, 15]), some (.inl [50])]
def ug_l450 : List ug_T := [some (.inl [51])]
def ug_l451 : List ug_T := [ug_z, some (.inl [51])]
def ug_l452 : List ug_T := [ug_z, ug_z, some (.inl [51])]
def ug_l453 : List ug_T := [ug_z, ug_z, ug_z, some (.inl [51])]
def ug_l454 : List ug_T := [some (.inl [26]), ug_z, some (.inl [51])]
def ug_l455 : List ug_T := [some (.inl [27]), ug_z, some (.inl [51])]
def ug_l456 : List ug_T := [ug_z, some (.inl [27]), ug_z, some (.inl [51])]
def ug_l457 : List ug_T := [some (.inl [28]), ug_z, some (.inl [51])]
def ug_l458 : List ug_T := [ug_z, some (.inl [28]), ug_z, some (.inl [51])]
def ug_l459 : List ug_T := [some (.inl [2, 11]), ug_z, some (.inl [51])]
def ug_l460 : List ug_T := [some (.inl [29]), ug_z, some (.inl [51])]
def ug_l461 : List ug_T := [ug_z, some (.inl [29]), ug_z, some (.inl [51])]
def ug_l462 : List ug_T := [some (.inl [52])]
def ug_l463 : List ug_T := [ug_z, some (.inl [52])]
def ug_l464 : List ug_T := [some (.inl [53])]
def ug_l465 : List ug_T := [ug_z, some (.inl [53])]
def ug_l466 : List ug_T := [some (.inl [54])]
def ug_l467 : List ug_T := [ug_z, some (.inl [54])]
def ug_x133 : ug_X := (1, [some (.inl [50]), some (.inl [2, 11]), some (.inl [26]), ug_z, ug_z], none, 323519360005807677536004181044235568083645733070486903550240528269312, [[ug_s ug_l448 [], ug_s ug_l448 ug_l59, ug_s2 ug_l448 ug_l61 [6, 15], none, none, ug_s ug_l448 ug_l449, none, none, ug_s ug_l448 [], ug_s2 ug_l448 ug_l59 [51], none, none, ug_s ug_l448 ug_l450, ug_s ug_l448 ug_l451, ug_s ug_l448 ug_l452, ug_s ug_l448 [], ug_s2 ug_l448 ug_l59 [51], none, none, ug_s ug_l448 ug_l450, ug_s ug_l448 ug_l451, none, ug_s ug_l448 ug_l452, none, ug_s ug_l448 ug_l453, ug_s ug_l448 ug_l452, ug_s ug_l448 [], ug_s2 ug_l448 ug_l59 [51], none, none, ug_s ug_l448 ug_l450, ug_s ug_l448 ug_l451],
  [none, ug_s ug_l448 ug_l452, none, ug_s ug_l448 ug_l453, ug_s ug_l448 ug_l452, ug_s ug_l448 [], ug_s2 ug_l448 ug_l59 [51], none, none, ug_s ug_l448 ug_l450, ug_s ug_l448 ug_l451, ug_s2 ug_l448 ug_l454 [27], none, none, ug_s ug_l448 ug_l455, ug_s ug_l448 ug_l456, ug_s1 ug_l448 ug_l452 108, none, none, ug_s ug_l448 ug_l452, ug_s ug_l448 [], ug_s2 ug_l448 ug_l59 [51], none, none, ug_s ug_l448 ug_l450, ug_s ug_l448 ug_l451, ug_s2 ug_l448 ug_l454 [28], none, none, ug_s ug_l448 ug_l457, ug_s ug_l448 ug_l458, ug_s ug_l448 ug_l452],
  [ug_s ug_l448 [], ug_s2 ug_l448 ug_l59 [51], none, none, ug_s ug_l448 ug_l450, none, ug_s ug_l448 ug_l451, ug_s ug_l448 ug_l459, none, none, ug_s ug_l448 ug_l452, ug_s ug_l448 [], ug_s2 ug_l448 ug_l59 [51], none, none, ug_s ug_l448 ug_l450, none, ug_s ug_l448 ug_l451, ug_s2 ug_l448 ug_l454 [29], none, none, ug_s ug_l448 ug_l460, ug_s ug_l448 ug_l461, ug_s1 ug_l448 ug_l452 108, none, none, ug_s ug_l448 ug_l452, ug_s ug_l448 [], ug_s2 ug_l448 ug_l59 [52], none, none, ug_s ug_l448 ug_l462],
  [ug_s1 ug_l448 ug_l463 179, none, none, ug_s ug_l448 [], ug_s2 ug_l448 ug_l59 [53], none, none, ug_s ug_l448 ug_l464, ug_s1 ug_l448 ug_l465 180, none, none, ug_s ug_l448 [], ug_s2 ug_l448 ug_l59 [54], none, none, ug_s ug_l448 ug_l466, ug_s1 ug_l448 ug_l467 181, none, none, ug_s ug_l448 [], ug_s ug_l448 ug_l59, ug_s ug_l448 ug_l68, none, none, ug_s ug_l448 []]])
def ug_l468 : List ug_T := [some (.inl [50]), ug_z, ug_z, ug_z, ug_z]
def ug_l469 : List ug_T := [ug_z, ug_z, some (.inl [50])]
def ug_l470 : List ug_T := [some (.inl [50]), ug_z]
def ug_x134 : ug_X := (5, [some (.inl [50]), ug_z], some (ug_z), 107839786668602559178668060348078522694548577690162323701411646800896, [[ug_s ug_l468 [], ug_s ug_l468 ug_l2, none, none, ug_s ug_l468 ug_l3, ug_s1 ug_l468 ug_l2 108, none, none, ug_s ug_l468 ug_l2, ug_s ug_l468 [], ug_s ug_l468 ug_l59, ug_s ug_l468 ug_l68, none, none, ug_s ug_l468 ug_l469, ug_s ug_l468 ug_l68, ug_s1 ug_l468 ug_l469 182, none, none, ug_s ug_l468 ug_l2, ug_s ug_l468 [], ug_s ug_l468 ug_l2, none, none, ug_s ug_l468 [], ug_s ug_l468 ug_l59, ug_s1 ug_l468 ug_l68 193, none, none, ug_s ug_l468 ug_l2, none, ug_s ug_l468 []],
  [ug_s ug_l468 ug_l2, none, ug_s ug_l468 ug_l3, ug_s ug_l468 ug_l2, ug_s ug_l468 ug_l3, none, ug_s ug_l468 ug_l48, none, ug_s ug_l468 ug_l334, ug_s ug_l468 ug_l48, ug_s ug_l468 ug_l3, ug_s ug_l468 ug_l2, none, none, ug_s ug_l468 ug_l3, ug_s ug_l468 ug_l2, ug_s ug_l468 [], ug_s ug_l468 ug_l2, ug_s1 ug_l468 ug_l470 191, none, none, ug_s ug_l468 ug_l3, ug_s ug_l468 ug_l2]])
def ug_l471 : List ug_T := [some (.inl [33]), some (.inl [26])]
def ug_l472 : List ug_T := [some (.inl [33]), ug_z, some (.inl [27])]
def ug_l473 : List ug_T := [some (.inl [34]), ug_z, some (.inl [27])]
def ug_l474 : List ug_T := [ug_z, some (.inl [34]), ug_z, some (.inl [27])]
def ug_l475 : List ug_T := [ug_z, ug_z, some (.inl [34]), ug_z, some (.inl [27])]
def ug_l476 : List ug_T := [some (.inl [33]), ug_z, some (.inl [28])]
def ug_l477 : List ug_T := [some (.inl [35]), ug_z, some (.inl [28])]
def ug_l478 : List ug_T := [ug_z, some (.inl [35]), ug_z, some (.inl [28])]
def ug_l479 : List ug_T := [ug_z, ug_z, some (.inl [35]), ug_z, some (.inl [28])]
def ug_l480 : List ug_T := [some (.inl [33]), ug_z, some (.inl [29])]
def ug_l481 : List ug_T := [some (.inl [36]), ug_z, some (.inl [29])]
def ug_l482 : List ug_T := [ug_z, some (.inl [36]), ug_z, some (.inl [29])]
def ug_l483 : List ug_T := [ug_z, ug_z, some (.inl [36]), ug_z, some (.inl [29])]
def ug_l484 : List ug_T := [some (.inl [33]), ug_z, some (.inl [30])]
def ug_l485 : List ug_T := [some (.inl [37]), ug_z, some (.inl [30])]
def ug_l486 : List ug_T := [ug_z, some (.inl [37]), ug_z, some (.inl [30])]
def ug_l487 : List ug_T := [ug_z, ug_z, some (.inl [37]), ug_z, some (.inl [30])]
def ug_l488 : List ug_T := [some (.inl [33]), ug_z, some (.inl [31])]
def ug_l489 : List ug_T := [some (.inl [38]), ug_z, some (.inl [31])]
def ug_l490 : List ug_T := [ug_z, some (.inl [38]), ug_z, some (.inl [31])]
def ug_l491 : List ug_T := [ug_z, ug_z, some (.inl [38]), ug_z, some (.inl [31])]
def ug_l492 : List ug_T := [some (.inl [33]), ug_z, some (.inl [32])]
def ug_l493 : List ug_T := [some (.inl [39]), ug_z, some (.inl [32])]
def ug_l494 : List ug_T := [ug_z, some (.inl [39]), ug_z, some (.inl [32])]
def ug_l495 : List ug_T := [ug_z, ug_z, some (.inl [39]), ug_z, some (.inl [32])]
def ug_x135 : ug_X := (17, [some (.inl [33]), some (.inl [26])], none, 398520634976229588334406598900608325425506342458133705486499840, [[ug_s ug_l471 [], ug_s ug_l471 ug_l199, ug_s ug_l471 ug_l201, none, none, ug_s ug_l471 ug_l224, none, none, ug_s ug_l471 [], ug_s ug_l471 ug_l199, ug_s ug_l471 ug_l201, none, none, ug_s ug_l471 ug_l224, none, none, ug_s ug_l471 [], ug_s ug_l471 ug_l199, ug_s ug_l471 ug_l201, none, none, ug_s ug_l471 ug_l224, none, none, ug_s ug_l471 [], ug_s ug_l471 ug_l199, ug_s ug_l471 ug_l201, none, none, ug_s ug_l471 ug_l224, none, none],
  [ug_s ug_l471 [], ug_s ug_l471 ug_l199, ug_s ug_l471 ug_l201, none, none, ug_s ug_l471 ug_l224, none, none, ug_s ug_l471 [], ug_s2 ug_l471 ug_l33 [27], none, none, ug_s ug_l471 ug_l43, ug_s ug_l471 ug_l46, ug_s2 ug_l471 ug_l472 [34], none, none, ug_s ug_l471 ug_l473, ug_s ug_l471 ug_l474, none, ug_s ug_l471 ug_l475, none, none, ug_s ug_l471 [], ug_s2 ug_l471 ug_l33 [28], none, none, ug_s ug_l471 ug_l39, ug_s ug_l471 ug_l40, ug_s2 ug_l471 ug_l476 [35], none, none],
  [ug_s ug_l471 ug_l477, ug_s ug_l471 ug_l478, none, ug_s ug_l471 ug_l479, none, none, ug_s ug_l471 [], ug_s2 ug_l471 ug_l33 [29], none, none, ug_s ug_l471 ug_l36, ug_s ug_l471 ug_l37, ug_s2 ug_l471 ug_l480 [36], none, none, ug_s ug_l471 ug_l481, ug_s ug_l471 ug_l482, none, ug_s ug_l471 ug_l483, none, none, ug_s ug_l471 [], ug_s2 ug_l471 ug_l33 [30], none, none, ug_s ug_l471 ug_l44, ug_s ug_l471 ug_l45, ug_s2 ug_l471 ug_l484 [37], none, none, ug_s ug_l471 ug_l485, ug_s ug_l471 ug_l486],
  [none, ug_s ug_l471 ug_l487, none, none, ug_s ug_l471 [], ug_s2 ug_l471 ug_l33 [31], none, none, ug_s ug_l471 ug_l41, ug_s ug_l471 ug_l42, ug_s2 ug_l471 ug_l488 [38], none, none, ug_s ug_l471 ug_l489, ug_s ug_l471 ug_l490, none, ug_s ug_l471 ug_l491, none, none, ug_s ug_l471 [], ug_s2 ug_l471 ug_l33 [32], none, none, ug_s ug_l471 ug_l34, ug_s ug_l471 ug_l35, ug_s2 ug_l471 ug_l492 [39], none, none, ug_s ug_l471 ug_l493, ug_s ug_l471 ug_l494, none, ug_s ug_l471 ug_l495],
  [none, none, ug_s ug_l471 []]])
def ug_l496 : List ug_T := [some (.inl [33]), some (.inl [2, 11]), some (.inl [50]), ug_z, ug_z, ug_z, ug_z, ug_z]
def ug_l497 : List ug_T := [some (.inl [33]), some (.inl [2, 11]), some (.inl [50])]
def ug_l498 : List ug_T := [ug_z, some (.inl [33]), some (.inl [2, 11]), some (.inl [50])]
def ug_l499 : List ug_T := [some (.inl [33]), ug_z, some (.inl [33]), some (.inl [2, 11]), some (.inl [50])]
def ug_l500 : List ug_T := [some (.inl [33]), some (.inl [33])]
def ug_l501 : List ug_T := [ug_z, ug_z, some (.inl [33])]
def ug_l502 : List ug_T := [ug_z, ug_z, some (.inl [33]), some (.inl [2, 11]), some (.inl [50])]
def ug_l503 : List ug_T := [some (.inl [33]), some (.inl [50])]
def ug_l504 : List ug_T := [some (.inl [38]), some (.inl [50])]
def ug_l505 : List ug_T := [ug_z, some (.inl [38]), some (.inl [50])]
def ug_l506 : List ug_T := [ug_z, ug_z, some (.inl [38]), some (.inl [50])]
def ug_l507 : List ug_T := [some (.inl [39])]
def ug_l508 : List ug_T := [ug_z, some (.inl [39])]
def ug_l509 : List ug_T := [ug_z, some (.inl [39]), ug_z, some (.inl [39])]
def ug_l510 : List ug_T := [ug_z, ug_z, some (.inl [39])]
def ug_l511 : List ug_T := [ug_z, ug_z, ug_z, some (.inl [39])]
def ug_l512 : List ug_T := [some (.inl [33]), ug_z, ug_z]
def ug_l513 : List ug_T := [some (.inl [2, 11]), ug_z, some (.inl [39])]
def ug_x136 : ug_X := (26, [some (.inl [33]), some (.inl [2, 11]), some (.inl [50]), ug_z, ug_z], none, 323519642826903467118292676429563820128263776978213809322672895034368, [[ug_s ug_l496 [], ug_s ug_l496 ug_l199, ug_s1 ug_l496 ug_l202 183, none, none, ug_s ug_l496 ug_l2, none, ug_s ug_l496 [], ug_s ug_l496 ug_l199, none, none, ug_s ug_l496 ug_l2, ug_s ug_l496 ug_l3, ug_s ug_l496 ug_l2, none, ug_s ug_l496 [], none, ug_s ug_l496 ug_l2, none, none, ug_s ug_l496 [], ug_s ug_l496 ug_l59, ug_s ug_l496 ug_l61, ug_s ug_l496 ug_l497, none, ug_s ug_l496 ug_l498, ug_s ug_l496 ug_l499, none, none, ug_s1 ug_l496 ug_l502 238, none, none],
  [ug_s ug_l496 [], ug_s ug_l496 ug_l2, none, ug_s ug_l496 [], ug_s ug_l496 ug_l199, none, ug_s1 ug_l496 ug_l224 239, none, none, ug_s ug_l496 ug_l2, none, none, ug_s ug_l496 [], none, ug_s ug_l496 ug_l2, none, none, ug_s ug_l496 [], none, ug_s ug_l496 ug_l2, none, none, ug_s ug_l496 [], ug_s ug_l496 ug_l59, ug_s2 ug_l496 ug_l503 [38], none, none, ug_s ug_l496 ug_l504, none, ug_s ug_l496 ug_l505, ug_s ug_l496 ug_l506, ug_s ug_l496 ug_l505],
  [ug_s1 ug_l496 ug_l68 134, none, none, ug_s ug_l496 ug_l2, none, ug_s ug_l496 [], ug_s2 ug_l496 ug_l199 [39], none, none, ug_s ug_l496 ug_l507, none, ug_s ug_l496 ug_l508, ug_s ug_l496 ug_l2, none, none, ug_s ug_l496 [], ug_s2 ug_l496 ug_l199 [39], none, none, ug_s ug_l496 ug_l507, none, ug_s ug_l496 ug_l508, ug_s ug_l496 ug_l509, ug_s ug_l496 ug_l510, ug_s ug_l496 ug_l511, ug_s ug_l496 ug_l510, ug_s ug_l496 [], none, none, ug_s ug_l496 [], ug_s ug_l496 ug_l2, none],
  [none, ug_s ug_l496 [], none, ug_s ug_l496 ug_l2, none, ug_s ug_l496 ug_l3, ug_s ug_l496 ug_l512, none, none, ug_s ug_l496 ug_l48, ug_s ug_l496 ug_l3, none, ug_s ug_l496 ug_l48, ug_s1 ug_l496 ug_l3 240, none, none, ug_s ug_l496 ug_l2, ug_s1 ug_l496 ug_l470 192, none, none, ug_s ug_l496 ug_l3, none, none, ug_s ug_l496 [], ug_s2 ug_l496 ug_l199 [39], none, none, ug_s ug_l496 ug_l507, none, ug_s ug_l496 ug_l508, ug_s ug_l496 ug_l513, none],
  [none, ug_s ug_l496 ug_l510, ug_s ug_l496 [], ug_s ug_l496 ug_l199, ug_s ug_l496 ug_l500, none, none, ug_s ug_l496 ug_l224, ug_s ug_l496 ug_l501, ug_s ug_l496 ug_l224, none, none, ug_s ug_l496 [], ug_s ug_l496 ug_l199, none, ug_s ug_l496 ug_l224, none, ug_s1 ug_l496 ug_l501 257, none, none, ug_s ug_l496 [], none, none, ug_s ug_l496 [], none, none, ug_s ug_l496 [], ug_s ug_l496 ug_l199, ug_s ug_l496 ug_l224, none, none, ug_s ug_l496 []],
  [ug_s ug_l496 ug_l199, ug_s ug_l496 ug_l500, none, none, ug_s ug_l496 ug_l224, ug_s ug_l496 ug_l501, ug_s ug_l496 ug_l224, none, none, ug_s ug_l496 []]])
def ug_x137 : ug_X := (18, [some (.inl [26]), ug_z], some (ug_z), 0, [[ug_s ug_l170 [], ug_s ug_l170 ug_l33, none, none, ug_s ug_l170 ug_l2, ug_s ug_l170 ug_l3, ug_s ug_l170 ug_l2, ug_s ug_l170 ug_l3, ug_s ug_l170 ug_l2, none, none, ug_s ug_l170 [], ug_s ug_l170 ug_l2, none, none, ug_s ug_l170 [], ug_s ug_l170 ug_l2]])
def ug_l514 : List ug_T := [ug_z, ug_z, ug_z, some (.inl [26]), some (.inl [2, 11]), some (.inl [50])]
def ug_x138 : ug_X := (90, [some (.inl [0]), ug_z, ug_z], some (ug_z), 323519360005807677536004181044235568083645733070486903550240528794624, [[ug_s ug_l139 [], ug_s2 ug_l139 ug_l1 [26], none, none, ug_s ug_l139 ug_l33, ug_s1 ug_l139 ug_l38 146, none, none, ug_s ug_l139 ug_l2, none, ug_s ug_l139 ug_l3, none, none, ug_s ug_l139 [], ug_s ug_l139 ug_l2, ug_s ug_l139 [], none, none, ug_s ug_l139 ug_l2, ug_s ug_l139 [], ug_s ug_l139 ug_l2, none, ug_s ug_l139 [], none, ug_s ug_l139 ug_l2, ug_s ug_l139 ug_l3, none, none, ug_s ug_l139 [], ug_s2 ug_l139 ug_l1 [50], none, none],
  [ug_s ug_l139 ug_l59, ug_s2 ug_l139 ug_l60 [2, 11], none, none, ug_s ug_l139 ug_l61, ug_s2 ug_l139 ug_l62 [26], none, none, ug_s ug_l139 ug_l63, none, ug_s ug_l139 ug_l64, ug_s2 ug_l139 ug_l65 [26], none, none, ug_s ug_l139 ug_l66, none, none, ug_s ug_l139 ug_l67, ug_s ug_l139 ug_l514, ug_s ug_l139 ug_l67, none, ug_s ug_l139 ug_l514, ug_s1 ug_l139 ug_l67 133, none, none, ug_s ug_l139 [], ug_s2 ug_l139 ug_l1 [50], none, none, ug_s ug_l139 ug_l59, ug_s1 ug_l139 ug_l68 134, none],
  [none, ug_s ug_l139 ug_l2, ug_s ug_l139 [], none, none, ug_s ug_l139 [], none, none, ug_s ug_l139 [], ug_s ug_l139 ug_l2]])
def ug_x139 : ug_X := (107, [some (.inl [0]), ug_z, ug_z, ug_z], none, 323519758526442653765592515450834468691971158576829361683946015294464, [[ug_s ug_l139 [], ug_s2 ug_l139 ug_l1 [33], none, none, ug_s ug_l139 ug_l199, ug_s2 ug_l139 ug_l200 [26], none, none, ug_s1 ug_l139 ug_l201 135, none, none, ug_s ug_l139 [], ug_s ug_l139 ug_l2, none, ug_s ug_l139 [], none, ug_s ug_l139 ug_l2, ug_s ug_l139 ug_l3, none, none, ug_s ug_l139 [], ug_s2 ug_l139 ug_l1 [33], none, none, ug_s ug_l139 ug_l199, ug_s2 ug_l139 ug_l200 [2, 11], none, none, ug_s ug_l139 ug_l202, ug_s2 ug_l139 ug_l203 [50], none, none],
  [ug_s ug_l139 ug_l204, ug_s ug_l139 ug_l205, ug_s1 ug_l139 ug_l208 136, none, none, ug_s ug_l139 [], none, none, ug_s ug_l139 [], none, none, ug_s ug_l139 []]])
def ug_l515 : List ug_T := [some (.inl [33]), ug_z]
def ug_l516 : List ug_T := [some (.inl [34])]
def ug_l517 : List ug_T := [ug_z, some (.inl [34])]
def ug_l518 : List ug_T := [some (.inl [36]), ug_z]
def ug_l519 : List ug_T := [ug_z, some (.inl [36]), ug_z]
def ug_x140 : ug_X := (21, [some (.inl [33]), ug_z], some (ug_z), 0, [[ug_s ug_l515 [], ug_s2 ug_l515 ug_l199 [34], none, none, ug_s ug_l515 ug_l516, ug_s ug_l515 ug_l517, ug_s ug_l515 ug_l2, ug_s2 ug_l515 ug_l515 [36], none, none, ug_s ug_l515 ug_l518, ug_s ug_l515 ug_l519, ug_s ug_l515 ug_l3, ug_s ug_l515 ug_l48, ug_s ug_l515 ug_l3, ug_s ug_l515 ug_l2]])
def ug_x141 : ug_X := (82, [some (.inl [0])], none, 869250123689107000813678632954789584385917591539930815217031691894784, [[ug_s ug_l1 [], ug_s2 ug_l1 ug_l1 [40], none, none, ug_s ug_l1 ug_l106, ug_s2 ug_l1 ug_l107 [26], none, none, ug_s1 ug_l1 ug_l108 184, none, none, ug_s ug_l1 [], ug_s2 ug_l1 ug_l1 [55], none, none, ug_s ug_l1 ug_l104, ug_s ug_l1 ug_l105, none, none, ug_s ug_l1 []]])
def ug_l520 : List ug_T := [ug_z, ug_z, some (.inl [31])]
def ug_l521 : List ug_T := [ug_z, some (.inl [29]), ug_z, some (.inl [29])]
def ug_l522 : List ug_T := [ug_z, ug_z, some (.inl [29])]
def ug_l523 : List ug_T := [ug_z, ug_z, ug_z, some (.inl [29])]
def ug_l524 : List ug_T := [some (.inl [26]), ug_z, ug_z, ug_z, some (.inl [29])]
def ug_l525 : List ug_T := [some (.inl [27]), ug_z, ug_z, ug_z, some (.inl [29])]
def ug_l526 : List ug_T := [ug_z, some (.inl [27]), ug_z, ug_z, ug_z, some (.inl [29])]
def ug_l527 : List ug_T := [ug_z, ug_z, ug_z, ug_z, some (.inl [29])]
def ug_x142 : ug_X := (23, [some (.inl [26]), ug_z, ug_z], none, 2684354560, [[ug_s ug_l344 [], ug_s2 ug_l344 ug_l33 [31], none, none, ug_s ug_l344 ug_l41, ug_s ug_l344 ug_l42, ug_s ug_l344 ug_l520, ug_s ug_l344 [], ug_s2 ug_l344 ug_l33 [29], none, none, ug_s ug_l344 ug_l36, ug_s ug_l344 ug_l37, ug_s ug_l344 ug_l521, ug_s ug_l344 ug_l522, ug_s ug_l344 ug_l523, ug_s2 ug_l344 ug_l524 [27], none, none, ug_s ug_l344 ug_l525, ug_s ug_l344 ug_l526, ug_s ug_l344 ug_l527, ug_s ug_l344 ug_l523, ug_s ug_l344 ug_l522, ug_s ug_l344 []]])
def ug_l528 : List ug_T := [some (.inl [68])]
def ug_l529 : List ug_T := [some (.inl [67]), some (.inl [68])]
def ug_l530 : List ug_T := [ug_z, some (.inl [68])]
def ug_l531 : List ug_T := [ug_z, ug_z, some (.inl [68])]
def ug_l532 : List ug_T := [some (.inl [69])]
def ug_l533 : List ug_T := [some (.inl [67]), some (.inl [69])]
def ug_l534 : List ug_T := [ug_z, some (.inl [69])]
def ug_l535 : List ug_T := [ug_z, ug_z, some (.inl [69])]
def ug_l536 : List ug_T := [some (.inl [67]), some (.inl [67])]
def ug_x143 : ug_X := (65, [some (.inl [67]), ug_z, ug_z], some (ug_z), 6901746346790563787434755862277025452451108972171271998878062282276864, [[ug_s ug_l236 [], ug_s ug_l236 ug_l225, none, none, ug_s ug_l236 ug_l2, none, ug_s ug_l236 ug_l3, none, none, ug_s ug_l236 [], ug_s ug_l236 ug_l2, ug_s ug_l236 [], ug_s2 ug_l236 ug_l225 [68], none, none, ug_s ug_l236 ug_l528, ug_s ug_l236 ug_l529, none, none, ug_s ug_l236 ug_l530, ug_s ug_l236 ug_l531, ug_s ug_l236 [], ug_s2 ug_l236 ug_l225 [69], none, none, ug_s ug_l236 ug_l532, ug_s ug_l236 ug_l533, none, none, ug_s ug_l236 ug_l534, ug_s ug_l236 ug_l535, ug_s ug_l236 []],
  [ug_s ug_l236 ug_l225, ug_s ug_l236 ug_l536, none, none, ug_s ug_l236 ug_l226, ug_s ug_l236 ug_l227, ug_s ug_l236 ug_l226, none, none, ug_s ug_l236 [], ug_s ug_l236 ug_l225, none, none, ug_s ug_l236 ug_l2, ug_s ug_l236 ug_l3, ug_s ug_l236 ug_l2]])
def ug_l537 : List ug_T := [some (.inl [0]), ug_z, some (.inl [71])]
def ug_l538 : List ug_T := [ug_z, some (.inl [0]), ug_z, some (.inl [71])]
def ug_l539 : List ug_T := [ug_z, ug_z, some (.inl [0]), ug_z, some (.inl [71])]
def ug_x144 : ug_X := (103, [some (.inl [0]), ug_z], some (ug_z), 323519360005807677536004181044235568083645733077570453274544996615168, [[ug_s ug_l116 [], ug_s2 ug_l116 ug_l1 [26], none, none, ug_s ug_l116 ug_l33, ug_s1 ug_l116 ug_l38 124, none, none, ug_s ug_l116 ug_l2, ug_s ug_l116 [], ug_s ug_l116 ug_l2, none, none, ug_s ug_l116 [], ug_s ug_l116 ug_l2, ug_s ug_l116 [], ug_s ug_l116 ug_l2, ug_s ug_l116 [], ug_s ug_l116 ug_l2, none, ug_s ug_l116 ug_l3, none, none, ug_s ug_l116 [], ug_s2 ug_l116 ug_l1 [71], none, none, ug_s ug_l116 ug_l128, ug_s ug_l116 ug_l129, ug_s ug_l116 ug_l537, ug_s ug_l116 ug_l538, ug_s1 ug_l116 ug_l539 138],
  [none, none, ug_s ug_l116 ug_l131, ug_s ug_l116 ug_l132, ug_s ug_l116 ug_l131, ug_s ug_l116 [], none, none, ug_s ug_l116 [], none, none, ug_s ug_l116 [], ug_s ug_l116 ug_l2, ug_s ug_l116 [], ug_s ug_l116 ug_l2, ug_s ug_l116 ug_l3, none, none, ug_s ug_l116 [], ug_s ug_l116 ug_l1, ug_s ug_l116 ug_l4, ug_s1 ug_l116 ug_l10 185, none, none, ug_s ug_l116 ug_l2, none, none, ug_s ug_l116 [], ug_s ug_l116 ug_l2, ug_s ug_l116 [], none, none],
  [ug_s ug_l116 [], none, none, ug_s ug_l116 [], none, ug_s ug_l116 ug_l2]])
def ug_l540 : List ug_T := [ug_z, ug_z, some (.inl [27])]
def ug_l541 : List ug_T := [ug_z, ug_z, some (.inl [28])]
def ug_l542 : List ug_T := [ug_z, ug_z, some (.inl [30])]
def ug_x145 : ug_X := (24, [some (.inl [26]), ug_z, ug_z], none, 2013265920, [[ug_s ug_l344 [], ug_s2 ug_l344 ug_l33 [27], none, none, ug_s ug_l344 ug_l43, ug_s ug_l344 ug_l46, ug_s1 ug_l344 ug_l540 186, none, none, ug_s ug_l344 [], ug_s2 ug_l344 ug_l33 [28], none, none, ug_s ug_l344 ug_l39, ug_s ug_l344 ug_l40, ug_s1 ug_l344 ug_l541 187, none, none, ug_s ug_l344 [], ug_s2 ug_l344 ug_l33 [29], none, none, ug_s ug_l344 ug_l36, ug_s ug_l344 ug_l37, ug_s1 ug_l344 ug_l522 188, none, none, ug_s ug_l344 [], ug_s2 ug_l344 ug_l33 [30], none, none, ug_s ug_l344 ug_l44],
  [ug_s ug_l344 ug_l45, ug_s1 ug_l344 ug_l542 189, none, none, ug_s ug_l344 []]])
def ug_x146 : ug_X := (20, [some (.inl [26]), ug_z], some (ug_z), 0, [[ug_s ug_l344 [], ug_s ug_l344 ug_l2, ug_s ug_l344 [], ug_s ug_l344 ug_l2, ug_s ug_l344 ug_l3, none, none, ug_s ug_l344 [], ug_s ug_l344 ug_l2, none, ug_s ug_l344 ug_l3, none, none, ug_s ug_l344 [], ug_s ug_l344 ug_l33, ug_s1 ug_l344 ug_l38 190, none, none, ug_s ug_l344 ug_l2, none, none, ug_s ug_l344 [], ug_s ug_l344 ug_l2, ug_s ug_l344 [], none, none, ug_s ug_l344 [], none, none, ug_s ug_l344 [], none, ug_s ug_l344 ug_l2]])
def ug_l543 : List ug_T := [some (.inl [26]), some (.inl [50])]
def ug_l544 : List ug_T := [some (.inl [31]), some (.inl [50])]
def ug_l545 : List ug_T := [ug_z, some (.inl [31]), some (.inl [50])]
def ug_l546 : List ug_T := [ug_z, ug_z, some (.inl [31]), some (.inl [50])]
def ug_x147 : ug_X := (80, [some (.inl [0]), ug_z, ug_z], some (ug_z), 323519360005807677536004181044235568083645733070486903550240528794624, [[ug_s ug_l32 [], ug_s2 ug_l32 ug_l1 [50], none, none, ug_s ug_l32 ug_l59, ug_s2 ug_l32 ug_l60 [2, 11], none, none, ug_s ug_l32 ug_l61, ug_s2 ug_l32 ug_l62 [26], none, none, ug_s ug_l32 ug_l63, ug_s ug_l32 ug_l64, ug_s2 ug_l32 ug_l65 [26], none, none, ug_s ug_l32 ug_l66, none, none, ug_s1 ug_l32 ug_l67 133, none, none, ug_s ug_l32 [], ug_s ug_l32 ug_l2, none, none, none, none, none, none, none],
  [none, none, none, none, none, none, none, none, none, none, none, none, none, none, none, none, none, none, none, none, ug_s ug_l32 [], ug_s2 ug_l32 ug_l1 [50], none, none, ug_s ug_l32 ug_l59, ug_s ug_l32 ug_l68, none, none, ug_s ug_l32 ug_l59, ug_s ug_l32 ug_l68, none, none],
  [ug_s ug_l32 ug_l59, ug_s2 ug_l32 ug_l60 [26], none, none, ug_s2 ug_l32 ug_l543 [31], none, none, ug_s ug_l32 ug_l544, ug_s ug_l32 ug_l545, ug_s ug_l32 ug_l546, ug_s ug_l32 ug_l545, ug_s1 ug_l32 ug_l68 108, none, none, ug_s1 ug_l32 ug_l68 193, none, none, ug_s ug_l32 ug_l2, ug_s ug_l32 [], ug_s2 ug_l32 ug_l1 [50], none, none, ug_s1 ug_l32 ug_l59 191, none, none, ug_s ug_l32 ug_l2, ug_s ug_l32 [], ug_s2 ug_l32 ug_l1 [50], none, none, ug_s1 ug_l32 ug_l59 192, none],
  [none, ug_s ug_l32 ug_l2, ug_s ug_l32 [], ug_s ug_l32 ug_l2]])
def ug_l547 : List ug_T := [some (.inl [0]), ug_z, ug_z, ug_z, some (.inl [57, 58, 59, 60, 61, 62, 63, 64, 65, 66]), ug_z, ug_z]
def ug_l548 : List ug_T := [ug_z, ug_z, some (.inl [70])]
def ug_l549 : List ug_T := [some (.inl [67]), some (.inl [0])]
def ug_l550 : List ug_T := [some (.inl [68]), some (.inl [0])]
def ug_l551 : List ug_T := [ug_z, some (.inl [68]), some (.inl [0])]
def ug_l552 : List ug_T := [some (.inl [0]), some (.inl [57, 58, 59, 60, 61, 62, 63, 64, 65, 66])]
def ug_l553 : List ug_T := [some (.inl [70]), some (.inl [57, 58, 59, 60, 61, 62, 63, 64, 65, 66])]
def ug_l554 : List ug_T := [ug_z, some (.inl [70]), some (.inl [57, 58, 59, 60, 61, 62, 63, 64, 65, 66])]
def ug_l555 : List ug_T := [some (.inl [67]), ug_z]
def ug_l556 : List ug_T := [some (.inl [69]), ug_z]
def ug_l557 : List ug_T := [ug_z, some (.inl [69]), ug_z]
def ug_l558 : List ug_T := [some (.inl [0]), ug_z, some (.inl [70])]
def ug_l559 : List ug_T := [some (.inl [70]), ug_z, some (.inl [70])]
def ug_l560 : List ug_T := [ug_z, some (.inl [70]), ug_z, some (.inl [70])]
def ug_x148 : ug_X := (124, [some (.inl [0]), ug_z], some (ug_z), 1186237653354628150965348663828863749640034354593113244403675068630016, [[ug_s ug_l122 [], ug_s ug_l122 ug_l2, ug_s ug_l122 [], ug_s ug_l122 ug_l2, none, none, ug_s ug_l122 ug_l3, none, none, ug_s ug_l122 [], ug_s2 ug_l122 ug_l1 [70], none, none, ug_s ug_l122 ug_l143, ug_s ug_l122 ug_l144, ug_s ug_l122 ug_l548, ug_s ug_l122 [], none, none, ug_s ug_l122 [], none, none, ug_s ug_l122 [], none, none, ug_s ug_l122 ug_l2, ug_s ug_l122 [], ug_s ug_l122 ug_l2, ug_s ug_l547 [], ug_s ug_l547 ug_l2, ug_s ug_l547 ug_l3, none],
  [none, ug_s ug_l547 [], ug_s ug_l547 ug_l2, none, ug_s ug_l547 ug_l3, none, none, ug_s ug_l547 [], ug_s ug_l547 ug_l1, ug_s2 ug_l547 ug_l9 [67], none, none, ug_s2 ug_l547 ug_l549 [68], none, none, ug_s ug_l547 ug_l550, ug_s ug_l547 ug_l551, ug_s1 ug_l547 ug_l4 132, none, none, ug_s ug_l547 ug_l114, none, ug_s ug_l547 [], ug_s ug_l547 ug_l2, none, ug_s ug_l547 [], ug_s ug_l547 ug_l2, none, ug_s ug_l547 [], none, ug_s ug_l547 ug_l2, ug_s ug_l547 ug_l3],
  [none, none, ug_s ug_l547 [], none, ug_s ug_l547 ug_l114, ug_s2 ug_l547 ug_l552 [70], none, none, ug_s ug_l547 ug_l553, none, ug_s ug_l547 ug_l554, ug_s ug_l547 ug_l115, ug_s ug_l547 ug_l2, ug_s2 ug_l547 ug_l8 [67], none, none, ug_s2 ug_l547 ug_l555 [69], none, none, ug_s ug_l547 ug_l556, ug_s ug_l547 ug_l557, ug_s ug_l547 ug_l3, none, none, ug_s ug_l547 [], ug_s2 ug_l547 ug_l1 [70], none, none, ug_s ug_l547 ug_l143, none, ug_s ug_l547 ug_l144, ug_s2 ug_l547 ug_l558 [70]],
  [none, none, ug_s ug_l547 ug_l559, none, ug_s ug_l547 ug_l560, ug_s ug_l547 ug_l548, ug_s ug_l547 [], none, none, ug_s ug_l547 [], none, none, ug_s ug_l547 [], none, none, ug_s ug_l547 [], none, ug_s ug_l547 ug_l2, ug_s ug_l547 [], none, none, ug_s ug_l547 [], none, none, ug_s ug_l547 [], ug_s ug_l547 ug_l2]])
def ug_x149 : ug_X := (31, [some (.inl [33])], some (ug_z), 0, [[ug_s ug_l512 [], ug_s ug_l512 ug_l2, ug_s ug_l512 [], ug_s ug_l512 ug_l2, ug_s ug_l512 [], ug_s ug_l512 ug_l2, ug_s ug_l512 ug_l515, none, none, ug_s ug_l512 ug_l3, none, none, ug_s ug_l512 [], ug_s2 ug_l512 ug_l199 [38], none, none, ug_s ug_l512 ug_l209, ug_s ug_l512 ug_l210, ug_s ug_l512 ug_l2, none, none, ug_s ug_l512 [], ug_s ug_l512 ug_l2, ug_s ug_l512 ug_l3, ug_s ug_l512 ug_l48, ug_s ug_l512 ug_l3, ug_s ug_l512 ug_l2, ug_s ug_l512 [], none, none, ug_s ug_l512 [], none],
  [none, ug_s ug_l512 [], ug_s ug_l512 ug_l2]])
def ug_l561 : List ug_T := [some (.inl [26]), some (.inl [2, 11]), some (.inl [50]), ug_z, ug_z, ug_z, ug_z, ug_z]
def ug_l562 : List ug_T := [ug_z, some (.inl [32]), ug_z, some (.inl [32])]
def ug_l563 : List ug_T := [ug_z, ug_z, some (.inl [32])]
def ug_l564 : List ug_T := [ug_z, ug_z, ug_z, some (.inl [32])]
def ug_l565 : List ug_T := [some (.inl [2, 11]), ug_z, some (.inl [32])]
def ug_x150 : ug_X := (26, [some (.inl [26]), some (.inl [2, 11]), some (.inl [50]), ug_z, ug_z], none, 323519360143903915714511157848622935394214394224738723328456267400192, [[ug_s ug_l561 [], ug_s ug_l561 ug_l33, ug_s1 ug_l561 ug_l97 111, none, none, ug_s ug_l561 ug_l2, none, ug_s ug_l561 [], ug_s ug_l561 ug_l33, none, none, ug_s ug_l561 ug_l2, ug_s ug_l561 ug_l3, ug_s ug_l561 ug_l2, none, ug_s ug_l561 [], none, ug_s ug_l561 ug_l2, none, none, ug_s ug_l561 [], ug_s ug_l561 ug_l59, ug_s ug_l561 ug_l61, ug_s ug_l561 ug_l63, none, ug_s ug_l561 ug_l64, ug_s ug_l561 ug_l66, none, none, ug_s1 ug_l561 ug_l67 133, none, none],
  [ug_s ug_l561 [], ug_s ug_l561 ug_l2, none, ug_s ug_l561 [], ug_s ug_l561 ug_l33, none, ug_s1 ug_l561 ug_l38 190, none, none, ug_s ug_l561 ug_l2, none, none, ug_s ug_l561 [], none, ug_s ug_l561 ug_l2, none, none, ug_s ug_l561 [], none, ug_s ug_l561 ug_l2, none, none, ug_s ug_l561 [], ug_s ug_l561 ug_l59, ug_s2 ug_l561 ug_l543 [31], none, none, ug_s ug_l561 ug_l544, none, ug_s ug_l561 ug_l545, ug_s ug_l561 ug_l546, ug_s ug_l561 ug_l545],
  [ug_s1 ug_l561 ug_l68 134, none, none, ug_s ug_l561 ug_l2, none, ug_s ug_l561 [], ug_s2 ug_l561 ug_l33 [32], none, none, ug_s ug_l561 ug_l34, none, ug_s ug_l561 ug_l35, ug_s ug_l561 ug_l2, none, none, ug_s ug_l561 [], ug_s2 ug_l561 ug_l33 [32], none, none, ug_s ug_l561 ug_l34, none, ug_s ug_l561 ug_l35, ug_s ug_l561 ug_l562, ug_s ug_l561 ug_l563, ug_s ug_l561 ug_l564, ug_s ug_l561 ug_l563, ug_s ug_l561 [], none, none, ug_s ug_l561 [], ug_s ug_l561 ug_l2, none],
  [none, ug_s ug_l561 [], none, ug_s ug_l561 ug_l2, none, ug_s ug_l561 ug_l3, ug_s ug_l561 ug_l344, none, none, ug_s ug_l561 ug_l48, ug_s ug_l561 ug_l3, none, ug_s ug_l561 ug_l48, ug_s1 ug_l561 ug_l3 240, none, none, ug_s ug_l561 ug_l2, ug_s1 ug_l561 ug_l470 192, none, none, ug_s ug_l561 ug_l3, none, none, ug_s ug_l561 [], ug_s2 ug_l561 ug_l33 [32], none, none, ug_s ug_l561 ug_l34, none, ug_s ug_l561 ug_l35, ug_s ug_l561 ug_l565, none],
  [none, ug_s ug_l561 ug_l563, ug_s ug_l561 [], ug_s ug_l561 ug_l33, ug_s ug_l561 ug_l69, none, none, ug_s ug_l561 ug_l38, ug_s ug_l561 ug_l70, ug_s ug_l561 ug_l38, none, none, ug_s ug_l561 [], ug_s ug_l561 ug_l33, none, ug_s ug_l561 ug_l38, none, ug_s1 ug_l561 ug_l70 142, none, none, ug_s ug_l561 [], none, none, ug_s ug_l561 [], none, none, ug_s ug_l561 [], ug_s ug_l561 ug_l33, ug_s ug_l561 ug_l38, none, none, ug_s ug_l561 []],
  [ug_s ug_l561 ug_l33, ug_s ug_l561 ug_l69, none, none, ug_s ug_l561 ug_l38, ug_s ug_l561 ug_l70, ug_s ug_l561 ug_l38, none, none, ug_s ug_l561 []]])
def ug_l566 : List ug_T := [some (.inl [0]), ug_z, ug_z, some (.inl [71])]
def ug_l567 : List ug_T := [some (.inl [33]), ug_z, ug_z, some (.inl [71])]
def ug_l568 : List ug_T := [some (.inl [38]), ug_z, ug_z, some (.inl [71])]
def ug_l569 : List ug_T := [ug_z, some (.inl [38]), ug_z, ug_z, some (.inl [71])]
def ug_x151 : ug_X := (109, [some (.inl [0]), ug_z], none, 323519758526442653765592515450834468691971158579190544925380837901312, [[ug_s ug_l116 [], ug_s2 ug_l116 ug_l1 [71], none, none, ug_s ug_l116 ug_l128, ug_s1 ug_l116 ug_l129 194, none, none, ug_s ug_l116 [], ug_s2 ug_l116 ug_l1 [33], none, none, ug_s ug_l116 ug_l199, ug_s2 ug_l116 ug_l200 [26], none, none, ug_s1 ug_l116 ug_l201 135, none, none, ug_s ug_l116 [], ug_s ug_l116 ug_l2, ug_s ug_l116 [], ug_s ug_l116 ug_l2, ug_s ug_l116 ug_l3, none, none, ug_s ug_l116 [], ug_s2 ug_l116 ug_l1 [33], none, none, ug_s ug_l116 ug_l199, ug_s2 ug_l116 ug_l200 [2, 11]],
  [none, none, ug_s ug_l116 ug_l202, ug_s2 ug_l116 ug_l203 [50], none, none, ug_s ug_l116 ug_l204, ug_s ug_l116 ug_l205, ug_s1 ug_l116 ug_l208 136, none, none, ug_s ug_l116 [], ug_s ug_l116 ug_l2, ug_s ug_l116 [], ug_s ug_l116 ug_l2, ug_s2 ug_l116 ug_l8 [2, 11], none, none, ug_s ug_l116 ug_l181, none, none, ug_s ug_l116 ug_l3, none, none, ug_s ug_l116 [], ug_s2 ug_l116 ug_l1 [71], none, none, ug_s ug_l116 ug_l128, ug_s ug_l116 ug_l129, ug_s ug_l116 ug_l130, ug_s ug_l116 ug_l131],
  [ug_s2 ug_l116 ug_l566 [33], none, none, ug_s2 ug_l116 ug_l567 [38], none, none, ug_s ug_l116 ug_l568, ug_s ug_l116 ug_l569, ug_s1 ug_l116 ug_l132 108, none, none, ug_s ug_l116 ug_l132, ug_s ug_l116 ug_l131, ug_s ug_l116 [], none, none, ug_s ug_l116 [], none, none, ug_s ug_l116 [], none, none, ug_s ug_l116 [], none, none, ug_s ug_l116 []]])
def ug_x152 : ug_X := (29, [some (.inl [33])], some (ug_z), 0, [[ug_s ug_l512 [], ug_s ug_l512 ug_l2, ug_s ug_l512 [], ug_s ug_l512 ug_l2, ug_s ug_l512 [], ug_s ug_l512 ug_l2, ug_s ug_l512 ug_l515, none, none, ug_s ug_l512 ug_l3, none, none, ug_s ug_l512 [], ug_s2 ug_l512 ug_l199 [39], none, none, ug_s ug_l512 ug_l507, ug_s ug_l512 ug_l508, ug_s ug_l512 ug_l2, none, none, ug_s ug_l512 [], ug_s ug_l512 ug_l2, ug_s ug_l512 ug_l3, ug_s ug_l512 ug_l48, ug_s ug_l512 ug_l3, ug_s ug_l512 ug_l2, ug_s ug_l512 [], none, none, ug_s ug_l512 [], none],
  [none, ug_s ug_l512 [], ug_s ug_l512 ug_l2]])
def ug_x153 : ug_X := (30, [some (.inl [33])], some (ug_z), 0, [[ug_s ug_l512 [], ug_s ug_l512 ug_l2, ug_s ug_l512 [], ug_s ug_l512 ug_l2, ug_s ug_l512 [], ug_s ug_l512 ug_l2, ug_s ug_l512 ug_l515, none, none, ug_s ug_l512 ug_l3, none, none, ug_s ug_l512 [], ug_s ug_l512 ug_l199, ug_s1 ug_l512 ug_l224 140, none, none, ug_s ug_l512 ug_l2, none, none, ug_s ug_l512 [], ug_s ug_l512 ug_l2, ug_s ug_l512 ug_l3, ug_s ug_l512 ug_l48, ug_s ug_l512 ug_l3, ug_s ug_l512 ug_l2, ug_s ug_l512 [], none, none, ug_s ug_l512 [], none, none],
  [ug_s ug_l512 [], ug_s ug_l512 ug_l2]])
def ug_l570 : List ug_T := [ug_z, some (.inl [73])]
def ug_l571 : List ug_T := [some (.inl [73]), ug_z, some (.inl [27])]
def ug_l572 : List ug_T := [some (.inl [74]), ug_z, some (.inl [27])]
def ug_l573 : List ug_T := [ug_z, some (.inl [74]), ug_z, some (.inl [27])]
def ug_l574 : List ug_T := [ug_z, ug_z, some (.inl [74]), ug_z, some (.inl [27])]
def ug_l575 : List ug_T := [some (.inl [73]), ug_z, some (.inl [28])]
def ug_l576 : List ug_T := [some (.inl [75]), ug_z, some (.inl [28])]
def ug_l577 : List ug_T := [ug_z, some (.inl [75]), ug_z, some (.inl [28])]
def ug_l578 : List ug_T := [ug_z, ug_z, some (.inl [75]), ug_z, some (.inl [28])]
def ug_l579 : List ug_T := [some (.inl [73]), ug_z, some (.inl [29])]
def ug_l580 : List ug_T := [some (.inl [76]), ug_z, some (.inl [29])]
def ug_l581 : List ug_T := [ug_z, some (.inl [76]), ug_z, some (.inl [29])]
def ug_l582 : List ug_T := [ug_z, ug_z, some (.inl [76]), ug_z, some (.inl [29])]
def ug_l583 : List ug_T := [some (.inl [73]), ug_z, some (.inl [30])]
def ug_l584 : List ug_T := [some (.inl [77]), ug_z, some (.inl [30])]
def ug_l585 : List ug_T := [ug_z, some (.inl [77]), ug_z, some (.inl [30])]
def ug_l586 : List ug_T := [ug_z, ug_z, some (.inl [77]), ug_z, some (.inl [30])]
def ug_l587 : List ug_T := [some (.inl [73]), ug_z, some (.inl [31])]
def ug_l588 : List ug_T := [some (.inl [78]), ug_z, some (.inl [31])]
def ug_l589 : List ug_T := [ug_z, some (.inl [78]), ug_z, some (.inl [31])]
def ug_l590 : List ug_T := [ug_z, ug_z, some (.inl [78]), ug_z, some (.inl [31])]
def ug_l591 : List ug_T := [some (.inl [73]), ug_z, some (.inl [32])]
def ug_l592 : List ug_T := [some (.inl [79]), ug_z, some (.inl [32])]
def ug_l593 : List ug_T := [ug_z, some (.inl [79]), ug_z, some (.inl [32])]
def ug_l594 : List ug_T := [ug_z, ug_z, some (.inl [79]), ug_z, some (.inl [32])]
def ug_x154 : ug_X := (17, [some (.inl [73]), some (.inl [26])], none, 27386129504064957108541111261515236995326000401573283887238579270629457920, [[ug_s ug_l252 [], ug_s ug_l252 ug_l241, ug_s ug_l252 ug_l243, none, none, ug_s ug_l252 ug_l570, none, none, ug_s ug_l252 [], ug_s ug_l252 ug_l241, ug_s ug_l252 ug_l243, none, none, ug_s ug_l252 ug_l570, none, none, ug_s ug_l252 [], ug_s ug_l252 ug_l241, ug_s ug_l252 ug_l243, none, none, ug_s ug_l252 ug_l570, none, none, ug_s ug_l252 [], ug_s ug_l252 ug_l241, ug_s ug_l252 ug_l243, none, none, ug_s ug_l252 ug_l570, none, none],
  [ug_s ug_l252 [], ug_s ug_l252 ug_l241, ug_s ug_l252 ug_l243, none, none, ug_s ug_l252 ug_l570, none, none, ug_s ug_l252 [], ug_s2 ug_l252 ug_l33 [27], none, none, ug_s ug_l252 ug_l43, ug_s ug_l252 ug_l46, ug_s2 ug_l252 ug_l571 [74], none, none, ug_s ug_l252 ug_l572, ug_s ug_l252 ug_l573, none, ug_s ug_l252 ug_l574, none, none, ug_s ug_l252 [], ug_s2 ug_l252 ug_l33 [28], none, none, ug_s ug_l252 ug_l39, ug_s ug_l252 ug_l40, ug_s2 ug_l252 ug_l575 [75], none, none],
  [ug_s ug_l252 ug_l576, ug_s ug_l252 ug_l577, none, ug_s ug_l252 ug_l578, none, none, ug_s ug_l252 [], ug_s2 ug_l252 ug_l33 [29], none, none, ug_s ug_l252 ug_l36, ug_s ug_l252 ug_l37, ug_s2 ug_l252 ug_l579 [76], none, none, ug_s ug_l252 ug_l580, ug_s ug_l252 ug_l581, none, ug_s ug_l252 ug_l582, none, none, ug_s ug_l252 [], ug_s2 ug_l252 ug_l33 [30], none, none, ug_s ug_l252 ug_l44, ug_s ug_l252 ug_l45, ug_s2 ug_l252 ug_l583 [77], none, none, ug_s ug_l252 ug_l584, ug_s ug_l252 ug_l585],
  [none, ug_s ug_l252 ug_l586, none, none, ug_s ug_l252 [], ug_s2 ug_l252 ug_l33 [31], none, none, ug_s ug_l252 ug_l41, ug_s ug_l252 ug_l42, ug_s2 ug_l252 ug_l587 [78], none, none, ug_s ug_l252 ug_l588, ug_s ug_l252 ug_l589, none, ug_s ug_l252 ug_l590, none, none, ug_s ug_l252 [], ug_s2 ug_l252 ug_l33 [32], none, none, ug_s ug_l252 ug_l34, ug_s ug_l252 ug_l35, ug_s2 ug_l252 ug_l591 [79], none, none, ug_s ug_l252 ug_l592, ug_s ug_l252 ug_l593, none, ug_s ug_l252 ug_l594],
  [none, none, ug_s ug_l252 []]])
def ug_x155 : ug_X := (119, [some (.inl [0]), ug_z, ug_z], some (ug_z), 323519758526442653765592515450834468691971158576829361683946015294464, [[ug_s ug_l116 [], ug_s2 ug_l116 ug_l1 [33], none, none, ug_s ug_l116 ug_l199, ug_s2 ug_l116 ug_l200 [26], none, none, ug_s1 ug_l116 ug_l201 135, none, none, ug_s ug_l116 [], ug_s2 ug_l116 ug_l1 [33], none, none, ug_s ug_l116 ug_l199, ug_s ug_l116 ug_l224, ug_s1 ug_l116 ug_l501 195, none, none, ug_s ug_l116 [], ug_s ug_l116 ug_l2, ug_s ug_l116 [], ug_s ug_l116 ug_l2, none, ug_s ug_l116 ug_l3, none, none, ug_s ug_l116 [], ug_s2 ug_l116 ug_l1 [33], none, none],
  [ug_s ug_l116 ug_l199, ug_s2 ug_l116 ug_l200 [2, 11], none, none, ug_s ug_l116 ug_l202, ug_s2 ug_l116 ug_l203 [50], none, none, ug_s ug_l116 ug_l204, ug_s ug_l116 ug_l205, ug_s1 ug_l116 ug_l208 136, none, none, ug_s ug_l116 [], none, none, ug_s ug_l116 [], none, none, ug_s ug_l116 [], ug_s2 ug_l116 ug_l1 [33], none, none, ug_s1 ug_l116 ug_l199 153, none, none, ug_s1 ug_l116 ug_l2 108, none, none, ug_s ug_l116 ug_l2]])
def ug_l595 : List ug_T := [some (.inl [74])]
def ug_l596 : List ug_T := [ug_z, some (.inl [74])]
def ug_l597 : List ug_T := [some (.inl [26]), ug_z, some (.inl [74])]
def ug_l598 : List ug_T := [some (.inl [27]), ug_z, some (.inl [74])]
def ug_l599 : List ug_T := [ug_z, some (.inl [27]), ug_z, some (.inl [74])]
def ug_l600 : List ug_T := [ug_z, ug_z, some (.inl [27]), ug_z, some (.inl [74])]
def ug_l601 : List ug_T := [some (.inl [75])]
def ug_l602 : List ug_T := [ug_z, some (.inl [75])]
def ug_l603 : List ug_T := [some (.inl [26]), ug_z, some (.inl [75])]
def ug_l604 : List ug_T := [some (.inl [28]), ug_z, some (.inl [75])]
def ug_l605 : List ug_T := [ug_z, some (.inl [28]), ug_z, some (.inl [75])]
def ug_l606 : List ug_T := [ug_z, ug_z, some (.inl [28]), ug_z, some (.inl [75])]
def ug_l607 : List ug_T := [some (.inl [76])]
def ug_l608 : List ug_T := [ug_z, some (.inl [76])]
def ug_l609 : List ug_T := [some (.inl [26]), ug_z, some (.inl [76])]
def ug_l610 : List ug_T := [some (.inl [29]), ug_z, some (.inl [76])]
def ug_l611 : List ug_T := [ug_z, some (.inl [29]), ug_z, some (.inl [76])]
def ug_l612 : List ug_T := [ug_z, ug_z, some (.inl [29]), ug_z, some (.inl [76])]
def ug_l613 : List ug_T := [some (.inl [77])]
def ug_l614 : List ug_T := [ug_z, some (.inl [77])]
def ug_l615 : List ug_T := [some (.inl [26]), ug_z, some (.inl [77])]
def ug_l616 : List ug_T := [some (.inl [30]), ug_z, some (.inl [77])]
def ug_l617 : List ug_T := [ug_z, some (.inl [30]), ug_z, some (.inl [77])]
def ug_l618 : List ug_T := [ug_z, ug_z, some (.inl [30]), ug_z, some (.inl [77])]
def ug_l619 : List ug_T := [some (.inl [78])]
def ug_l620 : List ug_T := [ug_z, some (.inl [78])]
def ug_l621 : List ug_T := [some (.inl [26]), ug_z, some (.inl [78])]
def ug_l622 : List ug_T := [some (.inl [31]), ug_z, some (.inl [78])]
def ug_l623 : List ug_T := [ug_z, some (.inl [31]), ug_z, some (.inl [78])]
def ug_l624 : List ug_T := [ug_z, ug_z, some (.inl [31]), ug_z, some (.inl [78])]
def ug_l625 : List ug_T := [some (.inl [79])]
def ug_l626 : List ug_T := [ug_z, some (.inl [79])]
def ug_l627 : List ug_T := [some (.inl [26]), ug_z, some (.inl [79])]
def ug_l628 : List ug_T := [some (.inl [32]), ug_z, some (.inl [79])]
def ug_l629 : List ug_T := [ug_z, some (.inl [32]), ug_z, some (.inl [79])]
def ug_l630 : List ug_T := [ug_z, ug_z, some (.inl [32]), ug_z, some (.inl [79])]
def ug_x156 : ug_X := (17, [some (.inl [26]), some (.inl [73])], none, 194590153796987103678909472119437658899173018778393525616640, [[ug_s ug_l243 [], ug_s ug_l243 ug_l33, ug_s ug_l243 ug_l252, none, none, ug_s ug_l243 ug_l38, none, none, ug_s ug_l243 [], ug_s ug_l243 ug_l33, ug_s ug_l243 ug_l252, none, none, ug_s ug_l243 ug_l38, none, none, ug_s ug_l243 [], ug_s ug_l243 ug_l33, ug_s ug_l243 ug_l252, none, none, ug_s ug_l243 ug_l38, none, none, ug_s ug_l243 [], ug_s ug_l243 ug_l33, ug_s ug_l243 ug_l252, none, none, ug_s ug_l243 ug_l38, none, none],
  [ug_s ug_l243 [], ug_s ug_l243 ug_l33, ug_s ug_l243 ug_l252, none, none, ug_s ug_l243 ug_l38, none, none, ug_s ug_l243 [], ug_s2 ug_l243 ug_l241 [74], none, none, ug_s ug_l243 ug_l595, ug_s ug_l243 ug_l596, ug_s2 ug_l243 ug_l597 [27], none, none, ug_s ug_l243 ug_l598, ug_s ug_l243 ug_l599, none, ug_s ug_l243 ug_l600, none, none, ug_s ug_l243 [], ug_s2 ug_l243 ug_l241 [75], none, none, ug_s ug_l243 ug_l601, ug_s ug_l243 ug_l602, ug_s2 ug_l243 ug_l603 [28], none, none],
  [ug_s ug_l243 ug_l604, ug_s ug_l243 ug_l605, none, ug_s ug_l243 ug_l606, none, none, ug_s ug_l243 [], ug_s2 ug_l243 ug_l241 [76], none, none, ug_s ug_l243 ug_l607, ug_s ug_l243 ug_l608, ug_s2 ug_l243 ug_l609 [29], none, none, ug_s ug_l243 ug_l610, ug_s ug_l243 ug_l611, none, ug_s ug_l243 ug_l612, none, none, ug_s ug_l243 [], ug_s2 ug_l243 ug_l241 [77], none, none, ug_s ug_l243 ug_l613, ug_s ug_l243 ug_l614, ug_s2 ug_l243 ug_l615 [30], none, none, ug_s ug_l243 ug_l616, ug_s ug_l243 ug_l617],
  [none, ug_s ug_l243 ug_l618, none, none, ug_s ug_l243 [], ug_s2 ug_l243 ug_l241 [78], none, none, ug_s ug_l243 ug_l619, ug_s ug_l243 ug_l620, ug_s2 ug_l243 ug_l621 [31], none, none, ug_s ug_l243 ug_l622, ug_s ug_l243 ug_l623, none, ug_s ug_l243 ug_l624, none, none, ug_s ug_l243 [], ug_s2 ug_l243 ug_l241 [79], none, none, ug_s ug_l243 ug_l625, ug_s ug_l243 ug_l626, ug_s2 ug_l243 ug_l627 [32], none, none, ug_s ug_l243 ug_l628, ug_s ug_l243 ug_l629, none, ug_s ug_l243 ug_l630],
  [none, none, ug_s ug_l243 []]])
def ug_l631 : List ug_T := [some (.inl [80]), ug_z, some (.inl [114])]
def ug_l632 : List ug_T := [some (.inl [80]), some (.inl [80]), ug_z, some (.inl [114])]
def ug_l633 : List ug_T := [some (.inl [119]), some (.inl [80]), ug_z, some (.inl [114])]
def ug_l634 : List ug_T := [ug_z, some (.inl [119]), some (.inl [80]), ug_z, some (.inl [114])]
def ug_l635 : List ug_T := [ug_z, some (.inl [80]), ug_z, some (.inl [114])]
def ug_l636 : List ug_T := [ug_z, ug_z, some (.inl [80]), ug_z, some (.inl [114])]
def ug_l637 : List ug_T := [some (.inl [80]), ug_z, ug_z, some (.inl [114])]
def ug_l638 : List ug_T := [some (.inl [120]), ug_z, ug_z, some (.inl [114])]
def ug_l639 : List ug_T := [ug_z, some (.inl [120]), ug_z, ug_z, some (.inl [114])]
def ug_l640 : List ug_T := [ug_z, ug_z, ug_z, some (.inl [114])]
def ug_x157 : ug_X := (234, [some (.inl [80]), ug_z], some (ug_z), 497323236409786642155382248146820840100456150797347738453040326276290056221885707845632, [[ug_s ug_l162 [], ug_s ug_l162 ug_l2, ug_s ug_l162 [], ug_s ug_l162 ug_l2, ug_s ug_l162 [], ug_s ug_l162 ug_l2, none, none, ug_s ug_l162 ug_l3, none, none, ug_s ug_l162 [], ug_s2 ug_l162 ug_l6 [114], none, none, ug_s ug_l162 ug_l133, ug_s ug_l162 ug_l134, ug_s ug_l162 ug_l135, ug_s ug_l162 [], ug_s ug_l162 ug_l2, none, ug_s ug_l162 [], none, ug_s ug_l162 ug_l2, ug_s ug_l162 ug_l3, none, none, ug_s ug_l162 [], ug_s2 ug_l162 ug_l6 [114], none, none, ug_s ug_l162 ug_l133],
  [ug_s ug_l162 ug_l134, ug_s ug_l162 ug_l2, none, none, ug_s ug_l162 [], ug_s2 ug_l162 ug_l6 [114], none, none, ug_s ug_l162 ug_l133, ug_s ug_l162 ug_l134, ug_s ug_l162 ug_l631, ug_s2 ug_l162 ug_l632 [119], none, none, ug_s ug_l162 ug_l633, none, ug_s ug_l162 ug_l634, ug_s ug_l162 ug_l635, ug_s1 ug_l162 ug_l636 196, none, none, ug_s ug_l162 ug_l135, ug_s2 ug_l162 ug_l637 [120], none, none, ug_s ug_l162 ug_l638, none, ug_s ug_l162 ug_l639, ug_s ug_l162 ug_l640, none, none, ug_s ug_l162 ug_l134],
  [ug_s ug_l162 ug_l135, none, none, ug_s ug_l162 ug_l134, ug_s ug_l162 ug_l135, ug_s ug_l162 [], none, none, ug_s ug_l162 [], none, none, ug_s ug_l162 [], ug_s2 ug_l162 ug_l6 [114], none, none, ug_s ug_l162 ug_l133, ug_s ug_l162 ug_l134, ug_s ug_l162 ug_l2, none, none, ug_s ug_l162 [], none, none, ug_s ug_l162 [], none, none, ug_s ug_l162 [], none, none, ug_s ug_l162 [], ug_s ug_l162 ug_l2]])
def ug_x158 : ug_X := (172, [some (.inl [80])], none, 11935757673834879411729173955523700162410947619136345219220172552752681381867113053945856, [[ug_s ug_l6 [], ug_s1 ug_l6 ug_l6 113, none, none, ug_s ug_l6 [], ug_s ug_l6 ug_l6, ug_s ug_l6 ug_l7, none, none, ug_s ug_l6 []]])
def ug_x159 : ug_X := (185, [some (.inl [80]), ug_z], none, 497323236409786642155382248146820840100456150797347722227112643354953717064084679032832, [[ug_s ug_l47 [], ug_s ug_l47 ug_l2, ug_s ug_l47 [], ug_s ug_l47 ug_l2, ug_s ug_l47 ug_l3, none, none, ug_s ug_l47 [], ug_s1 ug_l47 ug_l6 202, none, none, ug_s ug_l47 [], none, none, ug_s ug_l47 [], none, none, ug_s ug_l47 []]])
def ug_x160 : ug_X := (187, [some (.inl [80])], some (ug_z), 0, [[ug_s ug_l47 [], ug_s ug_l47 ug_l2, ug_s ug_l47 [], ug_s ug_l47 ug_l2, ug_s ug_l47 [], ug_s ug_l47 ug_l2, ug_s2 ug_l47 ug_l11 [89], none, none, ug_s ug_l47 ug_l187, ug_s ug_l47 ug_l188, none, none, ug_s ug_l47 ug_l189, ug_s ug_l47 ug_l3, none, none, ug_s ug_l47 [], ug_s ug_l47 ug_l6, ug_s1 ug_l47 ug_l7 116, none, none, ug_s ug_l47 ug_l2, none, none, ug_s ug_l47 [], none, none, ug_s ug_l47 [], none, none, ug_s ug_l47 []],
  [none, none, ug_s ug_l47 [], ug_s ug_l47 ug_l2]])
def ug_l641 : List ug_T := [some (.inl [6, 15]), some (.inl [6, 15])]
def ug_l642 : List ug_T := [ug_z, ug_z, ug_z, some (.inl [6, 15])]
def ug_l643 : List ug_T := [some (.inl [7, 16])]
def ug_l644 : List ug_T := [some (.inl [6, 15]), some (.inl [7, 16])]
def ug_l645 : List ug_T := [ug_z, some (.inl [7, 16])]
def ug_l646 : List ug_T := [ug_z, ug_z, some (.inl [7, 16])]
def ug_l647 : List ug_T := [ug_z, ug_z, ug_z, some (.inl [7, 16])]
def ug_x161 : ug_X := (12, [some (.inl [6, 15]), ug_z, ug_z], some (ug_z), 8980014122875066618037765994021111478898420518813824, [[ug_s ug_l420 [], ug_s ug_l420 ug_l2, ug_s ug_l420 ug_l3, none, none, ug_s ug_l420 [], ug_s ug_l420 ug_l363, ug_s ug_l420 ug_l641, none, none, ug_s ug_l420 ug_l421, ug_s ug_l420 ug_l422, ug_s ug_l420 ug_l642, ug_s ug_l420 ug_l422, ug_s ug_l420 ug_l421, none, none, ug_s ug_l420 [], ug_s ug_l420 ug_l363, none, none, ug_s ug_l420 ug_l2, none, none, ug_s ug_l420 ug_l3, none, none, ug_s ug_l420 [], ug_s2 ug_l420 ug_l363 [7, 16], none, none, ug_s ug_l420 ug_l643],
  [ug_s ug_l420 ug_l644, none, none, ug_s ug_l420 ug_l645, ug_s ug_l420 ug_l646, ug_s ug_l420 ug_l647, ug_s ug_l420 ug_l646, ug_s ug_l420 ug_l647, ug_s ug_l420 ug_l646, ug_s ug_l420 [], ug_s ug_l420 ug_l363, ug_s ug_l420 ug_l641, none, none, ug_s ug_l420 ug_l421, ug_s ug_l420 ug_l422, ug_s ug_l420 ug_l421, none, none, ug_s ug_l420 [], ug_s ug_l420 ug_l363, none, none, ug_s ug_l420 ug_l2, ug_s ug_l420 ug_l3, ug_s ug_l420 ug_l2]])
def ug_l648 : List ug_T := [some (.inl [20]), ug_z, some (.inl [2, 11])]
def ug_l649 : List ug_T := [ug_z, ug_z, some (.inl [2, 11])]
def ug_x162 : ug_X := (46, [some (.inl [20])], some (ug_z), 6034224577612882366938642559419951840476594924901384224, [[ug_s ug_l378 [], ug_s2 ug_l378 ug_l14 [2, 11], none, none, ug_s ug_l378 ug_l75, none, none, ug_s ug_l378 ug_l2, none, ug_s ug_l378 ug_l3, none, none, ug_s ug_l378 [], ug_s ug_l378 ug_l14, ug_s1 ug_l378 ug_l279 166, none, none, ug_s ug_l378 ug_l2, ug_s ug_l378 [], ug_s1 ug_l378 ug_l14 208, none, none, ug_s ug_l378 ug_l2, none, none, ug_s ug_l378 [], ug_s ug_l378 ug_l14, ug_s ug_l378 ug_l279, none, ug_s1 ug_l378 ug_l281 230, none, none],
  [ug_s ug_l378 ug_l2, none, none, ug_s ug_l378 [], ug_s ug_l378 ug_l2, ug_s ug_l378 [], ug_s ug_l378 ug_l14, none, none, ug_s ug_l378 ug_l2, ug_s ug_l378 [], ug_s ug_l378 ug_l14, ug_s ug_l378 ug_l279, none, none, ug_s1 ug_l378 ug_l281 230, none, none, ug_s ug_l378 ug_l2, none, none, ug_s ug_l378 [], ug_s ug_l378 ug_l14, none, ug_s1 ug_l378 ug_l279 243, none, none, ug_s ug_l378 ug_l2, none, none, ug_s ug_l378 [], ug_s ug_l378 ug_l2],
  [ug_s ug_l378 [], ug_s2 ug_l378 ug_l14 [2, 11], none, none, ug_s ug_l378 ug_l75, ug_s ug_l378 ug_l364, ug_s ug_l378 ug_l648, none, none, ug_s1 ug_l378 ug_l649 252, none, none, ug_s ug_l378 [], ug_s ug_l378 ug_l2]])
def ug_l650 : List ug_T := [some (.inl [20]), some (.inl [2, 11])]
def ug_x163 : ug_X := (48, [some (.inl [20])], some (ug_z), 6034294733973217328396595979466780130410023818811670528, [[ug_s ug_l14 [], ug_s1 ug_l14 ug_l14 208, none, none, ug_s ug_l14 ug_l2, none, none, ug_s ug_l14 [], ug_s ug_l14 ug_l14, ug_s ug_l14 ug_l279, none, none, ug_s1 ug_l14 ug_l281 230, none, none, ug_s ug_l14 ug_l2, none, none, ug_s ug_l14 [], ug_s ug_l14 ug_l14, none, ug_s1 ug_l14 ug_l279 243, none, none, ug_s ug_l14 ug_l2, none, none, ug_s ug_l14 [], ug_s ug_l14 ug_l2, ug_s ug_l14 [], ug_s2 ug_l14 ug_l14 [2, 11], none],
  [none, ug_s ug_l14 ug_l75, ug_s ug_l14 ug_l650, none, none, ug_s ug_l14 ug_l364, none, none, ug_s ug_l14 [], ug_s ug_l14 ug_l2]])
def ug_x164 : ug_X := (45, [some (.inl [20])], some (ug_z), 6034212884886159873362316989412147125487690109283217432, [[ug_s ug_l378 [], ug_s2 ug_l378 ug_l14 [2, 11], none, none, ug_s ug_l378 ug_l75, none, none, ug_s ug_l378 ug_l2, none, ug_s ug_l378 ug_l3, none, none, ug_s ug_l378 [], ug_s ug_l378 ug_l14, ug_s1 ug_l378 ug_l279 166, none, none, ug_s ug_l378 ug_l2, ug_s ug_l378 [], ug_s1 ug_l378 ug_l14 208, none, none, ug_s ug_l378 ug_l2, none, none, ug_s ug_l378 [], ug_s1 ug_l378 ug_l14 229, none, none, ug_s ug_l378 ug_l2, none, none],
  [ug_s ug_l378 [], ug_s ug_l378 ug_l14, ug_s ug_l378 ug_l279, none, none, ug_s1 ug_l378 ug_l281 230, none, none, ug_s ug_l378 ug_l2, none, none, ug_s ug_l378 [], ug_s ug_l378 ug_l2, ug_s ug_l378 [], ug_s ug_l378 ug_l14, none, none, ug_s ug_l378 ug_l2, ug_s ug_l378 [], ug_s ug_l378 ug_l14, ug_s ug_l378 ug_l279, none, ug_s1 ug_l378 ug_l281 230, none, none, ug_s ug_l378 ug_l2, none, none, ug_s ug_l378 [], ug_s ug_l378 ug_l14, none, ug_s1 ug_l378 ug_l279 243],
  [none, none, ug_s ug_l378 ug_l2, none, none, ug_s ug_l378 [], ug_s ug_l378 ug_l2, ug_s ug_l378 [], ug_s2 ug_l378 ug_l14 [2, 11], none, none, ug_s ug_l378 ug_l75, ug_s ug_l378 ug_l364, ug_s ug_l378 ug_l648, none, none, ug_s1 ug_l378 ug_l649 251, none, none, ug_s ug_l378 [], ug_s ug_l378 ug_l2]])
def ug_x165 : ug_X := (47, [some (.inl [20])], some (ug_z), 6034247963066327354091293699435561270454404556204802048, [[ug_s ug_l14 [], ug_s1 ug_l14 ug_l14 208, none, none, ug_s ug_l14 ug_l2, none, none, ug_s ug_l14 [], ug_s ug_l14 ug_l14, ug_s ug_l14 ug_l279, none, ug_s1 ug_l14 ug_l281 230, none, none, ug_s ug_l14 ug_l2, none, none, ug_s ug_l14 [], ug_s ug_l14 ug_l14, none, ug_s1 ug_l14 ug_l279 243, none, none, ug_s ug_l14 ug_l2, none, none, ug_s ug_l14 [], ug_s ug_l14 ug_l2, ug_s ug_l14 [], ug_s2 ug_l14 ug_l14 [2, 11], none, none],
  [ug_s ug_l14 ug_l75, ug_s ug_l14 ug_l650, none, none, ug_s ug_l14 ug_l364, none, none, ug_s ug_l14 [], ug_s ug_l14 ug_l2]])
def ug_l651 : List ug_T := [some (.inl [21]), some (.inl [20])]
def ug_l652 : List ug_T := [some (.inl [24]), some (.inl [20])]
def ug_l653 : List ug_T := [some (.inl [20]), some (.inl [24]), some (.inl [20])]
def ug_l654 : List ug_T := [ug_z, some (.inl [24]), some (.inl [20])]
def ug_x166 : ug_X := (39, [some (.inl [20]), ug_z], some (ug_z), 1149371655649416643768760270362731887714054341637701632, [[ug_s ug_l378 [], ug_s ug_l378 ug_l14, ug_s ug_l378 ug_l279, none, none, ug_s ug_l378 [], ug_s ug_l378 ug_l14, ug_s ug_l378 ug_l280, none, none, ug_s ug_l378 ug_l279, none, none, ug_s ug_l378 ug_l281, none, none, ug_s ug_l378 ug_l14, ug_s2 ug_l378 ug_l280 [21], none, none, ug_s2 ug_l378 ug_l651 [24], none, none, ug_s ug_l378 ug_l652, ug_s ug_l378 ug_l653, none, none, ug_s ug_l378 ug_l654, ug_s ug_l378 ug_l279, none, none, ug_s ug_l378 ug_l14],
  [ug_s ug_l378 ug_l279, none, none, ug_s ug_l378 [], ug_s ug_l378 ug_l2]])
def ug_l655 : List ug_T := [some (.inl [20]), ug_z, ug_z, ug_z, ug_z, ug_z]
def ug_l656 : List ug_T := [some (.inl [20]), ug_z, some (.inl [6, 15]), ug_z, ug_z, ug_z]
def ug_x167 : ug_X := (49, [some (.inl [20]), ug_z], some (ug_z), 1254132641076409764034194725553647323169123957293384576, [[ug_s ug_l655 [], ug_s2 ug_l655 ug_l14 [2, 11], none, none, ug_s2 ug_l655 ug_l75 [6, 15], none, none, ug_s ug_l655 ug_l363, ug_s ug_l656 [], ug_s1 ug_l656 ug_l14 208, none, none, ug_s ug_l656 ug_l2, none, none, ug_s ug_l656 [], ug_s ug_l656 ug_l14, none, ug_s1 ug_l656 ug_l279 243, none, none, ug_s ug_l656 ug_l2, none, none, ug_s ug_l656 [], ug_s ug_l656 ug_l2, ug_s ug_l656 [], ug_s1 ug_l656 ug_l363 254, none, none, ug_s ug_l656 ug_l2, ug_s ug_l656 []],
  [ug_s ug_l656 ug_l2, none, ug_s ug_l656 [], none, ug_s ug_l656 ug_l2, ug_s ug_l656 ug_l3, none, none, ug_s ug_l656 [], ug_s1 ug_l656 ug_l14 121, none, none, ug_s ug_l656 ug_l2, none, ug_s ug_l656 ug_l3, none, none, ug_s ug_l656 [], none, ug_s ug_l656 ug_l2, ug_s ug_l656 ug_l3, none, none, ug_s ug_l656 [], ug_s ug_l656 ug_l14, ug_s1 ug_l656 ug_l279 166, none, none, ug_s ug_l656 ug_l2, ug_s ug_l656 [], ug_s1 ug_l656 ug_l14 208, none],
  [none, ug_s ug_l656 ug_l2, none, none, ug_s ug_l656 [], ug_s ug_l656 ug_l14, ug_s1 ug_l656 ug_l279 259, none, none, ug_s ug_l656 ug_l2, none, none, ug_s ug_l656 [], ug_s ug_l656 ug_l14, none, ug_s1 ug_l656 ug_l279 243, none, none, ug_s ug_l656 ug_l2, none, none, ug_s ug_l656 [], ug_s ug_l656 ug_l14, ug_s1 ug_l656 ug_l279 259, none, none, ug_s ug_l656 ug_l2, none, none, ug_s ug_l656 [], ug_s ug_l656 ug_l14, none],
  [ug_s1 ug_l656 ug_l279 243, none, none, ug_s ug_l656 ug_l2, none, none, ug_s ug_l656 [], ug_s ug_l656 ug_l2, ug_s ug_l656 [], ug_s ug_l656 ug_l363, none, ug_s ug_l656 ug_l421, ug_s1 ug_l656 ug_l422 161, none, none, ug_s ug_l656 ug_l2, none, ug_s ug_l656 [], ug_s ug_l656 ug_l14, ug_s1 ug_l656 ug_l279 259, none, none, ug_s ug_l656 ug_l2, none, none, ug_s ug_l656 [], ug_s ug_l656 ug_l14, none, ug_s1 ug_l656 ug_l279 243, none, none, ug_s ug_l656 ug_l2],
  [none, none, ug_s ug_l656 [], ug_s ug_l656 ug_l2, ug_s ug_l656 [], ug_s ug_l656 ug_l363, none, ug_s ug_l656 ug_l421, ug_s1 ug_l656 ug_l422 161, none, none, ug_s ug_l656 ug_l2, ug_s ug_l656 [], ug_s ug_l656 ug_l363, none, ug_s1 ug_l656 ug_l421 262, none, none, ug_s ug_l656 [], none, none, ug_s ug_l656 [], none, none, ug_s ug_l656 [], ug_s ug_l656 ug_l14, ug_s1 ug_l656 ug_l279 259, none, none, ug_s ug_l656 ug_l2, none, none],
  [ug_s ug_l656 [], ug_s ug_l656 ug_l14, none, ug_s1 ug_l656 ug_l279 243, none, none, ug_s ug_l656 ug_l2, none, none, ug_s ug_l656 [], ug_s ug_l656 ug_l2, ug_s ug_l656 [], ug_s ug_l656 ug_l363, none, ug_s ug_l656 ug_l421, ug_s1 ug_l656 ug_l422 161, none, none, ug_s ug_l656 ug_l2, ug_s ug_l656 [], ug_s ug_l656 ug_l363, ug_s ug_l656 ug_l421, ug_s1 ug_l656 ug_l422 228, none, none, ug_s ug_l656 [], ug_s ug_l656 ug_l2]])
def ug_l657 : List ug_T := [some (.inl [26]), some (.inl [2, 11]), ug_z]
def ug_l658 : List ug_T := [some (.inl [2, 11]), ug_z, some (.inl [27])]
def ug_l659 : List ug_T := [some (.inl [3, 12]), ug_z, some (.inl [27])]
def ug_l660 : List ug_T := [ug_z, some (.inl [3, 12]), ug_z, some (.inl [27])]
def ug_l661 : List ug_T := [some (.inl [2, 11]), ug_z, some (.inl [28])]
def ug_l662 : List ug_T := [some (.inl [4, 13]), ug_z, some (.inl [28])]
def ug_l663 : List ug_T := [ug_z, some (.inl [4, 13]), ug_z, some (.inl [28])]
def ug_x168 : ug_X := (16, [some (.inl [26]), some (.inl [2, 11])], none, 194590153796987103678909472119437658899173018778393525616640, [[ug_s ug_l657 [], ug_s ug_l657 ug_l33, ug_s ug_l657 ug_l97, none, none, ug_s ug_l657 ug_l38, none, none, ug_s ug_l657 [], ug_s ug_l657 ug_l33, ug_s ug_l657 ug_l38, none, none, ug_s ug_l657 [], ug_s ug_l657 ug_l33, ug_s ug_l657 ug_l38, none, none, ug_s ug_l657 [], ug_s ug_l657 ug_l33, ug_s ug_l657 ug_l38, ug_s ug_l657 ug_l80, none, none, ug_s ug_l657 ug_l70, ug_s ug_l657 ug_l38, ug_s ug_l657 ug_l70, ug_s ug_l657 ug_l38, none, none, ug_s ug_l657 [], ug_s ug_l657 ug_l33],
  [ug_s ug_l657 ug_l38, none, none, ug_s ug_l657 [], ug_s ug_l657 ug_l2, ug_s ug_l657 [], ug_s ug_l657 ug_l2, none, ug_s ug_l657 ug_l3, none, none, ug_s ug_l657 [], ug_s2 ug_l657 ug_l33 [27], none, none, ug_s ug_l657 ug_l43, ug_s ug_l657 ug_l46, ug_s2 ug_l657 ug_l658 [3, 12], none, none, ug_s ug_l657 ug_l659, ug_s ug_l657 ug_l660, ug_s ug_l657 ug_l540, ug_s ug_l657 [], ug_s2 ug_l657 ug_l33 [28], none, none, ug_s ug_l657 ug_l39, ug_s ug_l657 ug_l40, ug_s2 ug_l657 ug_l661 [4, 13], none, none],
  [ug_s ug_l657 ug_l662, ug_s ug_l657 ug_l663, ug_s ug_l657 ug_l541, ug_s ug_l657 [], ug_s2 ug_l657 ug_l33 [29], none, none, ug_s ug_l657 ug_l36, ug_s ug_l657 ug_l37, ug_s ug_l657 ug_l522, ug_s ug_l657 [], ug_s2 ug_l657 ug_l33 [30], none, none, ug_s ug_l657 ug_l44, ug_s ug_l657 ug_l45, ug_s ug_l657 ug_l542, ug_s ug_l657 [], ug_s2 ug_l657 ug_l33 [31], none, none, ug_s ug_l657 ug_l41, ug_s ug_l657 ug_l42, ug_s ug_l657 ug_l520, ug_s ug_l657 [], ug_s2 ug_l657 ug_l33 [32], none, none, ug_s ug_l657 ug_l34, ug_s ug_l657 ug_l35, ug_s ug_l657 ug_l563, ug_s ug_l657 []],
  [none, none, ug_s ug_l657 [], none, none, ug_s ug_l657 []]])
def ug_l664 : List ug_T := [some (.inl [80]), ug_z, ug_z, ug_z, ug_j, ug_d]
def ug_l665 : List ug_T := [ug_z, ug_z, some (.inl [83])]
def ug_l666 : List ug_T := [some (.inl [84])]
def ug_l667 : List ug_T := [some (.inl [80]), some (.inl [84])]
def ug_l668 : List ug_T := [ug_z, some (.inl [84])]
def ug_l669 : List ug_T := [ug_z, ug_z, some (.inl [84])]
def ug_l670 : List ug_T := [some (.inl [85])]
def ug_l671 : List ug_T := [some (.inl [80]), some (.inl [85])]
def ug_l672 : List ug_T := [ug_z, some (.inl [85])]
def ug_l673 : List ug_T := [ug_z, ug_z, some (.inl [85])]
def ug_l674 : List ug_T := [some (.inl [86])]
def ug_l675 : List ug_T := [some (.inl [80]), some (.inl [86])]
def ug_l676 : List ug_T := [ug_z, some (.inl [86])]
def ug_l677 : List ug_T := [ug_j, ug_z, some (.inl [86])]
def ug_x169 : ug_X := (141, [some (.inl [80]), ug_z, ug_z, ug_z, ug_j], none, 28948022309329048855892746252171976963317496166410286080962749757479247151104, [[ug_s ug_l664 [], ug_s2 ug_l664 ug_l6 [83], none, none, ug_s ug_l664 ug_l315, ug_s ug_l664 ug_l316, none, none, ug_s ug_l664 ug_l317, ug_s ug_l664 ug_l665, ug_s ug_l664 [], ug_s2 ug_l664 ug_l6 [84], none, none, ug_s ug_l664 ug_l666, ug_s ug_l664 ug_l667, none, none, ug_s ug_l664 ug_l668, ug_s ug_l664 ug_l669, ug_s ug_l664 [], ug_s2 ug_l664 ug_l6 [85], none, none, ug_s ug_l664 ug_l670, ug_s ug_l664 ug_l671, none, none, ug_s ug_l664 ug_l672, ug_s ug_l664 ug_l673, ug_s ug_l664 [], ug_s2 ug_l664 ug_l6 [86]],
  [none, none, ug_s ug_l664 ug_l674, ug_s ug_l664 ug_l675, none, none, ug_s ug_l664 ug_l676, none, ug_s ug_l664 ug_l677, ug_s ug_l664 [], ug_s ug_l664 ug_l6, ug_s ug_l664 ug_l12, none, none, ug_s ug_l664 ug_l7, ug_s ug_l664 ug_l13, ug_s ug_l664 ug_l7, none, none, ug_s ug_l664 []]])
def ug_x170 : ug_X := (138, [ug_z], some (ug_z), 0, [[ug_s ug_l2 [], ug_s ug_l2 ug_l2, none, ug_s ug_l2 ug_l3, none, none, ug_s ug_l2 [], ug_s ug_l2 ug_l2, none, ug_s ug_l2 ug_l3, none, none, ug_s ug_l2 [], ug_s ug_l2 ug_l2, none, none, ug_s ug_l2 [], ug_s ug_l2 ug_l2]])
def ug_x171 : ug_X := (153, [some (.inl [80]), ug_z, ug_z], some (ug_z), 3531658721738143960418915042764981189524734532302037203203456312241350454018048, [[ug_s ug_l124 [], ug_s1 ug_l124 ug_l6 175, none, none, ug_s ug_l124 [], ug_s ug_l124 ug_l6, ug_s ug_l124 ug_l7, ug_s1 ug_l124 ug_l13 177, none, none, ug_s ug_l124 ug_l2, ug_s ug_l124 [], ug_s ug_l124 ug_l6, ug_s1 ug_l124 ug_l7 210, none, none, ug_s ug_l124 [], ug_s ug_l124 ug_l2]])
def ug_x172 : ug_X := (152, [some (.inl [80]), ug_z, ug_z], none, 752648580042555270253211402556471401046254900326663666256474296051435342659584, [[ug_s ug_l47 [], ug_s ug_l47 ug_l2, ug_s ug_l47 ug_l3, none, none, ug_s ug_l47 [], ug_s ug_l47 ug_l6, ug_s1 ug_l47 ug_l7 174, none, none, ug_s ug_l47 [], ug_s ug_l47 ug_l6, none, none, ug_s ug_l47 ug_l2, none, none, ug_s ug_l47 [], ug_s1 ug_l47 ug_l6 175, none, none, ug_s ug_l47 []]])
def ug_l678 : List ug_T := [some (.inl [88])]
def ug_l679 : List ug_T := [ug_z, some (.inl [88])]
def ug_l680 : List ug_T := [some (.inl [86]), ug_j]
def ug_l681 : List ug_T := [ug_z, some (.inl [86]), ug_j]
def ug_l682 : List ug_T := [some (.inl [90])]
def ug_l683 : List ug_T := [ug_z, some (.inl [90])]
def ug_l684 : List ug_T := [some (.inl [80]), ug_z, some (.inl [90])]
def ug_l685 : List ug_T := [ug_z, some (.inl [80]), ug_z, some (.inl [90])]
def ug_l686 : List ug_T := [ug_z, ug_z, some (.inl [80]), ug_z, some (.inl [90])]
def ug_l687 : List ug_T := [ug_z, ug_z, some (.inl [90])]
def ug_l688 : List ug_T := [some (.inl [91])]
def ug_l689 : List ug_T := [ug_z, some (.inl [91])]
def ug_l690 : List ug_T := [some (.inl [80]), ug_z, some (.inl [91])]
def ug_l691 : List ug_T := [ug_z, some (.inl [80]), ug_z, some (.inl [91])]
def ug_l692 : List ug_T := [ug_z, ug_z, some (.inl [80]), ug_z, some (.inl [91])]
def ug_l693 : List ug_T := [ug_z, ug_z, some (.inl [91])]
def ug_l694 : List ug_T := [some (.inl [80]), some (.inl [88])]
def ug_l695 : List ug_T := [some (.inl [80]), ug_z, some (.inl [88])]
def ug_l696 : List ug_T := [some (.inl [86]), ug_z, some (.inl [88])]
def ug_l697 : List ug_T := [ug_z, some (.inl [86]), ug_z, some (.inl [88])]
def ug_l698 : List ug_T := [ug_j, ug_z, some (.inl [88])]
def ug_l699 : List ug_T := [ug_z, some (.inl [89]), ug_z, some (.inl [89])]
def ug_l700 : List ug_T := [ug_z, ug_z, ug_z, some (.inl [89])]
def ug_x173 : ug_X := (156, [some (.inl [80])], none, 33174433566491089988853087204989085599961850606706026239579745138443142513557504, [[ug_s ug_l124 [], none, ug_s ug_l124 ug_l2, ug_s ug_l124 ug_l11, none, none, ug_s ug_l124 ug_l3, ug_s ug_l124 ug_l2, ug_s2 ug_l124 ug_l11 [89], none, none, ug_s ug_l124 ug_l187, ug_s ug_l124 ug_l188, none, none, ug_s ug_l124 ug_l189, ug_s ug_l124 ug_l3, ug_s ug_l124 ug_l2, ug_s ug_l124 [], ug_s ug_l124 ug_l6, none, none, ug_s ug_l124 ug_l2, ug_s ug_l124 [], ug_s ug_l124 ug_l6, ug_s1 ug_l124 ug_l7 210, none, none, ug_s ug_l124 [], ug_s ug_l124 ug_l2, ug_s ug_l124 [], ug_s ug_l124 ug_l2],
  [ug_s ug_l124 ug_l11, none, none, ug_s ug_l124 ug_l3, none, none, ug_s ug_l124 [], ug_s ug_l124 ug_l6, none, none, ug_s ug_l124 ug_l2, none, none, ug_s ug_l124 [], ug_s2 ug_l124 ug_l6 [88], none, none, ug_s ug_l124 ug_l678, ug_s ug_l124 ug_l679, ug_s ug_l124 ug_l284, ug_s2 ug_l124 ug_l286 [86], none, none, ug_s ug_l124 ug_l680, ug_s ug_l124 ug_l681, ug_s ug_l124 ug_l292, ug_s ug_l124 ug_l2, none, none, ug_s ug_l124 [], ug_s ug_l124 ug_l6, ug_s ug_l124 ug_l7],
  [ug_s1 ug_l124 ug_l13 211, none, none, ug_s ug_l124 [], none, none, ug_s ug_l124 [], none, none, ug_s ug_l124 [], ug_s2 ug_l124 ug_l6 [90], none, none, ug_s ug_l124 ug_l682, ug_s ug_l124 ug_l683, ug_s ug_l124 ug_l684, ug_s ug_l124 ug_l685, none, none, ug_s1 ug_l124 ug_l686 177, none, none, ug_s ug_l124 ug_l687, ug_s ug_l124 [], ug_s2 ug_l124 ug_l6 [91], none, none, ug_s ug_l124 ug_l688, ug_s ug_l124 ug_l689, ug_s ug_l124 ug_l690, ug_s ug_l124 ug_l691, none],
  [ug_s1 ug_l124 ug_l692 177, none, none, ug_s ug_l124 ug_l693, ug_s ug_l124 [], ug_s ug_l124 ug_l6, ug_s1 ug_l124 ug_l7 210, none, none, ug_s ug_l124 [], ug_s ug_l124 ug_l6, none, none, ug_s ug_l124 ug_l2, none, none, ug_s ug_l124 [], ug_s ug_l124 [], ug_s2 ug_l124 ug_l6 [88], none, none, ug_s ug_l124 ug_l678, ug_s ug_l124 ug_l694, none, none, ug_s ug_l124 ug_l679, ug_s2 ug_l124 ug_l695 [86], none, none, ug_s ug_l124 ug_l696, ug_s ug_l124 ug_l697, ug_s ug_l124 ug_l698],
  [ug_s ug_l124 [], ug_s ug_l124 ug_l6, ug_s ug_l124 ug_l12, none, none, ug_s ug_l124 ug_l7, ug_s ug_l124 ug_l13, ug_s ug_l124 ug_l7, none, none, ug_s ug_l124 [], ug_s2 ug_l124 ug_l6 [89], none, none, ug_s ug_l124 ug_l76, ug_s ug_l124 ug_l77, none, none, ug_s ug_l124 ug_l78, ug_s ug_l124 ug_l699, ug_s ug_l124 ug_l298, ug_s ug_l124 ug_l700, ug_s ug_l124 ug_l298, ug_s ug_l124 []]])
def ug_l701 : List ug_T := [some (.inl [84]), some (.inl [80])]
def ug_l702 : List ug_T := [some (.inl [80]), some (.inl [84]), some (.inl [80])]
def ug_l703 : List ug_T := [ug_z, some (.inl [84]), some (.inl [80])]
def ug_x174 : ug_X := (145, [some (.inl [80]), ug_z], none, 694752535423897172541425910052127447119619907993843384236745504047478777839616, [[ug_s ug_l11 [], ug_s ug_l11 ug_l6, none, none, ug_s ug_l11 ug_l2, none, none, ug_s ug_l11 [], ug_s ug_l11 [], ug_s ug_l11 ug_l6, ug_s ug_l11 ug_l7, none, none, ug_s ug_l11 [], ug_s ug_l11 ug_l6, ug_s2 ug_l11 ug_l12 [84], none, none, ug_s ug_l11 ug_l701, ug_s ug_l11 ug_l702, none, none, ug_s ug_l11 ug_l703, ug_s ug_l11 ug_l7, none, none, ug_s ug_l11 []]])
def ug_x175 : ug_X := (147, [some (.inl [80])], none, 752648580042555270253211402556471401046254900326663666256474296051435342659584, [[ug_s ug_l6 [], ug_s ug_l6 ug_l6, none, none, ug_s ug_l6 ug_l2, none, none, ug_s ug_l6 ug_l3, none, none, ug_s ug_l6 [], ug_s ug_l6 ug_l6, ug_s1 ug_l6 ug_l7 174, none, none, ug_s ug_l6 [], none, none, ug_s ug_l6 [], ug_s ug_l6 ug_l6, ug_s ug_l6 ug_l12, none, none, ug_s ug_l6 ug_l7, ug_s ug_l6 ug_l13, ug_s ug_l6 ug_l7, none, none, ug_s ug_l6 []]])
def ug_l704 : List ug_T := [some (.inl [98])]
def ug_l705 : List ug_T := [some (.inl [80]), some (.inl [98])]
def ug_l706 : List ug_T := [ug_z, some (.inl [98])]
def ug_l707 : List ug_T := [ug_z, ug_z, some (.inl [98])]
def ug_l708 : List ug_T := [some (.inl [80]), ug_z, some (.inl [96])]
def ug_l709 : List ug_T := [some (.inl [99])]
def ug_l710 : List ug_T := [some (.inl [80]), ug_z, some (.inl [97])]
def ug_l711 : List ug_T := [some (.inl [80]), some (.inl [99])]
def ug_l712 : List ug_T := [ug_z, some (.inl [99])]
def ug_l713 : List ug_T := [some (.inl [80]), ug_z, some (.inl [99])]
def ug_l714 : List ug_T := [ug_z, ug_z, some (.inl [99])]
def ug_l715 : List ug_T := [some (.inl [100])]
def ug_l716 : List ug_T := [some (.inl [80]), some (.inl [100])]
def ug_l717 : List ug_T := [ug_z, some (.inl [100])]
def ug_l718 : List ug_T := [some (.inl [80]), ug_z, some (.inl [100])]
def ug_l719 : List ug_T := [ug_z, ug_z, some (.inl [100])]
def ug_x176 : ug_X := (157, [some (.inl [80]), ug_z], none, 66111451606997511724599403693370265356833716641018008155955381616951383873433685196800, [[ug_s ug_l124 [], ug_s ug_l124 ug_l6, ug_s1 ug_l124 ug_l7 210, none, none, ug_s ug_l124 [], ug_s ug_l124 ug_l6, none, none, ug_s ug_l124 ug_l2, ug_s ug_l124 [], ug_s ug_l124 ug_l2, ug_s ug_l124 [], ug_s ug_l124 ug_l6, none, none, ug_s ug_l124 ug_l2, none, none, ug_s ug_l124 [], ug_s ug_l124 ug_l6, none, ug_s1 ug_l124 ug_l7 93, none, none, ug_s ug_l124 ug_l2, none, none, ug_s ug_l124 [], ug_s ug_l124 ug_l2, ug_s ug_l124 ug_l3, none],
  [none, ug_s ug_l124 [], ug_s ug_l124 ug_l6, ug_s1 ug_l124 ug_l7 174, none, none, ug_s ug_l124 [], ug_s ug_l124 ug_l6, none, none, ug_s ug_l124 ug_l2, none, none, ug_s ug_l124 [], ug_s ug_l124 [], none, none, ug_s ug_l124 [], ug_s1 ug_l124 ug_l6 175, none, none, ug_s ug_l124 [], ug_s2 ug_l124 ug_l6 [98], none, none, ug_s ug_l124 ug_l704, ug_s ug_l124 ug_l705, none, none, ug_s ug_l124 ug_l706, ug_s ug_l124 ug_l707, ug_s ug_l124 []],
  [ug_s2 ug_l124 ug_l6 [99], none, none, ug_s ug_l124 ug_l709, ug_s ug_l124 ug_l711, none, none, ug_s ug_l124 ug_l712, ug_s ug_l124 ug_l713, none, none, ug_s ug_l124 ug_l714, ug_s ug_l124 [], ug_s1 ug_l124 ug_l6 213, none, none, ug_s ug_l124 [], ug_s ug_l124 ug_l6, none, ug_s1 ug_l124 ug_l7 210, none, none, ug_s ug_l124 [], ug_s2 ug_l124 ug_l6 [100], none, none, ug_s ug_l124 ug_l715, ug_s ug_l124 ug_l716, none, none, ug_s ug_l124 ug_l717, ug_s ug_l124 ug_l718],
  [none, none, ug_s ug_l124 ug_l719, ug_s ug_l124 [], ug_s ug_l124 ug_l6, none, none, ug_s ug_l124 ug_l2, none, none, ug_s ug_l124 [], ug_s1 ug_l124 ug_l6 213, none, none, ug_s ug_l124 [], ug_s ug_l124 ug_l6, none, ug_s1 ug_l124 ug_l7 210, none, none, ug_s ug_l124 [], ug_s1 ug_l124 ug_l6 212, none, none, ug_s ug_l124 [], ug_s ug_l124 ug_l6, none, ug_s1 ug_l124 ug_l7 210, none, none, ug_s ug_l124 [], none],
  [none, ug_s ug_l124 [], ug_s2 ug_l124 ug_l6 [98], none, none, ug_s ug_l124 ug_l704, ug_s ug_l124 ug_l705, none, none, ug_s ug_l124 ug_l706, ug_s ug_l124 ug_l707, ug_s ug_l124 [], ug_s1 ug_l124 ug_l6 212, none, none, ug_s ug_l124 [], ug_s ug_l124 ug_l6, ug_s1 ug_l124 ug_l7 210, none, none, ug_s ug_l124 [], ug_s ug_l124 ug_l6, none, none, ug_s ug_l124 ug_l2, none, none, ug_s ug_l124 [], ug_s ug_l124 [], ug_s2 ug_l124 ug_l6 [96], none, none],
  [ug_s ug_l124 ug_l309, ug_s ug_l124 ug_l310, ug_s ug_l124 ug_l708, none, none, ug_s ug_l124 ug_l311, ug_s ug_l124 ug_l310, ug_s ug_l124 ug_l311, ug_s ug_l124 ug_l310, ug_s ug_l124 ug_l311, ug_s ug_l124 [], ug_s2 ug_l124 ug_l6 [97], none, none, ug_s ug_l124 ug_l312, ug_s ug_l124 ug_l313, ug_s ug_l124 ug_l710, none, none, ug_s ug_l124 ug_l314, ug_s ug_l124 ug_l313, ug_s ug_l124 ug_l314, ug_s ug_l124 ug_l313, ug_s ug_l124 ug_l710, none, none, ug_s ug_l124 ug_l314, ug_s ug_l124 []]])
def ug_x177 : ug_X := (155, [some (.inl [80]), ug_z, ug_z], some (ug_z), 3531658721738143960418915042764981189524734532302037203203456312241350454018048, [[ug_s ug_l124 [], ug_s ug_l124 ug_l6, none, none, ug_s ug_l124 ug_l2, none, none, ug_s ug_l124 [], ug_s ug_l124 ug_l6, ug_s1 ug_l124 ug_l7 93, none, none, ug_s ug_l124 ug_l2, none, none, ug_s ug_l124 [], ug_s ug_l124 ug_l6, ug_s1 ug_l124 ug_l7 174, none, none, ug_s ug_l124 [], ug_s ug_l124 ug_l2, ug_s ug_l124 [], ug_s2 ug_l124 ug_l6 [85], none, none, ug_s ug_l124 ug_l670, ug_s ug_l124 ug_l671, none, none, ug_s ug_l124 ug_l672, ug_s ug_l124 ug_l2],
  [ug_s ug_l124 [], ug_s ug_l124 ug_l2, ug_s ug_l124 ug_l3, none, none, ug_s ug_l124 [], ug_s ug_l124 ug_l2, ug_s ug_l124 ug_l3, none, none, ug_s ug_l124 [], ug_s ug_l124 ug_l6, ug_s ug_l124 ug_l7, ug_s ug_l124 ug_l28, none, none, ug_s1 ug_l124 ug_l13 211, none, none, ug_s ug_l124 [], ug_s1 ug_l124 ug_l6 175, none, none, ug_s ug_l124 [], ug_s ug_l124 ug_l2]])
def ug_l720 : List ug_T := [some (.inl [55]), ug_z, some (.inl [2, 11]), some (.inl [26]), some (.inl [50]), ug_z]
def ug_l721 : List ug_T := [some (.inl [55]), some (.inl [55])]
def ug_l722 : List ug_T := [ug_z, ug_z, some (.inl [55])]
def ug_l723 : List ug_T := [ug_z, ug_z, ug_z, some (.inl [55])]
def ug_l724 : List ug_T := [some (.inl [56])]
def ug_l725 : List ug_T := [ug_z, some (.inl [56])]
def ug_x178 : ug_X := (67, [some (.inl [55]), ug_z, some (.inl [2, 11]), some (.inl [26]), some (.inl [50])], some (some (.inl [57, 58, 59, 60, 61, 62, 63, 64, 65, 66])), 1186237653354628150965348663828863749640034354591932652782957657326592, [[ug_s ug_l720 [], ug_s ug_l720 ug_l104, none, none, ug_s ug_l720 ug_l2, none, ug_s ug_l720 [], none, ug_s ug_l720 ug_l2, ug_s ug_l720 ug_l3, none, none, ug_s ug_l720 [], ug_s ug_l720 ug_l104, none, ug_s ug_l720 ug_l105, ug_s ug_l720 ug_l443, ug_s ug_l720 ug_l445, none, ug_s1 ug_l720 ug_l447 214, none, none, ug_s ug_l720 [], none, none, ug_s ug_l720 [], none, none, ug_s ug_l720 [], ug_s ug_l720 ug_l104, ug_s ug_l720 ug_l721, none],
  [none, ug_s ug_l720 ug_l105, ug_s ug_l720 ug_l722, ug_s ug_l720 ug_l723, ug_s1 ug_l720 ug_l722 215, none, none, ug_s ug_l720 ug_l105, none, none, ug_s ug_l720 [], ug_s2 ug_l720 ug_l104 [56], none, none, ug_s ug_l720 ug_l724, ug_s2 ug_l720 ug_l725 [57, 58, 59, 60, 61, 62, 63, 64, 65, 66], ug_s ug_l720 ug_l114]])
def ug_l726 : List ug_T := [some (.inl [52]), ug_z, ug_z, ug_z]
def ug_l727 : List ug_T := [ug_z, ug_z, some (.inl [52])]
def ug_x179 : ug_X := (246, [some (.inl [52]), ug_z], none, 4503599627370496, [[ug_s ug_l726 [], ug_s ug_l726 ug_l2, ug_s ug_l726 [], ug_s ug_l726 ug_l462, ug_s ug_l726 ug_l2, ug_s ug_l726 [], ug_s ug_l726 ug_l2, ug_s ug_l726 ug_l3, none, none, ug_s ug_l726 [], ug_s ug_l726 ug_l462, ug_s ug_l726 ug_l463, ug_s ug_l726 ug_l727, ug_s ug_l726 [], none, none, ug_s ug_l726 [], none, none, ug_s ug_l726 []]])
def ug_l728 : List ug_T := [some (.inl [53]), ug_z, ug_z, ug_z]
def ug_l729 : List ug_T := [ug_z, ug_z, some (.inl [53])]
def ug_x180 : ug_X := (246, [some (.inl [53]), ug_z], none, 9007199254740992, [[ug_s ug_l728 [], ug_s ug_l728 ug_l2, ug_s ug_l728 [], ug_s ug_l728 ug_l464, ug_s ug_l728 ug_l2, ug_s ug_l728 [], ug_s ug_l728 ug_l2, ug_s ug_l728 ug_l3, none, none, ug_s ug_l728 [], ug_s ug_l728 ug_l464, ug_s ug_l728 ug_l465, ug_s ug_l728 ug_l729, ug_s ug_l728 [], none, none, ug_s ug_l728 [], none, none, ug_s ug_l728 []]])
def ug_l730 : List ug_T := [some (.inl [54]), ug_z, ug_z, ug_z]
def ug_l731 : List ug_T := [ug_z, ug_z, some (.inl [54])]
def ug_x181 : ug_X := (246, [some (.inl [54]), ug_z], none, 18014398509481984, [[ug_s ug_l730 [], ug_s ug_l730 ug_l2, ug_s ug_l730 [], ug_s ug_l730 ug_l466, ug_s ug_l730 ug_l2, ug_s ug_l730 [], ug_s ug_l730 ug_l2, ug_s ug_l730 ug_l3, none, none, ug_s ug_l730 [], ug_s ug_l730 ug_l466, ug_s ug_l730 ug_l467, ug_s ug_l730 ug_l731, ug_s ug_l730 [], none, none, ug_s ug_l730 [], none, none, ug_s ug_l730 []]])
def ug_l732 : List ug_T := [some (.inl [52]), ug_z]
def ug_l733 : List ug_T := [ug_z, some (.inl [52]), ug_z]
def ug_l734 : List ug_T := [some (.inl [53]), ug_z]
def ug_l735 : List ug_T := [ug_z, some (.inl [53]), ug_z]
def ug_l736 : List ug_T := [some (.inl [50]), ug_z, some (.inl [53])]
def ug_l737 : List ug_T := [some (.inl [6, 15]), ug_z, some (.inl [53])]
def ug_l738 : List ug_T := [ug_z, some (.inl [6, 15]), ug_z, some (.inl [53])]
def ug_l739 : List ug_T := [some (.inl [50]), ug_z, some (.inl [6, 15]), ug_z, some (.inl [53])]
def ug_l740 : List ug_T := [some (.inl [51]), ug_z, some (.inl [6, 15]), ug_z, some (.inl [53])]
def ug_l741 : List ug_T := [ug_z, some (.inl [51]), ug_z, some (.inl [6, 15]), ug_z, some (.inl [53])]
def ug_l742 : List ug_T := [ug_z, ug_z, some (.inl [51]), ug_z, some (.inl [6, 15]), ug_z, some (.inl [53])]
def ug_l743 : List ug_T := [some (.inl [50]), ug_z, some (.inl [6, 15])]
def ug_l744 : List ug_T := [some (.inl [51]), ug_z, some (.inl [6, 15])]
def ug_l745 : List ug_T := [ug_z, some (.inl [51]), ug_z, some (.inl [6, 15])]
def ug_l746 : List ug_T := [ug_z, ug_z, some (.inl [51]), ug_z, some (.inl [6, 15])]
def ug_l747 : List ug_T := [ug_z, some (.inl [52]), ug_z, some (.inl [52])]
def ug_l748 : List ug_T := [ug_z, ug_z, ug_z, some (.inl [52])]
def ug_l749 : List ug_T := [ug_z, some (.inl [53]), ug_z, some (.inl [53])]
def ug_l750 : List ug_T := [ug_z, ug_z, ug_z, some (.inl [53])]
def ug_x182 : ug_X := (6, [some (.inl [50]), ug_z, ug_z], some (ug_z), 15762598696322048, [[ug_s ug_l468 [], ug_s ug_l468 ug_l2, ug_s2 ug_l468 ug_l470 [52], none, none, ug_s ug_l468 ug_l732, ug_s ug_l468 ug_l733, ug_s ug_l468 ug_l3, ug_s ug_l468 ug_l48, ug_s ug_l468 ug_l3, ug_s ug_l468 ug_l2, none, none, ug_s ug_l468 [], ug_s ug_l468 ug_l2, ug_s2 ug_l468 ug_l470 [53], none, none, ug_s ug_l468 ug_l734, ug_s ug_l468 ug_l735, ug_s ug_l468 ug_l3, ug_s ug_l468 ug_l2, ug_s ug_l468 [], ug_s2 ug_l468 ug_l59 [6, 15], none, none, ug_s ug_l468 ug_l363, ug_s ug_l468 ug_l421, ug_s1 ug_l468 ug_l422 216, none, none, ug_s ug_l468 ug_l2],
  [none, none, ug_s ug_l468 [], ug_s2 ug_l468 ug_l59 [52], none, none, ug_s ug_l468 ug_l462, ug_s ug_l468 ug_l463, none, none, ug_s ug_l468 ug_l727, ug_s ug_l468 [], ug_s2 ug_l468 ug_l59 [53], none, none, ug_s ug_l468 ug_l464, ug_s ug_l468 ug_l465, ug_s2 ug_l468 ug_l736 [6, 15], none, none, ug_s ug_l468 ug_l737, ug_s ug_l468 ug_l738, ug_s2 ug_l468 ug_l739 [51], none, none, ug_s ug_l468 ug_l740, ug_s ug_l468 ug_l741, ug_s1 ug_l468 ug_l742 218, none, none, ug_s ug_l468 ug_l729, none],
  [none, ug_s ug_l468 ug_l465, none, none, ug_s ug_l468 ug_l729, none, none, ug_s ug_l468 ug_l465, ug_s ug_l468 ug_l729, ug_s ug_l468 [], ug_s ug_l468 ug_l2, ug_s2 ug_l468 ug_l470 [53], none, none, ug_s ug_l468 ug_l734, ug_s ug_l468 ug_l735, ug_s ug_l468 ug_l3, ug_s ug_l468 ug_l2, ug_s ug_l468 [], ug_s ug_l468 ug_l2, ug_s ug_l468 [], ug_s ug_l468 ug_l2, none, ug_s ug_l468 ug_l3, none, none, ug_s ug_l468 [], ug_s ug_l468 ug_l2, ug_s ug_l468 ug_l3, ug_s ug_l468 ug_l2, none, ug_s ug_l468 []],
  [ug_s ug_l468 ug_l2, none, ug_s ug_l468 ug_l3, ug_s ug_l468 ug_l2, ug_s2 ug_l468 ug_l470 [52], none, none, ug_s ug_l468 ug_l732, ug_s ug_l468 ug_l733, ug_s ug_l468 ug_l3, ug_s ug_l468 ug_l48, ug_s ug_l468 ug_l3, ug_s ug_l468 ug_l2, none, none, ug_s ug_l468 [], ug_s2 ug_l468 ug_l59 [6, 15], none, none, ug_s ug_l468 ug_l363, ug_s ug_l468 ug_l421, ug_s2 ug_l468 ug_l743 [51], none, none, ug_s ug_l468 ug_l744, ug_s ug_l468 ug_l745, ug_s1 ug_l468 ug_l746 218, none, none, ug_s ug_l468 ug_l2, none, none],
  [ug_s ug_l468 [], ug_s2 ug_l468 ug_l59 [53], none, none, ug_s ug_l468 ug_l464, ug_s ug_l468 ug_l465, ug_s ug_l468 ug_l749, ug_s ug_l468 ug_l729, none, ug_s ug_l468 ug_l750, ug_s ug_l468 ug_l729, ug_s ug_l468 [], none, none, ug_s ug_l468 [], none, none, ug_s ug_l468 [], ug_s2 ug_l468 ug_l59 [52], none, none, ug_s ug_l468 ug_l462, ug_s ug_l468 ug_l463, ug_s ug_l468 ug_l747, ug_s ug_l468 ug_l727, ug_s ug_l468 ug_l748, ug_s ug_l468 ug_l727, ug_s ug_l468 [], ug_s ug_l468 ug_l2, ug_s2 ug_l468 ug_l470 [53], none, none],
  [ug_s ug_l468 ug_l734, ug_s ug_l468 ug_l735, ug_s ug_l468 ug_l3, ug_s ug_l468 ug_l2]])
def ug_l751 : List ug_T := [some (.inl [33]), some (.inl [2, 11])]
def ug_l752 : List ug_T := [some (.inl [33]), some (.inl [5, 14])]
def ug_x183 : ug_X := (22, [some (.inl [33]), some (.inl [2, 11])], some (ug_z), 0, [[ug_s ug_l751 [], ug_s ug_l751 ug_l199, none, none, ug_s ug_l751 ug_l2, ug_s ug_l751 ug_l3, none, none, ug_s ug_l751 [], ug_s2 ug_l751 ug_l75 [5, 14], none, none, ug_s ug_l751 ug_l352, ug_s ug_l751 ug_l752, none, none, ug_s ug_l751 ug_l354, none, ug_s1 ug_l751 ug_l355 125, none, none, ug_s ug_l751 ug_l354, ug_s ug_l751 ug_l2, none, none, ug_s ug_l751 [], ug_s ug_l751 ug_l199, none, none, ug_s ug_l751 ug_l2]])
def ug_l753 : List ug_T := [some (.inl [41])]
def ug_l754 : List ug_T := [some (.inl [40]), some (.inl [41])]
def ug_l755 : List ug_T := [ug_z, some (.inl [41])]
def ug_l756 : List ug_T := [some (.inl [40]), ug_z, some (.inl [41])]
def ug_l757 : List ug_T := [ug_z, ug_z, some (.inl [41])]
def ug_x184 : ug_X := (34, [some (.inl [40]), some (.inl [26])], none, 6531830340286527384334150170161402829528970018632495821716163919872, [[ug_s ug_l335 [], ug_s2 ug_l335 ug_l106 [41], none, none, ug_s ug_l335 ug_l753, ug_s ug_l335 ug_l754, none, none, ug_s ug_l335 ug_l755, ug_s ug_l335 ug_l756, none, none, ug_s ug_l335 ug_l757, ug_s ug_l335 ug_l755, none, ug_s ug_l335 ug_l757, ug_s2 ug_l335 ug_l755 [42], ug_s ug_l335 ug_l382, ug_s1 ug_l335 ug_l381 217, none, none, ug_s ug_l335 [], ug_s ug_l335 ug_l106, none, none, ug_s ug_l335 ug_l2, none, ug_s ug_l335 ug_l3, none, none, ug_s ug_l335 [], ug_s ug_l335 ug_l106],
  [ug_s ug_l335 ug_l336, none, none, ug_s ug_l335 ug_l253, ug_s ug_l335 ug_l337, ug_s ug_l335 ug_l253, none, none, ug_s ug_l335 [], none, none, ug_s ug_l335 [], ug_s ug_l335 ug_l106, ug_s ug_l335 ug_l336, none, none, ug_s ug_l335 ug_l253, ug_s ug_l335 ug_l337, ug_s ug_l335 ug_l253, none, ug_s ug_l335 ug_l337, ug_s ug_l335 ug_l253, none, none, ug_s ug_l335 []]])
def ug_l758 : List ug_T := [some (.inl [0]), ug_z, ug_z, ug_z, ug_z, ug_z, ug_z, ug_z]
def ug_l759 : List ug_T := [ug_z, ug_z, some (.inl [72])]
def ug_x185 : ug_X := (104, [some (.inl [0]), ug_z, ug_z], some (ug_z), 4722366482869645213696, [[ug_s ug_l758 [], ug_s ug_l758 ug_l2, ug_s ug_l758 [], ug_s ug_l758 ug_l2, none, ug_s ug_l758 ug_l3, none, none, ug_s ug_l758 [], ug_s ug_l758 ug_l2, ug_s ug_l758 ug_l3, none, none, ug_s ug_l758 [], ug_s ug_l758 ug_l2, none, none, ug_s ug_l758 [], none, ug_s ug_l758 ug_l2, none, ug_s ug_l758 [], ug_s ug_l758 ug_l2, ug_s ug_l758 ug_l3, none, none, ug_s ug_l758 [], ug_s ug_l758 ug_l2, none, none, ug_s ug_l758 [], ug_s ug_l758 ug_l2],
  [ug_s ug_l758 ug_l3, ug_s ug_l758 ug_l2, none, ug_s ug_l758 [], none, ug_s ug_l758 ug_l2, none, ug_s ug_l758 ug_l3, none, none, ug_s ug_l758 [], ug_s ug_l758 ug_l2, ug_s ug_l758 ug_l3, none, none, ug_s ug_l758 [], none, ug_s ug_l758 ug_l2, none, none, ug_s ug_l758 [], none, ug_s ug_l758 ug_l2, none, ug_s ug_l758 [], ug_s ug_l758 ug_l2, ug_s ug_l758 ug_l3, none, none, ug_s ug_l758 [], none, ug_s ug_l758 ug_l2],
  [none, none, ug_s ug_l758 [], none, ug_s ug_l758 ug_l2, ug_s ug_l758 ug_l3, ug_s ug_l758 ug_l2, none, ug_s ug_l758 [], none, ug_s ug_l758 ug_l2, none, ug_s ug_l758 ug_l3, none, none, ug_s ug_l758 [], ug_s2 ug_l758 ug_l1 [71], none, none, ug_s ug_l758 ug_l128, ug_s ug_l758 ug_l129, ug_s ug_l758 ug_l2, ug_s2 ug_l758 ug_l8 [71], none, none, ug_s ug_l758 ug_l182, none, ug_s ug_l758 ug_l183, ug_s ug_l758 ug_l3, ug_s ug_l758 ug_l2, ug_s2 ug_l758 ug_l8 [71], none],
  [none, ug_s ug_l758 ug_l182, none, ug_s ug_l758 ug_l183, ug_s ug_l758 ug_l3, ug_s ug_l758 ug_l2, ug_s ug_l758 ug_l3, none, none, ug_s ug_l758 [], ug_s2 ug_l758 ug_l1 [72], none, none, ug_s ug_l758 ug_l164, ug_s ug_l758 ug_l165, ug_s ug_l758 ug_l759, ug_s ug_l758 [], ug_s2 ug_l758 ug_l1 [72], none, none, ug_s ug_l758 ug_l164, ug_s ug_l758 ug_l165, none, ug_s ug_l758 ug_l759, ug_s ug_l758 [], ug_s2 ug_l758 ug_l1 [72], none, none, ug_s ug_l758 ug_l164, ug_s ug_l758 ug_l165, none, ug_s ug_l758 ug_l759],
  [ug_s ug_l758 [], ug_s ug_l758 ug_l2, ug_s ug_l758 [], none, none, ug_s ug_l758 [], none, none, ug_s ug_l758 [], none, none, ug_s ug_l758 [], none, none, ug_s ug_l758 [], none, none, ug_s ug_l758 [], none, none, ug_s ug_l758 [], ug_s ug_l758 ug_l2]])
def ug_l760 : List ug_T := [some (.inl [27]), ug_z, ug_z, ug_z]
def ug_l761 : List ug_T := [some (.inl [27]), ug_z, some (.inl [27])]
def ug_l762 : List ug_T := [ug_z, some (.inl [27]), ug_z, some (.inl [27])]
def ug_x186 : ug_X := (25, [some (.inl [27]), ug_z, ug_z], none, 134217728, [[ug_s ug_l760 [], ug_s ug_l760 ug_l43, ug_s ug_l760 ug_l46, ug_s ug_l760 ug_l2, ug_s ug_l760 [], ug_s ug_l760 ug_l43, ug_s ug_l760 ug_l46, ug_s ug_l760 ug_l761, ug_s ug_l760 ug_l762, ug_s ug_l760 ug_l540, ug_s ug_l760 [], ug_s ug_l760 ug_l43, ug_s ug_l760 ug_l46, ug_s ug_l760 ug_l540, ug_s ug_l760 []]])
def ug_l763 : List ug_T := [some (.inl [28]), ug_z, ug_z, ug_z]
def ug_l764 : List ug_T := [some (.inl [28]), ug_z, some (.inl [28])]
def ug_l765 : List ug_T := [ug_z, some (.inl [28]), ug_z, some (.inl [28])]
def ug_x187 : ug_X := (25, [some (.inl [28]), ug_z, ug_z], none, 268435456, [[ug_s ug_l763 [], ug_s ug_l763 ug_l39, ug_s ug_l763 ug_l40, ug_s ug_l763 ug_l2, ug_s ug_l763 [], ug_s ug_l763 ug_l39, ug_s ug_l763 ug_l40, ug_s ug_l763 ug_l764, ug_s ug_l763 ug_l765, ug_s ug_l763 ug_l541, ug_s ug_l763 [], ug_s ug_l763 ug_l39, ug_s ug_l763 ug_l40, ug_s ug_l763 ug_l541, ug_s ug_l763 []]])
def ug_l766 : List ug_T := [some (.inl [29]), ug_z, ug_z, ug_z]
def ug_l767 : List ug_T := [some (.inl [29]), ug_z, some (.inl [29])]
def ug_x188 : ug_X := (25, [some (.inl [29]), ug_z, ug_z], none, 536870912, [[ug_s ug_l766 [], ug_s ug_l766 ug_l36, ug_s ug_l766 ug_l37, ug_s ug_l766 ug_l2, ug_s ug_l766 [], ug_s ug_l766 ug_l36, ug_s ug_l766 ug_l37, ug_s ug_l766 ug_l767, ug_s ug_l766 ug_l521, ug_s ug_l766 ug_l522, ug_s ug_l766 [], ug_s ug_l766 ug_l36, ug_s ug_l766 ug_l37, ug_s ug_l766 ug_l522, ug_s ug_l766 []]])
def ug_l768 : List ug_T := [some (.inl [30]), ug_z, ug_z, ug_z]
def ug_l769 : List ug_T := [some (.inl [30]), ug_z, some (.inl [30])]
def ug_l770 : List ug_T := [ug_z, some (.inl [30]), ug_z, some (.inl [30])]
def ug_x189 : ug_X := (25, [some (.inl [30]), ug_z, ug_z], none, 1073741824, [[ug_s ug_l768 [], ug_s ug_l768 ug_l44, ug_s ug_l768 ug_l45, ug_s ug_l768 ug_l2, ug_s ug_l768 [], ug_s ug_l768 ug_l44, ug_s ug_l768 ug_l45, ug_s ug_l768 ug_l769, ug_s ug_l768 ug_l770, ug_s ug_l768 ug_l542, ug_s ug_l768 [], ug_s ug_l768 ug_l44, ug_s ug_l768 ug_l45, ug_s ug_l768 ug_l542, ug_s ug_l768 []]])
def ug_x190 : ug_X := (19, [some (.inl [26]), ug_z], some (ug_z), 0, [[ug_s ug_l170 [], ug_s ug_l170 ug_l33, ug_s1 ug_l170 ug_l38 137, none, none, ug_s ug_l170 ug_l2, none, none, ug_s ug_l170 [], ug_s2 ug_l170 ug_l33 [32], none, none, ug_s ug_l170 ug_l34, ug_s ug_l170 ug_l35, ug_s ug_l170 ug_l2, none, none, ug_s ug_l170 [], ug_s ug_l170 ug_l2, none, none, ug_s ug_l170 [], ug_s ug_l170 ug_l2]])
def ug_l771 : List ug_T := [some (.inl [50]), ug_z, ug_z, some (.inl [50])]
def ug_l772 : List ug_T := [some (.inl [6, 15]), ug_z, ug_z, some (.inl [50])]
def ug_l773 : List ug_T := [ug_z, some (.inl [6, 15]), ug_z, ug_z, some (.inl [50])]
def ug_l774 : List ug_T := [some (.inl [50]), ug_z, some (.inl [6, 15]), ug_z, ug_z, some (.inl [50])]
def ug_l775 : List ug_T := [some (.inl [51]), ug_z, some (.inl [6, 15]), ug_z, ug_z, some (.inl [50])]
def ug_l776 : List ug_T := [ug_z, some (.inl [51]), ug_z, some (.inl [6, 15]), ug_z, ug_z, some (.inl [50])]
def ug_l777 : List ug_T := [ug_z, ug_z, some (.inl [51]), ug_z, some (.inl [6, 15]), ug_z, ug_z, some (.inl [50])]
def ug_l778 : List ug_T := [ug_z, ug_z, ug_z, some (.inl [50])]
def ug_x191 : ug_X := (3, [some (.inl [50])], some (ug_z), 107839786668602559178668060348078522694548577690162292176214255207424, [[ug_s ug_l59 [], ug_s ug_l59 ug_l59, none, none, ug_s ug_l59 ug_l2, ug_s ug_l59 ug_l3, none, none, ug_s ug_l59 [], ug_s ug_l59 ug_l59, ug_s ug_l59 ug_l68, none, none, ug_s ug_l59 ug_l469, ug_s2 ug_l59 ug_l771 [6, 15], none, none, ug_s ug_l59 ug_l772, ug_s ug_l59 ug_l773, ug_s2 ug_l59 ug_l774 [51], none, none, ug_s ug_l59 ug_l775, ug_s ug_l59 ug_l776, ug_s1 ug_l59 ug_l777 218, none, none, ug_s1 ug_l59 ug_l778 249, none, none, ug_s1 ug_l59 ug_l469 215, none],
  [none, ug_s ug_l59 ug_l68, none, none, ug_s ug_l59 [], ug_s ug_l59 ug_l59, none, none, ug_s ug_l59 ug_l2]])
def ug_l779 : List ug_T := [some (.inl [50]), ug_z, ug_z]
def ug_l780 : List ug_T := [ug_z, some (.inl [6, 15]), ug_z, ug_z]
def ug_l781 : List ug_T := [some (.inl [50]), ug_z, some (.inl [6, 15]), ug_z, ug_z]
def ug_l782 : List ug_T := [some (.inl [51]), ug_z, some (.inl [6, 15]), ug_z, ug_z]
def ug_l783 : List ug_T := [ug_z, some (.inl [51]), ug_z, some (.inl [6, 15]), ug_z, ug_z]
def ug_l784 : List ug_T := [ug_z, ug_z, some (.inl [51]), ug_z, some (.inl [6, 15]), ug_z, ug_z]
def ug_x192 : ug_X := (4, [some (.inl [50])], some (ug_z), 2251799814210560, [[ug_s ug_l59 [], ug_s ug_l59 ug_l2, none, ug_s ug_l59 ug_l3, ug_s2 ug_l59 ug_l779 [6, 15], none, none, ug_s ug_l59 ug_l420, ug_s ug_l59 ug_l780, ug_s2 ug_l59 ug_l781 [51], none, none, ug_s ug_l59 ug_l782, ug_s ug_l59 ug_l783, ug_s1 ug_l59 ug_l784 218, none, none, ug_s1 ug_l59 ug_l48 249, none, none, ug_s1 ug_l59 ug_l3 215, none, none, ug_s ug_l59 ug_l2]])
def ug_l785 : List ug_T := [ug_z, ug_z, ug_z, some (.inl [54])]
def ug_l786 : List ug_T := [some (.inl [50]), ug_z, ug_z, ug_z, some (.inl [54])]
def ug_l787 : List ug_T := [some (.inl [6, 15]), ug_z, ug_z, ug_z, some (.inl [54])]
def ug_l788 : List ug_T := [ug_z, some (.inl [6, 15]), ug_z, ug_z, ug_z, some (.inl [54])]
def ug_l789 : List ug_T := [some (.inl [50]), ug_z, some (.inl [6, 15]), ug_z, ug_z, ug_z, some (.inl [54])]
def ug_l790 : List ug_T := [some (.inl [51]), ug_z, some (.inl [6, 15]), ug_z, ug_z, ug_z, some (.inl [54])]
def ug_l791 : List ug_T := [ug_z, some (.inl [51]), ug_z, some (.inl [6, 15]), ug_z, ug_z, ug_z, some (.inl [54])]
def ug_l792 : List ug_T := [ug_z, ug_z, some (.inl [51]), ug_z, some (.inl [6, 15]), ug_z, ug_z, ug_z, some (.inl [54])]
def ug_l793 : List ug_T := [ug_z, ug_z, ug_z, ug_z, some (.inl [54])]
def ug_x193 : ug_X := (2, [some (.inl [50]), ug_z], some (ug_z), 20266198323692544, [[ug_s ug_l470 [], ug_s2 ug_l470 ug_l59 [54], none, none, ug_s ug_l470 ug_l466, ug_s ug_l470 ug_l467, ug_s ug_l470 ug_l2, ug_s ug_l470 ug_l3, none, none, ug_s ug_l470 [], ug_s2 ug_l470 ug_l59 [54], none, none, ug_s ug_l470 ug_l466, ug_s ug_l470 ug_l467, ug_s ug_l470 ug_l731, none, ug_s ug_l470 ug_l785, ug_s2 ug_l470 ug_l786 [6, 15], none, none, ug_s ug_l470 ug_l787, ug_s ug_l470 ug_l788, ug_s2 ug_l470 ug_l789 [51], none, none, ug_s ug_l470 ug_l790, ug_s ug_l470 ug_l791, ug_s1 ug_l470 ug_l792 218, none, none],
  [ug_s1 ug_l470 ug_l793 249, none, none, ug_s1 ug_l470 ug_l785 215, none, none, ug_s ug_l470 ug_l731, ug_s ug_l470 [], ug_s2 ug_l470 ug_l59 [54], none, none, ug_s ug_l470 ug_l466, ug_s ug_l470 ug_l467, ug_s ug_l470 ug_l2]])
def ug_l794 : List ug_T := [some (.inl [71]), ug_z, ug_z, ug_z]
def ug_x194 : ug_X := (246, [some (.inl [71]), ug_z], none, 2361183241434822606848, [[ug_s ug_l794 [], ug_s ug_l794 ug_l2, ug_s ug_l794 [], ug_s ug_l794 ug_l128, ug_s ug_l794 ug_l2, ug_s ug_l794 [], ug_s ug_l794 ug_l2, ug_s ug_l794 ug_l3, none, none, ug_s ug_l794 [], ug_s ug_l794 ug_l128, ug_s ug_l794 ug_l129, ug_s ug_l794 ug_l131, ug_s ug_l794 [], none, none, ug_s ug_l794 [], none, none, ug_s ug_l794 []]])
def ug_l795 : List ug_T := [ug_z, ug_z, some (.inl [34])]
def ug_l796 : List ug_T := [some (.inl [35])]
def ug_l797 : List ug_T := [ug_z, some (.inl [35])]
def ug_l798 : List ug_T := [ug_z, ug_z, some (.inl [35])]
def ug_l799 : List ug_T := [ug_z, ug_z, some (.inl [36])]
def ug_l800 : List ug_T := [some (.inl [37])]
def ug_l801 : List ug_T := [ug_z, some (.inl [37])]
def ug_l802 : List ug_T := [ug_z, ug_z, some (.inl [37])]
def ug_x195 : ug_X := (24, [some (.inl [33]), ug_z, ug_z], none, 257698037760, [[ug_s ug_l512 [], ug_s2 ug_l512 ug_l199 [34], none, none, ug_s ug_l512 ug_l516, ug_s ug_l512 ug_l517, ug_s1 ug_l512 ug_l795 219, none, none, ug_s ug_l512 [], ug_s2 ug_l512 ug_l199 [35], none, none, ug_s ug_l512 ug_l796, ug_s ug_l512 ug_l797, ug_s1 ug_l512 ug_l798 220, none, none, ug_s ug_l512 [], ug_s2 ug_l512 ug_l199 [36], none, none, ug_s ug_l512 ug_l213, ug_s ug_l512 ug_l214, ug_s1 ug_l512 ug_l799 221, none, none, ug_s ug_l512 [], ug_s2 ug_l512 ug_l199 [37], none, none, ug_s ug_l512 ug_l800],
  [ug_s ug_l512 ug_l801, ug_s1 ug_l512 ug_l802 222, none, none, ug_s ug_l512 []]])
def ug_x196 : ug_X := (202, [some (.inl [80]), ug_z, ug_z], some (ug_z), 497323236409786642155382248146820840100456150797347717683852892136979542099900390965248, [[ug_s ug_l47 [], ug_s ug_l47 ug_l6, ug_s ug_l47 ug_l7, ug_s ug_l47 ug_l13, ug_s2 ug_l47 ug_l54 [109], none, none, ug_s ug_l47 ug_l55, none, ug_s ug_l47 ug_l56, ug_s1 ug_l47 ug_l57 223, none, none, ug_s ug_l47 ug_l2]])
def ug_l803 : List ug_T := [some (.inl [80]), ug_z, some (.inl [113])]
def ug_l804 : List ug_T := [ug_z, some (.inl [80]), ug_z, some (.inl [113])]
def ug_l805 : List ug_T := [ug_z, ug_z, some (.inl [80]), ug_z, some (.inl [113])]
def ug_l806 : List ug_T := [ug_z, ug_z, some (.inl [113])]
def ug_x197 : ug_X := (203, [some (.inl [80]), ug_z], none, 497323236409786642155382248146820840100456150797347728068446609206634799160893049405440, [[ug_s ug_l47 [], ug_s ug_l47 ug_l2, ug_s ug_l47 [], ug_s ug_l47 ug_l2, none, none, ug_s ug_l47 ug_l3, none, none, ug_s ug_l47 [], ug_s2 ug_l47 ug_l6 [113], none, none, ug_s ug_l47 ug_l149, ug_s ug_l47 ug_l150, ug_s ug_l47 ug_l803, ug_s ug_l47 ug_l804, ug_s1 ug_l47 ug_l805 196, none, none, ug_s ug_l47 ug_l806, ug_s ug_l47 [], none, none, ug_s ug_l47 [], none, none, ug_s ug_l47 []]])
def ug_l807 : List ug_T := [some (.inl [80]), ug_z, some (.inl [116])]
def ug_l808 : List ug_T := [ug_z, some (.inl [80]), ug_z, some (.inl [116])]
def ug_l809 : List ug_T := [ug_z, ug_z, some (.inl [80]), ug_z, some (.inl [116])]
def ug_l810 : List ug_T := [some (.inl [80]), ug_z, ug_z, some (.inl [80]), ug_z, some (.inl [116])]
def ug_l811 : List ug_T := [some (.inl [109]), ug_z, ug_z, some (.inl [80]), ug_z, some (.inl [116])]
def ug_l812 : List ug_T := [ug_z, some (.inl [109]), ug_z, ug_z, some (.inl [80]), ug_z, some (.inl [116])]
def ug_l813 : List ug_T := [ug_z, ug_z, ug_z, some (.inl [80]), ug_z, some (.inl [116])]
def ug_l814 : List ug_T := [ug_z, ug_z, ug_z, ug_z, some (.inl [80]), ug_z, some (.inl [116])]
def ug_l815 : List ug_T := [ug_z, ug_z, some (.inl [116])]
def ug_x198 : ug_X := (214, [some (.inl [80]), ug_z], none, 497323236409786642155382248146820840100456150797347800760602628694221598587841658486784, [[ug_s ug_l47 [], ug_s ug_l47 ug_l2, ug_s ug_l47 [], ug_s ug_l47 ug_l2, none, ug_s ug_l47 ug_l3, none, none, ug_s ug_l47 [], ug_s2 ug_l47 ug_l6 [116], none, none, ug_s ug_l47 ug_l173, ug_s ug_l47 ug_l174, ug_s ug_l47 ug_l807, ug_s ug_l47 ug_l808, none, none, ug_s ug_l47 ug_l809, ug_s2 ug_l47 ug_l810 [109], none, none, ug_s ug_l47 ug_l811, none, ug_s ug_l47 ug_l812, ug_s ug_l47 ug_l813, ug_s ug_l47 ug_l814, ug_s1 ug_l47 ug_l813 223, none, none, ug_s ug_l47 ug_l815, ug_s ug_l47 []],
  [none, none, ug_s ug_l47 [], none, none, ug_s ug_l47 []]])
def ug_l816 : List ug_T := [ug_z, ug_z, some (.inl [117])]
def ug_l817 : List ug_T := [ug_z, ug_z, ug_z, some (.inl [117])]
def ug_l818 : List ug_T := [some (.inl [117]), ug_z]
def ug_l819 : List ug_T := [ug_z, some (.inl [117]), ug_z]
def ug_l820 : List ug_T := [some (.inl [80]), some (.inl [116]), ug_z]
def ug_l821 : List ug_T := [some (.inl [117]), some (.inl [116]), ug_z]
def ug_l822 : List ug_T := [ug_z, some (.inl [117]), some (.inl [116]), ug_z]
def ug_x199 : ug_X := (215, [some (.inl [80]), ug_z], some (ug_z), 166153499473114484112975882535043072, [[ug_s ug_l124 [], ug_s ug_l124 ug_l2, none, none, ug_s ug_l124 [], ug_s ug_l124 ug_l2, ug_s ug_l124 [], ug_s ug_l124 ug_l2, ug_s ug_l124 [], ug_s ug_l124 ug_l2, none, ug_s ug_l124 ug_l3, none, none, ug_s ug_l124 [], ug_s2 ug_l124 ug_l6 [117], none, none, ug_s ug_l124 ug_l168, ug_s ug_l124 ug_l169, ug_s ug_l124 ug_l816, ug_s ug_l124 [], ug_s ug_l124 ug_l2, ug_s2 ug_l124 ug_l11 [116], none, none, ug_s ug_l124 ug_l177, ug_s ug_l124 ug_l178, ug_s ug_l124 ug_l3, ug_s ug_l124 ug_l48, ug_s ug_l124 ug_l3, ug_s ug_l124 ug_l2],
  [none, none, ug_s ug_l124 [], ug_s ug_l124 ug_l2, ug_s ug_l124 [], none, none, ug_s ug_l124 [], none, none, ug_s ug_l124 [], ug_s ug_l124 ug_l2, ug_s ug_l124 [], ug_s ug_l124 ug_l2, none, ug_s ug_l124 ug_l3, none, none, ug_s ug_l124 [], ug_s ug_l124 ug_l2, ug_s ug_l124 ug_l3, ug_s ug_l124 ug_l2, ug_s ug_l124 [], ug_s ug_l124 ug_l2, none, ug_s ug_l124 ug_l3, none, none, ug_s ug_l124 [], ug_s2 ug_l124 ug_l6 [117], none, none],
  [ug_s ug_l124 ug_l168, ug_s ug_l124 ug_l169, ug_s ug_l124 ug_l816, ug_s ug_l124 [], ug_s2 ug_l124 ug_l6 [117], none, none, ug_s ug_l124 ug_l168, ug_s ug_l124 ug_l169, ug_s ug_l124 ug_l816, ug_s ug_l124 [], ug_s ug_l124 ug_l2, ug_s2 ug_l124 ug_l11 [116], none, none, ug_s ug_l124 ug_l177, ug_s ug_l124 ug_l178, ug_s ug_l124 ug_l3, ug_s ug_l124 ug_l48, ug_s ug_l124 ug_l3, ug_s ug_l124 ug_l2, ug_s2 ug_l124 ug_l11 [116], none, none, ug_s ug_l124 ug_l177, ug_s ug_l124 ug_l178, ug_s ug_l124 ug_l3, ug_s ug_l124 ug_l48, ug_s ug_l124 ug_l3, ug_s ug_l124 ug_l2, none, none],
  [ug_s ug_l124 [], ug_s ug_l124 ug_l2, ug_s ug_l124 [], none, none, ug_s ug_l124 [], none, none, ug_s ug_l124 [], none, none, ug_s ug_l124 [], none, none, ug_s ug_l124 [], ug_s ug_l124 ug_l2, ug_s ug_l124 [], ug_s ug_l124 ug_l2, none, none, ug_s ug_l124 ug_l3, none, none, ug_s ug_l124 [], ug_s2 ug_l124 ug_l6 [117], none, none, ug_s ug_l124 ug_l168, ug_s ug_l124 ug_l169, ug_s ug_l124 ug_l816, none, none],
  [ug_s ug_l124 ug_l817, ug_s ug_l124 ug_l816, ug_s ug_l124 [], ug_s2 ug_l124 ug_l6 [117], none, none, ug_s ug_l124 ug_l168, ug_s ug_l124 ug_l169, ug_s ug_l124 ug_l816, none, ug_s ug_l124 ug_l817, ug_s ug_l124 ug_l816, none, ug_s ug_l124 ug_l817, ug_s ug_l124 ug_l816, ug_s ug_l124 [], ug_s2 ug_l124 ug_l6 [117], none, none, ug_s ug_l124 ug_l168, ug_s ug_l124 ug_l169, ug_s ug_l124 ug_l816, none, ug_s ug_l124 ug_l817, ug_s ug_l124 ug_l816, ug_s ug_l124 [], ug_s2 ug_l124 ug_l6 [117], none, none, ug_s ug_l124 ug_l168, ug_s ug_l124 ug_l169, ug_s ug_l124 ug_l2],
  [ug_s2 ug_l124 ug_l11 [117], none, none, ug_s ug_l124 ug_l818, ug_s ug_l124 ug_l819, ug_s ug_l124 ug_l3, none, none, ug_s ug_l124 [], ug_s2 ug_l124 ug_l6 [117], none, none, ug_s ug_l124 ug_l168, ug_s ug_l124 ug_l169, ug_s ug_l124 ug_l2, ug_s2 ug_l124 ug_l11 [117], none, none, ug_s ug_l124 ug_l818, ug_s ug_l124 ug_l819, ug_s ug_l124 ug_l3, none, none, ug_s ug_l124 [], ug_s ug_l124 ug_l2, ug_s2 ug_l124 ug_l11 [116], none, none, ug_s ug_l124 ug_l177, ug_s2 ug_l124 ug_l820 [117], none, none],
  [ug_s ug_l124 ug_l821, ug_s ug_l124 ug_l822, ug_s ug_l124 ug_l178, ug_s ug_l124 ug_l3, ug_s ug_l124 ug_l48, ug_s ug_l124 ug_l3, ug_s ug_l124 ug_l2, ug_s2 ug_l124 ug_l11 [116], none, none, ug_s ug_l124 ug_l177, ug_s2 ug_l124 ug_l820 [117], none, none, ug_s ug_l124 ug_l821, ug_s ug_l124 ug_l822, ug_s ug_l124 ug_l178, ug_s ug_l124 ug_l3, ug_s ug_l124 ug_l48, ug_s ug_l124 ug_l3, ug_s ug_l124 ug_l2, ug_s2 ug_l124 ug_l11 [116], none, none, ug_s ug_l124 ug_l177, ug_s2 ug_l124 ug_l820 [117], none, none, ug_s ug_l124 ug_l821, ug_s ug_l124 ug_l822, ug_s ug_l124 ug_l178, ug_s ug_l124 ug_l3],
  [ug_s ug_l124 ug_l48, ug_s ug_l124 ug_l3, ug_s ug_l124 ug_l2, none, none, ug_s ug_l124 [], ug_s ug_l124 ug_l2, ug_s ug_l124 [], none, none, ug_s ug_l124 [], none, none, ug_s ug_l124 [], ug_s ug_l124 ug_l2]])
def ug_l823 : List ug_T := [ug_z, ug_z, ug_z, ug_z, some (.inl [80])]
def ug_x200 : ug_X := (181, [some (.inl [80]), ug_z, ug_z, ug_z], some (ug_z), 497323236409786642155382248146820840100456150797347717683852892136979542099900390965248, [[ug_s ug_l145 [], ug_s1 ug_l145 ug_l2 126, none, none, ug_s ug_l145 ug_l2, none, ug_s ug_l145 [], ug_s ug_l145 ug_l6, ug_s ug_l145 ug_l7, none, ug_s ug_l145 ug_l13, ug_s1 ug_l145 ug_l57 207, none, none, ug_s ug_l145 ug_l2, none, ug_s ug_l145 [], ug_s ug_l145 ug_l6, ug_s ug_l145 ug_l7, ug_s1 ug_l145 ug_l13 205, none, none, ug_s ug_l145 ug_l2, none, ug_s ug_l145 [], ug_s ug_l145 ug_l2, none, ug_s ug_l145 [], none, ug_s ug_l145 ug_l2, none, ug_s ug_l145 ug_l3],
  [none, none, ug_s ug_l145 [], ug_s ug_l145 ug_l2, none, ug_s ug_l145 ug_l3, ug_s ug_l145 ug_l2, ug_s ug_l145 ug_l3, ug_s ug_l145 ug_l2, ug_s ug_l145 ug_l3, none, none, ug_s ug_l145 [], ug_s ug_l145 ug_l6, ug_s ug_l145 ug_l7, none, ug_s ug_l145 ug_l13, none, ug_s ug_l145 ug_l57, ug_s1 ug_l145 ug_l823 258, none, none, ug_s ug_l145 ug_l2, none, none, ug_s ug_l145 [], none, ug_s ug_l145 ug_l2, ug_s ug_l145 ug_l3, none, ug_s ug_l145 ug_l48, none],
  [ug_s ug_l145 ug_l334, ug_s ug_l145 ug_l48, none, ug_s ug_l145 ug_l334, ug_s ug_l145 ug_l48, ug_s ug_l145 ug_l3, ug_s ug_l145 ug_l2, none, ug_s ug_l145 [], none, none, ug_s ug_l145 [], none, none, ug_s ug_l145 [], none, ug_s ug_l145 ug_l2]])
def ug_l824 : List ug_T := [some (.inl [112])]
def ug_l825 : List ug_T := [ug_z, some (.inl [112])]
def ug_l826 : List ug_T := [some (.inl [80]), ug_z, some (.inl [112])]
def ug_l827 : List ug_T := [some (.inl [112]), ug_z, some (.inl [112])]
def ug_l828 : List ug_T := [ug_z, ug_z, some (.inl [112])]
def ug_l829 : List ug_T := [some (.inl [108]), ug_z, some (.inl [112])]
def ug_l830 : List ug_T := [ug_z, some (.inl [108]), ug_z, some (.inl [112])]
def ug_l831 : List ug_T := [ug_z, some (.inl [112]), ug_z, some (.inl [112])]
def ug_l832 : List ug_T := [ug_z, ug_z, some (.inl [112]), ug_z, some (.inl [112])]
def ug_x201 : ug_X := (190, [some (.inl [80])], none, 63657374260452690195888927762793067532858387302060507837896204454517669972917924418027520, [[ug_s ug_l11 [], ug_s ug_l11 ug_l6, none, none, ug_s ug_l11 ug_l2, none, ug_s ug_l11 ug_l3, none, none, ug_s ug_l11 [], ug_s ug_l11 ug_l2, ug_s ug_l11 [], ug_s ug_l11 ug_l2, none, none, ug_s ug_l11 ug_l3, none, none, ug_s ug_l11 [], ug_s2 ug_l11 ug_l6 [112], none, none, ug_s ug_l11 ug_l824, ug_s ug_l11 ug_l825, ug_s2 ug_l11 ug_l826 [112], none, none, ug_s ug_l11 ug_l827, ug_s ug_l11 ug_l831, none, ug_s ug_l11 ug_l832, ug_s ug_l11 ug_l831],
  [ug_s ug_l11 ug_l828, ug_s ug_l11 [], none, none, ug_s ug_l11 [], none, none, ug_s ug_l11 [], ug_s ug_l11 ug_l6, ug_s ug_l11 ug_l12, none, none, ug_s ug_l11 ug_l7, ug_s ug_l11 ug_l13, ug_s ug_l11 ug_l7, none, none, ug_s ug_l11 [], ug_s ug_l11 ug_l2, ug_s ug_l11 [], ug_s ug_l11 ug_l2, none, ug_s ug_l11 ug_l3, none, none, ug_s ug_l11 [], ug_s2 ug_l11 ug_l6 [112], none, none, ug_s ug_l11 ug_l824, none, ug_s ug_l11 ug_l825],
  [ug_s ug_l11 ug_l826, none, none, ug_s ug_l11 ug_l828, ug_s ug_l11 ug_l825, ug_s ug_l11 ug_l828, ug_s ug_l11 ug_l825, ug_s2 ug_l11 ug_l826 [108], none, none, ug_s ug_l11 ug_l829, ug_s ug_l11 ug_l830, ug_s ug_l11 ug_l828, ug_s ug_l11 [], none, none, ug_s ug_l11 [], none, none, ug_s ug_l11 [], ug_s ug_l11 ug_l6, ug_s ug_l11 ug_l12, none, none, ug_s ug_l11 ug_l7, ug_s ug_l11 ug_l13, ug_s ug_l11 ug_l7, none, none, ug_s ug_l11 [], ug_s1 ug_l11 ug_l6 95, none],
  [none, ug_s ug_l11 []]])
def ug_l833 : List ug_T := [some (.inl [110])]
def ug_l834 : List ug_T := [ug_z, some (.inl [110])]
def ug_l835 : List ug_T := [some (.inl [80]), ug_z, some (.inl [110])]
def ug_l836 : List ug_T := [ug_z, some (.inl [80]), ug_z, some (.inl [110])]
def ug_l837 : List ug_T := [ug_z, ug_z, some (.inl [110])]
def ug_l838 : List ug_T := [some (.inl [110]), ug_z, some (.inl [109])]
def ug_l839 : List ug_T := [ug_z, some (.inl [110]), ug_z, some (.inl [109])]
def ug_l840 : List ug_T := [some (.inl [111])]
def ug_l841 : List ug_T := [ug_z, some (.inl [111])]
def ug_l842 : List ug_T := [some (.inl [80]), ug_z, some (.inl [80]), ug_z, some (.inl [110])]
def ug_l843 : List ug_T := [some (.inl [109]), ug_z, some (.inl [80]), ug_z, some (.inl [110])]
def ug_l844 : List ug_T := [ug_z, some (.inl [109]), ug_z, some (.inl [80]), ug_z, some (.inl [110])]
def ug_l845 : List ug_T := [ug_z, ug_z, some (.inl [109]), ug_z, some (.inl [80]), ug_z, some (.inl [110])]
def ug_l846 : List ug_T := [ug_z, ug_z, some (.inl [80]), ug_z, some (.inl [110])]
def ug_l847 : List ug_T := [some (.inl [80]), ug_z, ug_z, some (.inl [80]), ug_z, some (.inl [110])]
def ug_l848 : List ug_T := [some (.inl [109]), ug_z, ug_z, some (.inl [80]), ug_z, some (.inl [110])]
def ug_l849 : List ug_T := [ug_z, some (.inl [109]), ug_z, ug_z, some (.inl [80]), ug_z, some (.inl [110])]
def ug_l850 : List ug_T := [ug_z, ug_z, ug_z, some (.inl [80]), ug_z, some (.inl [110])]
def ug_l851 : List ug_T := [some (.inl [80]), ug_z, some (.inl [111])]
def ug_l852 : List ug_T := [ug_z, ug_z, some (.inl [111])]
def ug_l853 : List ug_T := [some (.inl [109]), ug_z, some (.inl [111])]
def ug_l854 : List ug_T := [ug_z, some (.inl [109]), ug_z, some (.inl [111])]
def ug_l855 : List ug_T := [ug_z, ug_z, some (.inl [109]), ug_z, some (.inl [111])]
def ug_l856 : List ug_T := [some (.inl [110]), ug_z, ug_z, some (.inl [109])]
def ug_l857 : List ug_T := [ug_z, some (.inl [110]), ug_z, ug_z, some (.inl [109])]
def ug_l858 : List ug_T := [ug_z, some (.inl [80]), ug_z, some (.inl [111])]
def ug_l859 : List ug_T := [some (.inl [80]), ug_z, some (.inl [80]), ug_z, some (.inl [111])]
def ug_l860 : List ug_T := [some (.inl [109]), ug_z, some (.inl [80]), ug_z, some (.inl [111])]
def ug_l861 : List ug_T := [ug_z, some (.inl [109]), ug_z, some (.inl [80]), ug_z, some (.inl [111])]
def ug_l862 : List ug_T := [ug_z, ug_z, some (.inl [80]), ug_z, some (.inl [111])]
def ug_l863 : List ug_T := [some (.inl [94]), ug_z, some (.inl [109])]
def ug_l864 : List ug_T := [some (.inl [80]), some (.inl [94]), ug_z, some (.inl [109])]
def ug_l865 : List ug_T := [ug_z, some (.inl [94]), ug_z, some (.inl [109])]
def ug_l866 : List ug_T := [some (.inl [80]), ug_z, ug_z, some (.inl [111])]
def ug_l867 : List ug_T := [ug_z, some (.inl [80]), ug_z, ug_z, some (.inl [111])]
def ug_l868 : List ug_T := [ug_z, ug_z, ug_z, some (.inl [111])]
def ug_x202 : ug_X := (184, [some (.inl [80])], none, 497323236409786642155382248146820840100456150797347722227112643354953717064084679032832, [[ug_s ug_l11 [], ug_s ug_l11 ug_l2, ug_s ug_l11 [], ug_s ug_l11 ug_l2, ug_s2 ug_l11 ug_l11 [89], none, none, ug_s ug_l11 ug_l187, ug_s ug_l11 ug_l188, none, none, ug_s ug_l11 ug_l189, ug_s ug_l11 ug_l3, none, none, ug_s ug_l11 [], ug_s2 ug_l11 ug_l6 [110], none, none, ug_s ug_l11 ug_l833, ug_s ug_l11 ug_l834, ug_s ug_l11 ug_l835, ug_s1 ug_l11 ug_l836 118, none, none, ug_s ug_l11 ug_l837, none, none, ug_s ug_l11 ug_l834, ug_s ug_l11 ug_l837, none, none],
  [ug_s ug_l11 ug_l834, ug_s ug_l11 ug_l837, none, none, ug_s ug_l11 ug_l834, ug_s1 ug_l11 ug_l835 117, none, none, ug_s ug_l11 ug_l837, none, none, ug_s ug_l11 ug_l834, ug_s ug_l11 ug_l835, ug_s ug_l11 ug_l836, ug_s2 ug_l11 ug_l842 [109], none, none, ug_s ug_l11 ug_l843, none, ug_s ug_l11 ug_l844, ug_s ug_l11 ug_l845, ug_s ug_l11 ug_l844, ug_s ug_l11 ug_l846, ug_s2 ug_l11 ug_l847 [109], none, none, ug_s ug_l11 ug_l848, none, ug_s ug_l11 ug_l849, ug_s1 ug_l11 ug_l850 200, none, none],
  [ug_s ug_l11 ug_l837, ug_s ug_l11 [], ug_s2 ug_l11 ug_l6 [111], none, none, ug_s ug_l11 ug_l840, ug_s ug_l11 ug_l841, ug_s ug_l11 ug_l851, none, none, ug_s ug_l11 ug_l852, none, none, ug_s ug_l11 ug_l841, ug_s2 ug_l11 ug_l851 [109], none, none, ug_s ug_l11 ug_l853, none, ug_s ug_l11 ug_l854, ug_s ug_l11 ug_l855, ug_s ug_l11 ug_l854, ug_s ug_l11 ug_l852, none, none, ug_s ug_l11 ug_l841, ug_s ug_l11 ug_l851, none, ug_s ug_l11 ug_l858, ug_s2 ug_l11 ug_l859 [109], none, none],
  [ug_s ug_l11 ug_l860, none, ug_s ug_l11 ug_l861, ug_s ug_l11 ug_l862, ug_s ug_l11 ug_l858, ug_s ug_l11 ug_l862, ug_s1 ug_l11 ug_l858 225, none, none, ug_s ug_l11 ug_l852, ug_s ug_l11 ug_l866, ug_s1 ug_l11 ug_l867 206, none, none, ug_s ug_l11 ug_l868, none, none, ug_s ug_l11 ug_l841, ug_s ug_l11 ug_l852, none, none, ug_s ug_l11 ug_l841, ug_s ug_l11 ug_l852, ug_s ug_l11 [], none, none, ug_s ug_l11 [], none, none, ug_s ug_l11 [], ug_s ug_l11 ug_l2, ug_s ug_l11 []],
  [ug_s ug_l11 ug_l2, ug_s2 ug_l11 ug_l11 [89], none, none, ug_s ug_l11 ug_l187, ug_s ug_l11 ug_l188, none, none, ug_s ug_l11 ug_l189, ug_s ug_l11 ug_l3, none, none, ug_s ug_l11 [], ug_s2 ug_l11 ug_l6 [109], none, none, ug_s ug_l11 ug_l49, none, ug_s ug_l11 ug_l50, ug_s ug_l11 ug_l51, ug_s ug_l11 ug_l50, ug_s2 ug_l11 ug_l83 [110], none, none, ug_s ug_l11 ug_l838, ug_s ug_l11 ug_l839, ug_s ug_l11 ug_l51, ug_s ug_l11 [], ug_s2 ug_l11 ug_l6 [109], none, none, ug_s ug_l11 ug_l49],
  [none, ug_s ug_l11 ug_l50, ug_s ug_l11 ug_l51, ug_s ug_l11 ug_l50, ug_s ug_l11 ug_l85, ug_s ug_l11 ug_l51, ug_s2 ug_l11 ug_l87 [110], none, none, ug_s ug_l11 ug_l856, ug_s ug_l11 ug_l857, ug_s ug_l11 ug_l91, ug_s2 ug_l11 ug_l92 [109], none, none, ug_s ug_l11 ug_l93, ug_s ug_l11 ug_l94, ug_s ug_l11 ug_l95, ug_s ug_l11 ug_l91, ug_s ug_l11 ug_l51, ug_s ug_l11 [], ug_s2 ug_l11 ug_l6 [109], none, none, ug_s ug_l11 ug_l49, none, ug_s ug_l11 ug_l50, ug_s ug_l11 ug_l51, ug_s ug_l11 ug_l50, ug_s ug_l11 ug_l2, none, none],
  [ug_s ug_l11 [], ug_s2 ug_l11 ug_l6 [109], none, none, ug_s ug_l11 ug_l49, none, ug_s ug_l11 ug_l50, ug_s ug_l11 ug_l51, ug_s ug_l11 ug_l50, ug_s ug_l11 ug_l85, ug_s ug_l11 ug_l51, ug_s ug_l11 ug_l91, ug_s ug_l11 ug_l51, ug_s ug_l11 [], ug_s2 ug_l11 ug_l6 [111], none, none, ug_s ug_l11 ug_l840, ug_s ug_l11 ug_l841, ug_s ug_l11 ug_l2, none, none, ug_s ug_l11 [], none, none, ug_s ug_l11 [], ug_s2 ug_l11 ug_l6 [109], none, none, ug_s ug_l11 ug_l49, none, ug_s ug_l11 ug_l50],
  [ug_s ug_l11 ug_l51, ug_s ug_l11 ug_l50, ug_s2 ug_l11 ug_l83 [94], none, none, ug_s ug_l11 ug_l863, ug_s ug_l11 ug_l864, none, none, ug_s ug_l11 ug_l865, ug_s ug_l11 ug_l51, ug_s ug_l11 [], ug_s2 ug_l11 ug_l6 [109], none, none, ug_s ug_l11 ug_l49, none, ug_s ug_l11 ug_l50, ug_s ug_l11 ug_l85, ug_s ug_l11 ug_l51, ug_s ug_l11 ug_l91, ug_s ug_l11 ug_l51, ug_s ug_l11 [], none, none, ug_s ug_l11 [], none, none, ug_s ug_l11 [], ug_s2 ug_l11 ug_l6 [109], none, none],
  [ug_s ug_l11 ug_l49, none, ug_s ug_l11 ug_l50, ug_s ug_l11 ug_l85, ug_s ug_l11 ug_l51, ug_s ug_l11 ug_l91, ug_s ug_l11 ug_l51, ug_s ug_l11 [], ug_s2 ug_l11 ug_l6 [109], none, none, ug_s ug_l11 ug_l49, none, ug_s ug_l11 ug_l50, ug_s ug_l11 ug_l51, ug_s ug_l11 []]])
def ug_x203 : ug_X := (200, [some (.inl [80]), ug_z], some (ug_z), 0, [[ug_s ug_l47 [], ug_s ug_l47 ug_l2, ug_s ug_l47 [], ug_s ug_l47 ug_l2, ug_s ug_l47 ug_l3, none, none, ug_s ug_l47 [], ug_s ug_l47 ug_l6, ug_s1 ug_l47 ug_l7 118, none, none, ug_s ug_l47 ug_l2, none, none, ug_s ug_l47 [], ug_s ug_l47 ug_l2, ug_s ug_l47 [], none, none, ug_s ug_l47 [], none, none, ug_s ug_l47 [], none, ug_s ug_l47 ug_l2]])
def ug_x204 : ug_X := (194, [some (.inl [80]), ug_z, ug_z], none, 649037107316853453566312041152512, [[ug_s ug_l162 [], ug_s ug_l162 ug_l2, ug_s ug_l162 [], ug_s ug_l162 ug_l2, none, ug_s ug_l162 ug_l3, none, none, ug_s ug_l162 [], ug_s ug_l162 ug_l2, none, ug_s ug_l162 ug_l3, none, none, ug_s ug_l162 [], none, none, ug_s ug_l162 [], ug_s2 ug_l162 ug_l6 [109], none, none, ug_s ug_l162 ug_l49, ug_s ug_l162 ug_l50, ug_s ug_l162 ug_l51, ug_s ug_l162 ug_l50, ug_s ug_l162 ug_l2, none, ug_s ug_l162 [], ug_s2 ug_l162 ug_l6 [109], none, none, ug_s ug_l162 ug_l49],
  [ug_s ug_l162 ug_l50, ug_s ug_l162 ug_l51, ug_s ug_l162 ug_l50, ug_s2 ug_l162 ug_l83 [109], none, none, ug_s ug_l162 ug_l84, ug_s ug_l162 ug_l85, ug_s ug_l162 ug_l86, ug_s ug_l162 ug_l85, ug_s ug_l162 ug_l51, ug_s ug_l162 [], ug_s2 ug_l162 ug_l6 [109], none, none, ug_s ug_l162 ug_l49, ug_s ug_l162 ug_l50, ug_s ug_l162 ug_l51, ug_s ug_l162 ug_l50, none, ug_s ug_l162 ug_l51, ug_s ug_l162 [], none, none, ug_s ug_l162 [], none, none, ug_s ug_l162 []]])
def ug_x205 : ug_X := (179, [some (.inl [80]), ug_z, ug_z], some (ug_z), 497323236409786642155382248146820840100456150797347717683852892136979542099900390965248, [[ug_s ug_l47 [], ug_s ug_l47 ug_l6, ug_s ug_l47 ug_l7, ug_s ug_l47 ug_l13, ug_s ug_l47 ug_l57, ug_s1 ug_l47 ug_l823 226, none, none, ug_s ug_l47 [], ug_s ug_l47 ug_l6, ug_s ug_l47 ug_l7, ug_s1 ug_l47 ug_l13 227, none, none, ug_s ug_l47 ug_l2, ug_s ug_l47 ug_l3, none, none, ug_s1 ug_l47 ug_l48 250, none, none, ug_s ug_l47 ug_l2]])
def ug_l869 : List ug_T := [some (.inl [80]), ug_z, ug_z, ug_z, some (.inl [80])]
def ug_l870 : List ug_T := [some (.inl [109]), ug_z, ug_z, ug_z, some (.inl [80])]
def ug_l871 : List ug_T := [ug_z, some (.inl [109]), ug_z, ug_z, ug_z, some (.inl [80])]
def ug_x206 : ug_X := (180, [some (.inl [80]), ug_z], some (ug_z), 497323236409786642155382248146820840100456150797347717683852892136979542099900390965248, [[ug_s ug_l11 [], ug_s ug_l11 ug_l6, ug_s ug_l11 ug_l7, ug_s ug_l11 ug_l13, ug_s ug_l11 ug_l57, ug_s2 ug_l11 ug_l869 [109], none, none, ug_s ug_l11 ug_l870, none, ug_s ug_l11 ug_l871, ug_s1 ug_l11 ug_l823 226, none, none, ug_s ug_l11 [], ug_s ug_l11 ug_l6, ug_s ug_l11 ug_l7, ug_s1 ug_l11 ug_l13 227, none, none, ug_s ug_l11 ug_l2, ug_s ug_l11 ug_l3, none, ug_s1 ug_l11 ug_l48 250, none, none, ug_s ug_l11 ug_l2]])
def ug_x207 : ug_X := (178, [some (.inl [80]), ug_z, ug_z, ug_z], some (ug_z), 497323236409786642155382248146820840100456150797347717683852892136979542099900390965248, [[ug_s ug_l124 [], ug_s ug_l124 ug_l6, ug_s ug_l124 ug_l7, ug_s ug_l124 ug_l13, ug_s ug_l124 ug_l57, ug_s1 ug_l124 ug_l823 226, none, none, ug_s ug_l124 [], ug_s ug_l124 ug_l6, ug_s ug_l124 ug_l7, ug_s1 ug_l124 ug_l13 227, none, none, ug_s ug_l124 ug_l2, ug_s ug_l124 ug_l3, none, ug_s1 ug_l124 ug_l48 250, none, none, ug_s ug_l124 ug_l2]])
def ug_x208 : ug_X := (41, [some (.inl [20])], some (ug_z), 1245152626953534697416156959559626211690225536774176768, [[ug_s ug_l14 [], ug_s ug_l14 ug_l14, none, none, ug_s ug_l14 ug_l2, none, none, ug_s ug_l14 ug_l3, none, none, ug_s ug_l14 [], ug_s ug_l14 ug_l14, ug_s ug_l14 ug_l279, none, none, ug_s ug_l14 [], ug_s ug_l14 ug_l14, ug_s2 ug_l14 ug_l280 [21], none, none, ug_s2 ug_l14 ug_l651 [24], none, none, ug_s ug_l14 ug_l652, none, none, ug_s ug_l14 ug_l654, ug_s ug_l14 ug_l279, none, none, ug_s ug_l14 [], ug_s ug_l14 ug_l2],
  [ug_s ug_l14 [], ug_s ug_l14 ug_l14, ug_s ug_l14 ug_l280, none, none, ug_s ug_l14 ug_l279, ug_s ug_l14 ug_l281, ug_s ug_l14 ug_l279, none, none, ug_s ug_l14 [], ug_s ug_l14 ug_l2]])
def ug_l872 : List ug_T := [some (.inl [23])]
def ug_l873 : List ug_T := [some (.inl [21]), some (.inl [23])]
def ug_l874 : List ug_T := [ug_z, some (.inl [23])]
def ug_l875 : List ug_T := [ug_j, ug_z, some (.inl [23])]
def ug_l876 : List ug_T := [some (.inl [1]), ug_z]
def ug_l877 : List ug_T := [ug_z, ug_z, ug_z, some (.inl [22])]
def ug_l878 : List ug_T := [ug_z, some (.inl [1]), ug_z]
def ug_x209 : ug_X := (60, [some (.inl [21]), some (.inl [1]), ug_z, ug_z], some (ug_z), 12582912, [[ug_s ug_l365 [], ug_s2 ug_l365 ug_l276 [23], none, none, ug_s ug_l365 ug_l872, ug_s ug_l365 ug_l873, none, none, ug_s ug_l365 ug_l874, ug_s ug_l365 ug_l875, ug_s ug_l365 [], ug_s ug_l365 ug_l2, ug_s ug_l365 ug_l3, none, none, ug_s ug_l365 [], ug_s2 ug_l365 ug_l276 [22], none, none, ug_s ug_l365 ug_l374, ug_s ug_l365 ug_l375, none, none, ug_s ug_l365 ug_l376, none, ug_s ug_l365 ug_l377, ug_s ug_l365 [], ug_s ug_l365 ug_l2, ug_s ug_l365 [], ug_s ug_l365 ug_l265, ug_s ug_l365 ug_l267, ug_s ug_l365 ug_l2],
  [none, ug_s ug_l365 ug_l3, none, none, ug_s ug_l365 [], ug_s ug_l365 ug_l265, ug_s ug_l365 ug_l267, ug_s ug_l365 ug_l2, none, ug_s ug_l365 ug_l3, none, none, ug_s ug_l365 [], ug_s ug_l365 ug_l276, ug_s ug_l365 ug_l277, ug_s ug_l365 ug_l278, ug_s1 ug_l365 ug_l371 231, none, none, ug_s ug_l365 ug_l2, ug_s ug_l365 [], ug_s ug_l365 ug_l265, ug_s ug_l365 ug_l267, ug_s ug_l365 ug_l2, none, ug_s ug_l365 ug_l3, none, none, ug_s ug_l365 [], ug_s ug_l365 ug_l265, ug_s ug_l365 ug_l267, ug_s ug_l365 ug_l2],
  [none, ug_s ug_l365 ug_l3, none, none, ug_s ug_l365 [], ug_s ug_l365 ug_l276, ug_s ug_l365 ug_l277, ug_s ug_l365 ug_l278, ug_s1 ug_l365 ug_l371 232, none, none, ug_s ug_l365 ug_l2, ug_s ug_l365 [], ug_s ug_l365 ug_l265, ug_s ug_l365 ug_l267, ug_s ug_l365 ug_l2, none, none, ug_s ug_l365 [], ug_s ug_l365 ug_l2, none, none, ug_s ug_l365 [], none, ug_s ug_l365 ug_l2, ug_s ug_l365 ug_l876, ug_s ug_l365 ug_l878, ug_s ug_l365 ug_l3, ug_s ug_l365 ug_l3, none, none, ug_s ug_l365 ug_l2],
  [none, ug_s ug_l365 [], ug_s2 ug_l365 ug_l276 [22], none, none, ug_s ug_l365 ug_l374, ug_s ug_l365 ug_l375, none, none, ug_s ug_l365 ug_l376, none, ug_s ug_l365 ug_l377, ug_s ug_l365 ug_l877, none, none, ug_s ug_l365 ug_l376, none, ug_s ug_l365 ug_l377, none, none, ug_s ug_l365 ug_l376, none, ug_s ug_l365 ug_l377, none, ug_s ug_l365 ug_l877, ug_s ug_l365 ug_l377, ug_s ug_l365 [], ug_s ug_l365 ug_l2, ug_s ug_l365 ug_l3, ug_s ug_l365 ug_l2]])
def ug_x210 : ug_X := (148, [some (.inl [80]), ug_z], none, 752648580042555270253211402556471401046254900326663666256474296051435342659584, [[ug_s ug_l11 [], ug_s ug_l11 ug_l6, ug_s1 ug_l11 ug_l7 93, none, none, ug_s ug_l11 ug_l2, none, none, ug_s ug_l11 [], ug_s1 ug_l11 ug_l6 175, none, none, ug_s ug_l11 [], none, none, ug_s ug_l11 [], ug_s ug_l11 ug_l6, ug_s1 ug_l11 ug_l7 174, none, none, ug_s ug_l11 []]])
def ug_x211 : ug_X := (146, [some (.inl [80]), ug_z, ug_z], none, 2779010141695588690165703640208509788478479631975373536946982016189915111358464, [[ug_s ug_l124 [], ug_s2 ug_l124 ug_l6 [84], none, none, ug_s ug_l124 ug_l666, ug_s ug_l124 ug_l668, ug_s ug_l124 ug_l2, ug_s ug_l124 [], ug_s ug_l124 ug_l6, none, none, ug_s ug_l124 ug_l2, none, none, ug_s ug_l124 [], ug_s ug_l124 ug_l6, none, none, ug_s ug_l124 ug_l2, none, none, ug_s ug_l124 [], ug_s ug_l124 ug_l2, ug_s ug_l124 ug_l11, none, none, ug_s ug_l124 ug_l3, none, none, ug_s ug_l124 [], ug_s ug_l124 ug_l2, ug_s ug_l124 ug_l11],
  [none, none, ug_s ug_l124 ug_l3, none, none, ug_s ug_l124 [], ug_s ug_l124 ug_l2, ug_s ug_l124 ug_l11, none, none, ug_s ug_l124 ug_l3, none, none, ug_s ug_l124 [], ug_s ug_l124 [], ug_s ug_l124 ug_l6, ug_s ug_l124 ug_l7, none, none, ug_s ug_l124 [], ug_s ug_l124 ug_l6, ug_s ug_l124 ug_l7, none, none, ug_s ug_l124 []]])
def ug_l879 : List ug_T := [some (.inl [101])]
def ug_l880 : List ug_T := [some (.inl [80]), some (.inl [101])]
def ug_l881 : List ug_T := [ug_z, some (.inl [101])]
def ug_l882 : List ug_T := [some (.inl [80]), ug_z, some (.inl [101])]
def ug_l883 : List ug_T := [ug_z, ug_z, some (.inl [101])]
def ug_l884 : List ug_T := [some (.inl [102])]
def ug_l885 : List ug_T := [some (.inl [80]), some (.inl [102])]
def ug_l886 : List ug_T := [ug_z, some (.inl [102])]
def ug_l887 : List ug_T := [some (.inl [80]), ug_z, some (.inl [102])]
def ug_l888 : List ug_T := [ug_z, ug_z, some (.inl [102])]
def ug_x212 : ug_X := (158, [some (.inl [80])], none, 66111451606997511724599403693370265356833716641018008153499308579009189408033822736384, [[ug_s ug_l6 [], ug_s2 ug_l6 ug_l6 [101], none, none, ug_s ug_l6 ug_l879, ug_s ug_l6 ug_l880, none, none, ug_s ug_l6 ug_l881, ug_s ug_l6 ug_l882, none, none, ug_s ug_l6 ug_l883, ug_s ug_l6 [], ug_s ug_l6 ug_l6, none, none, ug_s ug_l6 ug_l2, none, none, ug_s ug_l6 [], ug_s1 ug_l6 ug_l6 213, none, none, ug_s ug_l6 [], ug_s2 ug_l6 ug_l6 [102], none, none, ug_s ug_l6 ug_l884, ug_s ug_l6 ug_l885, none, none],
  [ug_s ug_l6 ug_l886, ug_s ug_l6 ug_l887, none, none, ug_s ug_l6 ug_l888, ug_s ug_l6 [], ug_s ug_l6 ug_l6, ug_s ug_l6 ug_l12, none, none, ug_s ug_l6 ug_l7, ug_s ug_l6 ug_l13, ug_s ug_l6 ug_l7, none, none, ug_s ug_l6 []]])
def ug_l889 : List ug_T := [ug_z, some (.inl [80]), some (.inl [80])]
def ug_l890 : List ug_T := [some (.inl [105])]
def ug_l891 : List ug_T := [some (.inl [80]), some (.inl [105])]
def ug_l892 : List ug_T := [ug_z, some (.inl [105])]
def ug_l893 : List ug_T := [some (.inl [80]), ug_z, some (.inl [105])]
def ug_l894 : List ug_T := [some (.inl [83]), ug_z, some (.inl [105])]
def ug_l895 : List ug_T := [ug_z, ug_z, some (.inl [105])]
def ug_l896 : List ug_T := [some (.inl [80]), some (.inl [83]), ug_z, some (.inl [105])]
def ug_l897 : List ug_T := [ug_z, some (.inl [83]), ug_z, some (.inl [105])]
def ug_x213 : ug_X := (161, [some (.inl [80])], none, 66050743204115457691133170508782030391001141427297628785854285839835472240140940738560, [[ug_s ug_l47 [], ug_s ug_l47 ug_l6, ug_s ug_l47 ug_l7, none, none, ug_s ug_l47 [], ug_s ug_l47 ug_l6, none, none, ug_s ug_l47 ug_l2, ug_s ug_l47 [], ug_s ug_l47 ug_l2, ug_s ug_l47 [], ug_s ug_l47 ug_l2, none, none, ug_s ug_l47 [], ug_s ug_l47 ug_l6, none, none, ug_s ug_l47 ug_l2, none, none, ug_s ug_l47 [], ug_s ug_l47 ug_l6, none, ug_s1 ug_l47 ug_l7 93, none, none, ug_s ug_l47 ug_l2, none, none],
  [ug_s ug_l47 [], ug_s ug_l47 ug_l6, none, none, ug_s ug_l47 ug_l2, none, ug_s ug_l47 ug_l3, none, none, ug_s ug_l47 [], ug_s ug_l47 ug_l6, ug_s1 ug_l47 ug_l7 174, none, none, ug_s ug_l47 [], ug_s ug_l47 ug_l6, ug_s ug_l47 ug_l12, none, none, ug_s ug_l47 ug_l7, ug_s ug_l47 ug_l13, ug_s ug_l47 ug_l7, none, none, ug_s ug_l47 [], ug_s1 ug_l47 ug_l6 175, none, none, ug_s ug_l47 [], ug_s2 ug_l47 ug_l6 [105], none, none],
  [ug_s ug_l47 ug_l890, ug_s ug_l47 ug_l891, none, none, ug_s ug_l47 ug_l892, none, ug_s ug_l47 ug_l895, ug_s ug_l47 [], ug_s ug_l47 ug_l6, ug_s ug_l47 ug_l12, none, none, ug_s ug_l47 ug_l7, ug_s ug_l47 ug_l13, ug_s ug_l47 ug_l7, none, none, ug_s ug_l47 [], none, none, ug_s ug_l47 [], ug_s1 ug_l47 ug_l6 235, none, none, ug_s ug_l47 [], ug_s ug_l47 ug_l6, none, none, ug_s ug_l47 ug_l2, none, none, ug_s ug_l47 []],
  [ug_s ug_l47 [], ug_s ug_l47 ug_l6, none, ug_s1 ug_l47 ug_l7 93, none, none, ug_s ug_l47 ug_l2, none, none, ug_s ug_l47 [], ug_s ug_l47 ug_l6, none, none, ug_s ug_l47 ug_l2, ug_s ug_l47 ug_l3, none, none, ug_s ug_l47 [], ug_s ug_l47 ug_l6, ug_s1 ug_l47 ug_l7 236, none, none, ug_s ug_l47 [], ug_s ug_l47 ug_l6, ug_s ug_l47 ug_l12, none, none, ug_s ug_l47 ug_l7, ug_s ug_l47 ug_l13, ug_s ug_l47 ug_l7, none, none],
  [ug_s ug_l47 [], ug_s ug_l47 ug_l6, ug_s ug_l47 ug_l12, none, none, ug_s ug_l47 ug_l7, ug_s ug_l47 ug_l13, ug_s ug_l47 ug_l7, none, none, ug_s ug_l47 [], ug_s1 ug_l47 ug_l6 175, none, none, ug_s ug_l47 [], none, none, ug_s ug_l47 [], ug_s ug_l47 ug_l6, none, ug_s1 ug_l47 ug_l7 93, none, none, ug_s ug_l47 ug_l2, none, none, ug_s ug_l47 [], ug_s ug_l47 ug_l6, none, ug_s1 ug_l47 ug_l7 93, none, none],
  [ug_s ug_l47 ug_l2, none, none, ug_s ug_l47 [], ug_s ug_l47 ug_l6, none, ug_s1 ug_l47 ug_l7 93, none, none, ug_s ug_l47 ug_l2, none, none, ug_s ug_l47 [], ug_s ug_l47 ug_l6, none, ug_s1 ug_l47 ug_l7 93, none, none, ug_s ug_l47 ug_l2, none, none, ug_s ug_l47 [], ug_s ug_l47 ug_l2, none, none, ug_s ug_l47 [], ug_s ug_l47 ug_l2, ug_s ug_l47 [], ug_s ug_l47 ug_l2, none, none, ug_s ug_l47 []],
  [ug_s ug_l47 ug_l6, none, none, ug_s ug_l47 ug_l2, ug_s ug_l47 ug_l3, none, none, ug_s ug_l47 [], ug_s ug_l47 ug_l6, ug_s1 ug_l47 ug_l7 174, none, none, ug_s ug_l47 [], ug_s ug_l47 ug_l6, ug_s1 ug_l47 ug_l7 236, none, none, ug_s ug_l47 [], ug_s ug_l47 [], ug_s ug_l47 ug_l6, ug_s ug_l47 ug_l12, none, ug_s1 ug_l47 ug_l889 93, none, none, ug_s ug_l47 ug_l7, none, none, ug_s ug_l47 ug_l6, ug_s ug_l47 ug_l12, none, ug_s1 ug_l47 ug_l889 93],
  [none, none, ug_s ug_l47 ug_l7, none, none, ug_s ug_l47 ug_l6, ug_s ug_l47 ug_l7, none, none, ug_s ug_l47 ug_l6, ug_s1 ug_l47 ug_l7 236, none, none, ug_s ug_l47 [], ug_s2 ug_l47 ug_l6 [105], none, none, ug_s ug_l47 ug_l890, ug_s ug_l47 ug_l891, none, none, ug_s ug_l47 ug_l892, ug_s2 ug_l47 ug_l893 [83], none, none, ug_s ug_l47 ug_l894, ug_s ug_l47 ug_l896, none, none, ug_s ug_l47 ug_l897, ug_s ug_l47 ug_l895, ug_s ug_l47 []],
  [ug_s ug_l47 ug_l6, ug_s ug_l47 ug_l12, none, none, ug_s ug_l47 ug_l7, ug_s ug_l47 ug_l13, ug_s ug_l47 ug_l7, none, none, ug_s ug_l47 [], ug_s1 ug_l47 ug_l6 175, none, none, ug_s ug_l47 [], none, none, ug_s ug_l47 []]])
def ug_l898 : List ug_T := [some (.inl [55]), ug_z, some (.inl [2, 11]), some (.inl [26]), some (.inl [50]), ug_z, ug_z]
def ug_l899 : List ug_T := [some (.inl [55]), ug_z, some (.inl [2, 11]), some (.inl [26]), some (.inl [50]), some (.inl [57, 58, 59, 60, 61, 62, 63, 64, 65, 66]), ug_z]
def ug_l900 : List ug_T := [some (.inl [50]), ug_z, some (.inl [57, 58, 59, 60, 61, 62, 63, 64, 65, 66])]
def ug_l901 : List ug_T := [some (.inl [55]), some (.inl [50]), ug_z, some (.inl [57, 58, 59, 60, 61, 62, 63, 64, 65, 66])]
def ug_l902 : List ug_T := [some (.inl [56]), some (.inl [50]), ug_z, some (.inl [57, 58, 59, 60, 61, 62, 63, 64, 65, 66])]
def ug_l903 : List ug_T := [ug_z, some (.inl [56]), some (.inl [50]), ug_z, some (.inl [57, 58, 59, 60, 61, 62, 63, 64, 65, 66])]
def ug_l904 : List ug_T := [ug_z, ug_z, some (.inl [56]), some (.inl [50]), ug_z, some (.inl [57, 58, 59, 60, 61, 62, 63, 64, 65, 66])]
def ug_l905 : List ug_T := [some (.inl [57, 58, 59, 60, 61, 62, 63, 64, 65, 66]), some (.inl [50]), ug_z, some (.inl [57, 58, 59, 60, 61, 62, 63, 64, 65, 66])]
def ug_l906 : List ug_T := [ug_z, some (.inl [57, 58, 59, 60, 61, 62, 63, 64, 65, 66]), some (.inl [50]), ug_z, some (.inl [57, 58, 59, 60, 61, 62, 63, 64, 65, 66])]
def ug_l907 : List ug_T := [ug_z, some (.inl [50]), ug_z, some (.inl [57, 58, 59, 60, 61, 62, 63, 64, 65, 66])]
def ug_x214 : ug_X := (68, [some (.inl [55]), ug_z, some (.inl [2, 11]), some (.inl [26]), some (.inl [50])], none, 323519360005807677536004181044235568083645733070634333387642129351680, [[ug_s ug_l898 [], ug_s2 ug_l898 ug_l104 [56], none, none, ug_s ug_l898 ug_l724, ug_s2 ug_l898 ug_l725 [57, 58, 59, 60, 61, 62, 63, 64, 65, 66], ug_s ug_l898 ug_l114, none, ug_s ug_l899 [], ug_s ug_l899 ug_l33, ug_s1 ug_l899 ug_l38 146, none, none, ug_s ug_l899 ug_l2, none, ug_s ug_l899 ug_l3, none, none, ug_s ug_l899 [], none, ug_s ug_l899 ug_l114, ug_s1 ug_l899 ug_l115 237, none, none, ug_s ug_l899 [], ug_s ug_l899 [], ug_s ug_l899 ug_l2, none, none, ug_s ug_l899 [], none, ug_s ug_l899 ug_l59],
  [ug_s ug_l899 ug_l61, ug_s ug_l899 ug_l63, ug_s ug_l899 ug_l64, ug_s ug_l899 ug_l66, none, none, ug_s ug_l899 ug_l67, ug_s ug_l899 ug_l514, ug_s1 ug_l899 ug_l67 133, none, none, ug_s ug_l899 [], ug_s ug_l899 ug_l2, none, ug_s ug_l899 [], none, ug_s ug_l899 ug_l2, none, none, ug_s ug_l899 ug_l3, none, none, ug_s ug_l899 [], none, ug_s ug_l899 ug_l114, none, ug_s ug_l899 ug_l115, ug_s ug_l899 ug_l155, none, none, ug_s ug_l899 ug_l115, none],
  [ug_s ug_l899 ug_l155, none, none, ug_s ug_l899 ug_l115, none, ug_s ug_l899 ug_l900, ug_s2 ug_l899 ug_l901 [56], none, none, ug_s ug_l899 ug_l902, ug_s ug_l899 ug_l903, ug_s ug_l899 ug_l904, ug_s2 ug_l899 ug_l903 [57, 58, 59, 60, 61, 62, 63, 64, 65, 66], ug_s ug_l899 ug_l905, none, ug_s ug_l899 ug_l906, ug_s1 ug_l899 ug_l907 134, none, none, ug_s ug_l899 ug_l155, ug_s ug_l899 [], none, none, ug_s ug_l899 [], none, none, ug_s ug_l899 []]])
def ug_x215 : ug_X := (244, [ug_z, ug_z], some (ug_z), 0, [[ug_s ug_l3 [], ug_s ug_l3 ug_l2, ug_s ug_l3 ug_l3, none, none, ug_s ug_l3 [], ug_s ug_l3 ug_l2, none, none, ug_s ug_l3 [], ug_s ug_l3 ug_l2]])
def ug_l908 : List ug_T := [some (.inl [9, 18])]
def ug_l909 : List ug_T := [ug_z, some (.inl [9, 18])]
def ug_x216 : ug_X := (11, [some (.inl [6, 15]), ug_z, ug_z], some (ug_z), 0, [[ug_s ug_l420 [], ug_s2 ug_l420 ug_l363 [9, 18], none, none, ug_s ug_l420 ug_l908, ug_s ug_l420 ug_l909, ug_s ug_l420 ug_l2, ug_s ug_l420 ug_l3, ug_s ug_l420 ug_l2, ug_s ug_l420 ug_l3, ug_s ug_l420 ug_l2, none, none, ug_s ug_l420 [], ug_s ug_l420 ug_l2, none, none, ug_s ug_l420 [], ug_s ug_l420 ug_l2]])
def ug_l910 : List ug_T := [ug_z, some (.inl [42])]
def ug_l911 : List ug_T := [some (.inl [42]), ug_z, some (.inl [27])]
def ug_l912 : List ug_T := [some (.inl [43]), ug_z, some (.inl [27])]
def ug_l913 : List ug_T := [ug_z, some (.inl [43]), ug_z, some (.inl [27])]
def ug_l914 : List ug_T := [ug_z, ug_z, some (.inl [43]), ug_z, some (.inl [27])]
def ug_l915 : List ug_T := [some (.inl [42]), ug_z, some (.inl [28])]
def ug_l916 : List ug_T := [some (.inl [44]), ug_z, some (.inl [28])]
def ug_l917 : List ug_T := [ug_z, some (.inl [44]), ug_z, some (.inl [28])]
def ug_l918 : List ug_T := [ug_z, ug_z, some (.inl [44]), ug_z, some (.inl [28])]
def ug_l919 : List ug_T := [some (.inl [42]), ug_z, some (.inl [29])]
def ug_l920 : List ug_T := [some (.inl [45]), ug_z, some (.inl [29])]
def ug_l921 : List ug_T := [ug_z, some (.inl [45]), ug_z, some (.inl [29])]
def ug_l922 : List ug_T := [ug_z, ug_z, some (.inl [45]), ug_z, some (.inl [29])]
def ug_l923 : List ug_T := [some (.inl [42]), ug_z, some (.inl [30])]
def ug_l924 : List ug_T := [some (.inl [46]), ug_z, some (.inl [30])]
def ug_l925 : List ug_T := [ug_z, some (.inl [46]), ug_z, some (.inl [30])]
def ug_l926 : List ug_T := [ug_z, ug_z, some (.inl [46]), ug_z, some (.inl [30])]
def ug_l927 : List ug_T := [some (.inl [42]), ug_z, some (.inl [31])]
def ug_l928 : List ug_T := [some (.inl [47]), ug_z, some (.inl [31])]
def ug_l929 : List ug_T := [ug_z, some (.inl [47]), ug_z, some (.inl [31])]
def ug_l930 : List ug_T := [ug_z, ug_z, some (.inl [47]), ug_z, some (.inl [31])]
def ug_l931 : List ug_T := [some (.inl [42]), ug_z, some (.inl [32])]
def ug_l932 : List ug_T := [some (.inl [48]), ug_z, some (.inl [32])]
def ug_l933 : List ug_T := [ug_z, some (.inl [48]), ug_z, some (.inl [32])]
def ug_l934 : List ug_T := [ug_z, ug_z, some (.inl [48]), ug_z, some (.inl [32])]
def ug_x217 : ug_X := (17, [some (.inl [42]), some (.inl [26])], none, 6529362083450545575270917716387566803771495914834045451921141006336, [[ug_s ug_l343 [], ug_s ug_l343 ug_l382, ug_s ug_l343 ug_l381, none, none, ug_s ug_l343 ug_l910, none, none, ug_s ug_l343 [], ug_s ug_l343 ug_l382, ug_s ug_l343 ug_l381, none, none, ug_s ug_l343 ug_l910, none, none, ug_s ug_l343 [], ug_s ug_l343 ug_l382, ug_s ug_l343 ug_l381, none, none, ug_s ug_l343 ug_l910, none, none, ug_s ug_l343 [], ug_s ug_l343 ug_l382, ug_s ug_l343 ug_l381, none, none, ug_s ug_l343 ug_l910, none, none],
  [ug_s ug_l343 [], ug_s ug_l343 ug_l382, ug_s ug_l343 ug_l381, none, none, ug_s ug_l343 ug_l910, none, none, ug_s ug_l343 [], ug_s2 ug_l343 ug_l33 [27], none, none, ug_s ug_l343 ug_l43, ug_s ug_l343 ug_l46, ug_s2 ug_l343 ug_l911 [43], none, none, ug_s ug_l343 ug_l912, ug_s ug_l343 ug_l913, none, ug_s ug_l343 ug_l914, none, none, ug_s ug_l343 [], ug_s2 ug_l343 ug_l33 [28], none, none, ug_s ug_l343 ug_l39, ug_s ug_l343 ug_l40, ug_s2 ug_l343 ug_l915 [44], none, none],
  [ug_s ug_l343 ug_l916, ug_s ug_l343 ug_l917, none, ug_s ug_l343 ug_l918, none, none, ug_s ug_l343 [], ug_s2 ug_l343 ug_l33 [29], none, none, ug_s ug_l343 ug_l36, ug_s ug_l343 ug_l37, ug_s2 ug_l343 ug_l919 [45], none, none, ug_s ug_l343 ug_l920, ug_s ug_l343 ug_l921, none, ug_s ug_l343 ug_l922, none, none, ug_s ug_l343 [], ug_s2 ug_l343 ug_l33 [30], none, none, ug_s ug_l343 ug_l44, ug_s ug_l343 ug_l45, ug_s2 ug_l343 ug_l923 [46], none, none, ug_s ug_l343 ug_l924, ug_s ug_l343 ug_l925],
  [none, ug_s ug_l343 ug_l926, none, none, ug_s ug_l343 [], ug_s2 ug_l343 ug_l33 [31], none, none, ug_s ug_l343 ug_l41, ug_s ug_l343 ug_l42, ug_s2 ug_l343 ug_l927 [47], none, none, ug_s ug_l343 ug_l928, ug_s ug_l343 ug_l929, none, ug_s ug_l343 ug_l930, none, none, ug_s ug_l343 [], ug_s2 ug_l343 ug_l33 [32], none, none, ug_s ug_l343 ug_l34, ug_s ug_l343 ug_l35, ug_s2 ug_l343 ug_l931 [48], none, none, ug_s ug_l343 ug_l932, ug_s ug_l343 ug_l933, none, ug_s ug_l343 ug_l934],
  [none, none, ug_s ug_l343 []]])
def ug_l935 : List ug_T := [some (.inl [6, 15]), ug_z, some (.inl [51]), ug_z, ug_z, ug_z, ug_z, ug_z, ug_z, ug_z, ug_z]
def ug_l936 : List ug_T := [some (.inl [8, 17])]
def ug_l937 : List ug_T := [ug_z, some (.inl [8, 17])]
def ug_l938 : List ug_T := [some (.inl [6, 15]), ug_z]
def ug_l939 : List ug_T := [some (.inl [10, 19])]
def ug_l940 : List ug_T := [ug_z, some (.inl [10, 19])]
def ug_l941 : List ug_T := [ug_z, ug_z, some (.inl [10, 19])]
def ug_l942 : List ug_T := [some (.inl [51]), ug_z, some (.inl [10, 19])]
def ug_l943 : List ug_T := [ug_z, some (.inl [51]), ug_z, some (.inl [10, 19])]
def ug_l944 : List ug_T := [ug_z, ug_z, ug_z, some (.inl [10, 19])]
def ug_x218 : ug_X := (14, [some (.inl [6, 15]), ug_z, some (.inl [51]), ug_z, ug_z], some (ug_z), 2251799814210560, [[ug_s ug_l935 [], ug_s ug_l935 ug_l450, ug_s ug_l935 ug_l451, ug_s ug_l935 ug_l452, ug_s ug_l935 [], ug_s ug_l935 ug_l450, none, ug_s ug_l935 ug_l451, none, ug_s ug_l935 ug_l452, ug_s ug_l935 [], ug_s ug_l935 ug_l2, none, ug_s ug_l935 [], ug_s2 ug_l935 ug_l363 [8, 17], none, none, ug_s ug_l935 ug_l936, ug_s ug_l935 ug_l937, ug_s ug_l935 ug_l2, none, ug_s ug_l935 [], none, ug_s ug_l935 ug_l2, none, none, ug_s ug_l935 [], none, ug_s ug_l935 ug_l2, ug_s ug_l935 ug_l938, none, none],
  [ug_s ug_l935 ug_l3, none, none, ug_s ug_l935 [], ug_s2 ug_l935 ug_l363 [7, 16], none, none, ug_s ug_l935 ug_l643, none, ug_s ug_l935 ug_l645, ug_s ug_l935 ug_l2, none, ug_s ug_l935 ug_l3, ug_s ug_l935 ug_l2, none, ug_s ug_l935 [], ug_s2 ug_l935 ug_l363 [7, 16], none, none, ug_s ug_l935 ug_l643, none, ug_s ug_l935 ug_l645, ug_s ug_l935 ug_l2, ug_s ug_l935 ug_l3, ug_s ug_l935 ug_l2, none, ug_s ug_l935 [], none, ug_s ug_l935 ug_l2, none, none, ug_s ug_l935 []],
  [none, ug_s ug_l935 ug_l2, ug_s ug_l935 ug_l3, none, none, ug_s ug_l935 [], none, ug_s ug_l935 ug_l2, none, ug_s ug_l935 ug_l3, none, none, ug_s ug_l935 [], none, ug_s ug_l935 ug_l2, ug_s ug_l935 ug_l3, none, none, ug_s ug_l935 [], none, ug_s ug_l935 ug_l2, none, ug_s ug_l935 ug_l3, none, none, ug_s ug_l935 [], ug_s ug_l935 ug_l2, ug_s ug_l935 [], ug_s2 ug_l935 ug_l363 [10, 19], none, none, ug_s ug_l935 ug_l939],
  [none, ug_s ug_l935 ug_l940, none, ug_s ug_l935 ug_l941, none, none, ug_s ug_l935 ug_l940, none, ug_s ug_l935 ug_l941, none, none, ug_s ug_l935 ug_l940, ug_s ug_l935 ug_l942, none, ug_s ug_l935 ug_l943, ug_s ug_l935 ug_l941, ug_s ug_l935 [], none, none, ug_s ug_l935 [], none, none, ug_s ug_l935 [], none, ug_s ug_l935 ug_l2, none, ug_s ug_l935 ug_l3, none, none, ug_s ug_l935 [], none, ug_s ug_l935 ug_l2],
  [none, none, ug_s ug_l935 [], ug_s2 ug_l935 ug_l363 [10, 19], none, none, ug_s ug_l935 ug_l939, none, ug_s ug_l935 ug_l940, ug_s ug_l935 ug_l941, ug_s ug_l935 ug_l940, ug_s ug_l935 ug_l2, none, none, ug_s ug_l935 [], ug_s ug_l935 ug_l2, ug_s ug_l935 [], none, ug_s ug_l935 ug_l2, ug_s ug_l935 ug_l3, none, none, ug_s ug_l935 [], none, ug_s ug_l935 ug_l2, ug_s ug_l935 ug_l3, none, none, ug_s ug_l935 [], ug_s2 ug_l935 ug_l363 [10, 19], none, none],
  [ug_s ug_l935 ug_l939, none, ug_s ug_l935 ug_l940, ug_s ug_l935 ug_l941, ug_s ug_l935 ug_l940, ug_s ug_l935 ug_l2, none, none, ug_s ug_l935 [], ug_s ug_l935 ug_l2, ug_s ug_l935 [], none, none, ug_s ug_l935 [], ug_s2 ug_l935 ug_l363 [10, 19], none, none, ug_s ug_l935 ug_l939, none, ug_s ug_l935 ug_l940, ug_s ug_l935 ug_l941, ug_s ug_l935 ug_l940, ug_s ug_l935 ug_l2, none, ug_s ug_l935 [], ug_s2 ug_l935 ug_l363 [10, 19], none, none, ug_s ug_l935 ug_l939, none, ug_s ug_l935 ug_l940, ug_s ug_l935 ug_l2],
  [none, ug_s ug_l935 [], none, ug_s ug_l935 ug_l2, none, none, none, none, none, none, none, none, none, none, none, none, none, none, none, none, none, none, none, none, none, none, none, none, none, none, none, none],
  [ug_s ug_l935 [], ug_s2 ug_l935 ug_l363 [10, 19], none, none, ug_s ug_l935 ug_l939, none, ug_s ug_l935 ug_l940, ug_s ug_l935 ug_l941, ug_s ug_l935 ug_l940, none, ug_s ug_l935 ug_l941, none, ug_s ug_l935 ug_l944, ug_s ug_l935 ug_l941, ug_s ug_l935 [], none, none, ug_s ug_l935 [], ug_s2 ug_l935 ug_l363 [10, 19], none, none, ug_s ug_l935 ug_l939, none, ug_s ug_l935 ug_l940, ug_s ug_l935 ug_l941, ug_s ug_l935 ug_l940, none, ug_s ug_l935 ug_l941, none, ug_s ug_l935 ug_l944, ug_s ug_l935 ug_l941, ug_s ug_l935 []],
  [none, none, ug_s ug_l935 [], ug_s2 ug_l935 ug_l363 [10, 19], none, none, ug_s ug_l935 ug_l939, none, ug_s ug_l935 ug_l940, ug_s ug_l935 ug_l941, ug_s ug_l935 ug_l940, none, ug_s ug_l935 ug_l941, none, ug_s ug_l935 ug_l944, ug_s ug_l935 ug_l941, ug_s ug_l935 [], none, none, ug_s ug_l935 [], ug_s2 ug_l935 ug_l363 [10, 19], none, none, ug_s ug_l935 ug_l939, none, ug_s ug_l935 ug_l940, ug_s ug_l935 ug_l941, ug_s ug_l935 ug_l940, none, ug_s ug_l935 ug_l941, none, ug_s ug_l935 ug_l944],
  [ug_s ug_l935 ug_l941, ug_s ug_l935 [], none, none, ug_s ug_l935 [], none, none, ug_s ug_l935 [], none, ug_s ug_l935 ug_l2, none, ug_s ug_l935 ug_l3, none, none, ug_s ug_l935 [], none, ug_s ug_l935 ug_l2, none, ug_s ug_l935 ug_l3, none, none, ug_s ug_l935 [], none, ug_s ug_l935 ug_l2, ug_s ug_l935 ug_l3, ug_s ug_l935 ug_l2, none, ug_s ug_l935 [], none, none, ug_s ug_l935 [], none],
  [none, ug_s ug_l935 [], ug_s ug_l935 ug_l2]])
def ug_l945 : List ug_T := [some (.inl [34]), ug_z, ug_z, ug_z]
def ug_l946 : List ug_T := [some (.inl [34]), ug_z, some (.inl [34])]
def ug_l947 : List ug_T := [ug_z, some (.inl [34]), ug_z, some (.inl [34])]
def ug_x219 : ug_X := (25, [some (.inl [34]), ug_z, ug_z], none, 17179869184, [[ug_s ug_l945 [], ug_s ug_l945 ug_l516, ug_s ug_l945 ug_l517, ug_s ug_l945 ug_l2, ug_s ug_l945 [], ug_s ug_l945 ug_l516, ug_s ug_l945 ug_l517, ug_s ug_l945 ug_l946, ug_s ug_l945 ug_l947, ug_s ug_l945 ug_l795, ug_s ug_l945 [], ug_s ug_l945 ug_l516, ug_s ug_l945 ug_l517, ug_s ug_l945 ug_l795, ug_s ug_l945 []]])
def ug_l948 : List ug_T := [some (.inl [35]), ug_z, ug_z, ug_z]
def ug_l949 : List ug_T := [some (.inl [35]), ug_z, some (.inl [35])]
def ug_l950 : List ug_T := [ug_z, some (.inl [35]), ug_z, some (.inl [35])]
def ug_x220 : ug_X := (25, [some (.inl [35]), ug_z, ug_z], none, 34359738368, [[ug_s ug_l948 [], ug_s ug_l948 ug_l796, ug_s ug_l948 ug_l797, ug_s ug_l948 ug_l2, ug_s ug_l948 [], ug_s ug_l948 ug_l796, ug_s ug_l948 ug_l797, ug_s ug_l948 ug_l949, ug_s ug_l948 ug_l950, ug_s ug_l948 ug_l798, ug_s ug_l948 [], ug_s ug_l948 ug_l796, ug_s ug_l948 ug_l797, ug_s ug_l948 ug_l798, ug_s ug_l948 []]])
def ug_l951 : List ug_T := [some (.inl [36]), ug_z, ug_z, ug_z]
def ug_l952 : List ug_T := [some (.inl [36]), ug_z, some (.inl [36])]
def ug_l953 : List ug_T := [ug_z, some (.inl [36]), ug_z, some (.inl [36])]
def ug_x221 : ug_X := (25, [some (.inl [36]), ug_z, ug_z], none, 68719476736, [[ug_s ug_l951 [], ug_s ug_l951 ug_l213, ug_s ug_l951 ug_l214, ug_s ug_l951 ug_l2, ug_s ug_l951 [], ug_s ug_l951 ug_l213, ug_s ug_l951 ug_l214, ug_s ug_l951 ug_l952, ug_s ug_l951 ug_l953, ug_s ug_l951 ug_l799, ug_s ug_l951 [], ug_s ug_l951 ug_l213, ug_s ug_l951 ug_l214, ug_s ug_l951 ug_l799, ug_s ug_l951 []]])
def ug_l954 : List ug_T := [some (.inl [37]), ug_z, ug_z, ug_z]
def ug_l955 : List ug_T := [some (.inl [37]), ug_z, some (.inl [37])]
def ug_l956 : List ug_T := [ug_z, some (.inl [37]), ug_z, some (.inl [37])]
def ug_x222 : ug_X := (25, [some (.inl [37]), ug_z, ug_z], none, 137438953472, [[ug_s ug_l954 [], ug_s ug_l954 ug_l800, ug_s ug_l954 ug_l801, ug_s ug_l954 ug_l2, ug_s ug_l954 [], ug_s ug_l954 ug_l800, ug_s ug_l954 ug_l801, ug_s ug_l954 ug_l955, ug_s ug_l954 ug_l956, ug_s ug_l954 ug_l802, ug_s ug_l954 [], ug_s ug_l954 ug_l800, ug_s ug_l954 ug_l801, ug_s ug_l954 ug_l802, ug_s ug_l954 []]])
def ug_x223 : ug_X := (201, [some (.inl [80]), ug_z, ug_z, ug_z], some (ug_z), 497323236409786642155382248146820840100456150797347717683852892136979542099900390965248, [[ug_s ug_l5 [], ug_s ug_l5 ug_l6, ug_s1 ug_l5 ug_l7 203, none, none, ug_s ug_l5 ug_l2, none, none, ug_s ug_l5 [], ug_s ug_l5 ug_l2, ug_s ug_l5 [], ug_s ug_l5 ug_l2, none, ug_s ug_l5 [], ug_s ug_l5 ug_l2, none, ug_s ug_l5 [], none, ug_s ug_l5 ug_l2, ug_s ug_l5 ug_l3, none, none, ug_s ug_l5 [], ug_s ug_l5 ug_l6, none, ug_s ug_l5 ug_l7, none, ug_s ug_l5 ug_l13, ug_s ug_l5 ug_l57, none, ug_s ug_l5 ug_l823, ug_s1 ug_l5 ug_l57 200],
  [none, none, ug_s ug_l5 ug_l2, none, ug_s ug_l5 [], none, none, ug_s ug_l5 [], none, none, ug_s ug_l5 [], none, ug_s ug_l5 ug_l2]])
def ug_l957 : List ug_T := [ug_z, some (.inl [115]), ug_z, some (.inl [115])]
def ug_l958 : List ug_T := [ug_z, ug_z, ug_z, some (.inl [115])]
def ug_x224 : ug_X := (236, [some (.inl [80]), ug_z], some (ug_z), 497323236409786642155382248146820840100456150797347759222227760415600570343871024726016, [[ug_s ug_l162 [], ug_s ug_l162 ug_l2, ug_s ug_l162 [], ug_s ug_l162 ug_l2, none, none, ug_s ug_l162 ug_l3, none, none, ug_s ug_l162 [], ug_s2 ug_l162 ug_l6 [115], none, none, ug_s ug_l162 ug_l146, ug_s ug_l162 ug_l147, ug_s ug_l162 ug_l148, ug_s ug_l162 [], none, none, ug_s ug_l162 [], none, none, ug_s ug_l162 [], ug_s ug_l162 ug_l2, ug_s ug_l162 [], ug_s ug_l162 ug_l2, ug_s ug_l162 [], ug_s ug_l162 ug_l2, none, none, ug_s ug_l162 ug_l3, none],
  [none, ug_s ug_l162 [], ug_s2 ug_l162 ug_l6 [114], none, none, ug_s ug_l162 ug_l133, ug_s ug_l162 ug_l134, ug_s ug_l162 ug_l2, none, none, ug_s ug_l162 [], none, none, ug_s ug_l162 [], ug_s ug_l162 ug_l6, ug_s ug_l162 ug_l7, ug_s1 ug_l162 ug_l13 196, none, none, ug_s ug_l162 ug_l2, none, ug_s ug_l162 [], ug_s2 ug_l162 ug_l6 [115], none, none, ug_s ug_l162 ug_l146, none, ug_s ug_l162 ug_l147, ug_s ug_l162 ug_l957, ug_s ug_l162 ug_l148, ug_s ug_l162 ug_l958, ug_s ug_l162 ug_l148],
  [ug_s ug_l162 [], ug_s2 ug_l162 ug_l6 [115], none, none, ug_s ug_l162 ug_l146, none, ug_s ug_l162 ug_l147, ug_s ug_l162 ug_l2, ug_s ug_l162 ug_l3, none, none, ug_s ug_l162 [], ug_s2 ug_l162 ug_l6 [115], none, none, ug_s ug_l162 ug_l146, none, ug_s ug_l162 ug_l147, ug_s ug_l162 ug_l2, ug_s ug_l162 [], none, none, ug_s ug_l162 [], none, none, ug_s ug_l162 [], ug_s ug_l162 ug_l2]])
def ug_x225 : ug_X := (174, [some (.inl [80]), ug_z], some (ug_z), 0, [[ug_s ug_l11 [], ug_s ug_l11 ug_l6, none, none, ug_s ug_l11 ug_l2, none, none, ug_s1 ug_l11 ug_l3 241, none, none, ug_s ug_l11 ug_l2, ug_s1 ug_l11 ug_l3 241, none, none, ug_s ug_l11 ug_l2, ug_s ug_l11 ug_l3, ug_s ug_l11 ug_l2, none, ug_s ug_l11 ug_l3, ug_s ug_l11 ug_l2]])
def ug_l959 : List ug_T := [some (.inl [106])]
def ug_l960 : List ug_T := [ug_z, some (.inl [106])]
def ug_l961 : List ug_T := [ug_z, ug_z, some (.inl [106])]
def ug_l962 : List ug_T := [ug_z, ug_z, ug_z, some (.inl [106])]
def ug_l963 : List ug_T := [some (.inl [80]), ug_z, some (.inl [106])]
def ug_l964 : List ug_T := [some (.inl [109]), ug_z, some (.inl [106])]
def ug_l965 : List ug_T := [ug_z, some (.inl [109]), ug_z, some (.inl [106])]
def ug_l966 : List ug_T := [ug_z, ug_z, some (.inl [109]), ug_z, some (.inl [106])]
def ug_l967 : List ug_T := [some (.inl [89]), ug_z, some (.inl [106])]
def ug_l968 : List ug_T := [some (.inl [80]), some (.inl [89]), ug_z, some (.inl [106])]
def ug_l969 : List ug_T := [ug_z, some (.inl [89]), ug_z, some (.inl [106])]
def ug_x226 : ug_X := (175, [some (.inl [80]), ug_z, ug_z, ug_z, ug_z], none, 81129638414606681695789005144064, [[ug_s ug_l162 [], ug_s2 ug_l162 ug_l6 [106], none, none, ug_s ug_l162 ug_l959, ug_s ug_l162 ug_l960, ug_s ug_l162 ug_l961, ug_s ug_l162 [], ug_s2 ug_l162 ug_l6 [106], none, none, ug_s ug_l162 ug_l959, ug_s ug_l162 ug_l960, none, ug_s ug_l162 ug_l961, none, ug_s ug_l162 ug_l962, ug_s ug_l162 ug_l961, ug_s ug_l162 [], ug_s2 ug_l162 ug_l6 [106], none, none, ug_s ug_l162 ug_l959, ug_s ug_l162 ug_l960, none, ug_s ug_l162 ug_l961, none, ug_s ug_l162 ug_l962, ug_s ug_l162 ug_l961, ug_s ug_l162 [], ug_s2 ug_l162 ug_l6 [106], none],
  [none, ug_s ug_l162 ug_l959, ug_s ug_l162 ug_l960, ug_s ug_l162 ug_l961, ug_s ug_l162 [], ug_s2 ug_l162 ug_l6 [106], none, none, ug_s ug_l162 ug_l959, ug_s ug_l162 ug_l960, ug_s2 ug_l162 ug_l963 [109], none, none, ug_s ug_l162 ug_l964, ug_s ug_l162 ug_l965, ug_s1 ug_l162 ug_l961 126, none, none, ug_s ug_l162 ug_l961, ug_s ug_l162 [], ug_s2 ug_l162 ug_l6 [106], none, none, ug_s ug_l162 ug_l959, ug_s ug_l162 ug_l960, ug_s2 ug_l162 ug_l963 [109], none, none, ug_s ug_l162 ug_l964, none, ug_s ug_l162 ug_l965, ug_s ug_l162 ug_l966],
  [ug_s ug_l162 ug_l965, ug_s ug_l162 ug_l961, ug_s ug_l162 [], ug_s2 ug_l162 ug_l6 [106], none, none, ug_s ug_l162 ug_l959, none, ug_s ug_l162 ug_l960, ug_s ug_l162 ug_l961, ug_s ug_l162 [], ug_s2 ug_l162 ug_l6 [106], none, none, ug_s ug_l162 ug_l959, none, ug_s ug_l162 ug_l960, ug_s2 ug_l162 ug_l963 [89], none, none, ug_s ug_l162 ug_l967, ug_s ug_l162 ug_l968, none, none, ug_s ug_l162 ug_l969, ug_s ug_l162 ug_l961, ug_s ug_l162 [], ug_s2 ug_l162 ug_l6 [106], none, none, ug_s ug_l162 ug_l959, none],
  [ug_s ug_l162 ug_l960, ug_s2 ug_l162 ug_l963 [109], none, none, ug_s ug_l162 ug_l964, none, ug_s ug_l162 ug_l965, ug_s ug_l162 ug_l966, ug_s ug_l162 ug_l965, ug_s1 ug_l162 ug_l961 126, none, none, ug_s ug_l162 ug_l961, ug_s ug_l162 []]])
def ug_l970 : List ug_T := [some (.inl [97]), ug_z]
def ug_l971 : List ug_T := [ug_z, some (.inl [97]), ug_z]
def ug_l972 : List ug_T := [some (.inl [99]), some (.inl [80])]
def ug_l973 : List ug_T := [ug_z, some (.inl [99]), some (.inl [80])]
def ug_l974 : List ug_T := [some (.inl [100]), ug_z, some (.inl [80])]
def ug_l975 : List ug_T := [ug_z, some (.inl [100]), ug_z, some (.inl [80])]
def ug_l976 : List ug_T := [some (.inl [101]), some (.inl [80])]
def ug_l977 : List ug_T := [ug_z, some (.inl [101]), some (.inl [80])]
def ug_l978 : List ug_T := [some (.inl [102]), ug_z, some (.inl [80])]
def ug_l979 : List ug_T := [ug_z, some (.inl [102]), ug_z, some (.inl [80])]
def ug_l980 : List ug_T := [some (.inl [100]), some (.inl [80])]
def ug_l981 : List ug_T := [ug_z, some (.inl [100]), some (.inl [80])]
def ug_l982 : List ug_T := [some (.inl [101]), ug_z, some (.inl [80])]
def ug_l983 : List ug_T := [ug_z, some (.inl [101]), ug_z, some (.inl [80])]
def ug_x227 : ug_X := (176, [some (.inl [80]), ug_z, ug_z], some (ug_z), 497323236409786642155382248146820840100456150797347717602723253722372860404111385821184, [[ug_s ug_l216 [], ug_s ug_l216 ug_l2, ug_s ug_l216 ug_l11, none, none, ug_s ug_l216 ug_l3, ug_s ug_l216 ug_l2, ug_s ug_l216 ug_l3, ug_s ug_l216 ug_l2, ug_s ug_l216 [], ug_s2 ug_l216 ug_l6 [96], none, none, ug_s ug_l216 ug_l309, ug_s ug_l216 ug_l310, ug_s ug_l216 ug_l2, ug_s2 ug_l216 ug_l11 [97], none, none, ug_s ug_l216 ug_l970, ug_s ug_l216 ug_l971, ug_s ug_l216 ug_l3, none, none, ug_s ug_l216 [], ug_s ug_l216 ug_l2, ug_s ug_l216 [], ug_s ug_l216 ug_l6, ug_s ug_l216 ug_l7, none, none, ug_s ug_l216 []],
  [ug_s2 ug_l216 ug_l6 [96], none, none, ug_s ug_l216 ug_l309, ug_s ug_l216 ug_l310, ug_s ug_l216 ug_l2, none, ug_s ug_l216 [], none, ug_s ug_l216 ug_l2, ug_s2 ug_l216 ug_l11 [97], none, none, ug_s ug_l216 ug_l970, ug_s ug_l216 ug_l971, ug_s ug_l216 ug_l3, none, none, ug_s ug_l216 [], ug_s2 ug_l216 ug_l6 [98], none, none, ug_s ug_l216 ug_l704, none, ug_s ug_l216 ug_l706, ug_s ug_l216 ug_l2, none, none, ug_s ug_l216 [], ug_s ug_l216 ug_l6, ug_s2 ug_l216 ug_l12 [99], none],
  [none, ug_s ug_l216 ug_l972, none, ug_s ug_l216 ug_l973, ug_s ug_l216 ug_l7, ug_s2 ug_l216 ug_l28 [100], none, none, ug_s ug_l216 ug_l974, none, ug_s ug_l216 ug_l975, ug_s1 ug_l216 ug_l13 242, none, none, ug_s ug_l216 ug_l2, none, ug_s ug_l216 [], ug_s ug_l216 ug_l6, ug_s2 ug_l216 ug_l12 [100], none, none, ug_s ug_l216 ug_l980, none, ug_s ug_l216 ug_l981, ug_s ug_l216 ug_l7, ug_s2 ug_l216 ug_l28 [101], none, none, ug_s ug_l216 ug_l982, none, ug_s ug_l216 ug_l983, ug_s1 ug_l216 ug_l13 242],
  [none, none, ug_s ug_l216 ug_l2, none, ug_s ug_l216 [], ug_s ug_l216 ug_l6, none, none, ug_s ug_l216 ug_l2, none, none, ug_s ug_l216 [], ug_s ug_l216 ug_l2, ug_s ug_l216 [], none, ug_s ug_l216 ug_l2, none, ug_s ug_l216 ug_l3, none, none, ug_s ug_l216 [], none, none, ug_s ug_l216 [], ug_s ug_l216 ug_l6, ug_s2 ug_l216 ug_l12 [101], none, none, ug_s ug_l216 ug_l976, none, ug_s ug_l216 ug_l977, ug_s ug_l216 ug_l7],
  [ug_s2 ug_l216 ug_l28 [102], none, none, ug_s ug_l216 ug_l978, none, ug_s ug_l216 ug_l979, ug_s1 ug_l216 ug_l13 242, none, none, ug_s ug_l216 ug_l2, none, ug_s ug_l216 [], ug_s ug_l216 ug_l6, none, none, ug_s ug_l216 ug_l2, none, none, ug_s ug_l216 [], ug_s ug_l216 ug_l2, none, none, ug_s ug_l216 [], none, ug_s ug_l216 ug_l2, ug_s ug_l216 [], none, none, ug_s ug_l216 [], none, none, ug_s ug_l216 []],
  [ug_s ug_l216 ug_l2]])
def ug_l984 : List ug_T := [ug_z, ug_z, some (.inl [8, 17])]
def ug_l985 : List ug_T := [some (.inl [6, 15]), ug_z, some (.inl [9, 18])]
def ug_l986 : List ug_T := [ug_z, ug_z, some (.inl [9, 18])]
def ug_x228 : ug_X := (10, [some (.inl [6, 15]), ug_z, ug_z], none, 393984, [[ug_s ug_l420 [], ug_s2 ug_l420 ug_l363 [8, 17], none, none, ug_s ug_l420 ug_l936, ug_s ug_l420 ug_l937, ug_s ug_l420 ug_l984, ug_s ug_l420 [], ug_s2 ug_l420 ug_l363 [9, 18], none, none, ug_s ug_l420 ug_l908, ug_s ug_l420 ug_l909, ug_s ug_l420 ug_l985, none, none, ug_s ug_l420 ug_l986, ug_s ug_l420 []]])
def ug_l987 : List ug_T := [some (.inl [20]), ug_z, ug_z, ug_z]
def ug_l988 : List ug_T := [some (.inl [20]), some (.inl [23])]
def ug_l989 : List ug_T := [some (.inl [20]), ug_j, ug_d, ug_z]
def ug_l990 : List ug_T := [some (.inl [25])]
def ug_l991 : List ug_T := [ug_z, some (.inl [25])]
def ug_l992 : List ug_T := [some (.inl [20]), some (.inl [25])]
def ug_l993 : List ug_T := [some (.inl [2, 11]), some (.inl [25])]
def ug_l994 : List ug_T := [ug_j, ug_z, some (.inl [25])]
def ug_x229 : ug_X := (44, [some (.inl [20])], some (ug_z), 5842639249551201272491198041010553762546442903358537728, [[ug_s ug_l987 [], ug_s1 ug_l987 ug_l14 121, none, none, ug_s ug_l987 ug_l2, none, ug_s ug_l987 ug_l3, none, none, ug_s ug_l987 [], ug_s ug_l987 ug_l14, ug_s1 ug_l987 ug_l279 166, none, none, ug_s ug_l987 ug_l2, ug_s ug_l987 [], ug_s2 ug_l987 ug_l14 [21], none, none, ug_s2 ug_l987 ug_l276 [23], none, none, ug_s ug_l987 ug_l872, ug_s ug_l987 ug_l988, none, none, ug_s ug_l987 ug_l874, ug_s ug_l987 ug_l284, ug_s ug_l989 [], ug_s ug_l989 ug_l2, ug_s ug_l989 [], ug_s ug_l989 ug_l2],
  [ug_s2 ug_l989 ug_l378 [2, 11], none, none, ug_s ug_l989 ug_l181, none, none, ug_s ug_l989 ug_l3, none, none, ug_s ug_l989 [], ug_s2 ug_l989 ug_l14 [25], none, none, ug_s ug_l989 ug_l990, ug_s ug_l989 ug_l991, ug_s ug_l989 ug_l284, ug_s ug_l989 ug_l292, ug_s ug_l989 ug_l2, none, none, ug_s ug_l989 [], ug_s ug_l989 ug_l14, ug_s1 ug_l989 ug_l279 244, none, none, ug_s ug_l989 [], none, none, ug_s ug_l989 [], none, none, ug_s ug_l989 []],
  [ug_s2 ug_l989 ug_l14 [25], none, none, ug_s ug_l989 ug_l990, ug_s2 ug_l989 ug_l992 [2, 11], none, none, ug_s ug_l989 ug_l993, none, none, ug_s ug_l989 ug_l991, ug_s ug_l989 ug_l994, ug_s ug_l989 [], ug_s1 ug_l989 ug_l14 208, none, none, ug_s ug_l989 ug_l2]])
def ug_l995 : List ug_T := [some (.inl [20]), ug_z, ug_z]
def ug_l996 : List ug_T := [some (.inl [23]), some (.inl [20])]
def ug_l997 : List ug_T := [some (.inl [20]), some (.inl [23]), some (.inl [20])]
def ug_l998 : List ug_T := [ug_z, some (.inl [23]), some (.inl [20])]
def ug_l999 : List ug_T := [ug_j, some (.inl [20])]
def ug_x230 : ug_X := (43, [some (.inl [20]), ug_z, ug_z], some (ug_z), 6034201192159437379785991419404342410498785293597933568, [[ug_s ug_l995 [], ug_s1 ug_l995 ug_l14 121, none, none, ug_s ug_l995 ug_l2, none, ug_s ug_l995 ug_l3, none, none, ug_s ug_l995 [], ug_s ug_l995 ug_l14, ug_s1 ug_l995 ug_l279 166, none, none, ug_s ug_l995 ug_l2, ug_s ug_l995 [], ug_s ug_l995 ug_l14, ug_s2 ug_l995 ug_l280 [21], none, none, ug_s2 ug_l995 ug_l651 [23], none, none, ug_s ug_l995 ug_l996, ug_s ug_l995 ug_l997, none, none, ug_s ug_l995 ug_l998, ug_s ug_l995 ug_l999, ug_s ug_l995 ug_l279, none, none],
  [ug_s ug_l995 [], ug_s ug_l995 ug_l14, none, none, ug_s ug_l995 ug_l2, ug_s ug_l995 ug_l3, ug_s1 ug_l995 ug_l48 100, none, none, ug_s ug_l995 ug_l2, none, none, ug_s ug_l995 [], ug_s ug_l995 ug_l14, ug_s1 ug_l995 ug_l279 244, none, none, ug_s ug_l995 [], ug_s1 ug_l995 ug_l14 208, none, none, ug_s ug_l995 ug_l2]])
def ug_l1000 : List ug_T := [some (.inl [21]), some (.inl [1]), ug_z, ug_z, ug_z, ug_z]
def ug_l1001 : List ug_T := [some (.inl [21]), ug_z, some (.inl [23])]
def ug_l1002 : List ug_T := [some (.inl [23]), ug_z, some (.inl [23])]
def ug_l1003 : List ug_T := [some (.inl [21]), some (.inl [23]), ug_z, some (.inl [23])]
def ug_l1004 : List ug_T := [ug_z, some (.inl [23]), ug_z, some (.inl [23])]
def ug_l1005 : List ug_T := [ug_z, ug_j, ug_z, some (.inl [23])]
def ug_l1006 : List ug_T := [some (.inl [1]), ug_j, ug_z, some (.inl [23])]
def ug_l1007 : List ug_T := [ug_z, some (.inl [1]), ug_j, ug_z, some (.inl [23])]
def ug_l1008 : List ug_T := [ug_z, ug_z, ug_j, ug_z, some (.inl [23])]
def ug_l1009 : List ug_T := [ug_j, ug_j, ug_z, some (.inl [23])]
def ug_x231 : ug_X := (61, [some (.inl [21]), some (.inl [1]), ug_z, ug_z], some (ug_z), 12582912, [[ug_s ug_l1000 [], ug_s ug_l1000 ug_l2, none, ug_s ug_l1000 [], none, ug_s ug_l1000 ug_l2, ug_s ug_l1000 ug_l3, none, none, ug_s ug_l1000 [], ug_s ug_l1000 ug_l265, none, ug_s ug_l1000 ug_l267, ug_s ug_l1000 ug_l2, none, ug_s ug_l1000 ug_l3, none, none, ug_s ug_l1000 [], ug_s ug_l1000 ug_l265, none, ug_s ug_l1000 ug_l267, ug_s ug_l1000 ug_l2, none, ug_s ug_l1000 ug_l3, none, none, ug_s ug_l1000 [], ug_s2 ug_l1000 ug_l276 [23], none, none, ug_s ug_l1000 ug_l872],
  [ug_s ug_l1000 ug_l873, none, none, ug_s ug_l1000 ug_l874, ug_s2 ug_l1000 ug_l1001 [23], none, none, ug_s ug_l1000 ug_l1002, ug_s ug_l1000 ug_l1003, none, none, ug_s ug_l1000 ug_l1004, ug_s ug_l1000 ug_l875, ug_s ug_l1000 ug_l1005, ug_s ug_l1000 ug_l875, ug_s ug_l1000 ug_l1006, none, ug_s ug_l1000 ug_l1007, ug_s ug_l1000 ug_l1005, none, ug_s ug_l1000 ug_l1008, ug_s ug_l1000 ug_l1005, ug_s ug_l1000 ug_l1008, ug_s ug_l1000 ug_l1005, ug_s ug_l1000 ug_l1009, ug_s ug_l1000 ug_l875, ug_s ug_l1000 [], none, none, ug_s ug_l1000 [], none, none],
  [ug_s ug_l1000 [], none, ug_s ug_l1000 ug_l2, ug_s ug_l1000 ug_l3, ug_s ug_l1000 ug_l2, none, ug_s ug_l1000 ug_l3, none, none, ug_s ug_l1000 [], ug_s2 ug_l1000 ug_l276 [22], none, none, ug_s ug_l1000 ug_l374, ug_s ug_l1000 ug_l375, none, none, ug_s ug_l1000 ug_l376, none, ug_s ug_l1000 ug_l377, ug_s ug_l1000 [], none, none, ug_s ug_l1000 [], ug_s ug_l1000 ug_l265, ug_s ug_l1000 ug_l267, none, ug_s1 ug_l1000 ug_l268 245, none, none, ug_s ug_l1000 ug_l2, none],
  [ug_s ug_l1000 [], ug_s2 ug_l1000 ug_l276 [22], none, none, ug_s ug_l1000 ug_l374, ug_s ug_l1000 ug_l375, none, none, ug_s ug_l1000 ug_l376, none, ug_s ug_l1000 ug_l377, ug_s ug_l1000 ug_l877, none, none, ug_s ug_l1000 ug_l376, none, ug_s ug_l1000 ug_l377, none, none, ug_s ug_l1000 ug_l376, none, ug_s ug_l1000 ug_l377, ug_s ug_l1000 [], none, ug_s ug_l1000 ug_l2]])
def ug_x232 : ug_X := (63, [some (.inl [21]), some (.inl [1]), ug_z, ug_z], some (ug_z), 12582912, [[ug_s ug_l365 [], ug_s ug_l365 ug_l2, none, ug_s ug_l365 [], none, ug_s ug_l365 ug_l2, ug_s ug_l365 ug_l3, none, none, ug_s ug_l365 [], ug_s ug_l365 ug_l265, none, ug_s ug_l365 ug_l267, ug_s ug_l365 ug_l2, none, ug_s ug_l365 ug_l3, none, none, ug_s ug_l365 [], ug_s ug_l365 ug_l265, none, ug_s ug_l365 ug_l267, ug_s ug_l365 ug_l2, none, ug_s ug_l365 ug_l3, none, none, ug_s ug_l365 [], ug_s2 ug_l365 ug_l276 [23], none, none, ug_s ug_l365 ug_l872],
  [ug_s ug_l365 ug_l873, none, none, ug_s ug_l365 ug_l874, ug_s2 ug_l365 ug_l1001 [23], none, none, ug_s ug_l365 ug_l1002, ug_s ug_l365 ug_l1003, none, none, ug_s ug_l365 ug_l1004, ug_s ug_l365 ug_l875, none, none, ug_s ug_l365 ug_l1009, ug_s ug_l365 ug_l875, ug_s ug_l365 ug_l1006, none, ug_s ug_l365 ug_l1007, ug_s ug_l365 ug_l1005, ug_s ug_l365 ug_l1009, ug_s ug_l365 ug_l875, none, none, ug_s ug_l365 ug_l1009, ug_s ug_l365 ug_l875, ug_s ug_l365 [], none, none, ug_s ug_l365 [], none],
  [none, ug_s ug_l365 [], ug_s2 ug_l365 ug_l276 [22], none, none, ug_s ug_l365 ug_l374, ug_s ug_l365 ug_l375, none, none, ug_s ug_l365 ug_l376, none, ug_s ug_l365 ug_l377, ug_s ug_l365 ug_l877, ug_s ug_l365 ug_l377, ug_s ug_l365 ug_l877, none, none, ug_s ug_l365 ug_l376, none, ug_s ug_l365 ug_l377, none, none, ug_s ug_l365 ug_l376, none, ug_s ug_l365 ug_l377, ug_s ug_l365 [], none, ug_s ug_l365 ug_l2]])
def ug_l1010 : List ug_T := [ug_j, ug_d, ug_z]
def ug_l1011 : List ug_T := [ug_z, ug_z, ug_j]
def ug_x233 : ug_X := (139, [ug_j, ug_z], some (ug_j), 0, [[ug_s ug_l1010 [], ug_s ug_l1010 ug_l2, none, none, ug_s ug_l1010 [], ug_s ug_l1010 ug_l284, none, none, ug_s ug_l1010 [], none, none, ug_s ug_l1010 ug_l284, ug_s ug_l1010 ug_l292, ug_s ug_l1010 ug_l284, ug_s ug_l1010 ug_l289, none, ug_s ug_l1010 ug_l1011, ug_s ug_l1010 ug_l289, ug_s ug_l1010 ug_l1011, ug_s ug_l1010 ug_l289, ug_s ug_l1010 ug_l292, ug_s ug_l1010 ug_l284]])
def ug_x234 : ug_X := (137, [ug_z], some (ug_z), 0, [[ug_s ug_l2 [], ug_s ug_l2 ug_l2, none, ug_s ug_l2 ug_l3, none, none, ug_s ug_l2 [], ug_s ug_l2 ug_l2, none, ug_s ug_l2 ug_l3, none, none, ug_s ug_l2 [], ug_s ug_l2 ug_l2, none, none, ug_s ug_l2 [], ug_s ug_l2 ug_l2]])
def ug_l1012 : List ug_T := [some (.inl [85]), ug_z, some (.inl [80])]
def ug_l1013 : List ug_T := [some (.inl [80]), some (.inl [85]), ug_z, some (.inl [80])]
def ug_l1014 : List ug_T := [ug_z, some (.inl [85]), ug_z, some (.inl [80])]
def ug_l1015 : List ug_T := [some (.inl [83]), ug_z, some (.inl [80])]
def ug_l1016 : List ug_T := [some (.inl [80]), some (.inl [83]), ug_z, some (.inl [80])]
def ug_l1017 : List ug_T := [ug_z, some (.inl [83]), ug_z, some (.inl [80])]
def ug_x235 : ug_X := (162, [some (.inl [80])], none, 3885338537100038184394194066858440369756214724359179399590905481429610257766636584960, [[ug_s ug_l6 [], ug_s ug_l6 ug_l6, ug_s1 ug_l6 ug_l7 93, none, none, ug_s ug_l6 ug_l2, none, none, ug_s ug_l6 [], ug_s ug_l6 ug_l6, ug_s ug_l6 ug_l7, ug_s2 ug_l6 ug_l28 [85], none, none, ug_s ug_l6 ug_l1012, ug_s ug_l6 ug_l1013, none, none, ug_s ug_l6 ug_l1014, ug_s1 ug_l6 ug_l13 246, none, none, ug_s ug_l6 [], ug_s1 ug_l6 ug_l6 175, none, none, ug_s ug_l6 [], none, none, ug_s ug_l6 [], ug_s ug_l6 ug_l6, none],
  [none, ug_s ug_l6 ug_l2, none, none, ug_s ug_l6 [], ug_s2 ug_l6 ug_l6 [83], none, none, ug_s ug_l6 ug_l315, ug_s ug_l6 ug_l316, none, none, ug_s ug_l6 ug_l317, ug_s ug_l6 ug_l2, none, ug_s ug_l6 ug_l3, none, none, ug_s ug_l6 [], ug_s2 ug_l6 ug_l6 [83], none, none, ug_s ug_l6 ug_l315, ug_s ug_l6 ug_l316, none, none, ug_s ug_l6 ug_l317, ug_s ug_l6 ug_l2, none, ug_s ug_l6 ug_l3, none, none],
  [ug_s ug_l6 [], ug_s ug_l6 ug_l6, ug_s ug_l6 ug_l7, ug_s2 ug_l6 ug_l28 [83], none, none, ug_s ug_l6 ug_l1015, ug_s ug_l6 ug_l1016, none, none, ug_s ug_l6 ug_l1017, ug_s ug_l6 ug_l13, none, ug_s ug_l6 ug_l57, ug_s1 ug_l6 ug_l13 246, none, none, ug_s ug_l6 [], ug_s1 ug_l6 ug_l6 175, none, none, ug_s ug_l6 [], none, none, ug_s ug_l6 [], ug_s ug_l6 ug_l6, ug_s1 ug_l6 ug_l7 174, none, none, ug_s ug_l6 []]])
def ug_x236 : ug_X := (160, [some (.inl [80]), ug_z], none, 66050742335674788411261704831999642825841832527772743752985236336600251332897965867008, [[ug_s ug_l47 [], ug_s ug_l47 ug_l6, none, none, ug_s ug_l47 ug_l2, none, none, ug_s ug_l47 [], ug_s2 ug_l47 ug_l6 [105], none, none, ug_s ug_l47 ug_l890, ug_s ug_l47 ug_l891, none, none, ug_s ug_l47 ug_l892, ug_s ug_l47 ug_l895, ug_s ug_l47 ug_l892, ug_s ug_l47 ug_l2, ug_s ug_l47 [], ug_s ug_l47 ug_l2, none, ug_s ug_l47 ug_l3, none, none, ug_s ug_l47 [], ug_s ug_l47 ug_l2, none, none, ug_s ug_l47 [], ug_s ug_l47 ug_l2, none],
  [ug_s ug_l47 ug_l3, none, none, ug_s ug_l47 [], ug_s ug_l47 ug_l2, none, ug_s ug_l47 ug_l3, none, none, ug_s ug_l47 [], ug_s ug_l47 [], ug_s ug_l47 ug_l6, ug_s ug_l47 ug_l12, none, none, ug_s ug_l47 ug_l7, ug_s ug_l47 ug_l13, ug_s ug_l47 ug_l7, none, none, ug_s ug_l47 [], ug_s ug_l47 ug_l6, ug_s ug_l47 ug_l7, none, ug_s ug_l47 ug_l13, none, none, ug_s ug_l47 ug_l6, ug_s ug_l47 ug_l7, none, none, ug_s ug_l47 ug_l6],
  [ug_s ug_l47 ug_l7, none, ug_s ug_l47 ug_l13, none, none, ug_s ug_l47 ug_l6, ug_s ug_l47 ug_l7, none, none, ug_s ug_l47 ug_l6, ug_s ug_l47 ug_l7, none, ug_s ug_l47 ug_l13, none, none, ug_s ug_l47 ug_l6, ug_s ug_l47 ug_l7, none, none, ug_s ug_l47 ug_l6, ug_s ug_l47 ug_l7, ug_s1 ug_l47 ug_l13 246, none, none, ug_s ug_l47 [], none, none, ug_s ug_l47 []]])
def ug_l1018 : List ug_T := [some (.inl [57, 58, 59, 60, 61, 62, 63, 64, 65, 66]), ug_z, ug_z, ug_z]
def ug_x237 : ug_X := (246, [some (.inl [57, 58, 59, 60, 61, 62, 63, 64, 65, 66]), ug_z], none, 147429837401600557056, [[ug_s ug_l1018 [], ug_s ug_l1018 ug_l2, ug_s ug_l1018 [], ug_s ug_l1018 ug_l114, ug_s ug_l1018 ug_l2, ug_s ug_l1018 [], ug_s ug_l1018 ug_l2, ug_s ug_l1018 ug_l3, none, none, ug_s ug_l1018 [], ug_s ug_l1018 ug_l114, ug_s ug_l1018 ug_l115, ug_s ug_l1018 ug_l155, ug_s ug_l1018 [], none, none, ug_s ug_l1018 [], none, none, ug_s ug_l1018 []]])
def ug_l1019 : List ug_T := [some (.inl [50]), some (.inl [2, 11]), some (.inl [33]), ug_z, ug_z]
def ug_l1020 : List ug_T := [some (.inl [33]), ug_z, some (.inl [51])]
def ug_l1021 : List ug_T := [some (.inl [34]), ug_z, some (.inl [51])]
def ug_l1022 : List ug_T := [ug_z, some (.inl [34]), ug_z, some (.inl [51])]
def ug_l1023 : List ug_T := [some (.inl [35]), ug_z, some (.inl [51])]
def ug_l1024 : List ug_T := [ug_z, some (.inl [35]), ug_z, some (.inl [51])]
def ug_l1025 : List ug_T := [some (.inl [36]), ug_z, some (.inl [51])]
def ug_l1026 : List ug_T := [ug_z, some (.inl [36]), ug_z, some (.inl [51])]
def ug_x238 : ug_X := (1, [some (.inl [50]), some (.inl [2, 11]), some (.inl [33]), ug_z, ug_z], none, 323519360005807677536004181044235568083645733070486903550240528269312, [[ug_s ug_l1019 [], ug_s ug_l1019 ug_l59, ug_s2 ug_l1019 ug_l61 [6, 15], none, none, ug_s ug_l1019 ug_l449, none, none, ug_s ug_l1019 [], ug_s2 ug_l1019 ug_l59 [51], none, none, ug_s ug_l1019 ug_l450, ug_s ug_l1019 ug_l451, ug_s ug_l1019 ug_l452, ug_s ug_l1019 [], ug_s2 ug_l1019 ug_l59 [51], none, none, ug_s ug_l1019 ug_l450, ug_s ug_l1019 ug_l451, none, ug_s ug_l1019 ug_l452, none, ug_s ug_l1019 ug_l453, ug_s ug_l1019 ug_l452, ug_s ug_l1019 [], ug_s2 ug_l1019 ug_l59 [51], none, none, ug_s ug_l1019 ug_l450, ug_s ug_l1019 ug_l451],
  [none, ug_s ug_l1019 ug_l452, none, ug_s ug_l1019 ug_l453, ug_s ug_l1019 ug_l452, ug_s ug_l1019 [], ug_s2 ug_l1019 ug_l59 [51], none, none, ug_s ug_l1019 ug_l450, ug_s ug_l1019 ug_l451, ug_s2 ug_l1019 ug_l1020 [34], none, none, ug_s ug_l1019 ug_l1021, ug_s ug_l1019 ug_l1022, ug_s1 ug_l1019 ug_l452 108, none, none, ug_s ug_l1019 ug_l452, ug_s ug_l1019 [], ug_s2 ug_l1019 ug_l59 [51], none, none, ug_s ug_l1019 ug_l450, ug_s ug_l1019 ug_l451, ug_s2 ug_l1019 ug_l1020 [35], none, none, ug_s ug_l1019 ug_l1023, ug_s ug_l1019 ug_l1024, ug_s ug_l1019 ug_l452],
  [ug_s ug_l1019 [], ug_s2 ug_l1019 ug_l59 [51], none, none, ug_s ug_l1019 ug_l450, none, ug_s ug_l1019 ug_l451, ug_s ug_l1019 ug_l459, none, none, ug_s ug_l1019 ug_l452, ug_s ug_l1019 [], ug_s2 ug_l1019 ug_l59 [51], none, none, ug_s ug_l1019 ug_l450, none, ug_s ug_l1019 ug_l451, ug_s2 ug_l1019 ug_l1020 [36], none, none, ug_s ug_l1019 ug_l1025, ug_s ug_l1019 ug_l1026, ug_s1 ug_l1019 ug_l452 108, none, none, ug_s ug_l1019 ug_l452, ug_s ug_l1019 [], ug_s2 ug_l1019 ug_l59 [52], none, none, ug_s ug_l1019 ug_l462],
  [ug_s1 ug_l1019 ug_l463 179, none, none, ug_s ug_l1019 [], ug_s2 ug_l1019 ug_l59 [53], none, none, ug_s ug_l1019 ug_l464, ug_s1 ug_l1019 ug_l465 180, none, none, ug_s ug_l1019 [], ug_s2 ug_l1019 ug_l59 [54], none, none, ug_s ug_l1019 ug_l466, ug_s1 ug_l1019 ug_l467 181, none, none, ug_s ug_l1019 [], ug_s ug_l1019 ug_l59, ug_s ug_l1019 ug_l68, none, none, ug_s ug_l1019 []]])
def ug_x239 : ug_X := (19, [some (.inl [33]), ug_z], some (ug_z), 0, [[ug_s ug_l515 [], ug_s ug_l515 ug_l199, ug_s1 ug_l515 ug_l224 247, none, none, ug_s ug_l515 ug_l2, none, none, ug_s ug_l515 [], ug_s2 ug_l515 ug_l199 [39], none, none, ug_s ug_l515 ug_l507, ug_s ug_l515 ug_l508, ug_s ug_l515 ug_l2, none, none, ug_s ug_l515 [], ug_s ug_l515 ug_l2, none, none, ug_s ug_l515 [], ug_s ug_l515 ug_l2]])
def ug_x240 : ug_X := (27, [ug_z, ug_z], some (ug_z), 0, [[ug_s ug_l48 [], ug_s ug_l48 ug_l2, none, none, ug_s1 ug_l48 ug_l3 248, none, none, ug_s ug_l48 ug_l2, ug_s1 ug_l48 ug_l3 248, none, none, ug_s ug_l48 ug_l2, ug_s ug_l48 [], ug_s ug_l48 ug_l2, ug_s ug_l48 ug_l3, ug_s ug_l48 ug_l2, none, ug_s ug_l48 ug_l3, ug_s ug_l48 ug_l2]])
def ug_x241 : ug_X := (173, [ug_z, ug_z], some (ug_z), 0, [[ug_s ug_l48 [], ug_s ug_l48 ug_l2, ug_s ug_l48 ug_l3, ug_s ug_l48 ug_l2, none, none, ug_s ug_l48 ug_l3, ug_s ug_l48 ug_l2, none, none, ug_s ug_l48 ug_l3, ug_s ug_l48 ug_l2, ug_s ug_l48 [], ug_s ug_l48 ug_l2, ug_s ug_l48 ug_l3, none, ug_s ug_l48 ug_l48, ug_s ug_l48 ug_l3, ug_s ug_l48 ug_l2]])
def ug_l1027 : List ug_T := [some (.inl [107])]
def ug_l1028 : List ug_T := [ug_z, some (.inl [107])]
def ug_l1029 : List ug_T := [some (.inl [103])]
def ug_l1030 : List ug_T := [ug_z, some (.inl [103])]
def ug_l1031 : List ug_T := [ug_z, ug_z, some (.inl [107])]
def ug_l1032 : List ug_T := [some (.inl [80]), ug_z, some (.inl [107])]
def ug_l1033 : List ug_T := [some (.inl [104]), ug_z, some (.inl [107])]
def ug_l1034 : List ug_T := [ug_z, some (.inl [104]), ug_z, some (.inl [107])]
def ug_l1035 : List ug_T := [some (.inl [106]), ug_z, some (.inl [107])]
def ug_l1036 : List ug_T := [some (.inl [80]), some (.inl [106]), ug_z, some (.inl [107])]
def ug_l1037 : List ug_T := [some (.inl [104]), some (.inl [106]), ug_z, some (.inl [107])]
def ug_l1038 : List ug_T := [ug_z, some (.inl [104]), some (.inl [106]), ug_z, some (.inl [107])]
def ug_l1039 : List ug_T := [ug_z, some (.inl [106]), ug_z, some (.inl [107])]
def ug_l1040 : List ug_T := [ug_z, ug_z, ug_z, some (.inl [107])]
def ug_x242 : ug_X := (163, [some (.inl [80]), ug_z, ug_z], some (ug_z), 497323236409786642155382248146820840100456150797347717602723253722372860404111385821184, [[ug_s ug_l145 [], ug_s ug_l145 ug_l2, ug_s ug_l145 [], ug_s ug_l145 ug_l2, none, ug_s ug_l145 [], none, ug_s ug_l145 ug_l2, ug_s ug_l145 ug_l3, none, none, ug_s ug_l145 [], ug_s2 ug_l145 ug_l6 [103], none, none, ug_s ug_l145 ug_l1029, none, ug_s ug_l145 ug_l1030, ug_s ug_l145 ug_l2, none, ug_s ug_l145 [], none, ug_s ug_l145 ug_l2, ug_s ug_l145 ug_l3, none, none, ug_s ug_l145 [], ug_s2 ug_l145 ug_l6 [107], none, none, ug_s ug_l145 ug_l1027, ug_s ug_l145 ug_l1028],
  [none, ug_s ug_l145 ug_l1031, none, none, ug_s ug_l145 ug_l1028, ug_s2 ug_l145 ug_l1032 [104], none, none, ug_s ug_l145 ug_l1033, none, ug_s ug_l145 ug_l1034, ug_s ug_l145 ug_l1031, none, none, ug_s ug_l145 ug_l1028, ug_s2 ug_l145 ug_l1032 [106], none, none, ug_s ug_l145 ug_l1035, ug_s2 ug_l145 ug_l1036 [104], none, none, ug_s ug_l145 ug_l1037, none, ug_s ug_l145 ug_l1038, ug_s ug_l145 ug_l1039, ug_s ug_l145 ug_l1031, ug_s ug_l145 [], none, none, ug_s ug_l145 [], none],
  [none, ug_s ug_l145 [], none, none, ug_s ug_l145 [], ug_s2 ug_l145 ug_l6 [107], none, none, ug_s ug_l145 ug_l1027, ug_s ug_l145 ug_l1028, ug_s ug_l145 ug_l1031, ug_s ug_l145 ug_l1028, ug_s ug_l145 ug_l2, none, ug_s ug_l145 [], ug_s2 ug_l145 ug_l6 [107], none, none, ug_s ug_l145 ug_l1027, ug_s ug_l145 ug_l1028, ug_s ug_l145 ug_l2, none, ug_s ug_l145 [], none, ug_s ug_l145 ug_l2, ug_s ug_l145 ug_l3, none, none, ug_s ug_l145 [], none, ug_s ug_l145 ug_l2, none],
  [none, ug_s ug_l145 [], ug_s ug_l145 ug_l6, ug_s ug_l145 ug_l7, none, none, ug_s ug_l145 [], ug_s ug_l145 ug_l2, ug_s ug_l145 [], ug_s2 ug_l145 ug_l6 [107], none, none, ug_s ug_l145 ug_l1027, ug_s ug_l145 ug_l1028, ug_s ug_l145 ug_l1031, ug_s ug_l145 ug_l1028, none, ug_s ug_l145 ug_l1031, ug_s ug_l145 ug_l1040, none, none, ug_s ug_l145 ug_l1028, none, ug_s ug_l145 ug_l1031, none, ug_s ug_l145 ug_l1040, ug_s ug_l145 ug_l1031, none, none, ug_s ug_l145 ug_l1028, none, ug_s ug_l145 ug_l1031],
  [ug_s ug_l145 ug_l1040, none, none, ug_s ug_l145 ug_l1028, none, ug_s ug_l145 ug_l1031, none, ug_s ug_l145 ug_l1040, ug_s ug_l145 ug_l1031, none, none, ug_s ug_l145 ug_l1028, none, ug_s ug_l145 ug_l1031, ug_s ug_l145 ug_l1040, none, none, ug_s ug_l145 ug_l1028, none, ug_s ug_l145 ug_l1031, none, ug_s ug_l145 ug_l1040, ug_s ug_l145 ug_l1031, none, none, ug_s ug_l145 ug_l1028, none, ug_s ug_l145 ug_l1031, none, ug_s ug_l145 ug_l1040, ug_s ug_l145 ug_l1031, ug_s ug_l145 []],
  [none, none, ug_s ug_l145 [], none, none, ug_s ug_l145 [], ug_s2 ug_l145 ug_l6 [107], none, none, ug_s ug_l145 ug_l1027, ug_s ug_l145 ug_l1028, ug_s ug_l145 ug_l2]])
def ug_x243 : ug_X := (42, [some (.inl [20]), ug_z], some (ug_z), 1245152626953534697416156959559626211690225536774176768, [[ug_s ug_l378 [], ug_s1 ug_l378 ug_l14 121, none, none, ug_s ug_l378 ug_l2, ug_s ug_l378 ug_l3, none, none, ug_s ug_l378 [], ug_s1 ug_l378 ug_l14 208, none, none, ug_s ug_l378 ug_l2, none, none, ug_s ug_l378 [], ug_s ug_l378 ug_l14, ug_s1 ug_l378 ug_l279 166, none, none, ug_s ug_l378 ug_l2]])
def ug_x244 : ug_X := (40, [some (.inl [20]), ug_z], none, 4597486622597666575075041081450927550856217366550806528, [[ug_s ug_l378 [], ug_s ug_l378 ug_l14, none, none, ug_s ug_l378 ug_l2, none, none, ug_s ug_l378 [], ug_s ug_l378 ug_l14, none, none, ug_s ug_l378 ug_l2, none, none, ug_s ug_l378 ug_l3, none, none, ug_s ug_l378 [], ug_s ug_l378 ug_l14, ug_s ug_l378 ug_l279, none, none, ug_s ug_l378 [], ug_s ug_l378 ug_l14, ug_s2 ug_l378 ug_l280 [21], none, none, ug_s2 ug_l378 ug_l651 [24], none, none, ug_s ug_l378 ug_l652, ug_s ug_l378 ug_l653],
  [none, none, ug_s ug_l378 ug_l654, ug_s ug_l378 ug_l279, none, none, ug_s ug_l378 []]])
def ug_l1041 : List ug_T := [some (.inl [1]), ug_z, ug_z, ug_z, ug_z, ug_z, ug_z, ug_z]
def ug_x245 : ug_X := (62, [some (.inl [1]), ug_z, ug_z], some (ug_z), 0, [[ug_s ug_l1041 [], ug_s ug_l1041 ug_l2, ug_s ug_l1041 [], ug_s ug_l1041 ug_l2, none, ug_s ug_l1041 [], ug_s ug_l1041 ug_l2, none, ug_s ug_l1041 [], ug_s ug_l1041 ug_l2, none, ug_s ug_l1041 [], none, ug_s ug_l1041 ug_l2, none, ug_s ug_l1041 ug_l3, none, none, ug_s ug_l1041 ug_l3, none, none, ug_s ug_l1041 [], none, ug_s ug_l1041 ug_l2, none, ug_s ug_l1041 ug_l3, none, none, ug_s ug_l1041 ug_l2, none, ug_s ug_l1041 [], none],
  [ug_s ug_l1041 ug_l2, none, ug_s ug_l1041 ug_l3, none, none, ug_s ug_l1041 [], none, ug_s ug_l1041 ug_l2, none, none, ug_s ug_l1041 [], none, ug_s ug_l1041 ug_l2, ug_s ug_l1041 ug_l3, none, none, ug_s ug_l1041 [], ug_s ug_l1041 ug_l265, none, ug_s ug_l1041 ug_l267, ug_s ug_l1041 ug_l2, none, ug_s ug_l1041 ug_l3, none, none, ug_s ug_l1041 [], ug_s ug_l1041 ug_l2, none, none, ug_s ug_l1041 [], ug_s ug_l1041 ug_l2, none],
  [ug_s ug_l1041 [], none, none, ug_s ug_l1041 [], none, none, ug_s ug_l1041 [], none, ug_s ug_l1041 ug_l2, none, none, ug_s ug_l1041 [], none, ug_s ug_l1041 ug_l2, ug_s ug_l1041 ug_l3, none, none, ug_s ug_l1041 [], ug_s ug_l1041 ug_l2, ug_s ug_l1041 [], none, none, ug_s ug_l1041 [], ug_s ug_l1041 ug_l2, none, ug_s ug_l1041 [], ug_s ug_l1041 ug_l2, none, ug_s ug_l1041 [], none, none, ug_s ug_l1041 []],
  [none, none, ug_s ug_l1041 [], ug_s ug_l1041 ug_l2]])
def ug_l1042 : List ug_T := [some (.inl [80]), some (.inl [103])]
def ug_l1043 : List ug_T := [ug_z, ug_z, some (.inl [103])]
def ug_l1044 : List ug_T := [some (.inl [104])]
def ug_l1045 : List ug_T := [some (.inl [80]), some (.inl [104])]
def ug_l1046 : List ug_T := [ug_z, some (.inl [104])]
def ug_l1047 : List ug_T := [ug_z, ug_z, some (.inl [104])]
def ug_x246 : ug_X := (159, [some (.inl [80]), ug_z, ug_z], none, 3885337784451458141838923813647037813284813678104279072927239224955314206331293925376, [[ug_s ug_l47 [], ug_s2 ug_l47 ug_l6 [103], none, none, ug_s ug_l47 ug_l1029, ug_s ug_l47 ug_l1042, none, none, ug_s ug_l47 ug_l1030, ug_s ug_l47 ug_l1043, ug_s ug_l47 [], ug_s2 ug_l47 ug_l6 [104], none, none, ug_s ug_l47 ug_l1044, ug_s ug_l47 ug_l1045, none, none, ug_s ug_l47 ug_l1046, ug_s ug_l47 ug_l1047, ug_s ug_l47 [], ug_s ug_l47 ug_l6, ug_s ug_l47 ug_l12, none, none, ug_s ug_l47 ug_l7, ug_s ug_l47 ug_l13, ug_s ug_l47 ug_l7, none, none, ug_s ug_l47 []]])
def ug_x247 : ug_X := (18, [some (.inl [33]), ug_z], some (ug_z), 0, [[ug_s ug_l515 [], ug_s ug_l515 ug_l199, none, none, ug_s ug_l515 ug_l2, ug_s ug_l515 ug_l3, ug_s ug_l515 ug_l2, ug_s ug_l515 ug_l3, ug_s ug_l515 ug_l2, none, none, ug_s ug_l515 [], ug_s ug_l515 ug_l2, none, none, ug_s ug_l515 [], ug_s ug_l515 ug_l2]])
def ug_x248 : ug_X := (28, [ug_z, ug_z], some (ug_z), 0, [[ug_s ug_l48 [], ug_s ug_l48 ug_l2, ug_s ug_l48 ug_l3, ug_s ug_l48 ug_l2, none, ug_s ug_l48 ug_l3, ug_s ug_l48 ug_l2, none, none, ug_s ug_l48 ug_l3, ug_s ug_l48 ug_l2, ug_s ug_l48 [], ug_s ug_l48 ug_l2, ug_s ug_l48 ug_l3, none, ug_s ug_l48 ug_l48, ug_s ug_l48 ug_l3, ug_s ug_l48 ug_l2]])
def ug_x249 : ug_X := (245, [ug_z, ug_z], some (ug_z), 0, [[ug_s ug_l3 [], ug_s ug_l3 ug_l2, ug_s ug_l3 ug_l3, none, none, ug_s ug_l3 [], ug_s ug_l3 ug_l2, none, none, ug_s ug_l3 [], ug_s ug_l3 ug_l2]])
def ug_x250 : ug_X := (165, [ug_z, ug_z, ug_z], some (ug_z), 0, [[ug_s ug_l48 [], ug_s ug_l48 ug_l2, ug_s ug_l48 ug_l3, none, none, ug_s ug_l48 [], ug_s ug_l48 ug_l2, none, none, ug_s ug_l48 [], ug_s ug_l48 ug_l2, ug_s ug_l48 ug_l3, none, none, ug_s ug_l48 [], ug_s ug_l48 ug_l2, none, none, ug_s ug_l48 [], ug_s ug_l48 ug_l2]])
def ug_l1048 : List ug_T := [some (.inl [2, 11]), ug_z, ug_z]
def ug_l1049 : List ug_T := [some (.inl [3, 12])]
def ug_l1050 : List ug_T := [some (.inl [2, 11]), some (.inl [3, 12])]
def ug_l1051 : List ug_T := [ug_z, some (.inl [3, 12])]
def ug_l1052 : List ug_T := [ug_z, ug_z, some (.inl [3, 12])]
def ug_l1053 : List ug_T := [some (.inl [4, 13])]
def ug_l1054 : List ug_T := [some (.inl [2, 11]), some (.inl [4, 13])]
def ug_l1055 : List ug_T := [ug_z, some (.inl [4, 13])]
def ug_l1056 : List ug_T := [ug_z, ug_z, some (.inl [4, 13])]
def ug_l1057 : List ug_T := [some (.inl [2, 11]), some (.inl [2, 11])]
def ug_x251 : ug_X := (55, [some (.inl [2, 11]), ug_z, ug_z], none, 11692726722493576325570007804714988904815651729432, [[ug_s ug_l1048 [], ug_s ug_l1048 ug_l75, none, none, ug_s ug_l1048 ug_l2, none, ug_s ug_l1048 ug_l3, none, none, ug_s ug_l1048 [], ug_s2 ug_l1048 ug_l75 [3, 12], none, none, ug_s ug_l1048 ug_l1049, ug_s ug_l1048 ug_l1050, none, none, ug_s ug_l1048 ug_l1051, ug_s ug_l1048 ug_l1052, ug_s ug_l1048 [], ug_s2 ug_l1048 ug_l75 [4, 13], none, none, ug_s ug_l1048 ug_l1053, ug_s ug_l1048 ug_l1054, none, none, ug_s ug_l1048 ug_l1055, ug_s ug_l1048 ug_l1056, ug_s ug_l1048 [], ug_s ug_l1048 ug_l75, ug_s ug_l1048 ug_l1057],
  [none, none, ug_s ug_l1048 ug_l364, ug_s ug_l1048 ug_l649, ug_s ug_l1048 ug_l364, none, none, ug_s ug_l1048 []]])
def ug_x252 : ug_X := (56, [some (.inl [2, 11]), ug_z, ug_z], none, 23385453444987152651140015609429977809631303450656, [[ug_s ug_l1048 [], ug_s ug_l1048 ug_l2, ug_s ug_l1048 ug_l3, none, ug_s1 ug_l1048 ug_l48 100, none, none, ug_s ug_l1048 ug_l2, none, none, ug_s ug_l1048 [], ug_s2 ug_l1048 ug_l75 [5, 14], none, none, ug_s ug_l1048 ug_l352, ug_s ug_l1048 ug_l354, ug_s ug_l1048 ug_l355, ug_s ug_l1048 [], ug_s ug_l1048 ug_l75, ug_s ug_l1048 ug_l1057, none, none, ug_s ug_l1048 ug_l364, ug_s ug_l1048 ug_l649, ug_s ug_l1048 ug_l364, none, none, ug_s ug_l1048 []]])
def ug_x253 : ug_X := (143, [some (.inl [80]), ug_z, ug_z, ug_z], some (ug_z), 28948022309329048855892746252171976963317496166410286080962749757479247151104, [[ug_s ug_l162 [], ug_s ug_l162 ug_l2, none, ug_s ug_l162 ug_l3, none, none, ug_s ug_l162 [], ug_s ug_l162 ug_l2, none, none, ug_s ug_l162 [], ug_s ug_l162 ug_l2, none, ug_s ug_l162 ug_l3, none, none, ug_s ug_l162 [], ug_s ug_l162 ug_l2, none, none, ug_s ug_l162 [], ug_s ug_l162 ug_l2, none, ug_s ug_l162 ug_l3, none, none, ug_s ug_l162 [], none, ug_s ug_l162 ug_l2, none, none, ug_s ug_l162 []],
  [ug_s ug_l162 ug_l2, none, ug_s ug_l162 ug_l3, none, none, ug_s ug_l162 [], none, ug_s ug_l162 ug_l2, none, none, ug_s ug_l162 [], ug_s ug_l162 ug_l2, none, ug_s ug_l162 [], ug_s ug_l162 ug_l2, none, ug_s ug_l162 ug_l3, none, none, ug_s ug_l162 [], none, ug_s ug_l162 ug_l2, none, ug_s ug_l162 [], ug_s ug_l162 ug_l2, none, ug_s ug_l162 ug_l3, none, none, ug_s ug_l162 [], none, ug_s ug_l162 ug_l2],
  [none, ug_s ug_l162 [], ug_s ug_l162 ug_l2, none, ug_s ug_l162 ug_l3, none, none, ug_s ug_l162 [], none, ug_s ug_l162 ug_l2, none, ug_s ug_l162 [], ug_s ug_l162 ug_l2, none, ug_s ug_l162 ug_l3, none, none, ug_s ug_l162 [], none, ug_s ug_l162 ug_l2, none, ug_s ug_l162 [], ug_s ug_l162 ug_l2, none, ug_s ug_l162 ug_l3, none, none, ug_s ug_l162 [], none, ug_s ug_l162 ug_l2, none, ug_s ug_l162 []],
  [ug_s ug_l162 ug_l6, none, ug_s ug_l162 ug_l7, ug_s ug_l162 ug_l13, ug_s ug_l162 ug_l57, ug_s1 ug_l162 ug_l283 169, none, none, ug_s ug_l162 [], ug_s ug_l162 ug_l2]])
def ug_x254 : ug_X := (9, [some (.inl [6, 15])], some (ug_z), 5986676081916711078691843996014074319265613679165440, [[ug_s ug_l363 [], ug_s ug_l363 ug_l363, ug_s ug_l363 ug_l421, none, none, ug_s ug_l363 [], ug_s ug_l363 ug_l363, none, none, ug_s ug_l363 ug_l2]])
def ug_l1058 : List ug_T := [some (.inl [0]), some (.inl [57, 58, 59, 60, 61, 62, 63, 64, 65, 66]), ug_z, ug_z, ug_z, ug_z, ug_z]
def ug_l1059 : List ug_T := [some (.inl [0]), some (.inl [57, 58, 59, 60, 61, 62, 63, 64, 65, 66]), ug_z]
def ug_l1060 : List ug_T := [some (.inl [70]), some (.inl [57, 58, 59, 60, 61, 62, 63, 64, 65, 66]), ug_z]
def ug_l1061 : List ug_T := [ug_z, some (.inl [70]), some (.inl [57, 58, 59, 60, 61, 62, 63, 64, 65, 66]), ug_z]
def ug_x255 : ug_X := (96, [some (.inl [0]), some (.inl [57, 58, 59, 60, 61, 62, 63, 64, 65, 66]), ug_z], some (ug_z), 1180591620717411303424, [[ug_s ug_l1058 [], ug_s ug_l1058 ug_l2, ug_s ug_l1058 [], ug_s ug_l1058 ug_l2, none, ug_s ug_l1058 [], none, ug_s ug_l1058 ug_l2, none, none, ug_s ug_l1058 ug_l3, none, none, ug_s ug_l1058 [], ug_s ug_l1058 ug_l2, none, ug_s ug_l1058 [], ug_s ug_l1058 ug_l2, none, ug_s ug_l1058 [], none, ug_s ug_l1058 ug_l2, ug_s ug_l1058 ug_l3, none, none, ug_s ug_l1058 [], none, ug_s ug_l1058 ug_l2, none, none, ug_s ug_l1058 [], ug_s ug_l1058 ug_l114],
  [none, ug_s ug_l1058 ug_l115, ug_s ug_l1058 ug_l2, ug_s ug_l1058 ug_l118, ug_s2 ug_l1058 ug_l1059 [70], none, none, ug_s ug_l1058 ug_l1060, none, ug_s ug_l1058 ug_l1061, ug_s ug_l1058 ug_l119, ug_s ug_l1058 ug_l3, ug_s1 ug_l1058 ug_l2 108, none, none, ug_s ug_l1058 ug_l2, ug_s ug_l1058 ug_l3, none, none, ug_s ug_l1058 [], ug_s ug_l1058 ug_l2, none, none, ug_s ug_l1058 [], ug_s ug_l1058 ug_l2, none, ug_s ug_l1058 [], none, none, ug_s ug_l1058 [], none, none],
  [ug_s ug_l1058 [], none, ug_s ug_l1058 ug_l2, none, none, ug_s ug_l1058 [], ug_s2 ug_l1058 ug_l1 [70], none, none, ug_s ug_l1058 ug_l143, ug_s ug_l1058 ug_l144, none, ug_s ug_l1058 ug_l548, ug_s ug_l1058 [], none, none, ug_s ug_l1058 [], none, none, ug_s ug_l1058 [], none, none, ug_s ug_l1058 [], ug_s ug_l1058 ug_l2]])
def ug_l1062 : List ug_T := [some (.inl [0]), some (.inl [57, 58, 59, 60, 61, 62, 63, 64, 65, 66]), ug_z, ug_z, ug_z, ug_z]
def ug_x256 : ug_X := (127, [some (.inl [0]), some (.inl [57, 58, 59, 60, 61, 62, 63, 64, 65, 66]), ug_z], some (ug_z), 2361183241434822606848, [[ug_s ug_l1062 [], ug_s2 ug_l1062 ug_l1 [71], none, none, ug_s ug_l1062 ug_l128, ug_s1 ug_l1062 ug_l129 194, none, none, ug_s ug_l1062 [], ug_s ug_l1062 ug_l2, ug_s ug_l1062 [], ug_s ug_l1062 ug_l2, none, ug_s ug_l1062 [], none, ug_s ug_l1062 ug_l2, ug_s ug_l1062 ug_l3, none, none, ug_s ug_l1062 [], ug_s ug_l1062 ug_l114, ug_s2 ug_l1062 ug_l552 [70], none, none, ug_s ug_l1062 ug_l553, none, ug_s ug_l1062 ug_l554, ug_s ug_l1062 ug_l115, ug_s ug_l1062 ug_l2, none, none, ug_s ug_l1062 ug_l3],
  [ug_s ug_l1062 ug_l2, none, ug_s ug_l1062 [], ug_s2 ug_l1062 ug_l1 [71], none, none, ug_s ug_l1062 ug_l128, none, ug_s ug_l1062 ug_l129, ug_s ug_l1062 ug_l130, ug_s ug_l1062 ug_l131, ug_s ug_l1062 ug_l132, ug_s ug_l1062 ug_l131, ug_s ug_l1062 [], ug_s ug_l1062 ug_l2, ug_s2 ug_l1062 ug_l8 [71], none, none, ug_s ug_l1062 ug_l182, none, ug_s ug_l1062 ug_l183, ug_s1 ug_l1062 ug_l3 215, none, none, ug_s ug_l1062 ug_l2, ug_s ug_l1062 [], none, none, ug_s ug_l1062 [], none, none, ug_s ug_l1062 []],
  [ug_s ug_l1062 ug_l2]])
def ug_l1063 : List ug_T := [ug_z, ug_z, some (.inl [38])]
def ug_l1064 : List ug_T := [ug_z, ug_z, ug_z, some (.inl [36])]
def ug_l1065 : List ug_T := [some (.inl [33]), ug_z, ug_z, ug_z, some (.inl [36])]
def ug_l1066 : List ug_T := [some (.inl [34]), ug_z, ug_z, ug_z, some (.inl [36])]
def ug_l1067 : List ug_T := [ug_z, some (.inl [34]), ug_z, ug_z, ug_z, some (.inl [36])]
def ug_l1068 : List ug_T := [ug_z, ug_z, ug_z, ug_z, some (.inl [36])]
def ug_x257 : ug_X := (23, [some (.inl [33]), ug_z, ug_z], none, 343597383680, [[ug_s ug_l512 [], ug_s2 ug_l512 ug_l199 [38], none, none, ug_s ug_l512 ug_l209, ug_s ug_l512 ug_l210, ug_s ug_l512 ug_l1063, ug_s ug_l512 [], ug_s2 ug_l512 ug_l199 [36], none, none, ug_s ug_l512 ug_l213, ug_s ug_l512 ug_l214, ug_s ug_l512 ug_l953, ug_s ug_l512 ug_l799, ug_s ug_l512 ug_l1064, ug_s2 ug_l512 ug_l1065 [34], none, none, ug_s ug_l512 ug_l1066, ug_s ug_l512 ug_l1067, ug_s ug_l512 ug_l1068, ug_s ug_l512 ug_l1064, ug_s ug_l512 ug_l799, ug_s ug_l512 []]])
def ug_x258 : ug_X := (177, [some (.inl [80]), ug_z, ug_z, ug_z, ug_z], some (ug_z), 497323236409786642155382248146820840100456150797347717683852892136979542099900390965248, [[ug_s ug_l162 [], ug_s ug_l162 ug_l6, ug_s ug_l162 ug_l7, ug_s ug_l162 ug_l13, ug_s ug_l162 ug_l57, none, ug_s1 ug_l162 ug_l823 226, none, none, ug_s ug_l162 [], ug_s ug_l162 ug_l6, ug_s ug_l162 ug_l7, ug_s1 ug_l162 ug_l13 227, none, none, ug_s ug_l162 ug_l2, none, none, ug_s ug_l162 [], ug_s ug_l162 ug_l2, none, none, ug_s ug_l162 [], ug_s ug_l162 ug_l2]])
def ug_l1069 : List ug_T := [some (.inl [20]), ug_z, ug_z, ug_z, ug_z]
def ug_x259 : ug_X := (50, [some (.inl [20]), ug_z], some (ug_z), 1254132641076409764034194725553647323169123957292990592, [[ug_s ug_l1069 [], ug_s ug_l1069 ug_l14, ug_s1 ug_l1069 ug_l279 260, none, none, ug_s ug_l1069 ug_l2, ug_s ug_l1069 [], ug_s ug_l1069 ug_l2, ug_s ug_l1069 [], ug_s ug_l1069 ug_l2, none, none, ug_s ug_l1069 ug_l3, none, none, ug_s ug_l1069 [], ug_s ug_l1069 ug_l2, none, none, ug_s ug_l1069 [], ug_s1 ug_l1069 ug_l14 121, none, none, ug_s ug_l1069 ug_l2, none, ug_s ug_l1069 [], none, ug_s ug_l1069 ug_l2, none, ug_s ug_l1069 ug_l3, none, none],
  [ug_s ug_l1069 [], none, ug_s ug_l1069 ug_l2, none, ug_s ug_l1069 ug_l3, none, none, ug_s ug_l1069 [], ug_s ug_l1069 ug_l2, ug_s ug_l1069 [], ug_s1 ug_l1069 ug_l14 208, none, none, ug_s ug_l1069 ug_l2, none, none, ug_s ug_l1069 [], ug_s ug_l1069 ug_l14, ug_s1 ug_l1069 ug_l279 260, none, none, ug_s ug_l1069 ug_l2, none, none, ug_s ug_l1069 [], ug_s ug_l1069 ug_l2, none, none, ug_s ug_l1069 [], ug_s ug_l1069 ug_l2, ug_s ug_l1069 [], ug_s2 ug_l1069 ug_l14 [2, 11]],
  [none, none, ug_s2 ug_l1069 ug_l75 [6, 15], none, none, ug_s ug_l1069 ug_l363, none, ug_s ug_l1069 ug_l421, none, ug_s ug_l1069 ug_l422, none, none, ug_s ug_l1069 ug_l363, ug_s ug_l1069 ug_l421, none, none, ug_s ug_l1069 ug_l363, ug_s ug_l1069 ug_l421, ug_s1 ug_l1069 ug_l422 161, none, none, ug_s ug_l1069 ug_l2, ug_s ug_l1069 [], none, none, ug_s ug_l1069 [], none, none, ug_s ug_l1069 [], ug_s ug_l1069 ug_l2]])
def ug_x260 : ug_X := (51, [some (.inl [20]), ug_z], some (ug_z), 1254132641076409764034194725553647323169123957292990592, [[ug_s ug_l1069 [], ug_s ug_l1069 ug_l14, ug_s1 ug_l1069 ug_l279 261, none, none, ug_s ug_l1069 ug_l2, ug_s ug_l1069 [], ug_s ug_l1069 ug_l2, ug_s ug_l1069 [], ug_s ug_l1069 ug_l2, none, none, ug_s ug_l1069 ug_l3, none, none, ug_s ug_l1069 [], ug_s ug_l1069 ug_l2, none, none, ug_s ug_l1069 [], ug_s1 ug_l1069 ug_l14 121, none, none, ug_s ug_l1069 ug_l2, none, ug_s ug_l1069 [], none, ug_s ug_l1069 ug_l2, none, ug_s ug_l1069 ug_l3, none, none],
  [ug_s ug_l1069 [], none, ug_s ug_l1069 ug_l2, none, ug_s ug_l1069 ug_l3, none, none, ug_s ug_l1069 [], ug_s ug_l1069 ug_l2, ug_s ug_l1069 [], ug_s1 ug_l1069 ug_l14 208, none, none, ug_s ug_l1069 ug_l2, none, none, ug_s ug_l1069 [], ug_s ug_l1069 ug_l14, ug_s1 ug_l1069 ug_l279 261, none, none, ug_s ug_l1069 ug_l2, none, none, ug_s ug_l1069 [], ug_s ug_l1069 ug_l2, none, none, ug_s ug_l1069 [], ug_s ug_l1069 ug_l2, ug_s ug_l1069 [], ug_s2 ug_l1069 ug_l14 [2, 11]],
  [none, none, ug_s2 ug_l1069 ug_l75 [6, 15], none, none, ug_s ug_l1069 ug_l363, none, ug_s ug_l1069 ug_l421, none, ug_s ug_l1069 ug_l422, none, none, ug_s ug_l1069 ug_l363, ug_s ug_l1069 ug_l421, none, none, ug_s ug_l1069 ug_l363, ug_s ug_l1069 ug_l421, ug_s1 ug_l1069 ug_l422 161, none, none, ug_s ug_l1069 ug_l2, ug_s ug_l1069 [], none, none, ug_s ug_l1069 [], none, none, ug_s ug_l1069 [], ug_s ug_l1069 ug_l2]])
def ug_l1070 : List ug_T := [some (.inl [20]), ug_z, some (.inl [6, 15])]
def ug_l1071 : List ug_T := [some (.inl [21]), ug_z, some (.inl [6, 15])]
def ug_l1072 : List ug_T := [some (.inl [23]), ug_z, some (.inl [6, 15])]
def ug_l1073 : List ug_T := [some (.inl [20]), some (.inl [23]), ug_z, some (.inl [6, 15])]
def ug_l1074 : List ug_T := [ug_z, some (.inl [23]), ug_z, some (.inl [6, 15])]
def ug_l1075 : List ug_T := [ug_j, ug_z, some (.inl [6, 15])]
def ug_x261 : ug_X := (52, [some (.inl [20]), ug_z], some (ug_z), 1254132641076409764034194725553647323169123957292990592, [[ug_s ug_l995 [], ug_s1 ug_l995 ug_l14 121, none, none, ug_s ug_l995 ug_l2, ug_s ug_l995 [], ug_s ug_l995 ug_l2, none, ug_s ug_l995 ug_l3, none, none, ug_s ug_l995 [], ug_s2 ug_l995 ug_l14 [2, 11], none, none, ug_s2 ug_l995 ug_l75 [6, 15], none, none, ug_s ug_l995 ug_l363, ug_s ug_l995 ug_l421, ug_s2 ug_l995 ug_l1070 [21], none, none, ug_s2 ug_l995 ug_l1071 [23], none, none, ug_s ug_l995 ug_l1072, ug_s ug_l995 ug_l1073, none, none, ug_s ug_l995 ug_l1074, ug_s ug_l995 ug_l1075],
  [ug_s1 ug_l995 ug_l422 161, none, none, ug_s ug_l995 ug_l2, ug_s ug_l995 [], ug_s1 ug_l995 ug_l14 208, none, none, ug_s ug_l995 ug_l2, ug_s ug_l995 [], ug_s ug_l995 ug_l2, none, ug_s ug_l995 ug_l3, none, ug_s1 ug_l995 ug_l48 100, none, none, ug_s ug_l995 ug_l2, none, none, ug_s ug_l995 [], ug_s2 ug_l995 ug_l14 [2, 11], none, none, ug_s2 ug_l995 ug_l75 [6, 15], none, none, ug_s ug_l995 ug_l363, ug_s ug_l995 ug_l421, ug_s ug_l995 ug_l422, none, ug_s ug_l995 ug_l642],
  [ug_s1 ug_l995 ug_l422 161, none, none, ug_s ug_l995 ug_l2, ug_s ug_l995 [], ug_s1 ug_l995 ug_l14 208, none, none, ug_s ug_l995 ug_l2, ug_s ug_l995 [], ug_s ug_l995 ug_l2, none, ug_s ug_l995 ug_l3, none, none, ug_s ug_l995 [], ug_s ug_l995 ug_l14, ug_s1 ug_l995 ug_l279 166, none, none, ug_s ug_l995 ug_l2, ug_s ug_l995 [], ug_s ug_l995 ug_l2, none, ug_s ug_l995 ug_l3, none, none, ug_s ug_l995 [], ug_s ug_l995 ug_l14, ug_s1 ug_l995 ug_l279 166, none, none],
  [ug_s ug_l995 ug_l2, ug_s ug_l995 [], ug_s1 ug_l995 ug_l14 208, none, none, ug_s ug_l995 ug_l2, none, none, ug_s ug_l995 [], ug_s ug_l995 ug_l14, ug_s ug_l995 ug_l279, ug_s ug_l995 ug_l281, ug_s1 ug_l995 ug_l279 259, none, none, ug_s ug_l995 ug_l2, none, none, ug_s ug_l995 [], ug_s ug_l995 ug_l14, none, ug_s1 ug_l995 ug_l279 243, none, none, ug_s ug_l995 ug_l2, none, none, ug_s ug_l995 [], ug_s ug_l995 ug_l2, none, none, ug_s ug_l995 []],
  [ug_s ug_l995 ug_l2]])
def ug_l1076 : List ug_T := [some (.inl [6, 15]), ug_z, some (.inl [7, 16])]
def ug_x262 : ug_X := (13, [some (.inl [6, 15]), ug_z], none, 65664, [[ug_s ug_l938 [], ug_s ug_l938 ug_l2, none, none, ug_s ug_l938 [], ug_s ug_l938 ug_l2, ug_s ug_l938 ug_l938, none, none, ug_s ug_l938 ug_l3, none, none, ug_s ug_l938 [], ug_s2 ug_l938 ug_l363 [7, 16], none, none, ug_s ug_l938 ug_l643, ug_s ug_l938 ug_l645, ug_s ug_l938 ug_l1076, none, none, ug_s ug_l938 ug_l646, ug_s ug_l938 ug_l647, ug_s ug_l938 ug_l646, none, ug_s ug_l938 ug_l647, ug_s ug_l938 ug_l646, ug_s ug_l938 []]])
def ug_C0 : List (Option ug_X) := [some ug_x0, some ug_x1, some ug_x2, some ug_x3, some ug_x4, some ug_x5, some ug_x6, some ug_x7, some ug_x8, some ug_x9, some ug_x10, some ug_x11, some ug_x12, some ug_x13, some ug_x14, some ug_x15, some ug_x16, some ug_x17, some ug_x18, some ug_x19, some ug_x20, some ug_x21, some ug_x22, some ug_x23, some ug_x24, some ug_x25, some ug_x26, some ug_x27, some ug_x28, some ug_x29, some ug_x30, some ug_x31]
def ug_C1 : List (Option ug_X) := [some ug_x32, some ug_x33, some ug_x34, some ug_x35, some ug_x36, some ug_x37, some ug_x38, some ug_x39, some ug_x40, some ug_x41, some ug_x42, some ug_x43, some ug_x44, some ug_x45, some ug_x46, some ug_x47, some ug_x48, some ug_x49, some ug_x50, some ug_x51, some ug_x52, some ug_x53, some ug_x54, some ug_x55, some ug_x56, some ug_x57, some ug_x58, some ug_x59, some ug_x60, some ug_x61, some ug_x62, some ug_x63]
def ug_C2 : List (Option ug_X) := [some ug_x64, some ug_x65, some ug_x66, some ug_x67, some ug_x68, some ug_x69, some ug_x70, some ug_x71, some ug_x72, some ug_x73, some ug_x74, some ug_x75, some ug_x76, some ug_x77, some ug_x78, some ug_x79, some ug_x80, some ug_x81, some ug_x82, some ug_x83, some ug_x84, some ug_x85, some ug_x86, some ug_x87, some ug_x88, some ug_x89, some ug_x90, some ug_x91, some ug_x92, some ug_x93, some ug_x94, some ug_x95]
def ug_C3 : List (Option ug_X) := [some ug_x96, some ug_x97, some ug_x98, some ug_x99, some ug_x100, some ug_x101, some ug_x102, some ug_x103, some ug_x104, some ug_x105, some ug_x106, some ug_x107, some ug_x108, some ug_x109, some ug_x110, some ug_x111, some ug_x112, some ug_x113, some ug_x114, some ug_x115, some ug_x116, some ug_x117, some ug_x118, some ug_x119, some ug_x120, some ug_x121, some ug_x122, some ug_x123, some ug_x124, some ug_x125, some ug_x126, some ug_x127]
def ug_C4 : List (Option ug_X) := [some ug_x128, some ug_x129, some ug_x130, some ug_x131, some ug_x132, some ug_x133, some ug_x134, some ug_x135, some ug_x136, some ug_x137, some ug_x138, some ug_x139, some ug_x140, some ug_x141, some ug_x142, some ug_x143, some ug_x144, some ug_x145, some ug_x146, some ug_x147, some ug_x148, some ug_x149, some ug_x150, some ug_x151, some ug_x152, some ug_x153, some ug_x154, some ug_x155, some ug_x156, some ug_x157, some ug_x158, some ug_x159]
def ug_C5 : List (Option ug_X) := [some ug_x160, some ug_x161, some ug_x162, some ug_x163, some ug_x164, some ug_x165, some ug_x166, some ug_x167, some ug_x168, some ug_x169, some ug_x170, some ug_x171, some ug_x172, some ug_x173, some ug_x174, some ug_x175, some ug_x176, some ug_x177, some ug_x178, some ug_x179, some ug_x180, some ug_x181, some ug_x182, some ug_x183, some ug_x184, some ug_x185, some ug_x186, some ug_x187, some ug_x188, some ug_x189, some ug_x190, some ug_x191]
def ug_C6 : List (Option ug_X) := [some ug_x192, some ug_x193, some ug_x194, some ug_x195, some ug_x196, some ug_x197, some ug_x198, some ug_x199, some ug_x200, some ug_x201, some ug_x202, some ug_x203, some ug_x204, some ug_x205, some ug_x206, some ug_x207, some ug_x208, some ug_x209, some ug_x210, some ug_x211, some ug_x212, some ug_x213, some ug_x214, some ug_x215, some ug_x216, some ug_x217, some ug_x218, some ug_x219, some ug_x220, some ug_x221, some ug_x222, some ug_x223]
def ug_C7 : List (Option ug_X) := [some ug_x224, some ug_x225, some ug_x226, some ug_x227, some ug_x228, some ug_x229, some ug_x230, some ug_x231, some ug_x232, some ug_x233, some ug_x234, some ug_x235, some ug_x236, some ug_x237, some ug_x238, some ug_x239, some ug_x240, some ug_x241, some ug_x242, some ug_x243, some ug_x244, some ug_x245, some ug_x246, some ug_x247, some ug_x248, some ug_x249, some ug_x250, some ug_x251, some ug_x252, some ug_x253, some ug_x254, some ug_x255]
def ug_C8 : List (Option ug_X) := [some ug_x256, some ug_x257, some ug_x258, some ug_x259, some ug_x260, some ug_x261, some ug_x262]
def ug_C : List (List (Option ug_X)) := [ug_C0, ug_C1, ug_C2, ug_C3, ug_C4, ug_C5, ug_C6, ug_C7, ug_C8]
set_option maxRecDepth 1000000 in
theorem ug_C0_ok : ug_C0.all (fun o => match o with
  | none => true
  | some X => ug_okX (hc_get ug_C) hm_pg X) = true := by decide +kernel
set_option maxRecDepth 1000000 in
theorem ug_C1_ok : ug_C1.all (fun o => match o with
  | none => true
  | some X => ug_okX (hc_get ug_C) hm_pg X) = true := by decide +kernel
set_option maxRecDepth 1000000 in
theorem ug_C2_ok : ug_C2.all (fun o => match o with
  | none => true
  | some X => ug_okX (hc_get ug_C) hm_pg X) = true := by decide +kernel
set_option maxRecDepth 1000000 in
theorem ug_C3_ok : ug_C3.all (fun o => match o with
  | none => true
  | some X => ug_okX (hc_get ug_C) hm_pg X) = true := by decide +kernel
set_option maxRecDepth 1000000 in
theorem ug_C4_ok : ug_C4.all (fun o => match o with
  | none => true
  | some X => ug_okX (hc_get ug_C) hm_pg X) = true := by decide +kernel
set_option maxRecDepth 1000000 in
theorem ug_C5_ok : ug_C5.all (fun o => match o with
  | none => true
  | some X => ug_okX (hc_get ug_C) hm_pg X) = true := by decide +kernel
set_option maxRecDepth 1000000 in
theorem ug_C6_ok : ug_C6.all (fun o => match o with
  | none => true
  | some X => ug_okX (hc_get ug_C) hm_pg X) = true := by decide +kernel
set_option maxRecDepth 1000000 in
theorem ug_C7_ok : ug_C7.all (fun o => match o with
  | none => true
  | some X => ug_okX (hc_get ug_C) hm_pg X) = true := by decide +kernel
set_option maxRecDepth 1000000 in
theorem ug_C8_ok : ug_C8.all (fun o => match o with
  | none => true
  | some X => ug_okX (hc_get ug_C) hm_pg X) = true := by decide +kernel
theorem ug_ok : ∀ (j : Nat) (X : ug_X), hc_get ug_C j = some X → ug_okX (hc_get ug_C) hm_pg X = true := by
  intro j X h
  have h0 := h
  unfold hc_get at h
  split at h
  · cases h
  next ch h1 =>
    rw [hc_nth_eq] at h1
    have m1 := List.mem_of_getElem? h1
    split at h
    · cases h
    next x h2 =>
      subst h
      rw [hc_nth_eq] at h2
      have m2 := List.mem_of_getElem? h2
      have key : ch.all (fun o => match o with
        | none => true
        | some X => ug_okX (hc_get ug_C) hm_pg X) = true := by
        simp only [ug_C, List.mem_cons, List.not_mem_nil, or_false] at m1
        rcases m1 with rfl | rfl | rfl | rfl | rfl | rfl | rfl | rfl | rfl
        · exact ug_C0_ok
        · exact ug_C1_ok
        · exact ug_C2_ok
        · exact ug_C3_ok
        · exact ug_C4_ok
        · exact ug_C5_ok
        · exact ug_C6_ok
        · exact ug_C7_ok
        · exact ug_C8_ok
      exact List.all_eq_true.mp key _ m2
theorem ug_call (g d : Nat) : ug_G (hc_get ug_C) hm_pg (hx_call g d) := ug_ev ug_ok g d
