/-! each method, by the kernel, in bundles (written by wip/gen/endparts2.py) -/
theorem band2 {a b : Bool} (h : (a && b) = true) : a = true ∧ b = true := by
  cases a
  · cases h
  · exact ⟨rfl, h⟩
theorem okc_0 : (okS cd35 35 66 (mB 35).data.toList 0 && (okS cd208 208 18 (mB 208).data.toList 0 && (okS cd214 214 18 (mB 214).data.toList 0 && (okS cd231 231 18 (mB 231).data.toList 0 && (okS cd0 0 116 (mB 0).data.toList 0 && (okS cd1 1 130 (mB 1).data.toList 0 && (okS cd2 2 214 (mB 2).data.toList 0 && (okS cd3 3 48 (mB 3).data.toList 0 && (okS cd4 4 24 (mB 4).data.toList 0 && okS cd5 5 24 (mB 5).data.toList 0))))))))) = true := by decide +kernel
theorem ok35 : ∀ pc, okE 35 pc (cd35 pc) = true := okS_of rfl (band2 okc_0).1
theorem ok208 : ∀ pc, okE 208 pc (cd208 pc) = true := okS_of rfl (band2 (band2 okc_0).2).1
theorem ok214 : ∀ pc, okE 214 pc (cd214 pc) = true := okS_of rfl (band2 (band2 (band2 okc_0).2).2).1
theorem ok231 : ∀ pc, okE 231 pc (cd231 pc) = true := okS_of rfl (band2 (band2 (band2 (band2 okc_0).2).2).2).1
theorem ok0 : ∀ pc, okE 0 pc (cd0 pc) = true := okS_of rfl (band2 (band2 (band2 (band2 (band2 okc_0).2).2).2).2).1
theorem ok1 : ∀ pc, okE 1 pc (cd1 pc) = true := okS_of rfl (band2 (band2 (band2 (band2 (band2 (band2 okc_0).2).2).2).2).2).1
theorem ok2 : ∀ pc, okE 2 pc (cd2 pc) = true := okS_of rfl (band2 (band2 (band2 (band2 (band2 (band2 (band2 okc_0).2).2).2).2).2).2).1
theorem ok3 : ∀ pc, okE 3 pc (cd3 pc) = true := okS_of rfl (band2 (band2 (band2 (band2 (band2 (band2 (band2 (band2 okc_0).2).2).2).2).2).2).2).1
theorem ok4 : ∀ pc, okE 4 pc (cd4 pc) = true := okS_of rfl (band2 (band2 (band2 (band2 (band2 (band2 (band2 (band2 (band2 okc_0).2).2).2).2).2).2).2).2).1
theorem ok5 : ∀ pc, okE 5 pc (cd5 pc) = true := okS_of rfl (band2 (band2 (band2 (band2 (band2 (band2 (band2 (band2 (band2 okc_0).2).2).2).2).2).2).2).2).2
theorem okc_1 : (okS cd6 6 24 (mB 6).data.toList 0 && (okS cd7 7 32 (mB 7).data.toList 0 && (okS cd8 8 24 (mB 8).data.toList 0 && (okS cd9 9 67 (mB 9).data.toList 0 && (okS cd10 10 56 (mB 10).data.toList 0 && (okS cd11 11 53 (mB 11).data.toList 0 && (okS cd12 12 25 (mB 12).data.toList 0 && (okS cd13 13 51 (mB 13).data.toList 0 && (okS cd14 14 25 (mB 14).data.toList 0 && okS cd15 15 47 (mB 15).data.toList 0))))))))) = true := by decide +kernel
theorem ok6 : ∀ pc, okE 6 pc (cd6 pc) = true := okS_of rfl (band2 okc_1).1
theorem ok7 : ∀ pc, okE 7 pc (cd7 pc) = true := okS_of rfl (band2 (band2 okc_1).2).1
theorem ok8 : ∀ pc, okE 8 pc (cd8 pc) = true := okS_of rfl (band2 (band2 (band2 okc_1).2).2).1
theorem ok9 : ∀ pc, okE 9 pc (cd9 pc) = true := okS_of rfl (band2 (band2 (band2 (band2 okc_1).2).2).2).1
theorem ok10 : ∀ pc, okE 10 pc (cd10 pc) = true := okS_of rfl (band2 (band2 (band2 (band2 (band2 okc_1).2).2).2).2).1
theorem ok11 : ∀ pc, okE 11 pc (cd11 pc) = true := okS_of rfl (band2 (band2 (band2 (band2 (band2 (band2 okc_1).2).2).2).2).2).1
theorem ok12 : ∀ pc, okE 12 pc (cd12 pc) = true := okS_of rfl (band2 (band2 (band2 (band2 (band2 (band2 (band2 okc_1).2).2).2).2).2).2).1
theorem ok13 : ∀ pc, okE 13 pc (cd13 pc) = true := okS_of rfl (band2 (band2 (band2 (band2 (band2 (band2 (band2 (band2 okc_1).2).2).2).2).2).2).2).1
theorem ok14 : ∀ pc, okE 14 pc (cd14 pc) = true := okS_of rfl (band2 (band2 (band2 (band2 (band2 (band2 (band2 (band2 (band2 okc_1).2).2).2).2).2).2).2).2).1
theorem ok15 : ∀ pc, okE 15 pc (cd15 pc) = true := okS_of rfl (band2 (band2 (band2 (band2 (band2 (band2 (band2 (band2 (band2 okc_1).2).2).2).2).2).2).2).2).2
theorem okc_2 : (okS cd16 16 65 (mB 16).data.toList 0 && (okS cd17 17 131 (mB 17).data.toList 0 && (okS cd18 18 32 (mB 18).data.toList 0 && (okS cd19 19 52 (mB 19).data.toList 0 && (okS cd20 20 120 (mB 20).data.toList 0 && (okS cd21 21 58 (mB 21).data.toList 0 && (okS cd22 22 112 (mB 22).data.toList 0 && (okS cd23 23 100 (mB 23).data.toList 0 && (okS cd24 24 85 (mB 24).data.toList 0 && okS cd25 25 121 (mB 25).data.toList 0))))))))) = true := by decide +kernel
theorem ok16 : ∀ pc, okE 16 pc (cd16 pc) = true := okS_of rfl (band2 okc_2).1
theorem ok17 : ∀ pc, okE 17 pc (cd17 pc) = true := okS_of rfl (band2 (band2 okc_2).2).1
theorem ok18 : ∀ pc, okE 18 pc (cd18 pc) = true := okS_of rfl (band2 (band2 (band2 okc_2).2).2).1
theorem ok19 : ∀ pc, okE 19 pc (cd19 pc) = true := okS_of rfl (band2 (band2 (band2 (band2 okc_2).2).2).2).1
theorem ok20 : ∀ pc, okE 20 pc (cd20 pc) = true := okS_of rfl (band2 (band2 (band2 (band2 (band2 okc_2).2).2).2).2).1
theorem ok21 : ∀ pc, okE 21 pc (cd21 pc) = true := okS_of rfl (band2 (band2 (band2 (band2 (band2 (band2 okc_2).2).2).2).2).2).1
theorem ok22 : ∀ pc, okE 22 pc (cd22 pc) = true := okS_of rfl (band2 (band2 (band2 (band2 (band2 (band2 (band2 okc_2).2).2).2).2).2).2).1
theorem ok23 : ∀ pc, okE 23 pc (cd23 pc) = true := okS_of rfl (band2 (band2 (band2 (band2 (band2 (band2 (band2 (band2 okc_2).2).2).2).2).2).2).2).1
theorem ok24 : ∀ pc, okE 24 pc (cd24 pc) = true := okS_of rfl (band2 (band2 (band2 (band2 (band2 (band2 (band2 (band2 (band2 okc_2).2).2).2).2).2).2).2).2).1
theorem ok25 : ∀ pc, okE 25 pc (cd25 pc) = true := okS_of rfl (band2 (band2 (band2 (band2 (band2 (band2 (band2 (band2 (band2 okc_2).2).2).2).2).2).2).2).2).2
theorem okc_3 : (okS cd26 26 77 (mB 26).data.toList 0 && (okS cd27 27 133 (mB 27).data.toList 0 && (okS cd28 28 162 (mB 28).data.toList 0 && (okS cd29 29 24 (mB 29).data.toList 0 && (okS cd30 30 29 (mB 30).data.toList 0 && (okS cd31 31 119 (mB 31).data.toList 0 && (okS cd32 32 69 (mB 32).data.toList 0 && (okS cd33 33 44 (mB 33).data.toList 0 && (okS cd34 34 44 (mB 34).data.toList 0 && okS cd36 36 130 (mB 36).data.toList 0))))))))) = true := by decide +kernel
theorem ok26 : ∀ pc, okE 26 pc (cd26 pc) = true := okS_of rfl (band2 okc_3).1
theorem ok27 : ∀ pc, okE 27 pc (cd27 pc) = true := okS_of rfl (band2 (band2 okc_3).2).1
theorem ok28 : ∀ pc, okE 28 pc (cd28 pc) = true := okS_of rfl (band2 (band2 (band2 okc_3).2).2).1
theorem ok29 : ∀ pc, okE 29 pc (cd29 pc) = true := okS_of rfl (band2 (band2 (band2 (band2 okc_3).2).2).2).1
theorem ok30 : ∀ pc, okE 30 pc (cd30 pc) = true := okS_of rfl (band2 (band2 (band2 (band2 (band2 okc_3).2).2).2).2).1
theorem ok31 : ∀ pc, okE 31 pc (cd31 pc) = true := okS_of rfl (band2 (band2 (band2 (band2 (band2 (band2 okc_3).2).2).2).2).2).1
theorem ok32 : ∀ pc, okE 32 pc (cd32 pc) = true := okS_of rfl (band2 (band2 (band2 (band2 (band2 (band2 (band2 okc_3).2).2).2).2).2).2).1
theorem ok33 : ∀ pc, okE 33 pc (cd33 pc) = true := okS_of rfl (band2 (band2 (band2 (band2 (band2 (band2 (band2 (band2 okc_3).2).2).2).2).2).2).2).1
theorem ok34 : ∀ pc, okE 34 pc (cd34 pc) = true := okS_of rfl (band2 (band2 (band2 (band2 (band2 (band2 (band2 (band2 (band2 okc_3).2).2).2).2).2).2).2).2).1
theorem ok36 : ∀ pc, okE 36 pc (cd36 pc) = true := okS_of rfl (band2 (band2 (band2 (band2 (band2 (band2 (band2 (band2 (band2 okc_3).2).2).2).2).2).2).2).2).2
theorem okc_4 : (okS cd37 37 27 (mB 37).data.toList 0 && (okS cd38 38 27 (mB 38).data.toList 0 && (okS cd39 39 16 (mB 39).data.toList 0 && (okS cd40 40 16 (mB 40).data.toList 0 && (okS cd41 41 17 (mB 41).data.toList 0 && (okS cd42 42 15 (mB 42).data.toList 0 && (okS cd43 43 43 (mB 43).data.toList 0 && (okS cd44 44 43 (mB 44).data.toList 0 && (okS cd45 45 124 (mB 45).data.toList 0 && okS cd46 46 35 (mB 46).data.toList 0))))))))) = true := by decide +kernel
theorem ok37 : ∀ pc, okE 37 pc (cd37 pc) = true := okS_of rfl (band2 okc_4).1
theorem ok38 : ∀ pc, okE 38 pc (cd38 pc) = true := okS_of rfl (band2 (band2 okc_4).2).1
theorem ok39 : ∀ pc, okE 39 pc (cd39 pc) = true := okS_of rfl (band2 (band2 (band2 okc_4).2).2).1
theorem ok40 : ∀ pc, okE 40 pc (cd40 pc) = true := okS_of rfl (band2 (band2 (band2 (band2 okc_4).2).2).2).1
theorem ok41 : ∀ pc, okE 41 pc (cd41 pc) = true := okS_of rfl (band2 (band2 (band2 (band2 (band2 okc_4).2).2).2).2).1
theorem ok42 : ∀ pc, okE 42 pc (cd42 pc) = true := okS_of rfl (band2 (band2 (band2 (band2 (band2 (band2 okc_4).2).2).2).2).2).1
theorem ok43 : ∀ pc, okE 43 pc (cd43 pc) = true := okS_of rfl (band2 (band2 (band2 (band2 (band2 (band2 (band2 okc_4).2).2).2).2).2).2).1
theorem ok44 : ∀ pc, okE 44 pc (cd44 pc) = true := okS_of rfl (band2 (band2 (band2 (band2 (band2 (band2 (band2 (band2 okc_4).2).2).2).2).2).2).2).1
theorem ok45 : ∀ pc, okE 45 pc (cd45 pc) = true := okS_of rfl (band2 (band2 (band2 (band2 (band2 (band2 (band2 (band2 (band2 okc_4).2).2).2).2).2).2).2).2).1
theorem ok46 : ∀ pc, okE 46 pc (cd46 pc) = true := okS_of rfl (band2 (band2 (band2 (band2 (band2 (band2 (band2 (band2 (band2 okc_4).2).2).2).2).2).2).2).2).2
theorem okc_5 : (okS cd47 47 75 (mB 47).data.toList 0 && (okS cd48 48 103 (mB 48).data.toList 0 && (okS cd49 49 204 (mB 49).data.toList 0 && (okS cd50 50 23 (mB 50).data.toList 0 && (okS cd51 51 66 (mB 51).data.toList 0 && (okS cd52 52 41 (mB 52).data.toList 0 && (okS cd53 53 42 (mB 53).data.toList 0 && (okS cd54 54 86 (mB 54).data.toList 0 && (okS cd55 55 42 (mB 55).data.toList 0 && okS cd56 56 25 (mB 56).data.toList 0))))))))) = true := by decide +kernel
theorem ok47 : ∀ pc, okE 47 pc (cd47 pc) = true := okS_of rfl (band2 okc_5).1
theorem ok48 : ∀ pc, okE 48 pc (cd48 pc) = true := okS_of rfl (band2 (band2 okc_5).2).1
theorem ok49 : ∀ pc, okE 49 pc (cd49 pc) = true := okS_of rfl (band2 (band2 (band2 okc_5).2).2).1
theorem ok50 : ∀ pc, okE 50 pc (cd50 pc) = true := okS_of rfl (band2 (band2 (band2 (band2 okc_5).2).2).2).1
theorem ok51 : ∀ pc, okE 51 pc (cd51 pc) = true := okS_of rfl (band2 (band2 (band2 (band2 (band2 okc_5).2).2).2).2).1
theorem ok52 : ∀ pc, okE 52 pc (cd52 pc) = true := okS_of rfl (band2 (band2 (band2 (band2 (band2 (band2 okc_5).2).2).2).2).2).1
theorem ok53 : ∀ pc, okE 53 pc (cd53 pc) = true := okS_of rfl (band2 (band2 (band2 (band2 (band2 (band2 (band2 okc_5).2).2).2).2).2).2).1
theorem ok54 : ∀ pc, okE 54 pc (cd54 pc) = true := okS_of rfl (band2 (band2 (band2 (band2 (band2 (band2 (band2 (band2 okc_5).2).2).2).2).2).2).2).1
theorem ok55 : ∀ pc, okE 55 pc (cd55 pc) = true := okS_of rfl (band2 (band2 (band2 (band2 (band2 (band2 (band2 (band2 (band2 okc_5).2).2).2).2).2).2).2).2).1
theorem ok56 : ∀ pc, okE 56 pc (cd56 pc) = true := okS_of rfl (band2 (band2 (band2 (band2 (band2 (band2 (band2 (band2 (band2 okc_5).2).2).2).2).2).2).2).2).2
theorem okc_6 : (okS cd57 57 42 (mB 57).data.toList 0 && (okS cd58 58 97 (mB 58).data.toList 0 && (okS cd59 59 53 (mB 59).data.toList 0 && (okS cd60 60 36 (mB 60).data.toList 0 && (okS cd61 61 133 (mB 61).data.toList 0 && (okS cd62 62 16 (mB 62).data.toList 0 && (okS cd63 63 12 (mB 63).data.toList 0 && (okS cd64 64 8 (mB 64).data.toList 0 && (okS cd65 65 31 (mB 65).data.toList 0 && okS cd66 66 30 (mB 66).data.toList 0))))))))) = true := by decide +kernel
theorem ok57 : ∀ pc, okE 57 pc (cd57 pc) = true := okS_of rfl (band2 okc_6).1
theorem ok58 : ∀ pc, okE 58 pc (cd58 pc) = true := okS_of rfl (band2 (band2 okc_6).2).1
theorem ok59 : ∀ pc, okE 59 pc (cd59 pc) = true := okS_of rfl (band2 (band2 (band2 okc_6).2).2).1
theorem ok60 : ∀ pc, okE 60 pc (cd60 pc) = true := okS_of rfl (band2 (band2 (band2 (band2 okc_6).2).2).2).1
theorem ok61 : ∀ pc, okE 61 pc (cd61 pc) = true := okS_of rfl (band2 (band2 (band2 (band2 (band2 okc_6).2).2).2).2).1
theorem ok62 : ∀ pc, okE 62 pc (cd62 pc) = true := okS_of rfl (band2 (band2 (band2 (band2 (band2 (band2 okc_6).2).2).2).2).2).1
theorem ok63 : ∀ pc, okE 63 pc (cd63 pc) = true := okS_of rfl (band2 (band2 (band2 (band2 (band2 (band2 (band2 okc_6).2).2).2).2).2).2).1
theorem ok64 : ∀ pc, okE 64 pc (cd64 pc) = true := okS_of rfl (band2 (band2 (band2 (band2 (band2 (band2 (band2 (band2 okc_6).2).2).2).2).2).2).2).1
theorem ok65 : ∀ pc, okE 65 pc (cd65 pc) = true := okS_of rfl (band2 (band2 (band2 (band2 (band2 (band2 (band2 (band2 (band2 okc_6).2).2).2).2).2).2).2).2).1
theorem ok66 : ∀ pc, okE 66 pc (cd66 pc) = true := okS_of rfl (band2 (band2 (band2 (band2 (band2 (band2 (band2 (band2 (band2 okc_6).2).2).2).2).2).2).2).2).2
theorem okc_7 : (okS cd67 67 31 (mB 67).data.toList 0 && (okS cd68 68 89 (mB 68).data.toList 0 && (okS cd69 69 53 (mB 69).data.toList 0 && (okS cd70 70 79 (mB 70).data.toList 0 && (okS cd71 71 46 (mB 71).data.toList 0 && (okS cd72 72 34 (mB 72).data.toList 0 && (okS cd73 73 63 (mB 73).data.toList 0 && (okS cd74 74 41 (mB 74).data.toList 0 && (okS cd75 75 32 (mB 75).data.toList 0 && okS cd76 76 83 (mB 76).data.toList 0))))))))) = true := by decide +kernel
theorem ok67 : ∀ pc, okE 67 pc (cd67 pc) = true := okS_of rfl (band2 okc_7).1
theorem ok68 : ∀ pc, okE 68 pc (cd68 pc) = true := okS_of rfl (band2 (band2 okc_7).2).1
theorem ok69 : ∀ pc, okE 69 pc (cd69 pc) = true := okS_of rfl (band2 (band2 (band2 okc_7).2).2).1
theorem ok70 : ∀ pc, okE 70 pc (cd70 pc) = true := okS_of rfl (band2 (band2 (band2 (band2 okc_7).2).2).2).1
theorem ok71 : ∀ pc, okE 71 pc (cd71 pc) = true := okS_of rfl (band2 (band2 (band2 (band2 (band2 okc_7).2).2).2).2).1
theorem ok72 : ∀ pc, okE 72 pc (cd72 pc) = true := okS_of rfl (band2 (band2 (band2 (band2 (band2 (band2 okc_7).2).2).2).2).2).1
theorem ok73 : ∀ pc, okE 73 pc (cd73 pc) = true := okS_of rfl (band2 (band2 (band2 (band2 (band2 (band2 (band2 okc_7).2).2).2).2).2).2).1
theorem ok74 : ∀ pc, okE 74 pc (cd74 pc) = true := okS_of rfl (band2 (band2 (band2 (band2 (band2 (band2 (band2 (band2 okc_7).2).2).2).2).2).2).2).1
theorem ok75 : ∀ pc, okE 75 pc (cd75 pc) = true := okS_of rfl (band2 (band2 (band2 (band2 (band2 (band2 (band2 (band2 (band2 okc_7).2).2).2).2).2).2).2).2).1
theorem ok76 : ∀ pc, okE 76 pc (cd76 pc) = true := okS_of rfl (band2 (band2 (band2 (band2 (band2 (band2 (band2 (band2 (band2 okc_7).2).2).2).2).2).2).2).2).2
theorem okc_8 : (okS cd77 77 159 (mB 77).data.toList 0 && (okS cd78 78 63 (mB 78).data.toList 0 && (okS cd79 79 45 (mB 79).data.toList 0 && (okS cd80 80 32 (mB 80).data.toList 0 && (okS cd81 81 59 (mB 81).data.toList 0 && (okS cd82 82 40 (mB 82).data.toList 0 && (okS cd83 83 18 (mB 83).data.toList 0 && (okS cd84 84 34 (mB 84).data.toList 0 && (okS cd85 85 30 (mB 85).data.toList 0 && okS cd86 86 69 (mB 86).data.toList 0))))))))) = true := by decide +kernel
theorem ok77 : ∀ pc, okE 77 pc (cd77 pc) = true := okS_of rfl (band2 okc_8).1
theorem ok78 : ∀ pc, okE 78 pc (cd78 pc) = true := okS_of rfl (band2 (band2 okc_8).2).1
theorem ok79 : ∀ pc, okE 79 pc (cd79 pc) = true := okS_of rfl (band2 (band2 (band2 okc_8).2).2).1
theorem ok80 : ∀ pc, okE 80 pc (cd80 pc) = true := okS_of rfl (band2 (band2 (band2 (band2 okc_8).2).2).2).1
theorem ok81 : ∀ pc, okE 81 pc (cd81 pc) = true := okS_of rfl (band2 (band2 (band2 (band2 (band2 okc_8).2).2).2).2).1
theorem ok82 : ∀ pc, okE 82 pc (cd82 pc) = true := okS_of rfl (band2 (band2 (band2 (band2 (band2 (band2 okc_8).2).2).2).2).2).1
theorem ok83 : ∀ pc, okE 83 pc (cd83 pc) = true := okS_of rfl (band2 (band2 (band2 (band2 (band2 (band2 (band2 okc_8).2).2).2).2).2).2).1
theorem ok84 : ∀ pc, okE 84 pc (cd84 pc) = true := okS_of rfl (band2 (band2 (band2 (band2 (band2 (band2 (band2 (band2 okc_8).2).2).2).2).2).2).2).1
theorem ok85 : ∀ pc, okE 85 pc (cd85 pc) = true := okS_of rfl (band2 (band2 (band2 (band2 (band2 (band2 (band2 (band2 (band2 okc_8).2).2).2).2).2).2).2).2).1
theorem ok86 : ∀ pc, okE 86 pc (cd86 pc) = true := okS_of rfl (band2 (band2 (band2 (band2 (band2 (band2 (band2 (band2 (band2 okc_8).2).2).2).2).2).2).2).2).2
theorem okc_9 : (okS cd87 87 18 (mB 87).data.toList 0 && (okS cd88 88 110 (mB 88).data.toList 0 && (okS cd89 89 29 (mB 89).data.toList 0 && (okS cd90 90 112 (mB 90).data.toList 0 && (okS cd91 91 18 (mB 91).data.toList 0 && (okS cd92 92 51 (mB 92).data.toList 0 && (okS cd93 93 87 (mB 93).data.toList 0 && (okS cd94 94 275 (mB 94).data.toList 0 && (okS cd95 95 183 (mB 95).data.toList 0 && okS cd96 96 19 (mB 96).data.toList 0))))))))) = true := by decide +kernel
theorem ok87 : ∀ pc, okE 87 pc (cd87 pc) = true := okS_of rfl (band2 okc_9).1
theorem ok88 : ∀ pc, okE 88 pc (cd88 pc) = true := okS_of rfl (band2 (band2 okc_9).2).1
theorem ok89 : ∀ pc, okE 89 pc (cd89 pc) = true := okS_of rfl (band2 (band2 (band2 okc_9).2).2).1
theorem ok90 : ∀ pc, okE 90 pc (cd90 pc) = true := okS_of rfl (band2 (band2 (band2 (band2 okc_9).2).2).2).1
theorem ok91 : ∀ pc, okE 91 pc (cd91 pc) = true := okS_of rfl (band2 (band2 (band2 (band2 (band2 okc_9).2).2).2).2).1
theorem ok92 : ∀ pc, okE 92 pc (cd92 pc) = true := okS_of rfl (band2 (band2 (band2 (band2 (band2 (band2 okc_9).2).2).2).2).2).1
theorem ok93 : ∀ pc, okE 93 pc (cd93 pc) = true := okS_of rfl (band2 (band2 (band2 (band2 (band2 (band2 (band2 okc_9).2).2).2).2).2).2).1
theorem ok94 : ∀ pc, okE 94 pc (cd94 pc) = true := okS_of rfl (band2 (band2 (band2 (band2 (band2 (band2 (band2 (band2 okc_9).2).2).2).2).2).2).2).1
theorem ok95 : ∀ pc, okE 95 pc (cd95 pc) = true := okS_of rfl (band2 (band2 (band2 (band2 (band2 (band2 (band2 (band2 (band2 okc_9).2).2).2).2).2).2).2).2).1
theorem ok96 : ∀ pc, okE 96 pc (cd96 pc) = true := okS_of rfl (band2 (band2 (band2 (band2 (band2 (band2 (band2 (band2 (band2 okc_9).2).2).2).2).2).2).2).2).2
theorem okc_10 : (okS cd97 97 247 (mB 97).data.toList 0 && (okS cd98 98 51 (mB 98).data.toList 0 && (okS cd99 99 43 (mB 99).data.toList 0 && (okS cd100 100 99 (mB 100).data.toList 0 && (okS cd101 101 38 (mB 101).data.toList 0 && (okS cd102 102 46 (mB 102).data.toList 0 && (okS cd103 103 28 (mB 103).data.toList 0 && (okS cd104 104 45 (mB 104).data.toList 0 && (okS cd105 105 90 (mB 105).data.toList 0 && okS cd106 106 53 (mB 106).data.toList 0))))))))) = true := by decide +kernel
theorem ok97 : ∀ pc, okE 97 pc (cd97 pc) = true := okS_of rfl (band2 okc_10).1
theorem ok98 : ∀ pc, okE 98 pc (cd98 pc) = true := okS_of rfl (band2 (band2 okc_10).2).1
theorem ok99 : ∀ pc, okE 99 pc (cd99 pc) = true := okS_of rfl (band2 (band2 (band2 okc_10).2).2).1
theorem ok100 : ∀ pc, okE 100 pc (cd100 pc) = true := okS_of rfl (band2 (band2 (band2 (band2 okc_10).2).2).2).1
theorem ok101 : ∀ pc, okE 101 pc (cd101 pc) = true := okS_of rfl (band2 (band2 (band2 (band2 (band2 okc_10).2).2).2).2).1
theorem ok102 : ∀ pc, okE 102 pc (cd102 pc) = true := okS_of rfl (band2 (band2 (band2 (band2 (band2 (band2 okc_10).2).2).2).2).2).1
theorem ok103 : ∀ pc, okE 103 pc (cd103 pc) = true := okS_of rfl (band2 (band2 (band2 (band2 (band2 (band2 (band2 okc_10).2).2).2).2).2).2).1
theorem ok104 : ∀ pc, okE 104 pc (cd104 pc) = true := okS_of rfl (band2 (band2 (band2 (band2 (band2 (band2 (band2 (band2 okc_10).2).2).2).2).2).2).2).1
theorem ok105 : ∀ pc, okE 105 pc (cd105 pc) = true := okS_of rfl (band2 (band2 (band2 (band2 (band2 (band2 (band2 (band2 (band2 okc_10).2).2).2).2).2).2).2).2).1
theorem ok106 : ∀ pc, okE 106 pc (cd106 pc) = true := okS_of rfl (band2 (band2 (band2 (band2 (band2 (band2 (band2 (band2 (band2 okc_10).2).2).2).2).2).2).2).2).2
theorem okc_11 : (okS cd107 107 30 (mB 107).data.toList 0 && (okS cd108 108 52 (mB 108).data.toList 0 && (okS cd109 109 118 (mB 109).data.toList 0 && (okS cd110 110 31 (mB 110).data.toList 0 && (okS cd111 111 24 (mB 111).data.toList 0 && (okS cd112 112 16 (mB 112).data.toList 0 && (okS cd113 113 193 (mB 113).data.toList 0 && (okS cd114 114 26 (mB 114).data.toList 0 && (okS cd115 115 177 (mB 115).data.toList 0 && okS cd116 116 50 (mB 116).data.toList 0))))))))) = true := by decide +kernel
theorem ok107 : ∀ pc, okE 107 pc (cd107 pc) = true := okS_of rfl (band2 okc_11).1
theorem ok108 : ∀ pc, okE 108 pc (cd108 pc) = true := okS_of rfl (band2 (band2 okc_11).2).1
theorem ok109 : ∀ pc, okE 109 pc (cd109 pc) = true := okS_of rfl (band2 (band2 (band2 okc_11).2).2).1
theorem ok110 : ∀ pc, okE 110 pc (cd110 pc) = true := okS_of rfl (band2 (band2 (band2 (band2 okc_11).2).2).2).1
theorem ok111 : ∀ pc, okE 111 pc (cd111 pc) = true := okS_of rfl (band2 (band2 (band2 (band2 (band2 okc_11).2).2).2).2).1
theorem ok112 : ∀ pc, okE 112 pc (cd112 pc) = true := okS_of rfl (band2 (band2 (band2 (band2 (band2 (band2 okc_11).2).2).2).2).2).1
theorem ok113 : ∀ pc, okE 113 pc (cd113 pc) = true := okS_of rfl (band2 (band2 (band2 (band2 (band2 (band2 (band2 okc_11).2).2).2).2).2).2).1
theorem ok114 : ∀ pc, okE 114 pc (cd114 pc) = true := okS_of rfl (band2 (band2 (band2 (band2 (band2 (band2 (band2 (band2 okc_11).2).2).2).2).2).2).2).1
theorem ok115 : ∀ pc, okE 115 pc (cd115 pc) = true := okS_of rfl (band2 (band2 (band2 (band2 (band2 (band2 (band2 (band2 (band2 okc_11).2).2).2).2).2).2).2).2).1
theorem ok116 : ∀ pc, okE 116 pc (cd116 pc) = true := okS_of rfl (band2 (band2 (band2 (band2 (band2 (band2 (band2 (band2 (band2 okc_11).2).2).2).2).2).2).2).2).2
theorem okc_12 : (okS cd117 117 12 (mB 117).data.toList 0 && (okS cd118 118 42 (mB 118).data.toList 0 && (okS cd119 119 123 (mB 119).data.toList 0 && (okS cd120 120 89 (mB 120).data.toList 0 && (okS cd121 121 118 (mB 121).data.toList 0 && (okS cd122 122 91 (mB 122).data.toList 0 && (okS cd123 123 50 (mB 123).data.toList 0 && (okS cd124 124 61 (mB 124).data.toList 0 && (okS cd125 125 61 (mB 125).data.toList 0 && okS cd126 126 73 (mB 126).data.toList 0))))))))) = true := by decide +kernel
theorem ok117 : ∀ pc, okE 117 pc (cd117 pc) = true := okS_of rfl (band2 okc_12).1
theorem ok118 : ∀ pc, okE 118 pc (cd118 pc) = true := okS_of rfl (band2 (band2 okc_12).2).1
theorem ok119 : ∀ pc, okE 119 pc (cd119 pc) = true := okS_of rfl (band2 (band2 (band2 okc_12).2).2).1
theorem ok120 : ∀ pc, okE 120 pc (cd120 pc) = true := okS_of rfl (band2 (band2 (band2 (band2 okc_12).2).2).2).1
theorem ok121 : ∀ pc, okE 121 pc (cd121 pc) = true := okS_of rfl (band2 (band2 (band2 (band2 (band2 okc_12).2).2).2).2).1
theorem ok122 : ∀ pc, okE 122 pc (cd122 pc) = true := okS_of rfl (band2 (band2 (band2 (band2 (band2 (band2 okc_12).2).2).2).2).2).1
theorem ok123 : ∀ pc, okE 123 pc (cd123 pc) = true := okS_of rfl (band2 (band2 (band2 (band2 (band2 (band2 (band2 okc_12).2).2).2).2).2).2).1
theorem ok124 : ∀ pc, okE 124 pc (cd124 pc) = true := okS_of rfl (band2 (band2 (band2 (band2 (band2 (band2 (band2 (band2 okc_12).2).2).2).2).2).2).2).1
theorem ok125 : ∀ pc, okE 125 pc (cd125 pc) = true := okS_of rfl (band2 (band2 (band2 (band2 (band2 (band2 (band2 (band2 (band2 okc_12).2).2).2).2).2).2).2).2).1
theorem ok126 : ∀ pc, okE 126 pc (cd126 pc) = true := okS_of rfl (band2 (band2 (band2 (band2 (band2 (band2 (band2 (band2 (band2 okc_12).2).2).2).2).2).2).2).2).2
theorem okc_13 : (okS cd127 127 136 (mB 127).data.toList 0 && (okS cd128 128 155 (mB 128).data.toList 0 && (okS cd129 129 28 (mB 129).data.toList 0 && (okS cd130 130 128 (mB 130).data.toList 0 && (okS cd131 131 130 (mB 131).data.toList 0 && (okS cd132 132 18 (mB 132).data.toList 0 && (okS cd133 133 23 (mB 133).data.toList 0 && (okS cd134 134 197 (mB 134).data.toList 0 && (okS cd135 135 88 (mB 135).data.toList 0 && okS cd136 136 83 (mB 136).data.toList 0))))))))) = true := by decide +kernel
theorem ok127 : ∀ pc, okE 127 pc (cd127 pc) = true := okS_of rfl (band2 okc_13).1
theorem ok128 : ∀ pc, okE 128 pc (cd128 pc) = true := okS_of rfl (band2 (band2 okc_13).2).1
theorem ok129 : ∀ pc, okE 129 pc (cd129 pc) = true := okS_of rfl (band2 (band2 (band2 okc_13).2).2).1
theorem ok130 : ∀ pc, okE 130 pc (cd130 pc) = true := okS_of rfl (band2 (band2 (band2 (band2 okc_13).2).2).2).1
theorem ok131 : ∀ pc, okE 131 pc (cd131 pc) = true := okS_of rfl (band2 (band2 (band2 (band2 (band2 okc_13).2).2).2).2).1
theorem ok132 : ∀ pc, okE 132 pc (cd132 pc) = true := okS_of rfl (band2 (band2 (band2 (band2 (band2 (band2 okc_13).2).2).2).2).2).1
theorem ok133 : ∀ pc, okE 133 pc (cd133 pc) = true := okS_of rfl (band2 (band2 (band2 (band2 (band2 (band2 (band2 okc_13).2).2).2).2).2).2).1
theorem ok134 : ∀ pc, okE 134 pc (cd134 pc) = true := okS_of rfl (band2 (band2 (band2 (band2 (band2 (band2 (band2 (band2 okc_13).2).2).2).2).2).2).2).1
theorem ok135 : ∀ pc, okE 135 pc (cd135 pc) = true := okS_of rfl (band2 (band2 (band2 (band2 (band2 (band2 (band2 (band2 (band2 okc_13).2).2).2).2).2).2).2).2).1
theorem ok136 : ∀ pc, okE 136 pc (cd136 pc) = true := okS_of rfl (band2 (band2 (band2 (band2 (band2 (band2 (band2 (band2 (band2 okc_13).2).2).2).2).2).2).2).2).2
theorem okc_14 : (okS cd137 137 86 (mB 137).data.toList 0 && (okS cd138 138 133 (mB 138).data.toList 0 && (okS cd139 139 70 (mB 139).data.toList 0 && (okS cd140 140 235 (mB 140).data.toList 0 && (okS cd141 141 86 (mB 141).data.toList 0 && (okS cd142 142 29 (mB 142).data.toList 0 && (okS cd143 143 105 (mB 143).data.toList 0 && (okS cd144 144 7 (mB 144).data.toList 0 && (okS cd145 145 8 (mB 145).data.toList 0 && okS cd146 146 7 (mB 146).data.toList 0))))))))) = true := by decide +kernel
theorem ok137 : ∀ pc, okE 137 pc (cd137 pc) = true := okS_of rfl (band2 okc_14).1
theorem ok138 : ∀ pc, okE 138 pc (cd138 pc) = true := okS_of rfl (band2 (band2 okc_14).2).1
theorem ok139 : ∀ pc, okE 139 pc (cd139 pc) = true := okS_of rfl (band2 (band2 (band2 okc_14).2).2).1
theorem ok140 : ∀ pc, okE 140 pc (cd140 pc) = true := okS_of rfl (band2 (band2 (band2 (band2 okc_14).2).2).2).1
theorem ok141 : ∀ pc, okE 141 pc (cd141 pc) = true := okS_of rfl (band2 (band2 (band2 (band2 (band2 okc_14).2).2).2).2).1
theorem ok142 : ∀ pc, okE 142 pc (cd142 pc) = true := okS_of rfl (band2 (band2 (band2 (band2 (band2 (band2 okc_14).2).2).2).2).2).1
theorem ok143 : ∀ pc, okE 143 pc (cd143 pc) = true := okS_of rfl (band2 (band2 (band2 (band2 (band2 (band2 (band2 okc_14).2).2).2).2).2).2).1
theorem ok144 : ∀ pc, okE 144 pc (cd144 pc) = true := okS_of rfl (band2 (band2 (band2 (band2 (band2 (band2 (band2 (band2 okc_14).2).2).2).2).2).2).2).1
theorem ok145 : ∀ pc, okE 145 pc (cd145 pc) = true := okS_of rfl (band2 (band2 (band2 (band2 (band2 (band2 (band2 (band2 (band2 okc_14).2).2).2).2).2).2).2).2).1
theorem ok146 : ∀ pc, okE 146 pc (cd146 pc) = true := okS_of rfl (band2 (band2 (band2 (band2 (band2 (band2 (band2 (band2 (band2 okc_14).2).2).2).2).2).2).2).2).2
theorem okc_15 : (okS cd147 147 10 (mB 147).data.toList 0 && (okS cd148 148 7 (mB 148).data.toList 0 && (okS cd149 149 5 (mB 149).data.toList 0 && (okS cd150 150 8 (mB 150).data.toList 0 && (okS cd151 151 7 (mB 151).data.toList 0 && (okS cd152 152 8 (mB 152).data.toList 0 && (okS cd153 153 2 (mB 153).data.toList 0 && (okS cd154 154 7 (mB 154).data.toList 0 && (okS cd155 155 2 (mB 155).data.toList 0 && okS cd156 156 7 (mB 156).data.toList 0))))))))) = true := by decide +kernel
theorem ok147 : ∀ pc, okE 147 pc (cd147 pc) = true := okS_of rfl (band2 okc_15).1
theorem ok148 : ∀ pc, okE 148 pc (cd148 pc) = true := okS_of rfl (band2 (band2 okc_15).2).1
theorem ok149 : ∀ pc, okE 149 pc (cd149 pc) = true := okS_of rfl (band2 (band2 (band2 okc_15).2).2).1
theorem ok150 : ∀ pc, okE 150 pc (cd150 pc) = true := okS_of rfl (band2 (band2 (band2 (band2 okc_15).2).2).2).1
theorem ok151 : ∀ pc, okE 151 pc (cd151 pc) = true := okS_of rfl (band2 (band2 (band2 (band2 (band2 okc_15).2).2).2).2).1
theorem ok152 : ∀ pc, okE 152 pc (cd152 pc) = true := okS_of rfl (band2 (band2 (band2 (band2 (band2 (band2 okc_15).2).2).2).2).2).1
theorem ok153 : ∀ pc, okE 153 pc (cd153 pc) = true := okS_of rfl (band2 (band2 (band2 (band2 (band2 (band2 (band2 okc_15).2).2).2).2).2).2).1
theorem ok154 : ∀ pc, okE 154 pc (cd154 pc) = true := okS_of rfl (band2 (band2 (band2 (band2 (band2 (band2 (band2 (band2 okc_15).2).2).2).2).2).2).2).1
theorem ok155 : ∀ pc, okE 155 pc (cd155 pc) = true := okS_of rfl (band2 (band2 (band2 (band2 (band2 (band2 (band2 (band2 (band2 okc_15).2).2).2).2).2).2).2).2).1
theorem ok156 : ∀ pc, okE 156 pc (cd156 pc) = true := okS_of rfl (band2 (band2 (band2 (band2 (band2 (band2 (band2 (band2 (band2 okc_15).2).2).2).2).2).2).2).2).2
theorem okc_16 : (okS cd157 157 7 (mB 157).data.toList 0 && (okS cd158 158 3 (mB 158).data.toList 0 && (okS cd159 159 3 (mB 159).data.toList 0 && (okS cd160 160 7 (mB 160).data.toList 0 && (okS cd161 161 1 (mB 161).data.toList 0 && (okS cd162 162 7 (mB 162).data.toList 0 && (okS cd163 163 7 (mB 163).data.toList 0 && (okS cd164 164 85 (mB 164).data.toList 0 && (okS cd165 165 135 (mB 165).data.toList 0 && okS cd166 166 18 (mB 166).data.toList 0))))))))) = true := by decide +kernel
theorem ok157 : ∀ pc, okE 157 pc (cd157 pc) = true := okS_of rfl (band2 okc_16).1
theorem ok158 : ∀ pc, okE 158 pc (cd158 pc) = true := okS_of rfl (band2 (band2 okc_16).2).1
theorem ok159 : ∀ pc, okE 159 pc (cd159 pc) = true := okS_of rfl (band2 (band2 (band2 okc_16).2).2).1
theorem ok160 : ∀ pc, okE 160 pc (cd160 pc) = true := okS_of rfl (band2 (band2 (band2 (band2 okc_16).2).2).2).1
theorem ok161 : ∀ pc, okE 161 pc (cd161 pc) = true := okS_of rfl (band2 (band2 (band2 (band2 (band2 okc_16).2).2).2).2).1
theorem ok162 : ∀ pc, okE 162 pc (cd162 pc) = true := okS_of rfl (band2 (band2 (band2 (band2 (band2 (band2 okc_16).2).2).2).2).2).1
theorem ok163 : ∀ pc, okE 163 pc (cd163 pc) = true := okS_of rfl (band2 (band2 (band2 (band2 (band2 (band2 (band2 okc_16).2).2).2).2).2).2).1
theorem ok164 : ∀ pc, okE 164 pc (cd164 pc) = true := okS_of rfl (band2 (band2 (band2 (band2 (band2 (band2 (band2 (band2 okc_16).2).2).2).2).2).2).2).1
theorem ok165 : ∀ pc, okE 165 pc (cd165 pc) = true := okS_of rfl (band2 (band2 (band2 (band2 (band2 (band2 (band2 (band2 (band2 okc_16).2).2).2).2).2).2).2).2).1
theorem ok166 : ∀ pc, okE 166 pc (cd166 pc) = true := okS_of rfl (band2 (band2 (band2 (band2 (band2 (band2 (band2 (band2 (band2 okc_16).2).2).2).2).2).2).2).2).2
theorem okc_17 : (okS cd167 167 79 (mB 167).data.toList 0 && (okS cd168 168 41 (mB 168).data.toList 0 && (okS cd169 169 35 (mB 169).data.toList 0 && (okS cd170 170 49 (mB 170).data.toList 0 && (okS cd171 171 62 (mB 171).data.toList 0 && (okS cd172 172 111 (mB 172).data.toList 0 && (okS cd173 173 115 (mB 173).data.toList 0 && (okS cd174 174 32 (mB 174).data.toList 0 && (okS cd175 175 52 (mB 175).data.toList 0 && okS cd176 176 26 (mB 176).data.toList 0))))))))) = true := by decide +kernel
theorem ok167 : ∀ pc, okE 167 pc (cd167 pc) = true := okS_of rfl (band2 okc_17).1
theorem ok168 : ∀ pc, okE 168 pc (cd168 pc) = true := okS_of rfl (band2 (band2 okc_17).2).1
theorem ok169 : ∀ pc, okE 169 pc (cd169 pc) = true := okS_of rfl (band2 (band2 (band2 okc_17).2).2).1
theorem ok170 : ∀ pc, okE 170 pc (cd170 pc) = true := okS_of rfl (band2 (band2 (band2 (band2 okc_17).2).2).2).1
theorem ok171 : ∀ pc, okE 171 pc (cd171 pc) = true := okS_of rfl (band2 (band2 (band2 (band2 (band2 okc_17).2).2).2).2).1
theorem ok172 : ∀ pc, okE 172 pc (cd172 pc) = true := okS_of rfl (band2 (band2 (band2 (band2 (band2 (band2 okc_17).2).2).2).2).2).1
theorem ok173 : ∀ pc, okE 173 pc (cd173 pc) = true := okS_of rfl (band2 (band2 (band2 (band2 (band2 (band2 (band2 okc_17).2).2).2).2).2).2).1
theorem ok174 : ∀ pc, okE 174 pc (cd174 pc) = true := okS_of rfl (band2 (band2 (band2 (band2 (band2 (band2 (band2 (band2 okc_17).2).2).2).2).2).2).2).1
theorem ok175 : ∀ pc, okE 175 pc (cd175 pc) = true := okS_of rfl (band2 (band2 (band2 (band2 (band2 (band2 (band2 (band2 (band2 okc_17).2).2).2).2).2).2).2).2).1
theorem ok176 : ∀ pc, okE 176 pc (cd176 pc) = true := okS_of rfl (band2 (band2 (band2 (band2 (band2 (band2 (band2 (band2 (band2 okc_17).2).2).2).2).2).2).2).2).2
theorem okc_18 : (okS cd177 177 23 (mB 177).data.toList 0 && (okS cd178 178 24 (mB 178).data.toList 0 && (okS cd179 179 71 (mB 179).data.toList 0 && (okS cd180 180 26 (mB 180).data.toList 0 && (okS cd181 181 51 (mB 181).data.toList 0 && (okS cd182 182 12 (mB 182).data.toList 0 && (okS cd183 183 75 (mB 183).data.toList 0 && (okS cd184 184 30 (mB 184).data.toList 0 && (okS cd185 185 30 (mB 185).data.toList 0 && okS cd186 186 20 (mB 186).data.toList 0))))))))) = true := by decide +kernel
theorem ok177 : ∀ pc, okE 177 pc (cd177 pc) = true := okS_of rfl (band2 okc_18).1
theorem ok178 : ∀ pc, okE 178 pc (cd178 pc) = true := okS_of rfl (band2 (band2 okc_18).2).1
theorem ok179 : ∀ pc, okE 179 pc (cd179 pc) = true := okS_of rfl (band2 (band2 (band2 okc_18).2).2).1
theorem ok180 : ∀ pc, okE 180 pc (cd180 pc) = true := okS_of rfl (band2 (band2 (band2 (band2 okc_18).2).2).2).1
theorem ok181 : ∀ pc, okE 181 pc (cd181 pc) = true := okS_of rfl (band2 (band2 (band2 (band2 (band2 okc_18).2).2).2).2).1
theorem ok182 : ∀ pc, okE 182 pc (cd182 pc) = true := okS_of rfl (band2 (band2 (band2 (band2 (band2 (band2 okc_18).2).2).2).2).2).1
theorem ok183 : ∀ pc, okE 183 pc (cd183 pc) = true := okS_of rfl (band2 (band2 (band2 (band2 (band2 (band2 (band2 okc_18).2).2).2).2).2).2).1
theorem ok184 : ∀ pc, okE 184 pc (cd184 pc) = true := okS_of rfl (band2 (band2 (band2 (band2 (band2 (band2 (band2 (band2 okc_18).2).2).2).2).2).2).2).1
theorem ok185 : ∀ pc, okE 185 pc (cd185 pc) = true := okS_of rfl (band2 (band2 (band2 (band2 (band2 (band2 (band2 (band2 (band2 okc_18).2).2).2).2).2).2).2).2).1
theorem ok186 : ∀ pc, okE 186 pc (cd186 pc) = true := okS_of rfl (band2 (band2 (band2 (band2 (band2 (band2 (band2 (band2 (band2 okc_18).2).2).2).2).2).2).2).2).2
theorem okc_19 : (okS cd187 187 39 (mB 187).data.toList 0 && (okS cd188 188 39 (mB 188).data.toList 0 && (okS cd189 189 38 (mB 189).data.toList 0 && (okS cd190 190 29 (mB 190).data.toList 0 && (okS cd191 191 51 (mB 191).data.toList 0 && (okS cd192 192 58 (mB 192).data.toList 0 && (okS cd193 193 22 (mB 193).data.toList 0 && (okS cd194 194 61 (mB 194).data.toList 0 && (okS cd195 195 13 (mB 195).data.toList 0 && okS cd196 196 85 (mB 196).data.toList 0))))))))) = true := by decide +kernel
theorem ok187 : ∀ pc, okE 187 pc (cd187 pc) = true := okS_of rfl (band2 okc_19).1
theorem ok188 : ∀ pc, okE 188 pc (cd188 pc) = true := okS_of rfl (band2 (band2 okc_19).2).1
theorem ok189 : ∀ pc, okE 189 pc (cd189 pc) = true := okS_of rfl (band2 (band2 (band2 okc_19).2).2).1
theorem ok190 : ∀ pc, okE 190 pc (cd190 pc) = true := okS_of rfl (band2 (band2 (band2 (band2 okc_19).2).2).2).1
theorem ok191 : ∀ pc, okE 191 pc (cd191 pc) = true := okS_of rfl (band2 (band2 (band2 (band2 (band2 okc_19).2).2).2).2).1
theorem ok192 : ∀ pc, okE 192 pc (cd192 pc) = true := okS_of rfl (band2 (band2 (band2 (band2 (band2 (band2 okc_19).2).2).2).2).2).1
theorem ok193 : ∀ pc, okE 193 pc (cd193 pc) = true := okS_of rfl (band2 (band2 (band2 (band2 (band2 (band2 (band2 okc_19).2).2).2).2).2).2).1
theorem ok194 : ∀ pc, okE 194 pc (cd194 pc) = true := okS_of rfl (band2 (band2 (band2 (band2 (band2 (band2 (band2 (band2 okc_19).2).2).2).2).2).2).2).1
theorem ok195 : ∀ pc, okE 195 pc (cd195 pc) = true := okS_of rfl (band2 (band2 (band2 (band2 (band2 (band2 (band2 (band2 (band2 okc_19).2).2).2).2).2).2).2).2).1
theorem ok196 : ∀ pc, okE 196 pc (cd196 pc) = true := okS_of rfl (band2 (band2 (band2 (band2 (band2 (band2 (band2 (band2 (band2 okc_19).2).2).2).2).2).2).2).2).2
theorem okc_20 : (okS cd197 197 36 (mB 197).data.toList 0 && (okS cd198 198 23 (mB 198).data.toList 0 && (okS cd199 199 37 (mB 199).data.toList 0 && (okS cd200 200 35 (mB 200).data.toList 0 && (okS cd201 201 45 (mB 201).data.toList 0 && (okS cd202 202 15 (mB 202).data.toList 0 && (okS cd203 203 4 (mB 203).data.toList 0 && (okS cd204 204 2 (mB 204).data.toList 0 && (okS cd205 205 8 (mB 205).data.toList 0 && okS cd206 206 2 (mB 206).data.toList 0))))))))) = true := by decide +kernel
theorem ok197 : ∀ pc, okE 197 pc (cd197 pc) = true := okS_of rfl (band2 okc_20).1
theorem ok198 : ∀ pc, okE 198 pc (cd198 pc) = true := okS_of rfl (band2 (band2 okc_20).2).1
theorem ok199 : ∀ pc, okE 199 pc (cd199 pc) = true := okS_of rfl (band2 (band2 (band2 okc_20).2).2).1
theorem ok200 : ∀ pc, okE 200 pc (cd200 pc) = true := okS_of rfl (band2 (band2 (band2 (band2 okc_20).2).2).2).1
theorem ok201 : ∀ pc, okE 201 pc (cd201 pc) = true := okS_of rfl (band2 (band2 (band2 (band2 (band2 okc_20).2).2).2).2).1
theorem ok202 : ∀ pc, okE 202 pc (cd202 pc) = true := okS_of rfl (band2 (band2 (band2 (band2 (band2 (band2 okc_20).2).2).2).2).2).1
theorem ok203 : ∀ pc, okE 203 pc (cd203 pc) = true := okS_of rfl (band2 (band2 (band2 (band2 (band2 (band2 (band2 okc_20).2).2).2).2).2).2).1
theorem ok204 : ∀ pc, okE 204 pc (cd204 pc) = true := okS_of rfl (band2 (band2 (band2 (band2 (band2 (band2 (band2 (band2 okc_20).2).2).2).2).2).2).2).1
theorem ok205 : ∀ pc, okE 205 pc (cd205 pc) = true := okS_of rfl (band2 (band2 (band2 (band2 (band2 (band2 (band2 (band2 (band2 okc_20).2).2).2).2).2).2).2).2).1
theorem ok206 : ∀ pc, okE 206 pc (cd206 pc) = true := okS_of rfl (band2 (band2 (band2 (band2 (band2 (band2 (band2 (band2 (band2 okc_20).2).2).2).2).2).2).2).2).2
theorem okc_21 : (okS cd207 207 2 (mB 207).data.toList 0 && (okS cd209 209 7 (mB 209).data.toList 0 && (okS cd210 210 11 (mB 210).data.toList 0 && (okS cd211 211 7 (mB 211).data.toList 0 && (okS cd212 212 7 (mB 212).data.toList 0 && (okS cd213 213 10 (mB 213).data.toList 0 && (okS cd215 215 33 (mB 215).data.toList 0 && (okS cd216 216 20 (mB 216).data.toList 0 && (okS cd217 217 16 (mB 217).data.toList 0 && okS cd218 218 42 (mB 218).data.toList 0))))))))) = true := by decide +kernel
theorem ok207 : ∀ pc, okE 207 pc (cd207 pc) = true := okS_of rfl (band2 okc_21).1
theorem ok209 : ∀ pc, okE 209 pc (cd209 pc) = true := okS_of rfl (band2 (band2 okc_21).2).1
theorem ok210 : ∀ pc, okE 210 pc (cd210 pc) = true := okS_of rfl (band2 (band2 (band2 okc_21).2).2).1
theorem ok211 : ∀ pc, okE 211 pc (cd211 pc) = true := okS_of rfl (band2 (band2 (band2 (band2 okc_21).2).2).2).1
theorem ok212 : ∀ pc, okE 212 pc (cd212 pc) = true := okS_of rfl (band2 (band2 (band2 (band2 (band2 okc_21).2).2).2).2).1
theorem ok213 : ∀ pc, okE 213 pc (cd213 pc) = true := okS_of rfl (band2 (band2 (band2 (band2 (band2 (band2 okc_21).2).2).2).2).2).1
theorem ok215 : ∀ pc, okE 215 pc (cd215 pc) = true := okS_of rfl (band2 (band2 (band2 (band2 (band2 (band2 (band2 okc_21).2).2).2).2).2).2).1
theorem ok216 : ∀ pc, okE 216 pc (cd216 pc) = true := okS_of rfl (band2 (band2 (band2 (band2 (band2 (band2 (band2 (band2 okc_21).2).2).2).2).2).2).2).1
theorem ok217 : ∀ pc, okE 217 pc (cd217 pc) = true := okS_of rfl (band2 (band2 (band2 (band2 (band2 (band2 (band2 (band2 (band2 okc_21).2).2).2).2).2).2).2).2).1
theorem ok218 : ∀ pc, okE 218 pc (cd218 pc) = true := okS_of rfl (band2 (band2 (band2 (band2 (band2 (band2 (band2 (band2 (band2 okc_21).2).2).2).2).2).2).2).2).2
theorem okc_22 : (okS cd219 219 18 (mB 219).data.toList 0 && (okS cd220 220 32 (mB 220).data.toList 0 && (okS cd221 221 19 (mB 221).data.toList 0 && (okS cd222 222 9 (mB 222).data.toList 0 && (okS cd223 223 20 (mB 223).data.toList 0 && (okS cd224 224 25 (mB 224).data.toList 0 && (okS cd225 225 27 (mB 225).data.toList 0 && (okS cd226 226 7 (mB 226).data.toList 0 && (okS cd227 227 8 (mB 227).data.toList 0 && okS cd228 228 7 (mB 228).data.toList 0))))))))) = true := by decide +kernel
theorem ok219 : ∀ pc, okE 219 pc (cd219 pc) = true := okS_of rfl (band2 okc_22).1
theorem ok220 : ∀ pc, okE 220 pc (cd220 pc) = true := okS_of rfl (band2 (band2 okc_22).2).1
theorem ok221 : ∀ pc, okE 221 pc (cd221 pc) = true := okS_of rfl (band2 (band2 (band2 okc_22).2).2).1
theorem ok222 : ∀ pc, okE 222 pc (cd222 pc) = true := okS_of rfl (band2 (band2 (band2 (band2 okc_22).2).2).2).1
theorem ok223 : ∀ pc, okE 223 pc (cd223 pc) = true := okS_of rfl (band2 (band2 (band2 (band2 (band2 okc_22).2).2).2).2).1
theorem ok224 : ∀ pc, okE 224 pc (cd224 pc) = true := okS_of rfl (band2 (band2 (band2 (band2 (band2 (band2 okc_22).2).2).2).2).2).1
theorem ok225 : ∀ pc, okE 225 pc (cd225 pc) = true := okS_of rfl (band2 (band2 (band2 (band2 (band2 (band2 (band2 okc_22).2).2).2).2).2).2).1
theorem ok226 : ∀ pc, okE 226 pc (cd226 pc) = true := okS_of rfl (band2 (band2 (band2 (band2 (band2 (band2 (band2 (band2 okc_22).2).2).2).2).2).2).2).1
theorem ok227 : ∀ pc, okE 227 pc (cd227 pc) = true := okS_of rfl (band2 (band2 (band2 (band2 (band2 (band2 (band2 (band2 (band2 okc_22).2).2).2).2).2).2).2).2).1
theorem ok228 : ∀ pc, okE 228 pc (cd228 pc) = true := okS_of rfl (band2 (band2 (band2 (band2 (band2 (band2 (band2 (band2 (band2 okc_22).2).2).2).2).2).2).2).2).2
theorem okc_23 : (okS cd229 229 2 (mB 229).data.toList 0 && (okS cd230 230 7 (mB 230).data.toList 0 && okS cd232 232 22 (mB 232).data.toList 0)) = true := by decide +kernel
theorem ok229 : ∀ pc, okE 229 pc (cd229 pc) = true := okS_of rfl (band2 okc_23).1
theorem ok230 : ∀ pc, okE 230 pc (cd230 pc) = true := okS_of rfl (band2 (band2 okc_23).2).1
theorem ok232 : ∀ pc, okE 232 pc (cd232 pc) = true := okS_of rfl (band2 (band2 okc_23).2).2
