/-! each method, by the kernel, in bundles (written by wip/gen/endparts2.py) -/
theorem band2 {a b : Bool} (h : (a && b) = true) : a = true ∧ b = true := by
  cases a
  · cases h
  · exact ⟨rfl, h⟩
theorem okc_0 : ((List.range 116).all (fun pc => okE 0 pc (cd0 pc)) && ((List.range 130).all (fun pc => okE 1 pc (cd1 pc)) && ((List.range 214).all (fun pc => okE 2 pc (cd2 pc)) && ((List.range 48).all (fun pc => okE 3 pc (cd3 pc)) && ((List.range 24).all (fun pc => okE 4 pc (cd4 pc)) && ((List.range 24).all (fun pc => okE 5 pc (cd5 pc)) && ((List.range 24).all (fun pc => okE 6 pc (cd6 pc)) && ((List.range 32).all (fun pc => okE 7 pc (cd7 pc)) && ((List.range 24).all (fun pc => okE 8 pc (cd8 pc)) && (List.range 67).all (fun pc => okE 9 pc (cd9 pc))))))))))) = true := by decide +kernel
theorem ok0 : ∀ pc, okE 0 pc (cd0 pc) = true := okE_of rfl (band2 okc_0).1
theorem ok1 : ∀ pc, okE 1 pc (cd1 pc) = true := okE_of rfl (band2 (band2 okc_0).2).1
theorem ok2 : ∀ pc, okE 2 pc (cd2 pc) = true := okE_of rfl (band2 (band2 (band2 okc_0).2).2).1
theorem ok3 : ∀ pc, okE 3 pc (cd3 pc) = true := okE_of rfl (band2 (band2 (band2 (band2 okc_0).2).2).2).1
theorem ok4 : ∀ pc, okE 4 pc (cd4 pc) = true := okE_of rfl (band2 (band2 (band2 (band2 (band2 okc_0).2).2).2).2).1
theorem ok5 : ∀ pc, okE 5 pc (cd5 pc) = true := okE_of rfl (band2 (band2 (band2 (band2 (band2 (band2 okc_0).2).2).2).2).2).1
theorem ok6 : ∀ pc, okE 6 pc (cd6 pc) = true := okE_of rfl (band2 (band2 (band2 (band2 (band2 (band2 (band2 okc_0).2).2).2).2).2).2).1
theorem ok7 : ∀ pc, okE 7 pc (cd7 pc) = true := okE_of rfl (band2 (band2 (band2 (band2 (band2 (band2 (band2 (band2 okc_0).2).2).2).2).2).2).2).1
theorem ok8 : ∀ pc, okE 8 pc (cd8 pc) = true := okE_of rfl (band2 (band2 (band2 (band2 (band2 (band2 (band2 (band2 (band2 okc_0).2).2).2).2).2).2).2).2).1
theorem ok9 : ∀ pc, okE 9 pc (cd9 pc) = true := okE_of rfl (band2 (band2 (band2 (band2 (band2 (band2 (band2 (band2 (band2 okc_0).2).2).2).2).2).2).2).2).2
theorem okc_1 : ((List.range 56).all (fun pc => okE 10 pc (cd10 pc)) && ((List.range 53).all (fun pc => okE 11 pc (cd11 pc)) && ((List.range 25).all (fun pc => okE 12 pc (cd12 pc)) && ((List.range 51).all (fun pc => okE 13 pc (cd13 pc)) && ((List.range 25).all (fun pc => okE 14 pc (cd14 pc)) && ((List.range 47).all (fun pc => okE 15 pc (cd15 pc)) && ((List.range 65).all (fun pc => okE 16 pc (cd16 pc)) && ((List.range 131).all (fun pc => okE 17 pc (cd17 pc)) && ((List.range 32).all (fun pc => okE 18 pc (cd18 pc)) && (List.range 52).all (fun pc => okE 19 pc (cd19 pc))))))))))) = true := by decide +kernel
theorem ok10 : ∀ pc, okE 10 pc (cd10 pc) = true := okE_of rfl (band2 okc_1).1
theorem ok11 : ∀ pc, okE 11 pc (cd11 pc) = true := okE_of rfl (band2 (band2 okc_1).2).1
theorem ok12 : ∀ pc, okE 12 pc (cd12 pc) = true := okE_of rfl (band2 (band2 (band2 okc_1).2).2).1
theorem ok13 : ∀ pc, okE 13 pc (cd13 pc) = true := okE_of rfl (band2 (band2 (band2 (band2 okc_1).2).2).2).1
theorem ok14 : ∀ pc, okE 14 pc (cd14 pc) = true := okE_of rfl (band2 (band2 (band2 (band2 (band2 okc_1).2).2).2).2).1
theorem ok15 : ∀ pc, okE 15 pc (cd15 pc) = true := okE_of rfl (band2 (band2 (band2 (band2 (band2 (band2 okc_1).2).2).2).2).2).1
theorem ok16 : ∀ pc, okE 16 pc (cd16 pc) = true := okE_of rfl (band2 (band2 (band2 (band2 (band2 (band2 (band2 okc_1).2).2).2).2).2).2).1
theorem ok17 : ∀ pc, okE 17 pc (cd17 pc) = true := okE_of rfl (band2 (band2 (band2 (band2 (band2 (band2 (band2 (band2 okc_1).2).2).2).2).2).2).2).1
theorem ok18 : ∀ pc, okE 18 pc (cd18 pc) = true := okE_of rfl (band2 (band2 (band2 (band2 (band2 (band2 (band2 (band2 (band2 okc_1).2).2).2).2).2).2).2).2).1
theorem ok19 : ∀ pc, okE 19 pc (cd19 pc) = true := okE_of rfl (band2 (band2 (band2 (band2 (band2 (band2 (band2 (band2 (band2 okc_1).2).2).2).2).2).2).2).2).2
theorem okc_2 : ((List.range 120).all (fun pc => okE 20 pc (cd20 pc)) && ((List.range 58).all (fun pc => okE 21 pc (cd21 pc)) && ((List.range 112).all (fun pc => okE 22 pc (cd22 pc)) && ((List.range 100).all (fun pc => okE 23 pc (cd23 pc)) && ((List.range 85).all (fun pc => okE 24 pc (cd24 pc)) && ((List.range 121).all (fun pc => okE 25 pc (cd25 pc)) && ((List.range 77).all (fun pc => okE 26 pc (cd26 pc)) && ((List.range 133).all (fun pc => okE 27 pc (cd27 pc)) && ((List.range 162).all (fun pc => okE 28 pc (cd28 pc)) && (List.range 24).all (fun pc => okE 29 pc (cd29 pc))))))))))) = true := by decide +kernel
theorem ok20 : ∀ pc, okE 20 pc (cd20 pc) = true := okE_of rfl (band2 okc_2).1
theorem ok21 : ∀ pc, okE 21 pc (cd21 pc) = true := okE_of rfl (band2 (band2 okc_2).2).1
theorem ok22 : ∀ pc, okE 22 pc (cd22 pc) = true := okE_of rfl (band2 (band2 (band2 okc_2).2).2).1
theorem ok23 : ∀ pc, okE 23 pc (cd23 pc) = true := okE_of rfl (band2 (band2 (band2 (band2 okc_2).2).2).2).1
theorem ok24 : ∀ pc, okE 24 pc (cd24 pc) = true := okE_of rfl (band2 (band2 (band2 (band2 (band2 okc_2).2).2).2).2).1
theorem ok25 : ∀ pc, okE 25 pc (cd25 pc) = true := okE_of rfl (band2 (band2 (band2 (band2 (band2 (band2 okc_2).2).2).2).2).2).1
theorem ok26 : ∀ pc, okE 26 pc (cd26 pc) = true := okE_of rfl (band2 (band2 (band2 (band2 (band2 (band2 (band2 okc_2).2).2).2).2).2).2).1
theorem ok27 : ∀ pc, okE 27 pc (cd27 pc) = true := okE_of rfl (band2 (band2 (band2 (band2 (band2 (band2 (band2 (band2 okc_2).2).2).2).2).2).2).2).1
theorem ok28 : ∀ pc, okE 28 pc (cd28 pc) = true := okE_of rfl (band2 (band2 (band2 (band2 (band2 (band2 (band2 (band2 (band2 okc_2).2).2).2).2).2).2).2).2).1
theorem ok29 : ∀ pc, okE 29 pc (cd29 pc) = true := okE_of rfl (band2 (band2 (band2 (band2 (band2 (band2 (band2 (band2 (band2 okc_2).2).2).2).2).2).2).2).2).2
theorem okc_3 : ((List.range 29).all (fun pc => okE 30 pc (cd30 pc)) && ((List.range 119).all (fun pc => okE 31 pc (cd31 pc)) && ((List.range 69).all (fun pc => okE 32 pc (cd32 pc)) && ((List.range 44).all (fun pc => okE 33 pc (cd33 pc)) && ((List.range 44).all (fun pc => okE 34 pc (cd34 pc)) && ((List.range 66).all (fun pc => okE 35 pc (cd35 pc)) && ((List.range 130).all (fun pc => okE 36 pc (cd36 pc)) && ((List.range 27).all (fun pc => okE 37 pc (cd37 pc)) && ((List.range 27).all (fun pc => okE 38 pc (cd38 pc)) && (List.range 16).all (fun pc => okE 39 pc (cd39 pc))))))))))) = true := by decide +kernel
theorem ok30 : ∀ pc, okE 30 pc (cd30 pc) = true := okE_of rfl (band2 okc_3).1
theorem ok31 : ∀ pc, okE 31 pc (cd31 pc) = true := okE_of rfl (band2 (band2 okc_3).2).1
theorem ok32 : ∀ pc, okE 32 pc (cd32 pc) = true := okE_of rfl (band2 (band2 (band2 okc_3).2).2).1
theorem ok33 : ∀ pc, okE 33 pc (cd33 pc) = true := okE_of rfl (band2 (band2 (band2 (band2 okc_3).2).2).2).1
theorem ok34 : ∀ pc, okE 34 pc (cd34 pc) = true := okE_of rfl (band2 (band2 (band2 (band2 (band2 okc_3).2).2).2).2).1
theorem ok35 : ∀ pc, okE 35 pc (cd35 pc) = true := okE_of rfl (band2 (band2 (band2 (band2 (band2 (band2 okc_3).2).2).2).2).2).1
theorem ok36 : ∀ pc, okE 36 pc (cd36 pc) = true := okE_of rfl (band2 (band2 (band2 (band2 (band2 (band2 (band2 okc_3).2).2).2).2).2).2).1
theorem ok37 : ∀ pc, okE 37 pc (cd37 pc) = true := okE_of rfl (band2 (band2 (band2 (band2 (band2 (band2 (band2 (band2 okc_3).2).2).2).2).2).2).2).1
theorem ok38 : ∀ pc, okE 38 pc (cd38 pc) = true := okE_of rfl (band2 (band2 (band2 (band2 (band2 (band2 (band2 (band2 (band2 okc_3).2).2).2).2).2).2).2).2).1
theorem ok39 : ∀ pc, okE 39 pc (cd39 pc) = true := okE_of rfl (band2 (band2 (band2 (band2 (band2 (band2 (band2 (band2 (band2 okc_3).2).2).2).2).2).2).2).2).2
theorem okc_4 : ((List.range 16).all (fun pc => okE 40 pc (cd40 pc)) && ((List.range 17).all (fun pc => okE 41 pc (cd41 pc)) && ((List.range 15).all (fun pc => okE 42 pc (cd42 pc)) && ((List.range 43).all (fun pc => okE 43 pc (cd43 pc)) && ((List.range 43).all (fun pc => okE 44 pc (cd44 pc)) && ((List.range 124).all (fun pc => okE 45 pc (cd45 pc)) && ((List.range 35).all (fun pc => okE 46 pc (cd46 pc)) && ((List.range 75).all (fun pc => okE 47 pc (cd47 pc)) && ((List.range 103).all (fun pc => okE 48 pc (cd48 pc)) && (List.range 204).all (fun pc => okE 49 pc (cd49 pc))))))))))) = true := by decide +kernel
theorem ok40 : ∀ pc, okE 40 pc (cd40 pc) = true := okE_of rfl (band2 okc_4).1
theorem ok41 : ∀ pc, okE 41 pc (cd41 pc) = true := okE_of rfl (band2 (band2 okc_4).2).1
theorem ok42 : ∀ pc, okE 42 pc (cd42 pc) = true := okE_of rfl (band2 (band2 (band2 okc_4).2).2).1
theorem ok43 : ∀ pc, okE 43 pc (cd43 pc) = true := okE_of rfl (band2 (band2 (band2 (band2 okc_4).2).2).2).1
theorem ok44 : ∀ pc, okE 44 pc (cd44 pc) = true := okE_of rfl (band2 (band2 (band2 (band2 (band2 okc_4).2).2).2).2).1
theorem ok45 : ∀ pc, okE 45 pc (cd45 pc) = true := okE_of rfl (band2 (band2 (band2 (band2 (band2 (band2 okc_4).2).2).2).2).2).1
theorem ok46 : ∀ pc, okE 46 pc (cd46 pc) = true := okE_of rfl (band2 (band2 (band2 (band2 (band2 (band2 (band2 okc_4).2).2).2).2).2).2).1
theorem ok47 : ∀ pc, okE 47 pc (cd47 pc) = true := okE_of rfl (band2 (band2 (band2 (band2 (band2 (band2 (band2 (band2 okc_4).2).2).2).2).2).2).2).1
theorem ok48 : ∀ pc, okE 48 pc (cd48 pc) = true := okE_of rfl (band2 (band2 (band2 (band2 (band2 (band2 (band2 (band2 (band2 okc_4).2).2).2).2).2).2).2).2).1
theorem ok49 : ∀ pc, okE 49 pc (cd49 pc) = true := okE_of rfl (band2 (band2 (band2 (band2 (band2 (band2 (band2 (band2 (band2 okc_4).2).2).2).2).2).2).2).2).2
theorem okc_5 : ((List.range 23).all (fun pc => okE 50 pc (cd50 pc)) && ((List.range 66).all (fun pc => okE 51 pc (cd51 pc)) && ((List.range 41).all (fun pc => okE 52 pc (cd52 pc)) && ((List.range 42).all (fun pc => okE 53 pc (cd53 pc)) && ((List.range 86).all (fun pc => okE 54 pc (cd54 pc)) && ((List.range 42).all (fun pc => okE 55 pc (cd55 pc)) && ((List.range 25).all (fun pc => okE 56 pc (cd56 pc)) && ((List.range 42).all (fun pc => okE 57 pc (cd57 pc)) && ((List.range 97).all (fun pc => okE 58 pc (cd58 pc)) && (List.range 53).all (fun pc => okE 59 pc (cd59 pc))))))))))) = true := by decide +kernel
theorem ok50 : ∀ pc, okE 50 pc (cd50 pc) = true := okE_of rfl (band2 okc_5).1
theorem ok51 : ∀ pc, okE 51 pc (cd51 pc) = true := okE_of rfl (band2 (band2 okc_5).2).1
theorem ok52 : ∀ pc, okE 52 pc (cd52 pc) = true := okE_of rfl (band2 (band2 (band2 okc_5).2).2).1
theorem ok53 : ∀ pc, okE 53 pc (cd53 pc) = true := okE_of rfl (band2 (band2 (band2 (band2 okc_5).2).2).2).1
theorem ok54 : ∀ pc, okE 54 pc (cd54 pc) = true := okE_of rfl (band2 (band2 (band2 (band2 (band2 okc_5).2).2).2).2).1
theorem ok55 : ∀ pc, okE 55 pc (cd55 pc) = true := okE_of rfl (band2 (band2 (band2 (band2 (band2 (band2 okc_5).2).2).2).2).2).1
theorem ok56 : ∀ pc, okE 56 pc (cd56 pc) = true := okE_of rfl (band2 (band2 (band2 (band2 (band2 (band2 (band2 okc_5).2).2).2).2).2).2).1
theorem ok57 : ∀ pc, okE 57 pc (cd57 pc) = true := okE_of rfl (band2 (band2 (band2 (band2 (band2 (band2 (band2 (band2 okc_5).2).2).2).2).2).2).2).1
theorem ok58 : ∀ pc, okE 58 pc (cd58 pc) = true := okE_of rfl (band2 (band2 (band2 (band2 (band2 (band2 (band2 (band2 (band2 okc_5).2).2).2).2).2).2).2).2).1
theorem ok59 : ∀ pc, okE 59 pc (cd59 pc) = true := okE_of rfl (band2 (band2 (band2 (band2 (band2 (band2 (band2 (band2 (band2 okc_5).2).2).2).2).2).2).2).2).2
theorem okc_6 : ((List.range 36).all (fun pc => okE 60 pc (cd60 pc)) && ((List.range 133).all (fun pc => okE 61 pc (cd61 pc)) && ((List.range 16).all (fun pc => okE 62 pc (cd62 pc)) && ((List.range 12).all (fun pc => okE 63 pc (cd63 pc)) && ((List.range 8).all (fun pc => okE 64 pc (cd64 pc)) && ((List.range 31).all (fun pc => okE 65 pc (cd65 pc)) && ((List.range 30).all (fun pc => okE 66 pc (cd66 pc)) && ((List.range 31).all (fun pc => okE 67 pc (cd67 pc)) && ((List.range 89).all (fun pc => okE 68 pc (cd68 pc)) && (List.range 53).all (fun pc => okE 69 pc (cd69 pc))))))))))) = true := by decide +kernel
theorem ok60 : ∀ pc, okE 60 pc (cd60 pc) = true := okE_of rfl (band2 okc_6).1
theorem ok61 : ∀ pc, okE 61 pc (cd61 pc) = true := okE_of rfl (band2 (band2 okc_6).2).1
theorem ok62 : ∀ pc, okE 62 pc (cd62 pc) = true := okE_of rfl (band2 (band2 (band2 okc_6).2).2).1
theorem ok63 : ∀ pc, okE 63 pc (cd63 pc) = true := okE_of rfl (band2 (band2 (band2 (band2 okc_6).2).2).2).1
theorem ok64 : ∀ pc, okE 64 pc (cd64 pc) = true := okE_of rfl (band2 (band2 (band2 (band2 (band2 okc_6).2).2).2).2).1
theorem ok65 : ∀ pc, okE 65 pc (cd65 pc) = true := okE_of rfl (band2 (band2 (band2 (band2 (band2 (band2 okc_6).2).2).2).2).2).1
theorem ok66 : ∀ pc, okE 66 pc (cd66 pc) = true := okE_of rfl (band2 (band2 (band2 (band2 (band2 (band2 (band2 okc_6).2).2).2).2).2).2).1
theorem ok67 : ∀ pc, okE 67 pc (cd67 pc) = true := okE_of rfl (band2 (band2 (band2 (band2 (band2 (band2 (band2 (band2 okc_6).2).2).2).2).2).2).2).1
theorem ok68 : ∀ pc, okE 68 pc (cd68 pc) = true := okE_of rfl (band2 (band2 (band2 (band2 (band2 (band2 (band2 (band2 (band2 okc_6).2).2).2).2).2).2).2).2).1
theorem ok69 : ∀ pc, okE 69 pc (cd69 pc) = true := okE_of rfl (band2 (band2 (band2 (band2 (band2 (band2 (band2 (band2 (band2 okc_6).2).2).2).2).2).2).2).2).2
theorem okc_7 : ((List.range 79).all (fun pc => okE 70 pc (cd70 pc)) && ((List.range 46).all (fun pc => okE 71 pc (cd71 pc)) && ((List.range 34).all (fun pc => okE 72 pc (cd72 pc)) && ((List.range 63).all (fun pc => okE 73 pc (cd73 pc)) && ((List.range 41).all (fun pc => okE 74 pc (cd74 pc)) && ((List.range 32).all (fun pc => okE 75 pc (cd75 pc)) && ((List.range 83).all (fun pc => okE 76 pc (cd76 pc)) && ((List.range 159).all (fun pc => okE 77 pc (cd77 pc)) && ((List.range 63).all (fun pc => okE 78 pc (cd78 pc)) && (List.range 45).all (fun pc => okE 79 pc (cd79 pc))))))))))) = true := by decide +kernel
theorem ok70 : ∀ pc, okE 70 pc (cd70 pc) = true := okE_of rfl (band2 okc_7).1
theorem ok71 : ∀ pc, okE 71 pc (cd71 pc) = true := okE_of rfl (band2 (band2 okc_7).2).1
theorem ok72 : ∀ pc, okE 72 pc (cd72 pc) = true := okE_of rfl (band2 (band2 (band2 okc_7).2).2).1
theorem ok73 : ∀ pc, okE 73 pc (cd73 pc) = true := okE_of rfl (band2 (band2 (band2 (band2 okc_7).2).2).2).1
theorem ok74 : ∀ pc, okE 74 pc (cd74 pc) = true := okE_of rfl (band2 (band2 (band2 (band2 (band2 okc_7).2).2).2).2).1
theorem ok75 : ∀ pc, okE 75 pc (cd75 pc) = true := okE_of rfl (band2 (band2 (band2 (band2 (band2 (band2 okc_7).2).2).2).2).2).1
theorem ok76 : ∀ pc, okE 76 pc (cd76 pc) = true := okE_of rfl (band2 (band2 (band2 (band2 (band2 (band2 (band2 okc_7).2).2).2).2).2).2).1
theorem ok77 : ∀ pc, okE 77 pc (cd77 pc) = true := okE_of rfl (band2 (band2 (band2 (band2 (band2 (band2 (band2 (band2 okc_7).2).2).2).2).2).2).2).1
theorem ok78 : ∀ pc, okE 78 pc (cd78 pc) = true := okE_of rfl (band2 (band2 (band2 (band2 (band2 (band2 (band2 (band2 (band2 okc_7).2).2).2).2).2).2).2).2).1
theorem ok79 : ∀ pc, okE 79 pc (cd79 pc) = true := okE_of rfl (band2 (band2 (band2 (band2 (band2 (band2 (band2 (band2 (band2 okc_7).2).2).2).2).2).2).2).2).2
theorem okc_8 : ((List.range 32).all (fun pc => okE 80 pc (cd80 pc)) && ((List.range 59).all (fun pc => okE 81 pc (cd81 pc)) && ((List.range 40).all (fun pc => okE 82 pc (cd82 pc)) && ((List.range 18).all (fun pc => okE 83 pc (cd83 pc)) && ((List.range 34).all (fun pc => okE 84 pc (cd84 pc)) && ((List.range 30).all (fun pc => okE 85 pc (cd85 pc)) && ((List.range 69).all (fun pc => okE 86 pc (cd86 pc)) && ((List.range 18).all (fun pc => okE 87 pc (cd87 pc)) && ((List.range 110).all (fun pc => okE 88 pc (cd88 pc)) && (List.range 29).all (fun pc => okE 89 pc (cd89 pc))))))))))) = true := by decide +kernel
theorem ok80 : ∀ pc, okE 80 pc (cd80 pc) = true := okE_of rfl (band2 okc_8).1
theorem ok81 : ∀ pc, okE 81 pc (cd81 pc) = true := okE_of rfl (band2 (band2 okc_8).2).1
theorem ok82 : ∀ pc, okE 82 pc (cd82 pc) = true := okE_of rfl (band2 (band2 (band2 okc_8).2).2).1
theorem ok83 : ∀ pc, okE 83 pc (cd83 pc) = true := okE_of rfl (band2 (band2 (band2 (band2 okc_8).2).2).2).1
theorem ok84 : ∀ pc, okE 84 pc (cd84 pc) = true := okE_of rfl (band2 (band2 (band2 (band2 (band2 okc_8).2).2).2).2).1
theorem ok85 : ∀ pc, okE 85 pc (cd85 pc) = true := okE_of rfl (band2 (band2 (band2 (band2 (band2 (band2 okc_8).2).2).2).2).2).1
theorem ok86 : ∀ pc, okE 86 pc (cd86 pc) = true := okE_of rfl (band2 (band2 (band2 (band2 (band2 (band2 (band2 okc_8).2).2).2).2).2).2).1
theorem ok87 : ∀ pc, okE 87 pc (cd87 pc) = true := okE_of rfl (band2 (band2 (band2 (band2 (band2 (band2 (band2 (band2 okc_8).2).2).2).2).2).2).2).1
theorem ok88 : ∀ pc, okE 88 pc (cd88 pc) = true := okE_of rfl (band2 (band2 (band2 (band2 (band2 (band2 (band2 (band2 (band2 okc_8).2).2).2).2).2).2).2).2).1
theorem ok89 : ∀ pc, okE 89 pc (cd89 pc) = true := okE_of rfl (band2 (band2 (band2 (band2 (band2 (band2 (band2 (band2 (band2 okc_8).2).2).2).2).2).2).2).2).2
theorem okc_9 : ((List.range 112).all (fun pc => okE 90 pc (cd90 pc)) && ((List.range 18).all (fun pc => okE 91 pc (cd91 pc)) && ((List.range 51).all (fun pc => okE 92 pc (cd92 pc)) && ((List.range 87).all (fun pc => okE 93 pc (cd93 pc)) && ((List.range 275).all (fun pc => okE 94 pc (cd94 pc)) && ((List.range 183).all (fun pc => okE 95 pc (cd95 pc)) && ((List.range 19).all (fun pc => okE 96 pc (cd96 pc)) && ((List.range 247).all (fun pc => okE 97 pc (cd97 pc)) && ((List.range 51).all (fun pc => okE 98 pc (cd98 pc)) && (List.range 43).all (fun pc => okE 99 pc (cd99 pc))))))))))) = true := by decide +kernel
theorem ok90 : ∀ pc, okE 90 pc (cd90 pc) = true := okE_of rfl (band2 okc_9).1
theorem ok91 : ∀ pc, okE 91 pc (cd91 pc) = true := okE_of rfl (band2 (band2 okc_9).2).1
theorem ok92 : ∀ pc, okE 92 pc (cd92 pc) = true := okE_of rfl (band2 (band2 (band2 okc_9).2).2).1
theorem ok93 : ∀ pc, okE 93 pc (cd93 pc) = true := okE_of rfl (band2 (band2 (band2 (band2 okc_9).2).2).2).1
theorem ok94 : ∀ pc, okE 94 pc (cd94 pc) = true := okE_of rfl (band2 (band2 (band2 (band2 (band2 okc_9).2).2).2).2).1
theorem ok95 : ∀ pc, okE 95 pc (cd95 pc) = true := okE_of rfl (band2 (band2 (band2 (band2 (band2 (band2 okc_9).2).2).2).2).2).1
theorem ok96 : ∀ pc, okE 96 pc (cd96 pc) = true := okE_of rfl (band2 (band2 (band2 (band2 (band2 (band2 (band2 okc_9).2).2).2).2).2).2).1
theorem ok97 : ∀ pc, okE 97 pc (cd97 pc) = true := okE_of rfl (band2 (band2 (band2 (band2 (band2 (band2 (band2 (band2 okc_9).2).2).2).2).2).2).2).1
theorem ok98 : ∀ pc, okE 98 pc (cd98 pc) = true := okE_of rfl (band2 (band2 (band2 (band2 (band2 (band2 (band2 (band2 (band2 okc_9).2).2).2).2).2).2).2).2).1
theorem ok99 : ∀ pc, okE 99 pc (cd99 pc) = true := okE_of rfl (band2 (band2 (band2 (band2 (band2 (band2 (band2 (band2 (band2 okc_9).2).2).2).2).2).2).2).2).2
theorem okc_10 : ((List.range 99).all (fun pc => okE 100 pc (cd100 pc)) && ((List.range 38).all (fun pc => okE 101 pc (cd101 pc)) && ((List.range 46).all (fun pc => okE 102 pc (cd102 pc)) && ((List.range 28).all (fun pc => okE 103 pc (cd103 pc)) && ((List.range 45).all (fun pc => okE 104 pc (cd104 pc)) && ((List.range 90).all (fun pc => okE 105 pc (cd105 pc)) && ((List.range 53).all (fun pc => okE 106 pc (cd106 pc)) && ((List.range 30).all (fun pc => okE 107 pc (cd107 pc)) && ((List.range 52).all (fun pc => okE 108 pc (cd108 pc)) && (List.range 118).all (fun pc => okE 109 pc (cd109 pc))))))))))) = true := by decide +kernel
theorem ok100 : ∀ pc, okE 100 pc (cd100 pc) = true := okE_of rfl (band2 okc_10).1
theorem ok101 : ∀ pc, okE 101 pc (cd101 pc) = true := okE_of rfl (band2 (band2 okc_10).2).1
theorem ok102 : ∀ pc, okE 102 pc (cd102 pc) = true := okE_of rfl (band2 (band2 (band2 okc_10).2).2).1
theorem ok103 : ∀ pc, okE 103 pc (cd103 pc) = true := okE_of rfl (band2 (band2 (band2 (band2 okc_10).2).2).2).1
theorem ok104 : ∀ pc, okE 104 pc (cd104 pc) = true := okE_of rfl (band2 (band2 (band2 (band2 (band2 okc_10).2).2).2).2).1
theorem ok105 : ∀ pc, okE 105 pc (cd105 pc) = true := okE_of rfl (band2 (band2 (band2 (band2 (band2 (band2 okc_10).2).2).2).2).2).1
theorem ok106 : ∀ pc, okE 106 pc (cd106 pc) = true := okE_of rfl (band2 (band2 (band2 (band2 (band2 (band2 (band2 okc_10).2).2).2).2).2).2).1
theorem ok107 : ∀ pc, okE 107 pc (cd107 pc) = true := okE_of rfl (band2 (band2 (band2 (band2 (band2 (band2 (band2 (band2 okc_10).2).2).2).2).2).2).2).1
theorem ok108 : ∀ pc, okE 108 pc (cd108 pc) = true := okE_of rfl (band2 (band2 (band2 (band2 (band2 (band2 (band2 (band2 (band2 okc_10).2).2).2).2).2).2).2).2).1
theorem ok109 : ∀ pc, okE 109 pc (cd109 pc) = true := okE_of rfl (band2 (band2 (band2 (band2 (band2 (band2 (band2 (band2 (band2 okc_10).2).2).2).2).2).2).2).2).2
theorem okc_11 : ((List.range 31).all (fun pc => okE 110 pc (cd110 pc)) && ((List.range 24).all (fun pc => okE 111 pc (cd111 pc)) && ((List.range 16).all (fun pc => okE 112 pc (cd112 pc)) && ((List.range 193).all (fun pc => okE 113 pc (cd113 pc)) && ((List.range 26).all (fun pc => okE 114 pc (cd114 pc)) && ((List.range 177).all (fun pc => okE 115 pc (cd115 pc)) && ((List.range 50).all (fun pc => okE 116 pc (cd116 pc)) && ((List.range 12).all (fun pc => okE 117 pc (cd117 pc)) && ((List.range 42).all (fun pc => okE 118 pc (cd118 pc)) && (List.range 123).all (fun pc => okE 119 pc (cd119 pc))))))))))) = true := by decide +kernel
theorem ok110 : ∀ pc, okE 110 pc (cd110 pc) = true := okE_of rfl (band2 okc_11).1
theorem ok111 : ∀ pc, okE 111 pc (cd111 pc) = true := okE_of rfl (band2 (band2 okc_11).2).1
theorem ok112 : ∀ pc, okE 112 pc (cd112 pc) = true := okE_of rfl (band2 (band2 (band2 okc_11).2).2).1
theorem ok113 : ∀ pc, okE 113 pc (cd113 pc) = true := okE_of rfl (band2 (band2 (band2 (band2 okc_11).2).2).2).1
theorem ok114 : ∀ pc, okE 114 pc (cd114 pc) = true := okE_of rfl (band2 (band2 (band2 (band2 (band2 okc_11).2).2).2).2).1
theorem ok115 : ∀ pc, okE 115 pc (cd115 pc) = true := okE_of rfl (band2 (band2 (band2 (band2 (band2 (band2 okc_11).2).2).2).2).2).1
theorem ok116 : ∀ pc, okE 116 pc (cd116 pc) = true := okE_of rfl (band2 (band2 (band2 (band2 (band2 (band2 (band2 okc_11).2).2).2).2).2).2).1
theorem ok117 : ∀ pc, okE 117 pc (cd117 pc) = true := okE_of rfl (band2 (band2 (band2 (band2 (band2 (band2 (band2 (band2 okc_11).2).2).2).2).2).2).2).1
theorem ok118 : ∀ pc, okE 118 pc (cd118 pc) = true := okE_of rfl (band2 (band2 (band2 (band2 (band2 (band2 (band2 (band2 (band2 okc_11).2).2).2).2).2).2).2).2).1
theorem ok119 : ∀ pc, okE 119 pc (cd119 pc) = true := okE_of rfl (band2 (band2 (band2 (band2 (band2 (band2 (band2 (band2 (band2 okc_11).2).2).2).2).2).2).2).2).2
theorem okc_12 : ((List.range 89).all (fun pc => okE 120 pc (cd120 pc)) && ((List.range 118).all (fun pc => okE 121 pc (cd121 pc)) && ((List.range 91).all (fun pc => okE 122 pc (cd122 pc)) && ((List.range 50).all (fun pc => okE 123 pc (cd123 pc)) && ((List.range 61).all (fun pc => okE 124 pc (cd124 pc)) && ((List.range 61).all (fun pc => okE 125 pc (cd125 pc)) && ((List.range 73).all (fun pc => okE 126 pc (cd126 pc)) && ((List.range 136).all (fun pc => okE 127 pc (cd127 pc)) && ((List.range 155).all (fun pc => okE 128 pc (cd128 pc)) && (List.range 28).all (fun pc => okE 129 pc (cd129 pc))))))))))) = true := by decide +kernel
theorem ok120 : ∀ pc, okE 120 pc (cd120 pc) = true := okE_of rfl (band2 okc_12).1
theorem ok121 : ∀ pc, okE 121 pc (cd121 pc) = true := okE_of rfl (band2 (band2 okc_12).2).1
theorem ok122 : ∀ pc, okE 122 pc (cd122 pc) = true := okE_of rfl (band2 (band2 (band2 okc_12).2).2).1
theorem ok123 : ∀ pc, okE 123 pc (cd123 pc) = true := okE_of rfl (band2 (band2 (band2 (band2 okc_12).2).2).2).1
theorem ok124 : ∀ pc, okE 124 pc (cd124 pc) = true := okE_of rfl (band2 (band2 (band2 (band2 (band2 okc_12).2).2).2).2).1
theorem ok125 : ∀ pc, okE 125 pc (cd125 pc) = true := okE_of rfl (band2 (band2 (band2 (band2 (band2 (band2 okc_12).2).2).2).2).2).1
theorem ok126 : ∀ pc, okE 126 pc (cd126 pc) = true := okE_of rfl (band2 (band2 (band2 (band2 (band2 (band2 (band2 okc_12).2).2).2).2).2).2).1
theorem ok127 : ∀ pc, okE 127 pc (cd127 pc) = true := okE_of rfl (band2 (band2 (band2 (band2 (band2 (band2 (band2 (band2 okc_12).2).2).2).2).2).2).2).1
theorem ok128 : ∀ pc, okE 128 pc (cd128 pc) = true := okE_of rfl (band2 (band2 (band2 (band2 (band2 (band2 (band2 (band2 (band2 okc_12).2).2).2).2).2).2).2).2).1
theorem ok129 : ∀ pc, okE 129 pc (cd129 pc) = true := okE_of rfl (band2 (band2 (band2 (band2 (band2 (band2 (band2 (band2 (band2 okc_12).2).2).2).2).2).2).2).2).2
theorem okc_13 : ((List.range 128).all (fun pc => okE 130 pc (cd130 pc)) && ((List.range 130).all (fun pc => okE 131 pc (cd131 pc)) && ((List.range 18).all (fun pc => okE 132 pc (cd132 pc)) && ((List.range 23).all (fun pc => okE 133 pc (cd133 pc)) && ((List.range 197).all (fun pc => okE 134 pc (cd134 pc)) && ((List.range 88).all (fun pc => okE 135 pc (cd135 pc)) && ((List.range 83).all (fun pc => okE 136 pc (cd136 pc)) && ((List.range 86).all (fun pc => okE 137 pc (cd137 pc)) && ((List.range 133).all (fun pc => okE 138 pc (cd138 pc)) && (List.range 70).all (fun pc => okE 139 pc (cd139 pc))))))))))) = true := by decide +kernel
theorem ok130 : ∀ pc, okE 130 pc (cd130 pc) = true := okE_of rfl (band2 okc_13).1
theorem ok131 : ∀ pc, okE 131 pc (cd131 pc) = true := okE_of rfl (band2 (band2 okc_13).2).1
theorem ok132 : ∀ pc, okE 132 pc (cd132 pc) = true := okE_of rfl (band2 (band2 (band2 okc_13).2).2).1
theorem ok133 : ∀ pc, okE 133 pc (cd133 pc) = true := okE_of rfl (band2 (band2 (band2 (band2 okc_13).2).2).2).1
theorem ok134 : ∀ pc, okE 134 pc (cd134 pc) = true := okE_of rfl (band2 (band2 (band2 (band2 (band2 okc_13).2).2).2).2).1
theorem ok135 : ∀ pc, okE 135 pc (cd135 pc) = true := okE_of rfl (band2 (band2 (band2 (band2 (band2 (band2 okc_13).2).2).2).2).2).1
theorem ok136 : ∀ pc, okE 136 pc (cd136 pc) = true := okE_of rfl (band2 (band2 (band2 (band2 (band2 (band2 (band2 okc_13).2).2).2).2).2).2).1
theorem ok137 : ∀ pc, okE 137 pc (cd137 pc) = true := okE_of rfl (band2 (band2 (band2 (band2 (band2 (band2 (band2 (band2 okc_13).2).2).2).2).2).2).2).1
theorem ok138 : ∀ pc, okE 138 pc (cd138 pc) = true := okE_of rfl (band2 (band2 (band2 (band2 (band2 (band2 (band2 (band2 (band2 okc_13).2).2).2).2).2).2).2).2).1
theorem ok139 : ∀ pc, okE 139 pc (cd139 pc) = true := okE_of rfl (band2 (band2 (band2 (band2 (band2 (band2 (band2 (band2 (band2 okc_13).2).2).2).2).2).2).2).2).2
theorem okc_14 : ((List.range 235).all (fun pc => okE 140 pc (cd140 pc)) && ((List.range 86).all (fun pc => okE 141 pc (cd141 pc)) && ((List.range 29).all (fun pc => okE 142 pc (cd142 pc)) && ((List.range 105).all (fun pc => okE 143 pc (cd143 pc)) && ((List.range 7).all (fun pc => okE 144 pc (cd144 pc)) && ((List.range 8).all (fun pc => okE 145 pc (cd145 pc)) && ((List.range 7).all (fun pc => okE 146 pc (cd146 pc)) && ((List.range 10).all (fun pc => okE 147 pc (cd147 pc)) && ((List.range 7).all (fun pc => okE 148 pc (cd148 pc)) && (List.range 5).all (fun pc => okE 149 pc (cd149 pc))))))))))) = true := by decide +kernel
theorem ok140 : ∀ pc, okE 140 pc (cd140 pc) = true := okE_of rfl (band2 okc_14).1
theorem ok141 : ∀ pc, okE 141 pc (cd141 pc) = true := okE_of rfl (band2 (band2 okc_14).2).1
theorem ok142 : ∀ pc, okE 142 pc (cd142 pc) = true := okE_of rfl (band2 (band2 (band2 okc_14).2).2).1
theorem ok143 : ∀ pc, okE 143 pc (cd143 pc) = true := okE_of rfl (band2 (band2 (band2 (band2 okc_14).2).2).2).1
theorem ok144 : ∀ pc, okE 144 pc (cd144 pc) = true := okE_of rfl (band2 (band2 (band2 (band2 (band2 okc_14).2).2).2).2).1
theorem ok145 : ∀ pc, okE 145 pc (cd145 pc) = true := okE_of rfl (band2 (band2 (band2 (band2 (band2 (band2 okc_14).2).2).2).2).2).1
theorem ok146 : ∀ pc, okE 146 pc (cd146 pc) = true := okE_of rfl (band2 (band2 (band2 (band2 (band2 (band2 (band2 okc_14).2).2).2).2).2).2).1
theorem ok147 : ∀ pc, okE 147 pc (cd147 pc) = true := okE_of rfl (band2 (band2 (band2 (band2 (band2 (band2 (band2 (band2 okc_14).2).2).2).2).2).2).2).1
theorem ok148 : ∀ pc, okE 148 pc (cd148 pc) = true := okE_of rfl (band2 (band2 (band2 (band2 (band2 (band2 (band2 (band2 (band2 okc_14).2).2).2).2).2).2).2).2).1
theorem ok149 : ∀ pc, okE 149 pc (cd149 pc) = true := okE_of rfl (band2 (band2 (band2 (band2 (band2 (band2 (band2 (band2 (band2 okc_14).2).2).2).2).2).2).2).2).2
theorem okc_15 : ((List.range 8).all (fun pc => okE 150 pc (cd150 pc)) && ((List.range 7).all (fun pc => okE 151 pc (cd151 pc)) && ((List.range 8).all (fun pc => okE 152 pc (cd152 pc)) && ((List.range 2).all (fun pc => okE 153 pc (cd153 pc)) && ((List.range 7).all (fun pc => okE 154 pc (cd154 pc)) && ((List.range 2).all (fun pc => okE 155 pc (cd155 pc)) && ((List.range 7).all (fun pc => okE 156 pc (cd156 pc)) && ((List.range 7).all (fun pc => okE 157 pc (cd157 pc)) && ((List.range 3).all (fun pc => okE 158 pc (cd158 pc)) && (List.range 3).all (fun pc => okE 159 pc (cd159 pc))))))))))) = true := by decide +kernel
theorem ok150 : ∀ pc, okE 150 pc (cd150 pc) = true := okE_of rfl (band2 okc_15).1
theorem ok151 : ∀ pc, okE 151 pc (cd151 pc) = true := okE_of rfl (band2 (band2 okc_15).2).1
theorem ok152 : ∀ pc, okE 152 pc (cd152 pc) = true := okE_of rfl (band2 (band2 (band2 okc_15).2).2).1
theorem ok153 : ∀ pc, okE 153 pc (cd153 pc) = true := okE_of rfl (band2 (band2 (band2 (band2 okc_15).2).2).2).1
theorem ok154 : ∀ pc, okE 154 pc (cd154 pc) = true := okE_of rfl (band2 (band2 (band2 (band2 (band2 okc_15).2).2).2).2).1
theorem ok155 : ∀ pc, okE 155 pc (cd155 pc) = true := okE_of rfl (band2 (band2 (band2 (band2 (band2 (band2 okc_15).2).2).2).2).2).1
theorem ok156 : ∀ pc, okE 156 pc (cd156 pc) = true := okE_of rfl (band2 (band2 (band2 (band2 (band2 (band2 (band2 okc_15).2).2).2).2).2).2).1
theorem ok157 : ∀ pc, okE 157 pc (cd157 pc) = true := okE_of rfl (band2 (band2 (band2 (band2 (band2 (band2 (band2 (band2 okc_15).2).2).2).2).2).2).2).1
theorem ok158 : ∀ pc, okE 158 pc (cd158 pc) = true := okE_of rfl (band2 (band2 (band2 (band2 (band2 (band2 (band2 (band2 (band2 okc_15).2).2).2).2).2).2).2).2).1
theorem ok159 : ∀ pc, okE 159 pc (cd159 pc) = true := okE_of rfl (band2 (band2 (band2 (band2 (band2 (band2 (band2 (band2 (band2 okc_15).2).2).2).2).2).2).2).2).2
theorem okc_16 : ((List.range 7).all (fun pc => okE 160 pc (cd160 pc)) && ((List.range 1).all (fun pc => okE 161 pc (cd161 pc)) && ((List.range 7).all (fun pc => okE 162 pc (cd162 pc)) && ((List.range 7).all (fun pc => okE 163 pc (cd163 pc)) && ((List.range 85).all (fun pc => okE 164 pc (cd164 pc)) && ((List.range 135).all (fun pc => okE 165 pc (cd165 pc)) && ((List.range 18).all (fun pc => okE 166 pc (cd166 pc)) && ((List.range 79).all (fun pc => okE 167 pc (cd167 pc)) && ((List.range 41).all (fun pc => okE 168 pc (cd168 pc)) && (List.range 35).all (fun pc => okE 169 pc (cd169 pc))))))))))) = true := by decide +kernel
theorem ok160 : ∀ pc, okE 160 pc (cd160 pc) = true := okE_of rfl (band2 okc_16).1
theorem ok161 : ∀ pc, okE 161 pc (cd161 pc) = true := okE_of rfl (band2 (band2 okc_16).2).1
theorem ok162 : ∀ pc, okE 162 pc (cd162 pc) = true := okE_of rfl (band2 (band2 (band2 okc_16).2).2).1
theorem ok163 : ∀ pc, okE 163 pc (cd163 pc) = true := okE_of rfl (band2 (band2 (band2 (band2 okc_16).2).2).2).1
theorem ok164 : ∀ pc, okE 164 pc (cd164 pc) = true := okE_of rfl (band2 (band2 (band2 (band2 (band2 okc_16).2).2).2).2).1
theorem ok165 : ∀ pc, okE 165 pc (cd165 pc) = true := okE_of rfl (band2 (band2 (band2 (band2 (band2 (band2 okc_16).2).2).2).2).2).1
theorem ok166 : ∀ pc, okE 166 pc (cd166 pc) = true := okE_of rfl (band2 (band2 (band2 (band2 (band2 (band2 (band2 okc_16).2).2).2).2).2).2).1
theorem ok167 : ∀ pc, okE 167 pc (cd167 pc) = true := okE_of rfl (band2 (band2 (band2 (band2 (band2 (band2 (band2 (band2 okc_16).2).2).2).2).2).2).2).1
theorem ok168 : ∀ pc, okE 168 pc (cd168 pc) = true := okE_of rfl (band2 (band2 (band2 (band2 (band2 (band2 (band2 (band2 (band2 okc_16).2).2).2).2).2).2).2).2).1
theorem ok169 : ∀ pc, okE 169 pc (cd169 pc) = true := okE_of rfl (band2 (band2 (band2 (band2 (band2 (band2 (band2 (band2 (band2 okc_16).2).2).2).2).2).2).2).2).2
theorem okc_17 : ((List.range 49).all (fun pc => okE 170 pc (cd170 pc)) && ((List.range 62).all (fun pc => okE 171 pc (cd171 pc)) && ((List.range 111).all (fun pc => okE 172 pc (cd172 pc)) && ((List.range 115).all (fun pc => okE 173 pc (cd173 pc)) && ((List.range 32).all (fun pc => okE 174 pc (cd174 pc)) && ((List.range 52).all (fun pc => okE 175 pc (cd175 pc)) && ((List.range 26).all (fun pc => okE 176 pc (cd176 pc)) && ((List.range 23).all (fun pc => okE 177 pc (cd177 pc)) && ((List.range 24).all (fun pc => okE 178 pc (cd178 pc)) && (List.range 71).all (fun pc => okE 179 pc (cd179 pc))))))))))) = true := by decide +kernel
theorem ok170 : ∀ pc, okE 170 pc (cd170 pc) = true := okE_of rfl (band2 okc_17).1
theorem ok171 : ∀ pc, okE 171 pc (cd171 pc) = true := okE_of rfl (band2 (band2 okc_17).2).1
theorem ok172 : ∀ pc, okE 172 pc (cd172 pc) = true := okE_of rfl (band2 (band2 (band2 okc_17).2).2).1
theorem ok173 : ∀ pc, okE 173 pc (cd173 pc) = true := okE_of rfl (band2 (band2 (band2 (band2 okc_17).2).2).2).1
theorem ok174 : ∀ pc, okE 174 pc (cd174 pc) = true := okE_of rfl (band2 (band2 (band2 (band2 (band2 okc_17).2).2).2).2).1
theorem ok175 : ∀ pc, okE 175 pc (cd175 pc) = true := okE_of rfl (band2 (band2 (band2 (band2 (band2 (band2 okc_17).2).2).2).2).2).1
theorem ok176 : ∀ pc, okE 176 pc (cd176 pc) = true := okE_of rfl (band2 (band2 (band2 (band2 (band2 (band2 (band2 okc_17).2).2).2).2).2).2).1
theorem ok177 : ∀ pc, okE 177 pc (cd177 pc) = true := okE_of rfl (band2 (band2 (band2 (band2 (band2 (band2 (band2 (band2 okc_17).2).2).2).2).2).2).2).1
theorem ok178 : ∀ pc, okE 178 pc (cd178 pc) = true := okE_of rfl (band2 (band2 (band2 (band2 (band2 (band2 (band2 (band2 (band2 okc_17).2).2).2).2).2).2).2).2).1
theorem ok179 : ∀ pc, okE 179 pc (cd179 pc) = true := okE_of rfl (band2 (band2 (band2 (band2 (band2 (band2 (band2 (band2 (band2 okc_17).2).2).2).2).2).2).2).2).2
theorem okc_18 : ((List.range 26).all (fun pc => okE 180 pc (cd180 pc)) && ((List.range 51).all (fun pc => okE 181 pc (cd181 pc)) && ((List.range 12).all (fun pc => okE 182 pc (cd182 pc)) && ((List.range 75).all (fun pc => okE 183 pc (cd183 pc)) && ((List.range 30).all (fun pc => okE 184 pc (cd184 pc)) && ((List.range 30).all (fun pc => okE 185 pc (cd185 pc)) && ((List.range 20).all (fun pc => okE 186 pc (cd186 pc)) && ((List.range 39).all (fun pc => okE 187 pc (cd187 pc)) && ((List.range 39).all (fun pc => okE 188 pc (cd188 pc)) && (List.range 38).all (fun pc => okE 189 pc (cd189 pc))))))))))) = true := by decide +kernel
theorem ok180 : ∀ pc, okE 180 pc (cd180 pc) = true := okE_of rfl (band2 okc_18).1
theorem ok181 : ∀ pc, okE 181 pc (cd181 pc) = true := okE_of rfl (band2 (band2 okc_18).2).1
theorem ok182 : ∀ pc, okE 182 pc (cd182 pc) = true := okE_of rfl (band2 (band2 (band2 okc_18).2).2).1
theorem ok183 : ∀ pc, okE 183 pc (cd183 pc) = true := okE_of rfl (band2 (band2 (band2 (band2 okc_18).2).2).2).1
theorem ok184 : ∀ pc, okE 184 pc (cd184 pc) = true := okE_of rfl (band2 (band2 (band2 (band2 (band2 okc_18).2).2).2).2).1
theorem ok185 : ∀ pc, okE 185 pc (cd185 pc) = true := okE_of rfl (band2 (band2 (band2 (band2 (band2 (band2 okc_18).2).2).2).2).2).1
theorem ok186 : ∀ pc, okE 186 pc (cd186 pc) = true := okE_of rfl (band2 (band2 (band2 (band2 (band2 (band2 (band2 okc_18).2).2).2).2).2).2).1
theorem ok187 : ∀ pc, okE 187 pc (cd187 pc) = true := okE_of rfl (band2 (band2 (band2 (band2 (band2 (band2 (band2 (band2 okc_18).2).2).2).2).2).2).2).1
theorem ok188 : ∀ pc, okE 188 pc (cd188 pc) = true := okE_of rfl (band2 (band2 (band2 (band2 (band2 (band2 (band2 (band2 (band2 okc_18).2).2).2).2).2).2).2).2).1
theorem ok189 : ∀ pc, okE 189 pc (cd189 pc) = true := okE_of rfl (band2 (band2 (band2 (band2 (band2 (band2 (band2 (band2 (band2 okc_18).2).2).2).2).2).2).2).2).2
theorem okc_19 : ((List.range 29).all (fun pc => okE 190 pc (cd190 pc)) && ((List.range 51).all (fun pc => okE 191 pc (cd191 pc)) && ((List.range 58).all (fun pc => okE 192 pc (cd192 pc)) && ((List.range 22).all (fun pc => okE 193 pc (cd193 pc)) && ((List.range 61).all (fun pc => okE 194 pc (cd194 pc)) && ((List.range 13).all (fun pc => okE 195 pc (cd195 pc)) && ((List.range 85).all (fun pc => okE 196 pc (cd196 pc)) && ((List.range 36).all (fun pc => okE 197 pc (cd197 pc)) && ((List.range 23).all (fun pc => okE 198 pc (cd198 pc)) && (List.range 37).all (fun pc => okE 199 pc (cd199 pc))))))))))) = true := by decide +kernel
theorem ok190 : ∀ pc, okE 190 pc (cd190 pc) = true := okE_of rfl (band2 okc_19).1
theorem ok191 : ∀ pc, okE 191 pc (cd191 pc) = true := okE_of rfl (band2 (band2 okc_19).2).1
theorem ok192 : ∀ pc, okE 192 pc (cd192 pc) = true := okE_of rfl (band2 (band2 (band2 okc_19).2).2).1
theorem ok193 : ∀ pc, okE 193 pc (cd193 pc) = true := okE_of rfl (band2 (band2 (band2 (band2 okc_19).2).2).2).1
theorem ok194 : ∀ pc, okE 194 pc (cd194 pc) = true := okE_of rfl (band2 (band2 (band2 (band2 (band2 okc_19).2).2).2).2).1
theorem ok195 : ∀ pc, okE 195 pc (cd195 pc) = true := okE_of rfl (band2 (band2 (band2 (band2 (band2 (band2 okc_19).2).2).2).2).2).1
theorem ok196 : ∀ pc, okE 196 pc (cd196 pc) = true := okE_of rfl (band2 (band2 (band2 (band2 (band2 (band2 (band2 okc_19).2).2).2).2).2).2).1
theorem ok197 : ∀ pc, okE 197 pc (cd197 pc) = true := okE_of rfl (band2 (band2 (band2 (band2 (band2 (band2 (band2 (band2 okc_19).2).2).2).2).2).2).2).1
theorem ok198 : ∀ pc, okE 198 pc (cd198 pc) = true := okE_of rfl (band2 (band2 (band2 (band2 (band2 (band2 (band2 (band2 (band2 okc_19).2).2).2).2).2).2).2).2).1
theorem ok199 : ∀ pc, okE 199 pc (cd199 pc) = true := okE_of rfl (band2 (band2 (band2 (band2 (band2 (band2 (band2 (band2 (band2 okc_19).2).2).2).2).2).2).2).2).2
theorem okc_20 : ((List.range 35).all (fun pc => okE 200 pc (cd200 pc)) && ((List.range 45).all (fun pc => okE 201 pc (cd201 pc)) && ((List.range 15).all (fun pc => okE 202 pc (cd202 pc)) && ((List.range 4).all (fun pc => okE 203 pc (cd203 pc)) && ((List.range 2).all (fun pc => okE 204 pc (cd204 pc)) && ((List.range 8).all (fun pc => okE 205 pc (cd205 pc)) && ((List.range 2).all (fun pc => okE 206 pc (cd206 pc)) && ((List.range 2).all (fun pc => okE 207 pc (cd207 pc)) && ((List.range 18).all (fun pc => okE 208 pc (cd208 pc)) && (List.range 7).all (fun pc => okE 209 pc (cd209 pc))))))))))) = true := by decide +kernel
theorem ok200 : ∀ pc, okE 200 pc (cd200 pc) = true := okE_of rfl (band2 okc_20).1
theorem ok201 : ∀ pc, okE 201 pc (cd201 pc) = true := okE_of rfl (band2 (band2 okc_20).2).1
theorem ok202 : ∀ pc, okE 202 pc (cd202 pc) = true := okE_of rfl (band2 (band2 (band2 okc_20).2).2).1
theorem ok203 : ∀ pc, okE 203 pc (cd203 pc) = true := okE_of rfl (band2 (band2 (band2 (band2 okc_20).2).2).2).1
theorem ok204 : ∀ pc, okE 204 pc (cd204 pc) = true := okE_of rfl (band2 (band2 (band2 (band2 (band2 okc_20).2).2).2).2).1
theorem ok205 : ∀ pc, okE 205 pc (cd205 pc) = true := okE_of rfl (band2 (band2 (band2 (band2 (band2 (band2 okc_20).2).2).2).2).2).1
theorem ok206 : ∀ pc, okE 206 pc (cd206 pc) = true := okE_of rfl (band2 (band2 (band2 (band2 (band2 (band2 (band2 okc_20).2).2).2).2).2).2).1
theorem ok207 : ∀ pc, okE 207 pc (cd207 pc) = true := okE_of rfl (band2 (band2 (band2 (band2 (band2 (band2 (band2 (band2 okc_20).2).2).2).2).2).2).2).1
theorem ok208 : ∀ pc, okE 208 pc (cd208 pc) = true := okE_of rfl (band2 (band2 (band2 (band2 (band2 (band2 (band2 (band2 (band2 okc_20).2).2).2).2).2).2).2).2).1
theorem ok209 : ∀ pc, okE 209 pc (cd209 pc) = true := okE_of rfl (band2 (band2 (band2 (band2 (band2 (band2 (band2 (band2 (band2 okc_20).2).2).2).2).2).2).2).2).2
theorem okc_21 : ((List.range 11).all (fun pc => okE 210 pc (cd210 pc)) && ((List.range 7).all (fun pc => okE 211 pc (cd211 pc)) && ((List.range 7).all (fun pc => okE 212 pc (cd212 pc)) && ((List.range 10).all (fun pc => okE 213 pc (cd213 pc)) && ((List.range 18).all (fun pc => okE 214 pc (cd214 pc)) && ((List.range 33).all (fun pc => okE 215 pc (cd215 pc)) && ((List.range 20).all (fun pc => okE 216 pc (cd216 pc)) && ((List.range 16).all (fun pc => okE 217 pc (cd217 pc)) && ((List.range 42).all (fun pc => okE 218 pc (cd218 pc)) && (List.range 18).all (fun pc => okE 219 pc (cd219 pc))))))))))) = true := by decide +kernel
theorem ok210 : ∀ pc, okE 210 pc (cd210 pc) = true := okE_of rfl (band2 okc_21).1
theorem ok211 : ∀ pc, okE 211 pc (cd211 pc) = true := okE_of rfl (band2 (band2 okc_21).2).1
theorem ok212 : ∀ pc, okE 212 pc (cd212 pc) = true := okE_of rfl (band2 (band2 (band2 okc_21).2).2).1
theorem ok213 : ∀ pc, okE 213 pc (cd213 pc) = true := okE_of rfl (band2 (band2 (band2 (band2 okc_21).2).2).2).1
theorem ok214 : ∀ pc, okE 214 pc (cd214 pc) = true := okE_of rfl (band2 (band2 (band2 (band2 (band2 okc_21).2).2).2).2).1
theorem ok215 : ∀ pc, okE 215 pc (cd215 pc) = true := okE_of rfl (band2 (band2 (band2 (band2 (band2 (band2 okc_21).2).2).2).2).2).1
theorem ok216 : ∀ pc, okE 216 pc (cd216 pc) = true := okE_of rfl (band2 (band2 (band2 (band2 (band2 (band2 (band2 okc_21).2).2).2).2).2).2).1
theorem ok217 : ∀ pc, okE 217 pc (cd217 pc) = true := okE_of rfl (band2 (band2 (band2 (band2 (band2 (band2 (band2 (band2 okc_21).2).2).2).2).2).2).2).1
theorem ok218 : ∀ pc, okE 218 pc (cd218 pc) = true := okE_of rfl (band2 (band2 (band2 (band2 (band2 (band2 (band2 (band2 (band2 okc_21).2).2).2).2).2).2).2).2).1
theorem ok219 : ∀ pc, okE 219 pc (cd219 pc) = true := okE_of rfl (band2 (band2 (band2 (band2 (band2 (band2 (band2 (band2 (band2 okc_21).2).2).2).2).2).2).2).2).2
theorem okc_22 : ((List.range 32).all (fun pc => okE 220 pc (cd220 pc)) && ((List.range 19).all (fun pc => okE 221 pc (cd221 pc)) && ((List.range 9).all (fun pc => okE 222 pc (cd222 pc)) && ((List.range 20).all (fun pc => okE 223 pc (cd223 pc)) && ((List.range 25).all (fun pc => okE 224 pc (cd224 pc)) && ((List.range 27).all (fun pc => okE 225 pc (cd225 pc)) && ((List.range 7).all (fun pc => okE 226 pc (cd226 pc)) && ((List.range 8).all (fun pc => okE 227 pc (cd227 pc)) && ((List.range 7).all (fun pc => okE 228 pc (cd228 pc)) && (List.range 2).all (fun pc => okE 229 pc (cd229 pc))))))))))) = true := by decide +kernel
theorem ok220 : ∀ pc, okE 220 pc (cd220 pc) = true := okE_of rfl (band2 okc_22).1
theorem ok221 : ∀ pc, okE 221 pc (cd221 pc) = true := okE_of rfl (band2 (band2 okc_22).2).1
theorem ok222 : ∀ pc, okE 222 pc (cd222 pc) = true := okE_of rfl (band2 (band2 (band2 okc_22).2).2).1
theorem ok223 : ∀ pc, okE 223 pc (cd223 pc) = true := okE_of rfl (band2 (band2 (band2 (band2 okc_22).2).2).2).1
theorem ok224 : ∀ pc, okE 224 pc (cd224 pc) = true := okE_of rfl (band2 (band2 (band2 (band2 (band2 okc_22).2).2).2).2).1
theorem ok225 : ∀ pc, okE 225 pc (cd225 pc) = true := okE_of rfl (band2 (band2 (band2 (band2 (band2 (band2 okc_22).2).2).2).2).2).1
theorem ok226 : ∀ pc, okE 226 pc (cd226 pc) = true := okE_of rfl (band2 (band2 (band2 (band2 (band2 (band2 (band2 okc_22).2).2).2).2).2).2).1
theorem ok227 : ∀ pc, okE 227 pc (cd227 pc) = true := okE_of rfl (band2 (band2 (band2 (band2 (band2 (band2 (band2 (band2 okc_22).2).2).2).2).2).2).2).1
theorem ok228 : ∀ pc, okE 228 pc (cd228 pc) = true := okE_of rfl (band2 (band2 (band2 (band2 (band2 (band2 (band2 (band2 (band2 okc_22).2).2).2).2).2).2).2).2).1
theorem ok229 : ∀ pc, okE 229 pc (cd229 pc) = true := okE_of rfl (band2 (band2 (band2 (band2 (band2 (band2 (band2 (band2 (band2 okc_22).2).2).2).2).2).2).2).2).2
theorem okc_23 : ((List.range 7).all (fun pc => okE 230 pc (cd230 pc)) && ((List.range 18).all (fun pc => okE 231 pc (cd231 pc)) && (List.range 22).all (fun pc => okE 232 pc (cd232 pc)))) = true := by decide +kernel
theorem ok230 : ∀ pc, okE 230 pc (cd230 pc) = true := okE_of rfl (band2 okc_23).1
theorem ok231 : ∀ pc, okE 231 pc (cd231 pc) = true := okE_of rfl (band2 (band2 okc_23).2).1
theorem ok232 : ∀ pc, okE 232 pc (cd232 pc) = true := okE_of rfl (band2 (band2 okc_23).2).2
