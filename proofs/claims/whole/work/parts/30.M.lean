def f_X12_find_3 (n : Nat) : Nat → StT → Int32 → Int32 → Int32 → Int32 → Option (Int32 × StT)
  | 0, _, _, _, _, _ => none
  | k + 1, st, x1, x2, x3, x4 => if (st.1 0) ≤ x4 then (some ((-1 : Int32), st)) else (if inB x4 4200 = true then (if (st.2.1 0 (x4).toNatClampNeg) = x1 then (if inB x4 4200 = true then (if (st.2.1 1 (x4).toNatClampNeg) = x2 then (if inB x4 4200 = true then (if (st.2.1 2 (x4).toNatClampNeg) = x3 then (some (x4, st)) else (f_X12_find_3 n k st x1 x2 x3 (x4 + (1 : Int32)))) else none) else (f_X12_find_3 n k st x1 x2 x3 (x4 + (1 : Int32)))) else none) else (f_X12_find_3 n k st x1 x2 x3 (x4 + (1 : Int32)))) else none)
def f_X12_find (n : Nat) (st : StT) (x1 : Int32) (x2 : Int32) (x3 : Int32) : Option (Int32 × StT) := f_X12_find_3 n n st x1 x2 x3 (0 : Int32)
theorem wd902 : Cond.laysFinal RX12 "WorldProverModel" "kind" "[I" ∈ Gw := gT6 (List.mem_of_getElem? (i := 156) rfl) rfl
theorem wd903 : Cond.laysFinal RX12 "WorldProverModel" "one" "[I" ∈ Gw := gT6 (List.mem_of_getElem? (i := 158) rfl) rfl
theorem wd904 : Cond.laysFinal RX12 "WorldProverModel" "two" "[I" ∈ Gw := gT6 (List.mem_of_getElem? (i := 160) rfl) rfl
theorem wd905 : Cond.lays RX12 "WorldProverModel" "formulas" "I" ∈ Gw := gT6 (List.mem_of_getElem? (i := 162) rfl) rfl
theorem wd906 : Cond.lays RX12 "WorldProverModel" "asked" "I" ∈ Gw := gT6 (List.mem_of_getElem? (i := 164) rfl) rfl
theorem wd907 : Cond.laysFinal RX12 "WorldProverModel" "varName" "[I" ∈ Gw := gT6 (List.mem_of_getElem? (i := 166) rfl) rfl
theorem wd908 : Cond.laysFinal RX12 "WorldProverModel" "varSize" "[I" ∈ Gw := gT6 (List.mem_of_getElem? (i := 168) rfl) rfl
theorem wd909 : Cond.laysFinal RX12 "WorldProverModel" "varFormula" "[I" ∈ Gw := gT6 (List.mem_of_getElem? (i := 170) rfl) rfl
theorem wd910 : Cond.lays RX12 "WorldProverModel" "variables" "I" ∈ Gw := gT6 (List.mem_of_getElem? (i := 172) rfl) rfl
theorem wd911 : Cond.laysFinal RX12 "WorldProverModel" "text" "[I" ∈ Gw := gT6 (List.mem_of_getElem? (i := 174) rfl) rfl
theorem wd912 : Cond.lays RX12 "WorldProverModel" "textSize" "I" ∈ Gw := gT6 (List.mem_of_getElem? (i := 176) rfl) rfl
theorem wd913 : Cond.lays RX12 "WorldProverModel" "at" "I" ∈ Gw := gT6 (List.mem_of_getElem? (i := 178) rfl) rfl
theorem wd914 : Cond.lays RX12 "WorldProverModel" "token" "I" ∈ Gw := gT6 (List.mem_of_getElem? (i := 180) rfl) rfl
theorem wd915 : Cond.lays RX12 "WorldProverModel" "tokenAt" "I" ∈ Gw := gT6 (List.mem_of_getElem? (i := 182) rfl) rfl
theorem wd916 : Cond.lays RX12 "WorldProverModel" "tokenSize" "I" ∈ Gw := gT6 (List.mem_of_getElem? (i := 184) rfl) rfl
theorem wd917 : Cond.lays RX12 "WorldProverModel" "scanned" "Z" ∈ Gw := gT6 (List.mem_of_getElem? (i := 186) rfl) rfl
theorem wd918 : Cond.lays RX12 "WorldProverModel" "inTerms" "Z" ∈ Gw := gT6 (List.mem_of_getElem? (i := 188) rfl) rfl
theorem wd919 : Cond.lays RX12 "WorldProverModel" "fault" "I" ∈ Gw := gT6 (List.mem_of_getElem? (i := 190) rfl) rfl
theorem wd920 : Cond.lays RX12 "WorldProverModel" "faultAt" "I" ∈ Gw := gT6 (List.mem_of_getElem? (i := 192) rfl) rfl
theorem wd921 : Cond.lays RX12 "WorldProverModel" "place" "I" ∈ Gw := gT6 (List.mem_of_getElem? (i := 194) rfl) rfl
theorem wd922 : Cond.lays RX12 "WorldProverModel" "open" "I" ∈ Gw := gT6 (List.mem_of_getElem? (i := 196) rfl) rfl
theorem wd923 : Cond.laysFinal RX12 "WorldProverModel" "out" "[B" ∈ Gw := gT6 (List.mem_of_getElem? (i := 198) rfl) rfl
theorem wd924 : Cond.lays RX12 "WorldProverModel" "outSize" "I" ∈ Gw := gT6 (List.mem_of_getElem? (i := 200) rfl) rfl
theorem wd925 : Cond.laysFinal RX12 "WorldProverModel" "draft" "[B" ∈ Gw := gT6 (List.mem_of_getElem? (i := 202) rfl) rfl
theorem wd926 : Cond.lays RX12 "WorldProverModel" "draftSize" "I" ∈ Gw := gT6 (List.mem_of_getElem? (i := 204) rfl) rfl
theorem wd927 : Cond.laysFinal RX12 "WorldProverModel" "given" "[I" ∈ Gw := gT6 (List.mem_of_getElem? (i := 206) rfl) rfl
theorem wd928 : Cond.lays RX12 "WorldProverModel" "givenCount" "I" ∈ Gw := gT6 (List.mem_of_getElem? (i := 208) rfl) rfl
theorem wd929 : Cond.laysFinal RX12 "WorldProverModel" "level" "[I" ∈ Gw := gT6 (List.mem_of_getElem? (i := 210) rfl) rfl
theorem wd930 : Cond.laysFinal RX12 "WorldProverModel" "stage" "[I" ∈ Gw := gT6 (List.mem_of_getElem? (i := 212) rfl) rfl
theorem wd931 : Cond.laysFinal RX12 "WorldProverModel" "held" "[I" ∈ Gw := gT6 (List.mem_of_getElem? (i := 214) rfl) rfl
theorem wd932 : Cond.laysFinal RX12 "WorldProverModel" "signPlace" "[I" ∈ Gw := gT6 (List.mem_of_getElem? (i := 216) rfl) rfl
theorem wd933 : Cond.lays RX12 "WorldProverModel" "value" "I" ∈ Gw := gT6 (List.mem_of_getElem? (i := 218) rfl) rfl
theorem wd934 : Cond.laysFinal RX12 "WorldProverModel" "termKind" "[I" ∈ Gw := gT6 (List.mem_of_getElem? (i := 220) rfl) rfl
theorem wd935 : Cond.laysFinal RX12 "WorldProverModel" "termNumber" "[I" ∈ Gw := gT6 (List.mem_of_getElem? (i := 222) rfl) rfl
theorem wd936 : Cond.laysFinal RX12 "WorldProverModel" "termA" "[I" ∈ Gw := gT6 (List.mem_of_getElem? (i := 224) rfl) rfl
theorem wd937 : Cond.laysFinal RX12 "WorldProverModel" "termB" "[I" ∈ Gw := gT6 (List.mem_of_getElem? (i := 226) rfl) rfl
theorem wd938 : Cond.laysFinal RX12 "WorldProverModel" "termC" "[I" ∈ Gw := gT6 (List.mem_of_getElem? (i := 228) rfl) rfl
theorem wd939 : Cond.lays RX12 "WorldProverModel" "terms" "I" ∈ Gw := gT6 (List.mem_of_getElem? (i := 230) rfl) rfl
theorem wd940 : Cond.laysFinal RX12 "WorldProverModel" "left" "[I" ∈ Gw := gT6 (List.mem_of_getElem? (i := 232) rfl) rfl
theorem wd941 : Cond.laysFinal RX12 "WorldProverModel" "leftTerm" "[I" ∈ Gw := gT6 (List.mem_of_getElem? (i := 234) rfl) rfl
theorem wd942 : Cond.laysFinal RX12 "WorldProverModel" "leftMade" "[I" ∈ Gw := gT6 (List.mem_of_getElem? (i := 236) rfl) rfl
theorem wd943 : Cond.laysFinal RX12 "WorldProverModel" "leftCount" "[I" ∈ Gw := gT6 (List.mem_of_getElem? (i := 238) rfl) rfl
theorem wd944 : Cond.laysFinal RX12 "WorldProverModel" "goal" "[I" ∈ Gw := gT7 (List.mem_of_getElem? (i := 0) rfl) rfl
theorem wd945 : Cond.laysFinal RX12 "WorldProverModel" "around" "[I" ∈ Gw := gT7 (List.mem_of_getElem? (i := 2) rfl) rfl
theorem wd946 : Cond.laysFinal RX12 "WorldProverModel" "waits" "[I" ∈ Gw := gT7 (List.mem_of_getElem? (i := 4) rfl) rfl
theorem wd947 : Cond.laysFinal RX12 "WorldProverModel" "tried" "[I" ∈ Gw := gT7 (List.mem_of_getElem? (i := 6) rfl) rfl
theorem wd948 : Cond.laysFinal RX12 "WorldProverModel" "kept" "[I" ∈ Gw := gT7 (List.mem_of_getElem? (i := 8) rfl) rfl
theorem wd949 : Cond.laysFinal RX12 "WorldProverModel" "world" "[I" ∈ Gw := gT7 (List.mem_of_getElem? (i := 10) rfl) rfl
theorem wd950 : Cond.lays RX12 "WorldProverModel" "depth" "I" ∈ Gw := gT7 (List.mem_of_getElem? (i := 12) rfl) rfl
theorem wd951 : Cond.lays RX12 "WorldProverModel" "steps" "I" ∈ Gw := gT7 (List.mem_of_getElem? (i := 14) rfl) rfl
theorem wd952 : Cond.lays RX12 "WorldProverModel" "mostSteps" "I" ∈ Gw := gT7 (List.mem_of_getElem? (i := 16) rfl) rfl
theorem wd953 : Cond.lays RX12 "WorldProverModel" "mostLeft" "I" ∈ Gw := gT7 (List.mem_of_getElem? (i := 18) rfl) rfl
theorem wd954 : Cond.lays RX12 "WorldProverModel" "mostDepth" "I" ∈ Gw := gT7 (List.mem_of_getElem? (i := 20) rfl) rfl
theorem wd955 : Cond.lays RX12 "WorldProverModel" "ended" "I" ∈ Gw := gT7 (List.mem_of_getElem? (i := 22) rfl) rfl
theorem wd956 : Cond.lays RX12 "WorldProverModel" "came" "I" ∈ Gw := gT7 (List.mem_of_getElem? (i := 24) rfl) rfl
theorem wd957 : Cond.lays RX12 "WorldProverModel" "cameWorld" "I" ∈ Gw := gT7 (List.mem_of_getElem? (i := 26) rfl) rfl
theorem wd958 : Cond.lays RX12 "WorldProverModel" "proofTerm" "I" ∈ Gw := gT7 (List.mem_of_getElem? (i := 28) rfl) rfl
theorem wd959 : Cond.lays RX12 "WorldProverModel" "answer" "I" ∈ Gw := gT7 (List.mem_of_getElem? (i := 30) rfl) rfl
theorem wd960 : Cond.lays RX12 "WorldProverModel" "failedWorld" "I" ∈ Gw := gT7 (List.mem_of_getElem? (i := 32) rfl) rfl
theorem wd961 : Cond.laysFinal RX12 "WorldProverModel" "childFirst" "[I" ∈ Gw := gT7 (List.mem_of_getElem? (i := 34) rfl) rfl
theorem wd962 : Cond.laysFinal RX12 "WorldProverModel" "childLast" "[I" ∈ Gw := gT7 (List.mem_of_getElem? (i := 36) rfl) rfl
theorem wd963 : Cond.laysFinal RX12 "WorldProverModel" "sibling" "[I" ∈ Gw := gT7 (List.mem_of_getElem? (i := 38) rfl) rfl
theorem wd964 : Cond.laysFinal RX12 "WorldProverModel" "forcedIn" "[I" ∈ Gw := gT7 (List.mem_of_getElem? (i := 40) rfl) rfl
theorem wd965 : Cond.lays RX12 "WorldProverModel" "nodes" "I" ∈ Gw := gT7 (List.mem_of_getElem? (i := 42) rfl) rfl
theorem wd966 : Cond.laysFinal RX12 "WorldProverModel" "pileKind" "[I" ∈ Gw := gT7 (List.mem_of_getElem? (i := 44) rfl) rfl
theorem wd967 : Cond.laysFinal RX12 "WorldProverModel" "pileWhat" "[I" ∈ Gw := gT7 (List.mem_of_getElem? (i := 46) rfl) rfl
theorem wd968 : Cond.laysFinal RX12 "WorldProverModel" "pileChain" "[I" ∈ Gw := gT7 (List.mem_of_getElem? (i := 48) rfl) rfl
theorem wd969 : Cond.laysFinal RX12 "WorldProverModel" "pileDepth" "[I" ∈ Gw := gT7 (List.mem_of_getElem? (i := 50) rfl) rfl
theorem wd970 : Cond.lays RX12 "WorldProverModel" "piled" "I" ∈ Gw := gT7 (List.mem_of_getElem? (i := 52) rfl) rfl
theorem wd971 : Cond.laysFinal RX12 "WorldProverModel" "chainUp" "[I" ∈ Gw := gT7 (List.mem_of_getElem? (i := 54) rfl) rfl
theorem wd972 : Cond.laysFinal RX12 "WorldProverModel" "chainNumber" "[I" ∈ Gw := gT7 (List.mem_of_getElem? (i := 56) rfl) rfl
theorem wd973 : Cond.laysFinal RX12 "WorldProverModel" "chainCount" "[I" ∈ Gw := gT7 (List.mem_of_getElem? (i := 58) rfl) rfl
theorem wd974 : Cond.lays RX12 "WorldProverModel" "chains" "I" ∈ Gw := gT7 (List.mem_of_getElem? (i := 60) rfl) rfl
theorem wd975 : Cond.lays RX12 "WorldProverModel" "proofGiven" "I" ∈ Gw := gT7 (List.mem_of_getElem? (i := 62) rfl) rfl
theorem wd976 : Cond.laysFinal RX12 "WorldProverModel" "readKind" "[I" ∈ Gw := gT7 (List.mem_of_getElem? (i := 64) rfl) rfl
theorem wd977 : Cond.laysFinal RX12 "WorldProverModel" "readNumber" "[I" ∈ Gw := gT7 (List.mem_of_getElem? (i := 66) rfl) rfl
theorem wd978 : Cond.laysFinal RX12 "WorldProverModel" "readA" "[I" ∈ Gw := gT7 (List.mem_of_getElem? (i := 68) rfl) rfl
theorem wd979 : Cond.laysFinal RX12 "WorldProverModel" "readB" "[I" ∈ Gw := gT7 (List.mem_of_getElem? (i := 70) rfl) rfl
theorem wd980 : Cond.laysFinal RX12 "WorldProverModel" "readC" "[I" ∈ Gw := gT7 (List.mem_of_getElem? (i := 72) rfl) rfl
theorem wd981 : Cond.lays RX12 "WorldProverModel" "readCount" "I" ∈ Gw := gT7 (List.mem_of_getElem? (i := 74) rfl) rfl
theorem wd982 : Cond.laysFinal RX12 "WorldProverModel" "holdTerm" "[I" ∈ Gw := gT7 (List.mem_of_getElem? (i := 76) rfl) rfl
theorem wd983 : Cond.laysFinal RX12 "WorldProverModel" "holdStage" "[I" ∈ Gw := gT7 (List.mem_of_getElem? (i := 78) rfl) rfl
theorem wd984 : Cond.laysFinal RX12 "WorldProverModel" "holdAround" "[I" ∈ Gw := gT7 (List.mem_of_getElem? (i := 80) rfl) rfl
theorem wd985 : Cond.laysFinal RX12 "WorldProverModel" "hypothesisOf" "[I" ∈ Gw := gT7 (List.mem_of_getElem? (i := 82) rfl) rfl
theorem wd986 : Cond.laysFinal RX12 "WorldProverModel" "askTerm" "[I" ∈ Gw := gT7 (List.mem_of_getElem? (i := 84) rfl) rfl
theorem wd987 : Cond.laysFinal RX12 "WorldProverModel" "askGoal" "[I" ∈ Gw := gT7 (List.mem_of_getElem? (i := 86) rfl) rfl
theorem wd988 : Cond.laysFinal RX12 "WorldProverModel" "askStage" "[I" ∈ Gw := gT7 (List.mem_of_getElem? (i := 88) rfl) rfl
theorem wd989 : Cond.laysFinal RX12 "WorldProverModel" "askHeld" "[I" ∈ Gw := gT7 (List.mem_of_getElem? (i := 90) rfl) rfl
theorem wd990 : Cond.lays RX12 "WorldProverModel" "asks" "I" ∈ Gw := gT7 (List.mem_of_getElem? (i := 92) rfl) rfl
theorem wd991 : Cond.laysFinal RX12 "WorldProverModel" "parent" "[I" ∈ Gw := gT7 (List.mem_of_getElem? (i := 94) rfl) rfl
theorem wd992 : Cond.laysFinal RX12 "WorldProverModel" "forced" "[I" ∈ Gw := gT7 (List.mem_of_getElem? (i := 96) rfl) rfl
theorem wd993 : Cond.lays RX12 "WorldProverModel" "worlds" "I" ∈ Gw := gT7 (List.mem_of_getElem? (i := 98) rfl) rfl
theorem wd994 : Cond.laysFinal RX12 "WorldProverModel" "holdsIn" "[J" ∈ Gw := gT7 (List.mem_of_getElem? (i := 100) rfl) rfl
theorem wd995 : Cond.laysFinal RX12 "WorldProverModel" "needed" "[Z" ∈ Gw := gT7 (List.mem_of_getElem? (i := 102) rfl) rfl
theorem wd996 : Cond.laysFinal RX12 "WorldProverModel" "walk" "[I" ∈ Gw := gT7 (List.mem_of_getElem? (i := 104) rfl) rfl
theorem wd997 : Cond.laysFinal RX12 "WorldProverModel" "walkUp" "[I" ∈ Gw := gT7 (List.mem_of_getElem? (i := 106) rfl) rfl
theorem wd998 : Cond.laysFinal RX12 "WorldProverModel" "numberOf" "[I" ∈ Gw := gT7 (List.mem_of_getElem? (i := 108) rfl) rfl
theorem wd999 : Cond.laysFinal RX12 "WorldProverModel" "isTrue" "[Z" ∈ Gw := gT7 (List.mem_of_getElem? (i := 110) rfl) rfl
theorem wd1000 : Cond.fieldLink RX12 204 "WorldProverModel" "formulas" "I" ∈ Gw := gT6 (List.mem_of_getElem? (i := 61) rfl) rfl
theorem wd1001 : Cond.fieldLink RX12 7 "WorldProverModel" "kind" "[I" ∈ Gw := gT6 (List.mem_of_getElem? (i := 58) rfl) rfl
theorem wd1002 : Cond.fieldLink RX12 13 "WorldProverModel" "one" "[I" ∈ Gw := gT6 (List.mem_of_getElem? (i := 59) rfl) rfl
theorem wd1003 : Cond.fieldLink RX12 16 "WorldProverModel" "two" "[I" ∈ Gw := gT6 (List.mem_of_getElem? (i := 60) rfl) rfl
theorem inG_X12 : ∀ w ∈ u_ws RX12 TX12 98, w ∈ Gw := by
  intro w h
  obtain ⟨k, hk, rfl⟩ := List.mem_map.mp h
  have hk := List.mem_range.mp hk
  by_cases h0 : k = 0
  · subst h0; exact wd902
  by_cases h1 : k = 1
  · subst h1; exact wd903
  by_cases h2 : k = 2
  · subst h2; exact wd904
  by_cases h3 : k = 3
  · subst h3; exact wd905
  by_cases h4 : k = 4
  · subst h4; exact wd906
  by_cases h5 : k = 5
  · subst h5; exact wd907
  by_cases h6 : k = 6
  · subst h6; exact wd908
  by_cases h7 : k = 7
  · subst h7; exact wd909
  by_cases h8 : k = 8
  · subst h8; exact wd910
  by_cases h9 : k = 9
  · subst h9; exact wd911
  by_cases h10 : k = 10
  · subst h10; exact wd912
  by_cases h11 : k = 11
  · subst h11; exact wd913
  by_cases h12 : k = 12
  · subst h12; exact wd914
  by_cases h13 : k = 13
  · subst h13; exact wd915
  by_cases h14 : k = 14
  · subst h14; exact wd916
  by_cases h15 : k = 15
  · subst h15; exact wd917
  by_cases h16 : k = 16
  · subst h16; exact wd918
  by_cases h17 : k = 17
  · subst h17; exact wd919
  by_cases h18 : k = 18
  · subst h18; exact wd920
  by_cases h19 : k = 19
  · subst h19; exact wd921
  by_cases h20 : k = 20
  · subst h20; exact wd922
  by_cases h21 : k = 21
  · subst h21; exact wd923
  by_cases h22 : k = 22
  · subst h22; exact wd924
  by_cases h23 : k = 23
  · subst h23; exact wd925
  by_cases h24 : k = 24
  · subst h24; exact wd926
  by_cases h25 : k = 25
  · subst h25; exact wd927
  by_cases h26 : k = 26
  · subst h26; exact wd928
  by_cases h27 : k = 27
  · subst h27; exact wd929
  by_cases h28 : k = 28
  · subst h28; exact wd930
  by_cases h29 : k = 29
  · subst h29; exact wd931
  by_cases h30 : k = 30
  · subst h30; exact wd932
  by_cases h31 : k = 31
  · subst h31; exact wd933
  by_cases h32 : k = 32
  · subst h32; exact wd934
  by_cases h33 : k = 33
  · subst h33; exact wd935
  by_cases h34 : k = 34
  · subst h34; exact wd936
  by_cases h35 : k = 35
  · subst h35; exact wd937
  by_cases h36 : k = 36
  · subst h36; exact wd938
  by_cases h37 : k = 37
  · subst h37; exact wd939
  by_cases h38 : k = 38
  · subst h38; exact wd940
  by_cases h39 : k = 39
  · subst h39; exact wd941
  by_cases h40 : k = 40
  · subst h40; exact wd942
  by_cases h41 : k = 41
  · subst h41; exact wd943
  by_cases h42 : k = 42
  · subst h42; exact wd944
  by_cases h43 : k = 43
  · subst h43; exact wd945
  by_cases h44 : k = 44
  · subst h44; exact wd946
  by_cases h45 : k = 45
  · subst h45; exact wd947
  by_cases h46 : k = 46
  · subst h46; exact wd948
  by_cases h47 : k = 47
  · subst h47; exact wd949
  by_cases h48 : k = 48
  · subst h48; exact wd950
  by_cases h49 : k = 49
  · subst h49; exact wd951
  by_cases h50 : k = 50
  · subst h50; exact wd952
  by_cases h51 : k = 51
  · subst h51; exact wd953
  by_cases h52 : k = 52
  · subst h52; exact wd954
  by_cases h53 : k = 53
  · subst h53; exact wd955
  by_cases h54 : k = 54
  · subst h54; exact wd956
  by_cases h55 : k = 55
  · subst h55; exact wd957
  by_cases h56 : k = 56
  · subst h56; exact wd958
  by_cases h57 : k = 57
  · subst h57; exact wd959
  by_cases h58 : k = 58
  · subst h58; exact wd960
  by_cases h59 : k = 59
  · subst h59; exact wd961
  by_cases h60 : k = 60
  · subst h60; exact wd962
  by_cases h61 : k = 61
  · subst h61; exact wd963
  by_cases h62 : k = 62
  · subst h62; exact wd964
  by_cases h63 : k = 63
  · subst h63; exact wd965
  by_cases h64 : k = 64
  · subst h64; exact wd966
  by_cases h65 : k = 65
  · subst h65; exact wd967
  by_cases h66 : k = 66
  · subst h66; exact wd968
  by_cases h67 : k = 67
  · subst h67; exact wd969
  by_cases h68 : k = 68
  · subst h68; exact wd970
  by_cases h69 : k = 69
  · subst h69; exact wd971
  by_cases h70 : k = 70
  · subst h70; exact wd972
  by_cases h71 : k = 71
  · subst h71; exact wd973
  by_cases h72 : k = 72
  · subst h72; exact wd974
  by_cases h73 : k = 73
  · subst h73; exact wd975
  by_cases h74 : k = 74
  · subst h74; exact wd976
  by_cases h75 : k = 75
  · subst h75; exact wd977
  by_cases h76 : k = 76
  · subst h76; exact wd978
  by_cases h77 : k = 77
  · subst h77; exact wd979
  by_cases h78 : k = 78
  · subst h78; exact wd980
  by_cases h79 : k = 79
  · subst h79; exact wd981
  by_cases h80 : k = 80
  · subst h80; exact wd982
  by_cases h81 : k = 81
  · subst h81; exact wd983
  by_cases h82 : k = 82
  · subst h82; exact wd984
  by_cases h83 : k = 83
  · subst h83; exact wd985
  by_cases h84 : k = 84
  · subst h84; exact wd986
  by_cases h85 : k = 85
  · subst h85; exact wd987
  by_cases h86 : k = 86
  · subst h86; exact wd988
  by_cases h87 : k = 87
  · subst h87; exact wd989
  by_cases h88 : k = 88
  · subst h88; exact wd990
  by_cases h89 : k = 89
  · subst h89; exact wd991
  by_cases h90 : k = 90
  · subst h90; exact wd992
  by_cases h91 : k = 91
  · subst h91; exact wd993
  by_cases h92 : k = 92
  · subst h92; exact wd994
  by_cases h93 : k = 93
  · subst h93; exact wd995
  by_cases h94 : k = 94
  · subst h94; exact wd996
  by_cases h95 : k = 95
  · subst h95; exact wd997
  by_cases h96 : k = 96
  · subst h96; exact wd998
  by_cases h97 : k = 97
  · subst h97; exact wd999
  omega
section
variable {p : Program} {l : Launch} {e : Env} {R : Room} {s : State} {m : MethodId} {args : Array Value} {below : List Frame} {meth : Method} {c : Code} {H : Heap} {locs : List Loc} {Q : State → Prop}
variable {cc : ByteArray} {nL pc : Nat} {ls : Array Slot} {rest : List Value} {D : va_G} {A : Nat → Prop} {cw : Cond} {ad : Nat → Nat} {cy : Nat → ClassId} {ee : EE} {st : StT} {own : String}
theorem gmX12_204 (F : CallFix p m c cc nL s args (cw :: Gw) RX12) (K : va_K D vwCl (tyL cy) s) (Z : ZG D (wM ad cy st) A s H locs) (hd : decode cc pc = .ok (.getfield 204, 3)) (kk : W p l e R s m args below meth c H locs 0 0 Q (F0 m (pc + 3) ls (.int (st.1 0) :: rest))) : W p l e R s m args below meth c H locs 0 0 Q (F0 m pc ls (.ref (ad 0) :: rest)) :=
  va_get (D := D) (ci := 12) (C := RX12) (T := TX12) (N := 98) F.1 F.2.1 F.2.2.2.2 (fun w h => List.mem_cons_of_mem _ (inG_X12 w h)) F.2.2.2.1 K Z.1 0 rfl rfl 3 (by decide) (F.2.2.2.2 _ (List.mem_cons_of_mem _ wd1000)) (fun _ h => h) rfl hd kk
theorem gmX12_7 (F : CallFix p m c cc nL s args (cw :: Gw) RX12) (K : va_K D vwCl (tyL cy) s) (Z : ZG D (wM ad cy st) A s H locs) (hd : decode cc pc = .ok (.getfield 7, 3)) (kk : W p l e R s m args below meth c H locs 0 0 Q (F0 m (pc + 3) ls (.ref (ad 1) :: rest))) : W p l e R s m args below meth c H locs 0 0 Q (F0 m pc ls (.ref (ad 0) :: rest)) :=
  va_get (D := D) (ci := 12) (C := RX12) (T := TX12) (N := 98) F.1 F.2.1 F.2.2.2.2 (fun w h => List.mem_cons_of_mem _ (inG_X12 w h)) F.2.2.2.1 K Z.1 0 rfl rfl 0 (by decide) (F.2.2.2.2 _ (List.mem_cons_of_mem _ wd1001)) (fun _ h => h) rfl hd kk
theorem ml1 {i : Int32} (F : CallFix p m c cc nL s args (cw :: Gw) own) (K : va_K D vwCl (tyL cy) s) (Z : ZG D (wM ad cy st) A s H locs) (hi : inB i 4200 = true) (hd : decode cc pc = .ok (.iaload, 1)) (kk : W p l e R s m args below meth c H locs 0 0 Q (F0 m (pc + 1) ls (.int (st.2.1 0 i.toNatClampNeg) :: rest))) : W p l e R s m args below meth c H locs 0 0 Q (F0 m pc ls (.int i :: .ref (ad 1) :: rest)) :=
  va_iald F.1 F.2.1 K Z.1 1 1 rfl rfl (inB_vp hi) hd kk
theorem gmX12_13 (F : CallFix p m c cc nL s args (cw :: Gw) RX12) (K : va_K D vwCl (tyL cy) s) (Z : ZG D (wM ad cy st) A s H locs) (hd : decode cc pc = .ok (.getfield 13, 3)) (kk : W p l e R s m args below meth c H locs 0 0 Q (F0 m (pc + 3) ls (.ref (ad 2) :: rest))) : W p l e R s m args below meth c H locs 0 0 Q (F0 m pc ls (.ref (ad 0) :: rest)) :=
  va_get (D := D) (ci := 12) (C := RX12) (T := TX12) (N := 98) F.1 F.2.1 F.2.2.2.2 (fun w h => List.mem_cons_of_mem _ (inG_X12 w h)) F.2.2.2.1 K Z.1 0 rfl rfl 1 (by decide) (F.2.2.2.2 _ (List.mem_cons_of_mem _ wd1002)) (fun _ h => h) rfl hd kk
theorem ml2 {i : Int32} (F : CallFix p m c cc nL s args (cw :: Gw) own) (K : va_K D vwCl (tyL cy) s) (Z : ZG D (wM ad cy st) A s H locs) (hi : inB i 4200 = true) (hd : decode cc pc = .ok (.iaload, 1)) (kk : W p l e R s m args below meth c H locs 0 0 Q (F0 m (pc + 1) ls (.int (st.2.1 1 i.toNatClampNeg) :: rest))) : W p l e R s m args below meth c H locs 0 0 Q (F0 m pc ls (.int i :: .ref (ad 2) :: rest)) :=
  va_iald F.1 F.2.1 K Z.1 2 1 rfl rfl (inB_vp hi) hd kk
theorem gmX12_16 (F : CallFix p m c cc nL s args (cw :: Gw) RX12) (K : va_K D vwCl (tyL cy) s) (Z : ZG D (wM ad cy st) A s H locs) (hd : decode cc pc = .ok (.getfield 16, 3)) (kk : W p l e R s m args below meth c H locs 0 0 Q (F0 m (pc + 3) ls (.ref (ad 3) :: rest))) : W p l e R s m args below meth c H locs 0 0 Q (F0 m pc ls (.ref (ad 0) :: rest)) :=
  va_get (D := D) (ci := 12) (C := RX12) (T := TX12) (N := 98) F.1 F.2.1 F.2.2.2.2 (fun w h => List.mem_cons_of_mem _ (inG_X12 w h)) F.2.2.2.1 K Z.1 0 rfl rfl 2 (by decide) (F.2.2.2.2 _ (List.mem_cons_of_mem _ wd1003)) (fun _ h => h) rfl hd kk
theorem ml3 {i : Int32} (F : CallFix p m c cc nL s args (cw :: Gw) own) (K : va_K D vwCl (tyL cy) s) (Z : ZG D (wM ad cy st) A s H locs) (hi : inB i 4200 = true) (hd : decode cc pc = .ok (.iaload, 1)) (kk : W p l e R s m args below meth c H locs 0 0 Q (F0 m (pc + 1) ls (.int (st.2.1 2 i.toNatClampNeg) :: rest))) : W p l e R s m args below meth c H locs 0 0 Q (F0 m pc ls (.int i :: .ref (ad 3) :: rest)) :=
  va_iald F.1 F.2.1 K Z.1 3 1 rfl rfl (inB_vp hi) hd kk
end
set_option maxRecDepth 100000 in
set_option maxHeartbeats 4000000 in
theorem b_X12_find_3 {p : Program} {l : Launch} {e : Env} {s : State} {m : MethodId} {args : Array Value} {below : List Frame} {meth : Method} {c : Code} {D : va_G} {A : Nat → Prop} {ad : Nat → Nat} {cy : Nat → ClassId} {ee : EE} {n : Nat} {res : (Int32 × StT)} (F : CallFix p m c cX12_find 5 s args (Cond.code yX12_find cX12_find 5 (some .int) :: Gw) yX12_find.cls) (hr : meth.sig.returnType = (some .int)) (hk : meth.locks = false) (K : va_K D vwCl (tyL cy) s) (E : EV ee A s s.heap) (hA : ∀ q, s.heap.size ≤ q → A q) : ∀ (k : Nat) (st : StT) (x1 : Int32) (x2 : Int32) (x3 : Int32) (x4 : Int32), f_X12_find_3 n k st x1 x2 x3 x4 = some res → ∀ (H : Heap) (locs : List Loc) (ls : Array Slot), ZG D (wM ad cy st) A s H locs → lv_has ls 5 [(0, .ref (ad 0)), (1, .int x1), (2, .int x2), (3, .int x3), (4, .int x4)] → W p l e { frames := 0, cells := 0, slots := 0, locals := 0 } s m args below meth c H locs 0 0 (MQ below (QC D (some (.int res.1)) (wM ad cy res.2) A) args s 0 0 A) (F0 m 3 ls []) := by
  have hx := F.1
  have hb := F.2.1
  intro k
  induction k with
  | zero =>
    intro st x1 x2 x3 x4 hf
    exact absurd hf (by simp [f_X12_find_3])
  | succ k ih =>
    intro st x1 x2 x3 x4 hf H locs ls Z hl
    rw [f_X12_find_3] at hf
    refine lv_iload hx hb dX12_find_3 (lv_at hl 4 rfl) ?_
    refine lv_aload_n hx hb dX12_find_5 rfl (lv_at hl 0 rfl) ?_
    refine gmX12_204 F K Z dX12_find_6 ?_
    refine lv_icmp_ge (tgt := 54) hx hb dX12_find_9 (by decide) (fun c9 => ?_) (fun c9 => ?_)
    · have hf := if_t c9 hf
      refine lv_iconst (v := -1) hx hb dX12_find_54 (by decide) ?_
      have hf := Option.some.inj hf
      subst hf
      exact ret_i F hr hk Z dX12_find_55
    have hf := if_f c9 hf
    refine lv_aload_n hx hb dX12_find_12 rfl (lv_at hl 0 rfl) ?_
    refine gmX12_7 F K Z dX12_find_13 ?_
    refine lv_iload hx hb dX12_find_16 (lv_at hl 4 rfl) ?_
    obtain ⟨i18, hf⟩ := if_some hf
    refine ml1 F K Z i18 dX12_find_18 ?_
    refine lv_iload_n hx hb dX12_find_19 rfl (lv_at hl 1 rfl) ?_
    refine lv_icmp_ne (tgt := 48) hx hb dX12_find_20 (by decide) (fun c20 => ?_) (fun c20 => ?_)
    · have hf := if_f c20 hf
      refine lv_iinc (v := (x4 + (1 : Int32))) (lv' := [(4, .int (x4 + (1 : Int32))), (0, .ref (ad 0)), (1, .int x1), (2, .int x2), (3, .int x3)]) hx hb dX12_find_48 hl (k := 4) rfl (congrArg (fun z => x4 + z) (by decide)) (by decide) rfl (fun ls hl => ?_)
      refine lv_goto (tgt := 3) hx hb dX12_find_51 (by decide) ?_
      exact ih _ _ _ _ _ hf _ _ _ Z (lv_sub hl [1, 2, 3, 4, 0] rfl)
    have hf := if_t c20 hf
    refine lv_aload_n hx hb dX12_find_23 rfl (lv_at hl 0 rfl) ?_
    refine gmX12_13 F K Z dX12_find_24 ?_
    refine lv_iload hx hb dX12_find_27 (lv_at hl 4 rfl) ?_
    obtain ⟨i29, hf⟩ := if_some hf
    refine ml2 F K Z i29 dX12_find_29 ?_
    refine lv_iload_n hx hb dX12_find_30 rfl (lv_at hl 2 rfl) ?_
    refine lv_icmp_ne (tgt := 48) hx hb dX12_find_31 (by decide) (fun c31 => ?_) (fun c31 => ?_)
    · have hf := if_f c31 hf
      refine lv_iinc (v := (x4 + (1 : Int32))) (lv' := [(4, .int (x4 + (1 : Int32))), (0, .ref (ad 0)), (1, .int x1), (2, .int x2), (3, .int x3)]) hx hb dX12_find_48 hl (k := 4) rfl (congrArg (fun z => x4 + z) (by decide)) (by decide) rfl (fun ls hl => ?_)
      refine lv_goto (tgt := 3) hx hb dX12_find_51 (by decide) ?_
      exact ih _ _ _ _ _ hf _ _ _ Z (lv_sub hl [1, 2, 3, 4, 0] rfl)
    have hf := if_t c31 hf
    refine lv_aload_n hx hb dX12_find_34 rfl (lv_at hl 0 rfl) ?_
    refine gmX12_16 F K Z dX12_find_35 ?_
    refine lv_iload hx hb dX12_find_38 (lv_at hl 4 rfl) ?_
    obtain ⟨i40, hf⟩ := if_some hf
    refine ml3 F K Z i40 dX12_find_40 ?_
    refine lv_iload_n hx hb dX12_find_41 rfl (lv_at hl 3 rfl) ?_
    refine lv_icmp_ne (tgt := 48) hx hb dX12_find_42 (by decide) (fun c42 => ?_) (fun c42 => ?_)
    · have hf := if_f c42 hf
      refine lv_iinc (v := (x4 + (1 : Int32))) (lv' := [(4, .int (x4 + (1 : Int32))), (0, .ref (ad 0)), (1, .int x1), (2, .int x2), (3, .int x3)]) hx hb dX12_find_48 hl (k := 4) rfl (congrArg (fun z => x4 + z) (by decide)) (by decide) rfl (fun ls hl => ?_)
      refine lv_goto (tgt := 3) hx hb dX12_find_51 (by decide) ?_
      exact ih _ _ _ _ _ hf _ _ _ Z (lv_sub hl [1, 2, 3, 4, 0] rfl)
    have hf := if_t c42 hf
    refine lv_iload hx hb dX12_find_45 (lv_at hl 4 rfl) ?_
    have hf := Option.some.inj hf
    subst hf
    exact ret_i F hr hk Z dX12_find_47
set_option maxRecDepth 100000 in
set_option maxHeartbeats 4000000 in
theorem c_X12_find {l : Launch} {D : va_G} {ad : Nat → Nat} {cy : Nat → ClassId} {ee : EE} {n : Nat} {st : StT} {x1 : Int32} {x2 : Int32} {x3 : Int32} {res : (Int32 × StT)} (hf : f_X12_find n st x1 x2 x3 = some res) : CT l yX12_find cX12_find 5 (some .int) 0 0 D cy ee (wM ad cy st) (wM ad cy res.2) [.ref (ad 0), .int x1, .int x2, .int x3] (some (.int res.1)) := by
  refine CT.of (by decide +kernel) (Nat.le_of_ble_eq_true rfl) ?_
  intro p e s m args below meth c A F hr hk K E hA Z ls hl
  have hl : lv_has ls 5 [(0, .ref (ad 0)), (1, .int x1), (2, .int x2), (3, .int x3)] := hl
  have hx := F.1
  have hb := F.2.1
  unfold f_X12_find at hf
  refine lv_iconst (v := 0) hx hb dX12_find_0 (by decide) ?_
  refine lv_istore (lv' := [(4, .int (0 : Int32)), (0, .ref (ad 0)), (1, .int x1), (2, .int x2), (3, .int x3)]) hx hb dX12_find_1 hl (by decide) rfl (fun ls hl => ?_)
  exact b_X12_find_3 F hr hk K E hA _ _ _ _ _ _ hf _ _ _ Z (lv_sub hl [1, 2, 3, 4, 0] rfl)
def f_X12_add (n : Nat) (st : StT) (x1 : Int32) (x2 : Int32) (x3 : Int32) : Option (Int32 × StT) := if inB (st.1 0) 4200 = true then (if inB ((uA st 0 (st.1 0) x1).1 0) 4200 = true then (if inB ((uA (uA st 0 (st.1 0) x1) 1 ((uA st 0 (st.1 0) x1).1 0) x2).1 0) 4200 = true then (some ((((uF (uA (uA (uA st 0 (st.1 0) x1) 1 ((uA st 0 (st.1 0) x1).1 0) x2) 2 ((uA (uA st 0 (st.1 0) x1) 1 ((uA st 0 (st.1 0) x1).1 0) x2).1 0) x3) 0 (((uA (uA (uA st 0 (st.1 0) x1) 1 ((uA st 0 (st.1 0) x1).1 0) x2) 2 ((uA (uA st 0 (st.1 0) x1) 1 ((uA st 0 (st.1 0) x1).1 0) x2).1 0) x3).1 0) + (1 : Int32))).1 0) - (1 : Int32)), (uF (uA (uA (uA st 0 (st.1 0) x1) 1 ((uA st 0 (st.1 0) x1).1 0) x2) 2 ((uA (uA st 0 (st.1 0) x1) 1 ((uA st 0 (st.1 0) x1).1 0) x2).1 0) x3) 0 (((uA (uA (uA st 0 (st.1 0) x1) 1 ((uA st 0 (st.1 0) x1).1 0) x2) 2 ((uA (uA st 0 (st.1 0) x1) 1 ((uA st 0 (st.1 0) x1).1 0) x2).1 0) x3).1 0) + (1 : Int32))))) else none) else none) else none
section
variable {p : Program} {l : Launch} {e : Env} {R : Room} {s : State} {m : MethodId} {args : Array Value} {below : List Frame} {meth : Method} {c : Code} {H : Heap} {locs : List Loc} {Q : State → Prop}
variable {cc : ByteArray} {nL pc : Nat} {ls : Array Slot} {rest : List Value} {D : va_G} {A : Nat → Prop} {cw : Cond} {ad : Nat → Nat} {cy : Nat → ClassId} {ee : EE} {st : StT} {own : String}
theorem ms1 {i : Int32} {v : Int32} (F : CallFix p m c cc nL s args (cw :: Gw) own) (K : va_K D vwCl (tyL cy) s) (Z : ZG D (wM ad cy st) A s H locs) (hi : inB i 4200 = true) (hd : decode cc pc = .ok (.iastore, 1)) (kk : ∀ (H1 : Heap) (locs1 : List Loc), ZG D (wM ad cy (uA st 0 i v)) A s H1 locs1 → W p l e R s m args below meth c H1 locs1 0 0 Q (F0 m (pc + 1) ls rest)) : W p l e R s m args below meth c H locs 0 0 Q (F0 m pc ls (.int v :: .int i :: .ref (ad 1) :: rest)) :=
  va_iast F.1 F.2.1 K Z.1 Z.2.1 Z.2.2 1 1 rfl rfl (inB_vp hi) hd (fun H1 locs1 hP hD hS => kk H1 locs1 ⟨hP, hD, hS⟩)
theorem ms2 {i : Int32} {v : Int32} (F : CallFix p m c cc nL s args (cw :: Gw) own) (K : va_K D vwCl (tyL cy) s) (Z : ZG D (wM ad cy st) A s H locs) (hi : inB i 4200 = true) (hd : decode cc pc = .ok (.iastore, 1)) (kk : ∀ (H1 : Heap) (locs1 : List Loc), ZG D (wM ad cy (uA st 1 i v)) A s H1 locs1 → W p l e R s m args below meth c H1 locs1 0 0 Q (F0 m (pc + 1) ls rest)) : W p l e R s m args below meth c H locs 0 0 Q (F0 m pc ls (.int v :: .int i :: .ref (ad 2) :: rest)) :=
  va_iast F.1 F.2.1 K Z.1 Z.2.1 Z.2.2 2 1 rfl rfl (inB_vp hi) hd (fun H1 locs1 hP hD hS => kk H1 locs1 ⟨hP, hD, hS⟩)
theorem ms3 {i : Int32} {v : Int32} (F : CallFix p m c cc nL s args (cw :: Gw) own) (K : va_K D vwCl (tyL cy) s) (Z : ZG D (wM ad cy st) A s H locs) (hi : inB i 4200 = true) (hd : decode cc pc = .ok (.iastore, 1)) (kk : ∀ (H1 : Heap) (locs1 : List Loc), ZG D (wM ad cy (uA st 2 i v)) A s H1 locs1 → W p l e R s m args below meth c H1 locs1 0 0 Q (F0 m (pc + 1) ls rest)) : W p l e R s m args below meth c H locs 0 0 Q (F0 m pc ls (.int v :: .int i :: .ref (ad 3) :: rest)) :=
  va_iast F.1 F.2.1 K Z.1 Z.2.1 Z.2.2 3 1 rfl rfl (inB_vp hi) hd (fun H1 locs1 hP hD hS => kk H1 locs1 ⟨hP, hD, hS⟩)
theorem pmX12_204 {v : Int32} (F : CallFix p m c cc nL s args (cw :: Gw) RX12) (K : va_K D vwCl (tyL cy) s) (Z : ZG D (wM ad cy st) A s H locs) (hd : decode cc pc = .ok (.putfield 204, 3)) (kk : ∀ (H1 : Heap) (locs1 : List Loc), ZG D (wM ad cy (uF st 0 v)) A s H1 locs1 → W p l e R s m args below meth c H1 locs1 0 0 Q (F0 m (pc + 3) ls rest)) : W p l e R s m args below meth c H locs 0 0 Q (F0 m pc ls (.int v :: .ref (ad 0) :: rest)) :=
  va_put (D := D) (ci := 12) (v := .int v) (ty := .int) (C := RX12) (T := TX12) (N := 98) F.1 F.2.1 F.2.2.2.2 (fun w h => List.mem_cons_of_mem _ (inG_X12 w h)) tyX12 tyX12_ok nmX12 F.2.2.2.1 K Z.1 Z.2.1 Z.2.2 0 rfl rfl 3 (by decide) (F.2.2.2.2 _ (List.mem_cons_of_mem _ wd1000)) (fun _ h => h) rfl (by decide +kernel) rfl rfl (Nat.le_of_ble_eq_true rfl) hd (fun H1 locs1 hP hD hS => kk H1 locs1 ⟨hP, hD, hS⟩)
end
set_option maxRecDepth 100000 in
set_option maxHeartbeats 4000000 in
theorem c_X12_add {l : Launch} {D : va_G} {ad : Nat → Nat} {cy : Nat → ClassId} {ee : EE} {n : Nat} {st : StT} {x1 : Int32} {x2 : Int32} {x3 : Int32} {res : (Int32 × StT)} (hf : f_X12_add n st x1 x2 x3 = some res) : CT l yX12_add cX12_add 4 (some .int) 0 0 D cy ee (wM ad cy st) (wM ad cy res.2) [.ref (ad 0), .int x1, .int x2, .int x3] (some (.int res.1)) := by
  refine CT.of (by decide +kernel) (Nat.le_of_ble_eq_true rfl) ?_
  intro p e s m args below meth c A F hr hk K E hA Z ls hl
  have hl : lv_has ls 4 [(0, .ref (ad 0)), (1, .int x1), (2, .int x2), (3, .int x3)] := hl
  have hx := F.1
  have hb := F.2.1
  unfold f_X12_add at hf
  refine lv_aload_n hx hb dX12_add_0 rfl (lv_at hl 0 rfl) ?_
  refine gmX12_7 F K Z dX12_add_1 ?_
  refine lv_aload_n hx hb dX12_add_4 rfl (lv_at hl 0 rfl) ?_
  refine gmX12_204 F K Z dX12_add_5 ?_
  refine lv_iload_n hx hb dX12_add_8 rfl (lv_at hl 1 rfl) ?_
  obtain ⟨i9, hf⟩ := if_some hf
  refine ms1 F K Z i9 dX12_add_9 (fun H locs Z => ?_)
  refine lv_aload_n hx hb dX12_add_10 rfl (lv_at hl 0 rfl) ?_
  refine gmX12_13 F K Z dX12_add_11 ?_
  refine lv_aload_n hx hb dX12_add_14 rfl (lv_at hl 0 rfl) ?_
  refine gmX12_204 F K Z dX12_add_15 ?_
  refine lv_iload_n hx hb dX12_add_18 rfl (lv_at hl 2 rfl) ?_
  obtain ⟨i19, hf⟩ := if_some hf
  refine ms2 F K Z i19 dX12_add_19 (fun H locs Z => ?_)
  refine lv_aload_n hx hb dX12_add_20 rfl (lv_at hl 0 rfl) ?_
  refine gmX12_16 F K Z dX12_add_21 ?_
  refine lv_aload_n hx hb dX12_add_24 rfl (lv_at hl 0 rfl) ?_
  refine gmX12_204 F K Z dX12_add_25 ?_
  refine lv_iload_n hx hb dX12_add_28 rfl (lv_at hl 3 rfl) ?_
  obtain ⟨i29, hf⟩ := if_some hf
  refine ms3 F K Z i29 dX12_add_29 (fun H locs Z => ?_)
  refine lv_aload_n hx hb dX12_add_30 rfl (lv_at hl 0 rfl) ?_
  refine lv_dup hx hb dX12_add_31 rfl ?_
  refine gmX12_204 F K Z dX12_add_32 ?_
  refine lv_iconst (v := 1) hx hb dX12_add_35 (by decide) ?_
  refine lv_iadd hx hb dX12_add_36 ?_
  refine pmX12_204 F K Z dX12_add_37 (fun H locs Z => ?_)
  refine lv_aload_n hx hb dX12_add_40 rfl (lv_at hl 0 rfl) ?_
  refine gmX12_204 F K Z dX12_add_41 ?_
  refine lv_iconst (v := 1) hx hb dX12_add_44 (by decide) ?_
  refine lv_isub hx hb dX12_add_45 ?_
  have hf := Option.some.inj hf
  subst hf
  exact ret_i F hr hk Z dX12_add_46
def f_X12_formulaOf (n : Nat) (st : StT) (x1 : Int32) (x2 : Int32) (x3 : Int32) : Option (Int32 × StT) := (f_X12_find n st x1 x2 x3).bind fun q4 => (if q4.1 < 0 then (if (q4.2.1 0) = (2000 : Int32) then (some ((-1 : Int32), q4.2)) else ((f_X12_add n q4.2 x1 x2 x3).bind fun q37 => (some (q37.1, q37.2)))) else (some (q4.1, q4.2)))
theorem wd1004 : Cond.methodLink RX12 214 yX12_add ∈ Gw := gT8 (List.mem_of_getElem? (i := 29) rfl) rfl
theorem wd1005 : Cond.code yX12_add prog_14_method_3_code 4 (some .int) ∈ Gw := gT8 (List.mem_of_getElem? (i := 32) rfl) rfl
theorem wd1006 : Cond.instanceMethod yX12_add ∈ Gw := gT8 (List.mem_of_getElem? (i := 31) rfl) rfl
theorem wd1007 : Cond.selects RX12 yX12_add yX12_add ∈ Gw := gP6 (q := (yX12_add, 98)) (List.mem_of_getElem? (i := 15) rfl)
theorem wd1008 : Cond.initialized RX12 ∈ Gw := gT1 (List.mem_of_getElem? (i := 14) rfl) rfl
theorem wd1009 : Cond.methodLink RX12 210 yX12_find ∈ Gw := gT8 (List.mem_of_getElem? (i := 45) rfl) rfl
theorem wd1010 : Cond.code yX12_find prog_14_method_2_code 5 (some .int) ∈ Gw := gT8 (List.mem_of_getElem? (i := 48) rfl) rfl
theorem wd1011 : Cond.instanceMethod yX12_find ∈ Gw := gT8 (List.mem_of_getElem? (i := 47) rfl) rfl
theorem wd1012 : Cond.selects RX12 yX12_find yX12_find ∈ Gw := gP7 (q := (yX12_find, 98)) (List.mem_of_getElem? (i := 3) rfl)
section
variable {p : Program} {l : Launch} {e : Env} {R : Room} {s : State} {m : MethodId} {args : Array Value} {below : List Frame} {meth : Method} {c : Code} {H : Heap} {locs : List Loc} {Q : State → Prop}
variable {cc : ByteArray} {nL pc : Nat} {ls : Array Slot} {rest : List Value} {D : va_G} {A : Nat → Prop} {cw : Cond} {ad : Nat → Nat} {cy : Nat → ClassId} {ee : EE} {st : StT} {own : String}
theorem krX12_214_X12_add {n : Nat} {a0 : Int32} {a1 : Int32} {a2 : Int32} {q : (Int32 × StT)} (F : CallFix p m c cc nL s args (cw :: Gw) RX12) (K : va_K D vwCl (tyL cy) s) (E : EV ee A s s.heap) (hA : ∀ q, s.heap.size ≤ q → A q) (Z : ZG D (wM ad cy st) A s H locs) (hf : f_X12_add n st a0 a1 a2 = some q) (hR : 1 ≤ R.frames ∧ 23 ≤ R.locals) (hl : ls.size = nL) (hst : (rest.map fun v => v.category).sum ≤ 8) (hd : decode cc pc = .ok (.invokevirtual 214, 3)) (kk : ∀ (H1 : Heap) (locs1 : List Loc), ZG D (wM ad cy q.2) A s H1 locs1 → W p l e R s m args below meth c H1 locs1 0 0 Q (F0 m (pc + 3) ls (.int q.1 :: rest))) : W p l e R s m args below meth c H locs 0 0 Q (F0 m pc ls (.int a2 :: .int a1 :: .int a0 :: .ref (ad 0) :: rest)) :=
  call_V (q := (RX12, TX12, 98)) (n := 3) (As := [.int a0, .int a1, .int a2]) (rv := some (.int q.1)) 0 12 F K E hA Z (c_X12_add (l := l) (D := D) (ad := ad) (cy := cy) (ee := ee) hf) ⟨wd1005, wd1004, wd1006, wd1007, wd1008⟩ (by decide +kernel) rfl rfl hR rfl hl hst hd kk
theorem krX12_210_X12_find {n : Nat} {a0 : Int32} {a1 : Int32} {a2 : Int32} {q : (Int32 × StT)} (F : CallFix p m c cc nL s args (cw :: Gw) RX12) (K : va_K D vwCl (tyL cy) s) (E : EV ee A s s.heap) (hA : ∀ q, s.heap.size ≤ q → A q) (Z : ZG D (wM ad cy st) A s H locs) (hf : f_X12_find n st a0 a1 a2 = some q) (hR : 1 ≤ R.frames ∧ 24 ≤ R.locals) (hl : ls.size = nL) (hst : (rest.map fun v => v.category).sum ≤ 8) (hd : decode cc pc = .ok (.invokevirtual 210, 3)) (kk : ∀ (H1 : Heap) (locs1 : List Loc), ZG D (wM ad cy q.2) A s H1 locs1 → W p l e R s m args below meth c H1 locs1 0 0 Q (F0 m (pc + 3) ls (.int q.1 :: rest))) : W p l e R s m args below meth c H locs 0 0 Q (F0 m pc ls (.int a2 :: .int a1 :: .int a0 :: .ref (ad 0) :: rest)) :=
  call_V (q := (RX12, TX12, 98)) (n := 3) (As := [.int a0, .int a1, .int a2]) (rv := some (.int q.1)) 0 12 F K E hA Z (c_X12_find (l := l) (D := D) (ad := ad) (cy := cy) (ee := ee) hf) ⟨wd1010, wd1009, wd1011, wd1012, wd1008⟩ (by decide +kernel) rfl rfl hR rfl hl hst hd kk
end
set_option maxRecDepth 100000 in
set_option maxHeartbeats 4000000 in
theorem c_X12_formulaOf {l : Launch} {D : va_G} {ad : Nat → Nat} {cy : Nat → ClassId} {ee : EE} {n : Nat} {st : StT} {x1 : Int32} {x2 : Int32} {x3 : Int32} {res : (Int32 × StT)} (hf : f_X12_formulaOf n st x1 x2 x3 = some res) : CT l yX12_formulaOf cX12_formulaOf 5 (some .int) 1 24 D cy ee (wM ad cy st) (wM ad cy res.2) [.ref (ad 0), .int x1, .int x2, .int x3] (some (.int res.1)) := by
  refine CT.of (by decide +kernel) (Nat.le_of_ble_eq_true rfl) ?_
  intro p e s m args below meth c A F hr hk K E hA Z ls hl
  have hl : lv_has ls 5 [(0, .ref (ad 0)), (1, .int x1), (2, .int x2), (3, .int x3)] := hl
  have hx := F.1
  have hb := F.2.1
  unfold f_X12_formulaOf at hf
  refine lv_aload_n hx hb dX12_formulaOf_0 rfl (lv_at hl 0 rfl) ?_
  refine lv_iload_n hx hb dX12_formulaOf_1 rfl (lv_at hl 1 rfl) ?_
  refine lv_iload_n hx hb dX12_formulaOf_2 rfl (lv_at hl 2 rfl) ?_
  refine lv_iload_n hx hb dX12_formulaOf_3 rfl (lv_at hl 3 rfl) ?_
  obtain ⟨q4, h4, hf⟩ := bind_some hf
  refine krX12_210_X12_find F K E hA Z h4 ⟨Nat.le_of_ble_eq_true rfl, Nat.le_of_ble_eq_true rfl⟩ hl.1 (Nat.le_of_ble_eq_true rfl) dX12_formulaOf_4 (fun H locs Z => ?_)
  refine lv_istore (lv' := [(4, .int q4.1), (0, .ref (ad 0)), (1, .int x1), (2, .int x2), (3, .int x3)]) hx hb dX12_formulaOf_7 hl (by decide) rfl (fun ls hl => ?_)
  refine lv_iload hx hb dX12_formulaOf_9 (lv_at hl 0 rfl) ?_
  refine lv_if_lt (tgt := 19) hx hb dX12_formulaOf_11 (by decide) (fun c11 => ?_) (fun c11 => ?_)
  · have hf := if_t c11 hf
    refine lv_aload_n hx hb dX12_formulaOf_19 rfl (lv_at hl 1 rfl) ?_
    refine gmX12_204 F K Z dX12_formulaOf_20 ?_
    refine lv_sipush (v := 2000) hx hb dX12_formulaOf_23 (by decide) ?_
    refine lv_icmp_ne (tgt := 33) hx hb dX12_formulaOf_26 (by decide) (fun c26 => ?_) (fun c26 => ?_)
    · have hf := if_f c26 hf
      refine lv_aload_n hx hb dX12_formulaOf_33 rfl (lv_at hl 1 rfl) ?_
      refine lv_iload_n hx hb dX12_formulaOf_34 rfl (lv_at hl 2 rfl) ?_
      refine lv_iload_n hx hb dX12_formulaOf_35 rfl (lv_at hl 3 rfl) ?_
      refine lv_iload_n hx hb dX12_formulaOf_36 rfl (lv_at hl 4 rfl) ?_
      obtain ⟨q37, h37, hf⟩ := bind_some hf
      refine krX12_214_X12_add F K E hA Z h37 ⟨Nat.le_of_ble_eq_true rfl, Nat.le_of_ble_eq_true rfl⟩ hl.1 (Nat.le_of_ble_eq_true rfl) dX12_formulaOf_37 (fun H locs Z => ?_)
      have hf := Option.some.inj hf
      subst hf
      exact ret_i F hr hk Z dX12_formulaOf_40
    have hf := if_t c26 hf
    refine lv_iconst (v := -1) hx hb dX12_formulaOf_29 (by decide) ?_
    refine lv_goto (tgt := 40) hx hb dX12_formulaOf_30 (by decide) ?_
    have hf := Option.some.inj hf
    subst hf
    exact ret_i F hr hk Z dX12_formulaOf_40
  have hf := if_f c11 hf
  refine lv_iload hx hb dX12_formulaOf_14 (lv_at hl 0 rfl) ?_
  refine lv_goto (tgt := 40) hx hb dX12_formulaOf_16 (by decide) ?_
  have hf := Option.some.inj hf
  subst hf
  exact ret_i F hr hk Z dX12_formulaOf_40
def f_X12_isSmall (n : Nat) (st : StT) (x0 : Int32) : Option (Int32 × StT) := if x0 < (97 : Int32) then (some ((0 : Int32), st)) else (if (122 : Int32) < x0 then (some ((0 : Int32), st)) else (some ((1 : Int32), st)))
set_option maxRecDepth 100000 in
set_option maxHeartbeats 4000000 in
theorem c_X12_isSmall {l : Launch} {D : va_G} {ad : Nat → Nat} {cy : Nat → ClassId} {ee : EE} {n : Nat} {st : StT} {x0 : Int32} {res : (Int32 × StT)} (hf : f_X12_isSmall n st x0 = some res) : CT l yX12_isSmall cX12_isSmall 1 (some .boolean) 0 0 D cy ee (wM ad cy st) (wM ad cy res.2) [.int x0] (some (.int res.1)) := by
  refine CT.of (by decide +kernel) (Nat.le_of_ble_eq_true rfl) ?_
  intro p e s m args below meth c A F hr hk K E hA Z ls hl
  have hl : lv_has ls 1 [(0, .int x0)] := hl
  have hx := F.1
  have hb := F.2.1
  unfold f_X12_isSmall at hf
  refine lv_iload_n hx hb dX12_isSmall_0 rfl (lv_at hl 0 rfl) ?_
  refine lv_bipush (v := 97) hx hb dX12_isSmall_1 (by decide) ?_
  refine lv_icmp_lt (tgt := 16) hx hb dX12_isSmall_3 (by decide) (fun c3 => ?_) (fun c3 => ?_)
  · have hf := if_t c3 hf
    refine lv_iconst (v := 0) hx hb dX12_isSmall_16 (by decide) ?_
    have hf := Option.some.inj hf
    subst hf
    exact ret_z F hr hk Z rfl dX12_isSmall_17
  have hf := if_f c3 hf
  refine lv_iload_n hx hb dX12_isSmall_6 rfl (lv_at hl 0 rfl) ?_
  refine lv_bipush (v := 122) hx hb dX12_isSmall_7 (by decide) ?_
  refine lv_icmp_gt (tgt := 16) hx hb dX12_isSmall_9 (by decide) (fun c9 => ?_) (fun c9 => ?_)
  · have hf := if_t c9 hf
    refine lv_iconst (v := 0) hx hb dX12_isSmall_16 (by decide) ?_
    have hf := Option.some.inj hf
    subst hf
    exact ret_z F hr hk Z rfl dX12_isSmall_17
  have hf := if_f c9 hf
  refine lv_iconst (v := 1) hx hb dX12_isSmall_12 (by decide) ?_
  refine lv_goto (tgt := 17) hx hb dX12_isSmall_13 (by decide) ?_
  have hf := Option.some.inj hf
  subst hf
  exact ret_z F hr hk Z rfl dX12_isSmall_17
def f_X12_isDigit (n : Nat) (st : StT) (x0 : Int32) : Option (Int32 × StT) := if x0 < (48 : Int32) then (some ((0 : Int32), st)) else (if (57 : Int32) < x0 then (some ((0 : Int32), st)) else (some ((1 : Int32), st)))
set_option maxRecDepth 100000 in
set_option maxHeartbeats 4000000 in
theorem c_X12_isDigit {l : Launch} {D : va_G} {ad : Nat → Nat} {cy : Nat → ClassId} {ee : EE} {n : Nat} {st : StT} {x0 : Int32} {res : (Int32 × StT)} (hf : f_X12_isDigit n st x0 = some res) : CT l yX12_isDigit cX12_isDigit 1 (some .boolean) 0 0 D cy ee (wM ad cy st) (wM ad cy res.2) [.int x0] (some (.int res.1)) := by
  refine CT.of (by decide +kernel) (Nat.le_of_ble_eq_true rfl) ?_
  intro p e s m args below meth c A F hr hk K E hA Z ls hl
  have hl : lv_has ls 1 [(0, .int x0)] := hl
  have hx := F.1
  have hb := F.2.1
  unfold f_X12_isDigit at hf
  refine lv_iload_n hx hb dX12_isDigit_0 rfl (lv_at hl 0 rfl) ?_
  refine lv_bipush (v := 48) hx hb dX12_isDigit_1 (by decide) ?_
  refine lv_icmp_lt (tgt := 16) hx hb dX12_isDigit_3 (by decide) (fun c3 => ?_) (fun c3 => ?_)
  · have hf := if_t c3 hf
    refine lv_iconst (v := 0) hx hb dX12_isDigit_16 (by decide) ?_
    have hf := Option.some.inj hf
    subst hf
    exact ret_z F hr hk Z rfl dX12_isDigit_17
  have hf := if_f c3 hf
  refine lv_iload_n hx hb dX12_isDigit_6 rfl (lv_at hl 0 rfl) ?_
  refine lv_bipush (v := 57) hx hb dX12_isDigit_7 (by decide) ?_
  refine lv_icmp_gt (tgt := 16) hx hb dX12_isDigit_9 (by decide) (fun c9 => ?_) (fun c9 => ?_)
  · have hf := if_t c9 hf
    refine lv_iconst (v := 0) hx hb dX12_isDigit_16 (by decide) ?_
    have hf := Option.some.inj hf
    subst hf
    exact ret_z F hr hk Z rfl dX12_isDigit_17
  have hf := if_f c9 hf
  refine lv_iconst (v := 1) hx hb dX12_isDigit_12 (by decide) ?_
  refine lv_goto (tgt := 17) hx hb dX12_isDigit_13 (by decide) ?_
  have hf := Option.some.inj hf
  subst hf
  exact ret_z F hr hk Z rfl dX12_isDigit_17
def f_X12_signAt (n : Nat) (st : StT) (x1 : Int32) : Option (Int32 × StT) := if (st.1 3) ≤ x1 then (some ((-1 : Int32), st)) else (if inB x1 3000 = true then (some ((st.2.1 6 (x1).toNatClampNeg), st)) else none)
theorem wd1013 : Cond.fieldLink RX12 217 "WorldProverModel" "textSize" "I" ∈ Gw := gT6 (List.mem_of_getElem? (i := 68) rfl) rfl
theorem wd1014 : Cond.fieldLink RX12 28 "WorldProverModel" "text" "[I" ∈ Gw := gT6 (List.mem_of_getElem? (i := 67) rfl) rfl
section
variable {p : Program} {l : Launch} {e : Env} {R : Room} {s : State} {m : MethodId} {args : Array Value} {below : List Frame} {meth : Method} {c : Code} {H : Heap} {locs : List Loc} {Q : State → Prop}
variable {cc : ByteArray} {nL pc : Nat} {ls : Array Slot} {rest : List Value} {D : va_G} {A : Nat → Prop} {cw : Cond} {ad : Nat → Nat} {cy : Nat → ClassId} {ee : EE} {st : StT} {own : String}
theorem gmX12_217 (F : CallFix p m c cc nL s args (cw :: Gw) RX12) (K : va_K D vwCl (tyL cy) s) (Z : ZG D (wM ad cy st) A s H locs) (hd : decode cc pc = .ok (.getfield 217, 3)) (kk : W p l e R s m args below meth c H locs 0 0 Q (F0 m (pc + 3) ls (.int (st.1 3) :: rest))) : W p l e R s m args below meth c H locs 0 0 Q (F0 m pc ls (.ref (ad 0) :: rest)) :=
  va_get (D := D) (ci := 12) (C := RX12) (T := TX12) (N := 98) F.1 F.2.1 F.2.2.2.2 (fun w h => List.mem_cons_of_mem _ (inG_X12 w h)) F.2.2.2.1 K Z.1 0 rfl rfl 10 (by decide) (F.2.2.2.2 _ (List.mem_cons_of_mem _ wd1013)) (fun _ h => h) rfl hd kk
theorem gmX12_28 (F : CallFix p m c cc nL s args (cw :: Gw) RX12) (K : va_K D vwCl (tyL cy) s) (Z : ZG D (wM ad cy st) A s H locs) (hd : decode cc pc = .ok (.getfield 28, 3)) (kk : W p l e R s m args below meth c H locs 0 0 Q (F0 m (pc + 3) ls (.ref (ad 7) :: rest))) : W p l e R s m args below meth c H locs 0 0 Q (F0 m pc ls (.ref (ad 0) :: rest)) :=
  va_get (D := D) (ci := 12) (C := RX12) (T := TX12) (N := 98) F.1 F.2.1 F.2.2.2.2 (fun w h => List.mem_cons_of_mem _ (inG_X12 w h)) F.2.2.2.1 K Z.1 0 rfl rfl 9 (by decide) (F.2.2.2.2 _ (List.mem_cons_of_mem _ wd1014)) (fun _ h => h) rfl hd kk
theorem ml7 {i : Int32} (F : CallFix p m c cc nL s args (cw :: Gw) own) (K : va_K D vwCl (tyL cy) s) (Z : ZG D (wM ad cy st) A s H locs) (hi : inB i 3000 = true) (hd : decode cc pc = .ok (.iaload, 1)) (kk : W p l e R s m args below meth c H locs 0 0 Q (F0 m (pc + 1) ls (.int (st.2.1 6 i.toNatClampNeg) :: rest))) : W p l e R s m args below meth c H locs 0 0 Q (F0 m pc ls (.int i :: .ref (ad 7) :: rest)) :=
  va_iald F.1 F.2.1 K Z.1 7 1 rfl rfl (inB_vp hi) hd kk
end
set_option maxRecDepth 100000 in
set_option maxHeartbeats 4000000 in
theorem c_X12_signAt {l : Launch} {D : va_G} {ad : Nat → Nat} {cy : Nat → ClassId} {ee : EE} {n : Nat} {st : StT} {x1 : Int32} {res : (Int32 × StT)} (hf : f_X12_signAt n st x1 = some res) : CT l yX12_signAt cX12_signAt 2 (some .int) 0 0 D cy ee (wM ad cy st) (wM ad cy res.2) [.ref (ad 0), .int x1] (some (.int res.1)) := by
  refine CT.of (by decide +kernel) (Nat.le_of_ble_eq_true rfl) ?_
  intro p e s m args below meth c A F hr hk K E hA Z ls hl
  have hl : lv_has ls 2 [(0, .ref (ad 0)), (1, .int x1)] := hl
  have hx := F.1
  have hb := F.2.1
  unfold f_X12_signAt at hf
  refine lv_iload_n hx hb dX12_signAt_0 rfl (lv_at hl 1 rfl) ?_
  refine lv_aload_n hx hb dX12_signAt_1 rfl (lv_at hl 0 rfl) ?_
  refine gmX12_217 F K Z dX12_signAt_2 ?_
  refine lv_icmp_ge (tgt := 17) hx hb dX12_signAt_5 (by decide) (fun c5 => ?_) (fun c5 => ?_)
  · have hf := if_t c5 hf
    refine lv_iconst (v := -1) hx hb dX12_signAt_17 (by decide) ?_
    have hf := Option.some.inj hf
    subst hf
    exact ret_i F hr hk Z dX12_signAt_18
  have hf := if_f c5 hf
  refine lv_aload_n hx hb dX12_signAt_8 rfl (lv_at hl 0 rfl) ?_
  refine gmX12_28 F K Z dX12_signAt_9 ?_
  refine lv_iload_n hx hb dX12_signAt_12 rfl (lv_at hl 1 rfl) ?_
  obtain ⟨i13, hf⟩ := if_some hf
  refine ml7 F K Z i13 dX12_signAt_13 ?_
  refine lv_goto (tgt := 18) hx hb dX12_signAt_14 (by decide) ?_
  have hf := Option.some.inj hf
  subst hf
  exact ret_i F hr hk Z dX12_signAt_18
def f_X12_isSign (n : Nat) (st : StT) (x1 : Int32) : Option (Int32 × StT) := if x1 = (40 : Int32) then (some ((1 : Int32), st)) else (if x1 = (41 : Int32) then (some ((1 : Int32), st)) else (if x1 = (38 : Int32) then (some ((1 : Int32), st)) else (if x1 = (124 : Int32) then (some ((1 : Int32), st)) else (if x1 = (126 : Int32) then (some ((1 : Int32), st)) else (if (st.1 9) = 0 then (some ((0 : Int32), st)) else (if x1 = (44 : Int32) then (some ((1 : Int32), st)) else (if x1 = (84 : Int32) then (some ((1 : Int32), st)) else (if x1 = (76 : Int32) then (some ((1 : Int32), st)) else (if x1 = (65 : Int32) then (some ((1 : Int32), st)) else (if x1 = (80 : Int32) then (some ((1 : Int32), st)) else (if x1 = (70 : Int32) then (some ((1 : Int32), st)) else (if x1 = (83 : Int32) then (some ((1 : Int32), st)) else (if x1 = (73 : Int32) then (some ((1 : Int32), st)) else (if x1 = (74 : Int32) then (some ((1 : Int32), st)) else (if x1 = (67 : Int32) then (some ((1 : Int32), st)) else (if x1 = (88 : Int32) then (some ((1 : Int32), st)) else (some ((0 : Int32), st))))))))))))))))))
theorem wd1015 : Cond.fieldLink RX12 220 "WorldProverModel" "inTerms" "Z" ∈ Gw := gT6 (List.mem_of_getElem? (i := 74) rfl) rfl
section
variable {p : Program} {l : Launch} {e : Env} {R : Room} {s : State} {m : MethodId} {args : Array Value} {below : List Frame} {meth : Method} {c : Code} {H : Heap} {locs : List Loc} {Q : State → Prop}
variable {cc : ByteArray} {nL pc : Nat} {ls : Array Slot} {rest : List Value} {D : va_G} {A : Nat → Prop} {cw : Cond} {ad : Nat → Nat} {cy : Nat → ClassId} {ee : EE} {st : StT} {own : String}
theorem gmX12_220 (F : CallFix p m c cc nL s args (cw :: Gw) RX12) (K : va_K D vwCl (tyL cy) s) (Z : ZG D (wM ad cy st) A s H locs) (hd : decode cc pc = .ok (.getfield 220, 3)) (kk : W p l e R s m args below meth c H locs 0 0 Q (F0 m (pc + 3) ls (.int (st.1 9) :: rest))) : W p l e R s m args below meth c H locs 0 0 Q (F0 m pc ls (.ref (ad 0) :: rest)) :=
  va_get (D := D) (ci := 12) (C := RX12) (T := TX12) (N := 98) F.1 F.2.1 F.2.2.2.2 (fun w h => List.mem_cons_of_mem _ (inG_X12 w h)) F.2.2.2.1 K Z.1 0 rfl rfl 16 (by decide) (F.2.2.2.2 _ (List.mem_cons_of_mem _ wd1015)) (fun _ h => h) rfl hd kk
end
set_option maxRecDepth 100000 in
set_option maxHeartbeats 4000000 in
theorem c_X12_isSign {l : Launch} {D : va_G} {ad : Nat → Nat} {cy : Nat → ClassId} {ee : EE} {n : Nat} {st : StT} {x1 : Int32} {res : (Int32 × StT)} (hf : f_X12_isSign n st x1 = some res) : CT l yX12_isSign cX12_isSign 2 (some .boolean) 0 0 D cy ee (wM ad cy st) (wM ad cy res.2) [.ref (ad 0), .int x1] (some (.int res.1)) := by
  refine CT.of (by decide +kernel) (Nat.le_of_ble_eq_true rfl) ?_
  intro p e s m args below meth c A F hr hk K E hA Z ls hl
  have hl : lv_has ls 2 [(0, .ref (ad 0)), (1, .int x1)] := hl
  have hx := F.1
  have hb := F.2.1
  unfold f_X12_isSign at hf
  refine lv_iload_n hx hb dX12_isSign_0 rfl (lv_at hl 1 rfl) ?_
  refine lv_bipush (v := 40) hx hb dX12_isSign_1 (by decide) ?_
  refine lv_icmp_eq (tgt := 30) hx hb dX12_isSign_3 (by decide) (fun c3 => ?_) (fun c3 => ?_)
  · have hf := if_t c3 hf
    refine lv_iconst (v := 1) hx hb dX12_isSign_30 (by decide) ?_
    have hf := Option.some.inj hf
    subst hf
    exact ret_z F hr hk Z rfl dX12_isSign_31
  have hf := if_f c3 hf
  refine lv_iload_n hx hb dX12_isSign_6 rfl (lv_at hl 1 rfl) ?_
  refine lv_bipush (v := 41) hx hb dX12_isSign_7 (by decide) ?_
  refine lv_icmp_eq (tgt := 30) hx hb dX12_isSign_9 (by decide) (fun c9 => ?_) (fun c9 => ?_)
  · have hf := if_t c9 hf
    refine lv_iconst (v := 1) hx hb dX12_isSign_30 (by decide) ?_
    have hf := Option.some.inj hf
    subst hf
    exact ret_z F hr hk Z rfl dX12_isSign_31
  have hf := if_f c9 hf
  refine lv_iload_n hx hb dX12_isSign_12 rfl (lv_at hl 1 rfl) ?_
  refine lv_bipush (v := 38) hx hb dX12_isSign_13 (by decide) ?_
  refine lv_icmp_eq (tgt := 30) hx hb dX12_isSign_15 (by decide) (fun c15 => ?_) (fun c15 => ?_)
  · have hf := if_t c15 hf
    refine lv_iconst (v := 1) hx hb dX12_isSign_30 (by decide) ?_
    have hf := Option.some.inj hf
    subst hf
    exact ret_z F hr hk Z rfl dX12_isSign_31
  have hf := if_f c15 hf
  refine lv_iload_n hx hb dX12_isSign_18 rfl (lv_at hl 1 rfl) ?_
  refine lv_bipush (v := 124) hx hb dX12_isSign_19 (by decide) ?_
  refine lv_icmp_eq (tgt := 30) hx hb dX12_isSign_21 (by decide) (fun c21 => ?_) (fun c21 => ?_)
  · have hf := if_t c21 hf
    refine lv_iconst (v := 1) hx hb dX12_isSign_30 (by decide) ?_
    have hf := Option.some.inj hf
    subst hf
    exact ret_z F hr hk Z rfl dX12_isSign_31
  have hf := if_f c21 hf
  refine lv_iload_n hx hb dX12_isSign_24 rfl (lv_at hl 1 rfl) ?_
  refine lv_bipush (v := 126) hx hb dX12_isSign_25 (by decide) ?_
  refine lv_icmp_ne (tgt := 32) hx hb dX12_isSign_27 (by decide) (fun c27 => ?_) (fun c27 => ?_)
  · have hf := if_f c27 hf
    refine lv_aload_n hx hb dX12_isSign_32 rfl (lv_at hl 0 rfl) ?_
    refine gmX12_220 F K Z dX12_isSign_33 ?_
    refine lv_if_eq (tgt := 109) hx hb dX12_isSign_36 (by decide) (fun c36 => ?_) (fun c36 => ?_)
    · have hf := if_t c36 hf
      refine lv_iconst (v := 0) hx hb dX12_isSign_109 (by decide) ?_
      have hf := Option.some.inj hf
      subst hf
      exact ret_z F hr hk Z rfl dX12_isSign_110
    have hf := if_f c36 hf
    refine lv_iload_n hx hb dX12_isSign_39 rfl (lv_at hl 1 rfl) ?_
    refine lv_bipush (v := 44) hx hb dX12_isSign_40 (by decide) ?_
    refine lv_icmp_eq (tgt := 105) hx hb dX12_isSign_42 (by decide) (fun c42 => ?_) (fun c42 => ?_)
    · have hf := if_t c42 hf
      refine lv_iconst (v := 1) hx hb dX12_isSign_105 (by decide) ?_
      refine lv_goto (tgt := 110) hx hb dX12_isSign_106 (by decide) ?_
      have hf := Option.some.inj hf
      subst hf
      exact ret_z F hr hk Z rfl dX12_isSign_110
    have hf := if_f c42 hf
    refine lv_iload_n hx hb dX12_isSign_45 rfl (lv_at hl 1 rfl) ?_
    refine lv_bipush (v := 84) hx hb dX12_isSign_46 (by decide) ?_
    refine lv_icmp_eq (tgt := 105) hx hb dX12_isSign_48 (by decide) (fun c48 => ?_) (fun c48 => ?_)
    · have hf := if_t c48 hf
      refine lv_iconst (v := 1) hx hb dX12_isSign_105 (by decide) ?_
      refine lv_goto (tgt := 110) hx hb dX12_isSign_106 (by decide) ?_
      have hf := Option.some.inj hf
      subst hf
      exact ret_z F hr hk Z rfl dX12_isSign_110
    have hf := if_f c48 hf
    refine lv_iload_n hx hb dX12_isSign_51 rfl (lv_at hl 1 rfl) ?_
    refine lv_bipush (v := 76) hx hb dX12_isSign_52 (by decide) ?_
    refine lv_icmp_eq (tgt := 105) hx hb dX12_isSign_54 (by decide) (fun c54 => ?_) (fun c54 => ?_)
    · have hf := if_t c54 hf
      refine lv_iconst (v := 1) hx hb dX12_isSign_105 (by decide) ?_
      refine lv_goto (tgt := 110) hx hb dX12_isSign_106 (by decide) ?_
      have hf := Option.some.inj hf
      subst hf
      exact ret_z F hr hk Z rfl dX12_isSign_110
    have hf := if_f c54 hf
    refine lv_iload_n hx hb dX12_isSign_57 rfl (lv_at hl 1 rfl) ?_
    refine lv_bipush (v := 65) hx hb dX12_isSign_58 (by decide) ?_
    refine lv_icmp_eq (tgt := 105) hx hb dX12_isSign_60 (by decide) (fun c60 => ?_) (fun c60 => ?_)
    · have hf := if_t c60 hf
      refine lv_iconst (v := 1) hx hb dX12_isSign_105 (by decide) ?_
      refine lv_goto (tgt := 110) hx hb dX12_isSign_106 (by decide) ?_
      have hf := Option.some.inj hf
      subst hf
      exact ret_z F hr hk Z rfl dX12_isSign_110
    have hf := if_f c60 hf
    refine lv_iload_n hx hb dX12_isSign_63 rfl (lv_at hl 1 rfl) ?_
    refine lv_bipush (v := 80) hx hb dX12_isSign_64 (by decide) ?_
    refine lv_icmp_eq (tgt := 105) hx hb dX12_isSign_66 (by decide) (fun c66 => ?_) (fun c66 => ?_)
    · have hf := if_t c66 hf
      refine lv_iconst (v := 1) hx hb dX12_isSign_105 (by decide) ?_
      refine lv_goto (tgt := 110) hx hb dX12_isSign_106 (by decide) ?_
      have hf := Option.some.inj hf
      subst hf
      exact ret_z F hr hk Z rfl dX12_isSign_110
    have hf := if_f c66 hf
    refine lv_iload_n hx hb dX12_isSign_69 rfl (lv_at hl 1 rfl) ?_
    refine lv_bipush (v := 70) hx hb dX12_isSign_70 (by decide) ?_
    refine lv_icmp_eq (tgt := 105) hx hb dX12_isSign_72 (by decide) (fun c72 => ?_) (fun c72 => ?_)
    · have hf := if_t c72 hf
      refine lv_iconst (v := 1) hx hb dX12_isSign_105 (by decide) ?_
      refine lv_goto (tgt := 110) hx hb dX12_isSign_106 (by decide) ?_
      have hf := Option.some.inj hf
      subst hf
      exact ret_z F hr hk Z rfl dX12_isSign_110
    have hf := if_f c72 hf
    refine lv_iload_n hx hb dX12_isSign_75 rfl (lv_at hl 1 rfl) ?_
    refine lv_bipush (v := 83) hx hb dX12_isSign_76 (by decide) ?_
    refine lv_icmp_eq (tgt := 105) hx hb dX12_isSign_78 (by decide) (fun c78 => ?_) (fun c78 => ?_)
    · have hf := if_t c78 hf
      refine lv_iconst (v := 1) hx hb dX12_isSign_105 (by decide) ?_
      refine lv_goto (tgt := 110) hx hb dX12_isSign_106 (by decide) ?_
      have hf := Option.some.inj hf
      subst hf
      exact ret_z F hr hk Z rfl dX12_isSign_110
    have hf := if_f c78 hf
    refine lv_iload_n hx hb dX12_isSign_81 rfl (lv_at hl 1 rfl) ?_
    refine lv_bipush (v := 73) hx hb dX12_isSign_82 (by decide) ?_
    refine lv_icmp_eq (tgt := 105) hx hb dX12_isSign_84 (by decide) (fun c84 => ?_) (fun c84 => ?_)
    · have hf := if_t c84 hf
      refine lv_iconst (v := 1) hx hb dX12_isSign_105 (by decide) ?_
      refine lv_goto (tgt := 110) hx hb dX12_isSign_106 (by decide) ?_
      have hf := Option.some.inj hf
      subst hf
      exact ret_z F hr hk Z rfl dX12_isSign_110
    have hf := if_f c84 hf
    refine lv_iload_n hx hb dX12_isSign_87 rfl (lv_at hl 1 rfl) ?_
    refine lv_bipush (v := 74) hx hb dX12_isSign_88 (by decide) ?_
    refine lv_icmp_eq (tgt := 105) hx hb dX12_isSign_90 (by decide) (fun c90 => ?_) (fun c90 => ?_)
    · have hf := if_t c90 hf
      refine lv_iconst (v := 1) hx hb dX12_isSign_105 (by decide) ?_
      refine lv_goto (tgt := 110) hx hb dX12_isSign_106 (by decide) ?_
      have hf := Option.some.inj hf
      subst hf
      exact ret_z F hr hk Z rfl dX12_isSign_110
    have hf := if_f c90 hf
    refine lv_iload_n hx hb dX12_isSign_93 rfl (lv_at hl 1 rfl) ?_
    refine lv_bipush (v := 67) hx hb dX12_isSign_94 (by decide) ?_
    refine lv_icmp_eq (tgt := 105) hx hb dX12_isSign_96 (by decide) (fun c96 => ?_) (fun c96 => ?_)
    · have hf := if_t c96 hf
      refine lv_iconst (v := 1) hx hb dX12_isSign_105 (by decide) ?_
      refine lv_goto (tgt := 110) hx hb dX12_isSign_106 (by decide) ?_
      have hf := Option.some.inj hf
      subst hf
      exact ret_z F hr hk Z rfl dX12_isSign_110
    have hf := if_f c96 hf
    refine lv_iload_n hx hb dX12_isSign_99 rfl (lv_at hl 1 rfl) ?_
    refine lv_bipush (v := 88) hx hb dX12_isSign_100 (by decide) ?_
    refine lv_icmp_ne (tgt := 109) hx hb dX12_isSign_102 (by decide) (fun c102 => ?_) (fun c102 => ?_)
    · have hf := if_f c102 hf
      refine lv_iconst (v := 0) hx hb dX12_isSign_109 (by decide) ?_
      have hf := Option.some.inj hf
      subst hf
      exact ret_z F hr hk Z rfl dX12_isSign_110
    have hf := if_t c102 hf
    refine lv_iconst (v := 1) hx hb dX12_isSign_105 (by decide) ?_
    refine lv_goto (tgt := 110) hx hb dX12_isSign_106 (by decide) ?_
    have hf := Option.some.inj hf
    subst hf
    exact ret_z F hr hk Z rfl dX12_isSign_110
  have hf := if_t c27 hf
  refine lv_iconst (v := 1) hx hb dX12_isSign_30 (by decide) ?_
  have hf := Option.some.inj hf
  subst hf
  exact ret_z F hr hk Z rfl dX12_isSign_31
def f_X12_isWord_26 (n : Nat) (st : StT) (x1 : Int32) (x2 : Int32) (x3 : Int32) (x4 : Int32) (x5 : Int32) (x6 : Int32) (y0 : Int32) (y1 : Int32) : Option (Int32 × StT) := if y1 = y0 then (if inB (st.1 6) 3000 = true then (if (st.2.1 6 ((st.1 6)).toNatClampNeg) = x1 then (if inB ((st.1 6) + (1 : Int32)) 3000 = true then (if (st.2.1 6 (((st.1 6) + (1 : Int32))).toNatClampNeg) = x2 then (if inB ((st.1 6) + (2 : Int32)) 3000 = true then (if (st.2.1 6 (((st.1 6) + (2 : Int32))).toNatClampNeg) = x3 then (if inB ((st.1 6) + (3 : Int32)) 3000 = true then (if (st.2.1 6 (((st.1 6) + (3 : Int32))).toNatClampNeg) = x4 then (if x6 = 0 then (some ((1 : Int32), st)) else (if inB ((st.1 6) + (4 : Int32)) 3000 = true then (if (st.2.1 6 (((st.1 6) + (4 : Int32))).toNatClampNeg) = x5 then (some ((1 : Int32), st)) else (some ((0 : Int32), st))) else none)) else (some ((0 : Int32), st))) else none) else (some ((0 : Int32), st))) else none) else (some ((0 : Int32), st))) else none) else (some ((0 : Int32), st))) else none) else (some ((0 : Int32), st))
def f_X12_isWord_10 (n : Nat) (st : StT) (x1 : Int32) (x2 : Int32) (x3 : Int32) (x4 : Int32) (x5 : Int32) (y0 : Int32) : Option (Int32 × StT) := if y0 = 0 then (f_X12_isWord_26 n st x1 x2 x3 x4 x5 y0 (4 : Int32) (st.1 7)) else (f_X12_isWord_26 n st x1 x2 x3 x4 x5 y0 (5 : Int32) (st.1 7))
def f_X12_isWord (n : Nat) (st : StT) (x1 : Int32) (x2 : Int32) (x3 : Int32) (x4 : Int32) (x5 : Int32) : Option (Int32 × StT) := if x5 ≤ 0 then (f_X12_isWord_10 n st x1 x2 x3 x4 x5 (0 : Int32)) else (f_X12_isWord_10 n st x1 x2 x3 x4 x5 (1 : Int32))
theorem wd1016 : Cond.fieldLink RX12 224 "WorldProverModel" "tokenSize" "I" ∈ Gw := gT6 (List.mem_of_getElem? (i := 72) rfl) rfl
theorem wd1017 : Cond.fieldLink RX12 227 "WorldProverModel" "tokenAt" "I" ∈ Gw := gT6 (List.mem_of_getElem? (i := 71) rfl) rfl
section
variable {p : Program} {l : Launch} {e : Env} {R : Room} {s : State} {m : MethodId} {args : Array Value} {below : List Frame} {meth : Method} {c : Code} {H : Heap} {locs : List Loc} {Q : State → Prop}
variable {cc : ByteArray} {nL pc : Nat} {ls : Array Slot} {rest : List Value} {D : va_G} {A : Nat → Prop} {cw : Cond} {ad : Nat → Nat} {cy : Nat → ClassId} {ee : EE} {st : StT} {own : String}
theorem gmX12_224 (F : CallFix p m c cc nL s args (cw :: Gw) RX12) (K : va_K D vwCl (tyL cy) s) (Z : ZG D (wM ad cy st) A s H locs) (hd : decode cc pc = .ok (.getfield 224, 3)) (kk : W p l e R s m args below meth c H locs 0 0 Q (F0 m (pc + 3) ls (.int (st.1 7) :: rest))) : W p l e R s m args below meth c H locs 0 0 Q (F0 m pc ls (.ref (ad 0) :: rest)) :=
  va_get (D := D) (ci := 12) (C := RX12) (T := TX12) (N := 98) F.1 F.2.1 F.2.2.2.2 (fun w h => List.mem_cons_of_mem _ (inG_X12 w h)) F.2.2.2.1 K Z.1 0 rfl rfl 14 (by decide) (F.2.2.2.2 _ (List.mem_cons_of_mem _ wd1016)) (fun _ h => h) rfl hd kk
theorem gmX12_227 (F : CallFix p m c cc nL s args (cw :: Gw) RX12) (K : va_K D vwCl (tyL cy) s) (Z : ZG D (wM ad cy st) A s H locs) (hd : decode cc pc = .ok (.getfield 227, 3)) (kk : W p l e R s m args below meth c H locs 0 0 Q (F0 m (pc + 3) ls (.int (st.1 6) :: rest))) : W p l e R s m args below meth c H locs 0 0 Q (F0 m pc ls (.ref (ad 0) :: rest)) :=
  va_get (D := D) (ci := 12) (C := RX12) (T := TX12) (N := 98) F.1 F.2.1 F.2.2.2.2 (fun w h => List.mem_cons_of_mem _ (inG_X12 w h)) F.2.2.2.1 K Z.1 0 rfl rfl 13 (by decide) (F.2.2.2.2 _ (List.mem_cons_of_mem _ wd1017)) (fun _ h => h) rfl hd kk
end
set_option maxRecDepth 100000 in
set_option maxHeartbeats 4000000 in
theorem b_X12_isWord_26 {p : Program} {l : Launch} {e : Env} {s : State} {m : MethodId} {args : Array Value} {below : List Frame} {meth : Method} {c : Code} {D : va_G} {A : Nat → Prop} {ad : Nat → Nat} {cy : Nat → ClassId} {ee : EE} {n : Nat} {res : (Int32 × StT)} (F : CallFix p m c cX12_isWord 7 s args (Cond.code yX12_isWord cX12_isWord 7 (some .boolean) :: Gw) yX12_isWord.cls) (hr : meth.sig.returnType = (some .boolean)) (hk : meth.locks = false) (K : va_K D vwCl (tyL cy) s) (E : EV ee A s s.heap) (hA : ∀ q, s.heap.size ≤ q → A q) : ∀ (st : StT) (x1 : Int32) (x2 : Int32) (x3 : Int32) (x4 : Int32) (x5 : Int32) (x6 : Int32) (y0 : Int32) (y1 : Int32), f_X12_isWord_26 n st x1 x2 x3 x4 x5 x6 y0 y1 = some res → ∀ (H : Heap) (locs : List Loc) (ls : Array Slot), ZG D (wM ad cy st) A s H locs → lv_has ls 7 [(0, .ref (ad 0)), (1, .int x1), (2, .int x2), (3, .int x3), (4, .int x4), (5, .int x5), (6, .int x6)] → W p l e { frames := 0, cells := 0, slots := 0, locals := 0 } s m args below meth c H locs 0 0 (MQ below (QC D (some (.int res.1)) (wM ad cy res.2) A) args s 0 0 A) (F0 m 26 ls [.int y0, .int y1]) := by
  have hx := F.1
  have hb := F.2.1
  intro st x1 x2 x3 x4 x5 x6 y0 y1 hf H locs ls Z hl
  unfold f_X12_isWord_26 at hf
  refine lv_icmp_ne (tgt := 113) hx hb dX12_isWord_26 (by decide) (fun c26 => ?_) (fun c26 => ?_)
  · have hf := if_f c26 hf
    refine lv_iconst (v := 0) hx hb dX12_isWord_113 (by decide) ?_
    have hf := Option.some.inj hf
    subst hf
    exact ret_z F hr hk Z rfl dX12_isWord_114
  have hf := if_t c26 hf
  refine lv_aload_n hx hb dX12_isWord_29 rfl (lv_at hl 0 rfl) ?_
  refine gmX12_28 F K Z dX12_isWord_30 ?_
  refine lv_aload_n hx hb dX12_isWord_33 rfl (lv_at hl 0 rfl) ?_
  refine gmX12_227 F K Z dX12_isWord_34 ?_
  obtain ⟨i37, hf⟩ := if_some hf
  refine ml7 F K Z i37 dX12_isWord_37 ?_
  refine lv_iload_n hx hb dX12_isWord_38 rfl (lv_at hl 1 rfl) ?_
  refine lv_icmp_ne (tgt := 113) hx hb dX12_isWord_39 (by decide) (fun c39 => ?_) (fun c39 => ?_)
  · have hf := if_f c39 hf
    refine lv_iconst (v := 0) hx hb dX12_isWord_113 (by decide) ?_
    have hf := Option.some.inj hf
    subst hf
    exact ret_z F hr hk Z rfl dX12_isWord_114
  have hf := if_t c39 hf
  refine lv_aload_n hx hb dX12_isWord_42 rfl (lv_at hl 0 rfl) ?_
  refine gmX12_28 F K Z dX12_isWord_43 ?_
  refine lv_aload_n hx hb dX12_isWord_46 rfl (lv_at hl 0 rfl) ?_
  refine gmX12_227 F K Z dX12_isWord_47 ?_
  refine lv_iconst (v := 1) hx hb dX12_isWord_50 (by decide) ?_
  refine lv_iadd hx hb dX12_isWord_51 ?_
  obtain ⟨i52, hf⟩ := if_some hf
  refine ml7 F K Z i52 dX12_isWord_52 ?_
  refine lv_iload_n hx hb dX12_isWord_53 rfl (lv_at hl 2 rfl) ?_
  refine lv_icmp_ne (tgt := 113) hx hb dX12_isWord_54 (by decide) (fun c54 => ?_) (fun c54 => ?_)
  · have hf := if_f c54 hf
    refine lv_iconst (v := 0) hx hb dX12_isWord_113 (by decide) ?_
    have hf := Option.some.inj hf
    subst hf
    exact ret_z F hr hk Z rfl dX12_isWord_114
  have hf := if_t c54 hf
  refine lv_aload_n hx hb dX12_isWord_57 rfl (lv_at hl 0 rfl) ?_
  refine gmX12_28 F K Z dX12_isWord_58 ?_
  refine lv_aload_n hx hb dX12_isWord_61 rfl (lv_at hl 0 rfl) ?_
  refine gmX12_227 F K Z dX12_isWord_62 ?_
  refine lv_iconst (v := 2) hx hb dX12_isWord_65 (by decide) ?_
  refine lv_iadd hx hb dX12_isWord_66 ?_
  obtain ⟨i67, hf⟩ := if_some hf
  refine ml7 F K Z i67 dX12_isWord_67 ?_
  refine lv_iload_n hx hb dX12_isWord_68 rfl (lv_at hl 3 rfl) ?_
  refine lv_icmp_ne (tgt := 113) hx hb dX12_isWord_69 (by decide) (fun c69 => ?_) (fun c69 => ?_)
  · have hf := if_f c69 hf
    refine lv_iconst (v := 0) hx hb dX12_isWord_113 (by decide) ?_
    have hf := Option.some.inj hf
    subst hf
    exact ret_z F hr hk Z rfl dX12_isWord_114
  have hf := if_t c69 hf
  refine lv_aload_n hx hb dX12_isWord_72 rfl (lv_at hl 0 rfl) ?_
  refine gmX12_28 F K Z dX12_isWord_73 ?_
  refine lv_aload_n hx hb dX12_isWord_76 rfl (lv_at hl 0 rfl) ?_
  refine gmX12_227 F K Z dX12_isWord_77 ?_
  refine lv_iconst (v := 3) hx hb dX12_isWord_80 (by decide) ?_
  refine lv_iadd hx hb dX12_isWord_81 ?_
  obtain ⟨i82, hf⟩ := if_some hf
  refine ml7 F K Z i82 dX12_isWord_82 ?_
  refine lv_iload hx hb dX12_isWord_83 (lv_at hl 4 rfl) ?_
  refine lv_icmp_ne (tgt := 113) hx hb dX12_isWord_85 (by decide) (fun c85 => ?_) (fun c85 => ?_)
  · have hf := if_f c85 hf
    refine lv_iconst (v := 0) hx hb dX12_isWord_113 (by decide) ?_
    have hf := Option.some.inj hf
    subst hf
    exact ret_z F hr hk Z rfl dX12_isWord_114
  have hf := if_t c85 hf
  refine lv_iload hx hb dX12_isWord_88 (lv_at hl 6 rfl) ?_
  refine lv_if_eq (tgt := 109) hx hb dX12_isWord_90 (by decide) (fun c90 => ?_) (fun c90 => ?_)
  · have hf := if_t c90 hf
    refine lv_iconst (v := 1) hx hb dX12_isWord_109 (by decide) ?_
    refine lv_goto (tgt := 114) hx hb dX12_isWord_110 (by decide) ?_
    have hf := Option.some.inj hf
    subst hf
    exact ret_z F hr hk Z rfl dX12_isWord_114
  have hf := if_f c90 hf
  refine lv_aload_n hx hb dX12_isWord_93 rfl (lv_at hl 0 rfl) ?_
  refine gmX12_28 F K Z dX12_isWord_94 ?_
  refine lv_aload_n hx hb dX12_isWord_97 rfl (lv_at hl 0 rfl) ?_
  refine gmX12_227 F K Z dX12_isWord_98 ?_
  refine lv_iconst (v := 4) hx hb dX12_isWord_101 (by decide) ?_
  refine lv_iadd hx hb dX12_isWord_102 ?_
  obtain ⟨i103, hf⟩ := if_some hf
  refine ml7 F K Z i103 dX12_isWord_103 ?_
  refine lv_iload hx hb dX12_isWord_104 (lv_at hl 5 rfl) ?_
  refine lv_icmp_ne (tgt := 113) hx hb dX12_isWord_106 (by decide) (fun c106 => ?_) (fun c106 => ?_)
  · have hf := if_f c106 hf
    refine lv_iconst (v := 0) hx hb dX12_isWord_113 (by decide) ?_
    have hf := Option.some.inj hf
    subst hf
    exact ret_z F hr hk Z rfl dX12_isWord_114
  have hf := if_t c106 hf
  refine lv_iconst (v := 1) hx hb dX12_isWord_109 (by decide) ?_
  refine lv_goto (tgt := 114) hx hb dX12_isWord_110 (by decide) ?_
  have hf := Option.some.inj hf
  subst hf
  exact ret_z F hr hk Z rfl dX12_isWord_114
set_option maxRecDepth 100000 in
set_option maxHeartbeats 4000000 in
theorem b_X12_isWord_10 {p : Program} {l : Launch} {e : Env} {s : State} {m : MethodId} {args : Array Value} {below : List Frame} {meth : Method} {c : Code} {D : va_G} {A : Nat → Prop} {ad : Nat → Nat} {cy : Nat → ClassId} {ee : EE} {n : Nat} {res : (Int32 × StT)} (F : CallFix p m c cX12_isWord 7 s args (Cond.code yX12_isWord cX12_isWord 7 (some .boolean) :: Gw) yX12_isWord.cls) (hr : meth.sig.returnType = (some .boolean)) (hk : meth.locks = false) (K : va_K D vwCl (tyL cy) s) (E : EV ee A s s.heap) (hA : ∀ q, s.heap.size ≤ q → A q) : ∀ (st : StT) (x1 : Int32) (x2 : Int32) (x3 : Int32) (x4 : Int32) (x5 : Int32) (y0 : Int32), f_X12_isWord_10 n st x1 x2 x3 x4 x5 y0 = some res → ∀ (H : Heap) (locs : List Loc) (ls : Array Slot), ZG D (wM ad cy st) A s H locs → lv_has ls 7 [(0, .ref (ad 0)), (1, .int x1), (2, .int x2), (3, .int x3), (4, .int x4), (5, .int x5)] → W p l e { frames := 0, cells := 0, slots := 0, locals := 0 } s m args below meth c H locs 0 0 (MQ below (QC D (some (.int res.1)) (wM ad cy res.2) A) args s 0 0 A) (F0 m 10 ls [.int y0]) := by
  have hx := F.1
  have hb := F.2.1
  intro st x1 x2 x3 x4 x5 y0 hf H locs ls Z hl
  unfold f_X12_isWord_10 at hf
  refine lv_istore (lv' := [(6, .int y0), (0, .ref (ad 0)), (1, .int x1), (2, .int x2), (3, .int x3), (4, .int x4), (5, .int x5)]) hx hb dX12_isWord_10 hl (by decide) rfl (fun ls hl => ?_)
  refine lv_aload_n hx hb dX12_isWord_12 rfl (lv_at hl 1 rfl) ?_
  refine gmX12_224 F K Z dX12_isWord_13 ?_
  refine lv_iload hx hb dX12_isWord_16 (lv_at hl 0 rfl) ?_
  refine lv_if_eq (tgt := 25) hx hb dX12_isWord_18 (by decide) (fun c18 => ?_) (fun c18 => ?_)
  · have hf := if_t c18 hf
    refine lv_iconst (v := 4) hx hb dX12_isWord_25 (by decide) ?_
    exact b_X12_isWord_26 F hr hk K E hA _ _ _ _ _ _ _ _ _ hf _ _ _ Z (lv_sub hl [1, 2, 3, 4, 5, 6, 0] rfl)
  have hf := if_f c18 hf
  refine lv_iconst (v := 5) hx hb dX12_isWord_21 (by decide) ?_
  refine lv_goto (tgt := 26) hx hb dX12_isWord_22 (by decide) ?_
  exact b_X12_isWord_26 F hr hk K E hA _ _ _ _ _ _ _ _ _ hf _ _ _ Z (lv_sub hl [1, 2, 3, 4, 5, 6, 0] rfl)
set_option maxRecDepth 100000 in
set_option maxHeartbeats 4000000 in
theorem c_X12_isWord {l : Launch} {D : va_G} {ad : Nat → Nat} {cy : Nat → ClassId} {ee : EE} {n : Nat} {st : StT} {x1 : Int32} {x2 : Int32} {x3 : Int32} {x4 : Int32} {x5 : Int32} {res : (Int32 × StT)} (hf : f_X12_isWord n st x1 x2 x3 x4 x5 = some res) : CT l yX12_isWord cX12_isWord 7 (some .boolean) 0 0 D cy ee (wM ad cy st) (wM ad cy res.2) [.ref (ad 0), .int x1, .int x2, .int x3, .int x4, .int x5] (some (.int res.1)) := by
  refine CT.of (by decide +kernel) (Nat.le_of_ble_eq_true rfl) ?_
  intro p e s m args below meth c A F hr hk K E hA Z ls hl
  have hl : lv_has ls 7 [(0, .ref (ad 0)), (1, .int x1), (2, .int x2), (3, .int x3), (4, .int x4), (5, .int x5)] := hl
  have hx := F.1
  have hb := F.2.1
  unfold f_X12_isWord at hf
  refine lv_iload hx hb dX12_isWord_0 (lv_at hl 5 rfl) ?_
  refine lv_if_le (tgt := 9) hx hb dX12_isWord_2 (by decide) (fun c2 => ?_) (fun c2 => ?_)
  · have hf := if_t c2 hf
    refine lv_iconst (v := 0) hx hb dX12_isWord_9 (by decide) ?_
    exact b_X12_isWord_10 F hr hk K E hA _ _ _ _ _ _ _ hf _ _ _ Z hl
  have hf := if_f c2 hf
  refine lv_iconst (v := 1) hx hb dX12_isWord_5 (by decide) ?_
  refine lv_goto (tgt := 10) hx hb dX12_isWord_6 (by decide) ?_
  exact b_X12_isWord_10 F hr hk K E hA _ _ _ _ _ _ _ hf _ _ _ Z hl
def f_X12_scan_348 (n : Nat) (st : StT) (x1 : Int32) : Option StT := (f_X12_isSign n st x1).bind fun q351 => (if q351.1 = 0 then (some (uF q351.2 5 (262 : Int32))) else (some (uF q351.2 5 x1)))
def f_X12_scan_297 (n : Nat) (st : StT) (x1 : Int32) : Option StT := if x1 = (60 : Int32) then ((f_X12_signAt n st ((st.1 4) + (1 : Int32))).bind fun q310 => (if q310.1 = (45 : Int32) then ((f_X12_signAt n q310.2 ((q310.2.1 4) + (2 : Int32))).bind fun q325 => (if q325.1 = (62 : Int32) then (some (uF (uF q325.2 5 (261 : Int32)) 7 (3 : Int32))) else (f_X12_scan_348 n q325.2 x1))) else (f_X12_scan_348 n q310.2 x1))) else (f_X12_scan_348 n st x1)
def f_X12_scan_178 (n : Nat) (k140 : StT → Option StT) (st : StT) : Option StT := k140 (uF st 7 ((st.1 7) + (1 : Int32)))
def f_X12_scan_140 (n : Nat) : Nat → StT → Option StT
  | 0, _ => none
  | k + 1, st => (f_X12_signAt n st ((st.1 4) + (st.1 7))).bind fun q150 => ((f_X12_isSmall n q150.2 q150.1).bind fun q153 => (if q153.1 = 0 then ((f_X12_signAt n q153.2 ((q153.2.1 4) + (q153.2.1 7))).bind fun q169 => ((f_X12_isDigit n q169.2 q169.1).bind fun q172 => (if q172.1 = 0 then (if (q172.2.1 7) ≤ (6 : Int32) then ((f_X12_isWord n q172.2 (116 : Int32) (114 : Int32) (117 : Int32) (101 : Int32) (0 : Int32)).bind fun q217 => (if q217.1 = 0 then ((f_X12_isWord n q217.2 (102 : Int32) (97 : Int32) (108 : Int32) (115 : Int32) (101 : Int32)).bind fun q240 => (if q240.1 = 0 then (some (uF q240.2 5 (257 : Int32))) else (some (uF q240.2 5 (259 : Int32))))) else (some (uF q217.2 5 (258 : Int32))))) else (some (uF q172.2 5 (262 : Int32)))) else (f_X12_scan_178 n (f_X12_scan_140 n k) q172.2)))) else (f_X12_scan_178 n (f_X12_scan_140 n k) q153.2)))
def f_X12_scan_80 (n : Nat) (st : StT) : Option StT := (f_X12_signAt n (uF (uF (uF st 6 (st.1 4)) 7 (1 : Int32)) 8 (1 : Int32)) ((uF (uF (uF st 6 (st.1 4)) 7 (1 : Int32)) 8 (1 : Int32)).1 4)).bind fun q103 => (if (q103.2.1 4) = (q103.2.1 3) then (some (uF (uF q103.2 5 (256 : Int32)) 7 (0 : Int32))) else ((f_X12_isSmall n q103.2 q103.1).bind fun q134 => (if q134.1 = 0 then (if q103.1 = (45 : Int32) then ((f_X12_signAt n q134.2 ((q134.2.1 4) + (1 : Int32))).bind fun q274 => (if q274.1 = (62 : Int32) then (some (uF (uF q274.2 5 (260 : Int32)) 7 (2 : Int32))) else (f_X12_scan_297 n q274.2 q103.1))) else (f_X12_scan_297 n q134.2 q103.1)) else (f_X12_scan_140 n n q134.2))))
def f_X12_scan_67 (n : Nat) (k0 : StT → Option StT) (st : StT) : Option StT := k0 (uF st 4 ((st.1 4) + (1 : Int32)))
def f_X12_scan_0 (n : Nat) : Nat → StT → Option StT
  | 0, _ => none
  | k + 1, st => if (st.1 3) ≤ (st.1 4) then (f_X12_scan_80 n st) else (if inB (st.1 4) 3000 = true then (if (st.2.1 6 ((st.1 4)).toNatClampNeg) = (9 : Int32) then (f_X12_scan_67 n (f_X12_scan_0 n k) st) else (if inB (st.1 4) 3000 = true then (if (st.2.1 6 ((st.1 4)).toNatClampNeg) = (10 : Int32) then (f_X12_scan_67 n (f_X12_scan_0 n k) st) else (if inB (st.1 4) 3000 = true then (if (st.2.1 6 ((st.1 4)).toNatClampNeg) = (13 : Int32) then (f_X12_scan_67 n (f_X12_scan_0 n k) st) else (if inB (st.1 4) 3000 = true then (if (st.2.1 6 ((st.1 4)).toNatClampNeg) = (32 : Int32) then (f_X12_scan_67 n (f_X12_scan_0 n k) st) else (f_X12_scan_80 n st)) else none)) else none)) else none)) else none)
def f_X12_scan (n : Nat) (st : StT) : Option StT := f_X12_scan_0 n n st
theorem wd1018 : Cond.fieldLink RX12 230 "WorldProverModel" "at" "I" ∈ Gw := gT6 (List.mem_of_getElem? (i := 69) rfl) rfl
theorem wd1019 : Cond.fieldLink RX12 233 "WorldProverModel" "scanned" "Z" ∈ Gw := gT6 (List.mem_of_getElem? (i := 73) rfl) rfl
theorem wd1020 : Cond.fieldLink RX12 240 "WorldProverModel" "token" "I" ∈ Gw := gT6 (List.mem_of_getElem? (i := 70) rfl) rfl
theorem wd1021 : Cond.methodLink RX12 236 yX12_signAt ∈ Gw := gT7 (List.mem_of_getElem? (i := 235) rfl) rfl
theorem wd1022 : Cond.code yX12_signAt prog_14_method_7_code 2 (some .int) ∈ Gw := gT7 (List.mem_of_getElem? (i := 238) rfl) rfl
theorem wd1023 : Cond.instanceMethod yX12_signAt ∈ Gw := gT7 (List.mem_of_getElem? (i := 237) rfl) rfl
theorem wd1024 : Cond.selects RX12 yX12_signAt yX12_signAt ∈ Gw := gP6 (q := (yX12_signAt, 98)) (List.mem_of_getElem? (i := 8) rfl)
theorem wd1025 : Cond.methodLink RX12 243 yX12_isSmall ∈ Gw := gT7 (List.mem_of_getElem? (i := 239) rfl) rfl
theorem wd1026 : Cond.code yX12_isSmall prog_14_method_5_code 1 (some .boolean) ∈ Gw := gT8 (List.mem_of_getElem? (i := 1) rfl) rfl
theorem wd1027 : Cond.static yX12_isSmall ∈ Gw := gT8 (List.mem_of_getElem? (i := 0) rfl) rfl
theorem wd1028 : Cond.methodLink RX12 250 yX12_isWord ∈ Gw := gT8 (List.mem_of_getElem? (i := 5) rfl) rfl
theorem wd1029 : Cond.code yX12_isWord prog_14_method_9_code 7 (some .boolean) ∈ Gw := gT8 (List.mem_of_getElem? (i := 8) rfl) rfl
theorem wd1030 : Cond.instanceMethod yX12_isWord ∈ Gw := gT8 (List.mem_of_getElem? (i := 7) rfl) rfl
theorem wd1031 : Cond.selects RX12 yX12_isWord yX12_isWord ∈ Gw := gP6 (q := (yX12_isWord, 98)) (List.mem_of_getElem? (i := 9) rfl)
theorem wd1032 : Cond.methodLink RX12 247 yX12_isDigit ∈ Gw := gT8 (List.mem_of_getElem? (i := 2) rfl) rfl
theorem wd1033 : Cond.code yX12_isDigit prog_14_method_6_code 1 (some .boolean) ∈ Gw := gT8 (List.mem_of_getElem? (i := 4) rfl) rfl
theorem wd1034 : Cond.static yX12_isDigit ∈ Gw := gT8 (List.mem_of_getElem? (i := 3) rfl) rfl
theorem wd1035 : Cond.methodLink RX12 254 yX12_isSign ∈ Gw := gT8 (List.mem_of_getElem? (i := 9) rfl) rfl
theorem wd1036 : Cond.code yX12_isSign prog_14_method_8_code 2 (some .boolean) ∈ Gw := gT8 (List.mem_of_getElem? (i := 12) rfl) rfl
theorem wd1037 : Cond.instanceMethod yX12_isSign ∈ Gw := gT8 (List.mem_of_getElem? (i := 11) rfl) rfl
theorem wd1038 : Cond.selects RX12 yX12_isSign yX12_isSign ∈ Gw := gP6 (q := (yX12_isSign, 98)) (List.mem_of_getElem? (i := 10) rfl)
section
variable {p : Program} {l : Launch} {e : Env} {R : Room} {s : State} {m : MethodId} {args : Array Value} {below : List Frame} {meth : Method} {c : Code} {H : Heap} {locs : List Loc} {Q : State → Prop}
variable {cc : ByteArray} {nL pc : Nat} {ls : Array Slot} {rest : List Value} {D : va_G} {A : Nat → Prop} {cw : Cond} {ad : Nat → Nat} {cy : Nat → ClassId} {ee : EE} {st : StT} {own : String}
theorem gmX12_230 (F : CallFix p m c cc nL s args (cw :: Gw) RX12) (K : va_K D vwCl (tyL cy) s) (Z : ZG D (wM ad cy st) A s H locs) (hd : decode cc pc = .ok (.getfield 230, 3)) (kk : W p l e R s m args below meth c H locs 0 0 Q (F0 m (pc + 3) ls (.int (st.1 4) :: rest))) : W p l e R s m args below meth c H locs 0 0 Q (F0 m pc ls (.ref (ad 0) :: rest)) :=
  va_get (D := D) (ci := 12) (C := RX12) (T := TX12) (N := 98) F.1 F.2.1 F.2.2.2.2 (fun w h => List.mem_cons_of_mem _ (inG_X12 w h)) F.2.2.2.1 K Z.1 0 rfl rfl 11 (by decide) (F.2.2.2.2 _ (List.mem_cons_of_mem _ wd1018)) (fun _ h => h) rfl hd kk
theorem pmX12_230 {v : Int32} (F : CallFix p m c cc nL s args (cw :: Gw) RX12) (K : va_K D vwCl (tyL cy) s) (Z : ZG D (wM ad cy st) A s H locs) (hd : decode cc pc = .ok (.putfield 230, 3)) (kk : ∀ (H1 : Heap) (locs1 : List Loc), ZG D (wM ad cy (uF st 4 v)) A s H1 locs1 → W p l e R s m args below meth c H1 locs1 0 0 Q (F0 m (pc + 3) ls rest)) : W p l e R s m args below meth c H locs 0 0 Q (F0 m pc ls (.int v :: .ref (ad 0) :: rest)) :=
  va_put (D := D) (ci := 12) (v := .int v) (ty := .int) (C := RX12) (T := TX12) (N := 98) F.1 F.2.1 F.2.2.2.2 (fun w h => List.mem_cons_of_mem _ (inG_X12 w h)) tyX12 tyX12_ok nmX12 F.2.2.2.1 K Z.1 Z.2.1 Z.2.2 0 rfl rfl 11 (by decide) (F.2.2.2.2 _ (List.mem_cons_of_mem _ wd1018)) (fun _ h => h) rfl (by decide +kernel) rfl rfl (Nat.le_of_ble_eq_true rfl) hd (fun H1 locs1 hP hD hS => kk H1 locs1 ⟨hP, hD, hS⟩)
theorem pmX12_227 {v : Int32} (F : CallFix p m c cc nL s args (cw :: Gw) RX12) (K : va_K D vwCl (tyL cy) s) (Z : ZG D (wM ad cy st) A s H locs) (hd : decode cc pc = .ok (.putfield 227, 3)) (kk : ∀ (H1 : Heap) (locs1 : List Loc), ZG D (wM ad cy (uF st 6 v)) A s H1 locs1 → W p l e R s m args below meth c H1 locs1 0 0 Q (F0 m (pc + 3) ls rest)) : W p l e R s m args below meth c H locs 0 0 Q (F0 m pc ls (.int v :: .ref (ad 0) :: rest)) :=
  va_put (D := D) (ci := 12) (v := .int v) (ty := .int) (C := RX12) (T := TX12) (N := 98) F.1 F.2.1 F.2.2.2.2 (fun w h => List.mem_cons_of_mem _ (inG_X12 w h)) tyX12 tyX12_ok nmX12 F.2.2.2.1 K Z.1 Z.2.1 Z.2.2 0 rfl rfl 13 (by decide) (F.2.2.2.2 _ (List.mem_cons_of_mem _ wd1017)) (fun _ h => h) rfl (by decide +kernel) rfl rfl (Nat.le_of_ble_eq_true rfl) hd (fun H1 locs1 hP hD hS => kk H1 locs1 ⟨hP, hD, hS⟩)
theorem pmX12_224 {v : Int32} (F : CallFix p m c cc nL s args (cw :: Gw) RX12) (K : va_K D vwCl (tyL cy) s) (Z : ZG D (wM ad cy st) A s H locs) (hd : decode cc pc = .ok (.putfield 224, 3)) (kk : ∀ (H1 : Heap) (locs1 : List Loc), ZG D (wM ad cy (uF st 7 v)) A s H1 locs1 → W p l e R s m args below meth c H1 locs1 0 0 Q (F0 m (pc + 3) ls rest)) : W p l e R s m args below meth c H locs 0 0 Q (F0 m pc ls (.int v :: .ref (ad 0) :: rest)) :=
  va_put (D := D) (ci := 12) (v := .int v) (ty := .int) (C := RX12) (T := TX12) (N := 98) F.1 F.2.1 F.2.2.2.2 (fun w h => List.mem_cons_of_mem _ (inG_X12 w h)) tyX12 tyX12_ok nmX12 F.2.2.2.1 K Z.1 Z.2.1 Z.2.2 0 rfl rfl 14 (by decide) (F.2.2.2.2 _ (List.mem_cons_of_mem _ wd1016)) (fun _ h => h) rfl (by decide +kernel) rfl rfl (Nat.le_of_ble_eq_true rfl) hd (fun H1 locs1 hP hD hS => kk H1 locs1 ⟨hP, hD, hS⟩)
theorem pmX12_233 {v : Int32} (F : CallFix p m c cc nL s args (cw :: Gw) RX12) (K : va_K D vwCl (tyL cy) s) (Z : ZG D (wM ad cy st) A s H locs) (hz : isZ v = true) (hd : decode cc pc = .ok (.putfield 233, 3)) (kk : ∀ (H1 : Heap) (locs1 : List Loc), ZG D (wM ad cy (uF st 8 v)) A s H1 locs1 → W p l e R s m args below meth c H1 locs1 0 0 Q (F0 m (pc + 3) ls rest)) : W p l e R s m args below meth c H locs 0 0 Q (F0 m pc ls (.int v :: .ref (ad 0) :: rest)) :=
  va_put (D := D) (ci := 12) (v := .int v) (ty := .boolean) (C := RX12) (T := TX12) (N := 98) F.1 F.2.1 F.2.2.2.2 (fun w h => List.mem_cons_of_mem _ (inG_X12 w h)) tyX12 tyX12_ok nmX12 F.2.2.2.1 K Z.1 Z.2.1 Z.2.2 0 rfl rfl 15 (by decide) (F.2.2.2.2 _ (List.mem_cons_of_mem _ wd1019)) (fun _ h => h) rfl (by decide +kernel) (isZ_nar hz) (isZ_fit hz) (Nat.le_of_ble_eq_true rfl) hd (fun H1 locs1 hP hD hS => kk H1 locs1 ⟨hP, hD, hS⟩)
theorem pmX12_240 {v : Int32} (F : CallFix p m c cc nL s args (cw :: Gw) RX12) (K : va_K D vwCl (tyL cy) s) (Z : ZG D (wM ad cy st) A s H locs) (hd : decode cc pc = .ok (.putfield 240, 3)) (kk : ∀ (H1 : Heap) (locs1 : List Loc), ZG D (wM ad cy (uF st 5 v)) A s H1 locs1 → W p l e R s m args below meth c H1 locs1 0 0 Q (F0 m (pc + 3) ls rest)) : W p l e R s m args below meth c H locs 0 0 Q (F0 m pc ls (.int v :: .ref (ad 0) :: rest)) :=
  va_put (D := D) (ci := 12) (v := .int v) (ty := .int) (C := RX12) (T := TX12) (N := 98) F.1 F.2.1 F.2.2.2.2 (fun w h => List.mem_cons_of_mem _ (inG_X12 w h)) tyX12 tyX12_ok nmX12 F.2.2.2.1 K Z.1 Z.2.1 Z.2.2 0 rfl rfl 12 (by decide) (F.2.2.2.2 _ (List.mem_cons_of_mem _ wd1020)) (fun _ h => h) rfl (by decide +kernel) rfl rfl (Nat.le_of_ble_eq_true rfl) hd (fun H1 locs1 hP hD hS => kk H1 locs1 ⟨hP, hD, hS⟩)
theorem krX12_236_X12_signAt {n : Nat} {a0 : Int32} {q : (Int32 × StT)} (F : CallFix p m c cc nL s args (cw :: Gw) RX12) (K : va_K D vwCl (tyL cy) s) (E : EV ee A s s.heap) (hA : ∀ q, s.heap.size ≤ q → A q) (Z : ZG D (wM ad cy st) A s H locs) (hf : f_X12_signAt n st a0 = some q) (hR : 1 ≤ R.frames ∧ 21 ≤ R.locals) (hl : ls.size = nL) (hst : (rest.map fun v => v.category).sum ≤ 8) (hd : decode cc pc = .ok (.invokevirtual 236, 3)) (kk : ∀ (H1 : Heap) (locs1 : List Loc), ZG D (wM ad cy q.2) A s H1 locs1 → W p l e R s m args below meth c H1 locs1 0 0 Q (F0 m (pc + 3) ls (.int q.1 :: rest))) : W p l e R s m args below meth c H locs 0 0 Q (F0 m pc ls (.int a0 :: .ref (ad 0) :: rest)) :=
  call_V (q := (RX12, TX12, 98)) (n := 1) (As := [.int a0]) (rv := some (.int q.1)) 0 12 F K E hA Z (c_X12_signAt (l := l) (D := D) (ad := ad) (cy := cy) (ee := ee) hf) ⟨wd1022, wd1021, wd1023, wd1024, wd1008⟩ (by decide +kernel) rfl rfl hR rfl hl hst hd kk
theorem krX12_243_X12_isSmall {n : Nat} {a0 : Int32} {q : (Int32 × StT)} (F : CallFix p m c cc nL s args (cw :: Gw) RX12) (K : va_K D vwCl (tyL cy) s) (E : EV ee A s s.heap) (hA : ∀ q, s.heap.size ≤ q → A q) (Z : ZG D (wM ad cy st) A s H locs) (hf : f_X12_isSmall n st a0 = some q) (hR : 1 ≤ R.frames ∧ 20 ≤ R.locals) (hl : ls.size = nL) (hst : (rest.map fun v => v.category).sum ≤ 8) (hd : decode cc pc = .ok (.invokestatic 243, 3)) (kk : ∀ (H1 : Heap) (locs1 : List Loc), ZG D (wM ad cy q.2) A s H1 locs1 → W p l e R s m args below meth c H1 locs1 0 0 Q (F0 m (pc + 3) ls (.int q.1 :: rest))) : W p l e R s m args below meth c H locs 0 0 Q (F0 m pc ls (.int a0 :: rest)) :=
  call_S (n := 1) (As := [.int a0]) (rv := some (.int q.1)) F K E hA Z (c_X12_isSmall (l := l) (D := D) (ad := ad) (cy := cy) (ee := ee) hf) ⟨wd1026, wd1025, wd1027, wd1008⟩ (by decide +kernel) hR rfl hl hst hd kk
theorem krX12_250_X12_isWord {n : Nat} {a0 : Int32} {a1 : Int32} {a2 : Int32} {a3 : Int32} {a4 : Int32} {q : (Int32 × StT)} (F : CallFix p m c cc nL s args (cw :: Gw) RX12) (K : va_K D vwCl (tyL cy) s) (E : EV ee A s s.heap) (hA : ∀ q, s.heap.size ≤ q → A q) (Z : ZG D (wM ad cy st) A s H locs) (hf : f_X12_isWord n st a0 a1 a2 a3 a4 = some q) (hR : 1 ≤ R.frames ∧ 26 ≤ R.locals) (hl : ls.size = nL) (hst : (rest.map fun v => v.category).sum ≤ 8) (hd : decode cc pc = .ok (.invokevirtual 250, 3)) (kk : ∀ (H1 : Heap) (locs1 : List Loc), ZG D (wM ad cy q.2) A s H1 locs1 → W p l e R s m args below meth c H1 locs1 0 0 Q (F0 m (pc + 3) ls (.int q.1 :: rest))) : W p l e R s m args below meth c H locs 0 0 Q (F0 m pc ls (.int a4 :: .int a3 :: .int a2 :: .int a1 :: .int a0 :: .ref (ad 0) :: rest)) :=
  call_V (q := (RX12, TX12, 98)) (n := 5) (As := [.int a0, .int a1, .int a2, .int a3, .int a4]) (rv := some (.int q.1)) 0 12 F K E hA Z (c_X12_isWord (l := l) (D := D) (ad := ad) (cy := cy) (ee := ee) hf) ⟨wd1029, wd1028, wd1030, wd1031, wd1008⟩ (by decide +kernel) rfl rfl hR rfl hl hst hd kk
theorem krX12_247_X12_isDigit {n : Nat} {a0 : Int32} {q : (Int32 × StT)} (F : CallFix p m c cc nL s args (cw :: Gw) RX12) (K : va_K D vwCl (tyL cy) s) (E : EV ee A s s.heap) (hA : ∀ q, s.heap.size ≤ q → A q) (Z : ZG D (wM ad cy st) A s H locs) (hf : f_X12_isDigit n st a0 = some q) (hR : 1 ≤ R.frames ∧ 20 ≤ R.locals) (hl : ls.size = nL) (hst : (rest.map fun v => v.category).sum ≤ 8) (hd : decode cc pc = .ok (.invokestatic 247, 3)) (kk : ∀ (H1 : Heap) (locs1 : List Loc), ZG D (wM ad cy q.2) A s H1 locs1 → W p l e R s m args below meth c H1 locs1 0 0 Q (F0 m (pc + 3) ls (.int q.1 :: rest))) : W p l e R s m args below meth c H locs 0 0 Q (F0 m pc ls (.int a0 :: rest)) :=
  call_S (n := 1) (As := [.int a0]) (rv := some (.int q.1)) F K E hA Z (c_X12_isDigit (l := l) (D := D) (ad := ad) (cy := cy) (ee := ee) hf) ⟨wd1033, wd1032, wd1034, wd1008⟩ (by decide +kernel) hR rfl hl hst hd kk
theorem krX12_254_X12_isSign {n : Nat} {a0 : Int32} {q : (Int32 × StT)} (F : CallFix p m c cc nL s args (cw :: Gw) RX12) (K : va_K D vwCl (tyL cy) s) (E : EV ee A s s.heap) (hA : ∀ q, s.heap.size ≤ q → A q) (Z : ZG D (wM ad cy st) A s H locs) (hf : f_X12_isSign n st a0 = some q) (hR : 1 ≤ R.frames ∧ 21 ≤ R.locals) (hl : ls.size = nL) (hst : (rest.map fun v => v.category).sum ≤ 8) (hd : decode cc pc = .ok (.invokevirtual 254, 3)) (kk : ∀ (H1 : Heap) (locs1 : List Loc), ZG D (wM ad cy q.2) A s H1 locs1 → W p l e R s m args below meth c H1 locs1 0 0 Q (F0 m (pc + 3) ls (.int q.1 :: rest))) : W p l e R s m args below meth c H locs 0 0 Q (F0 m pc ls (.int a0 :: .ref (ad 0) :: rest)) :=
  call_V (q := (RX12, TX12, 98)) (n := 1) (As := [.int a0]) (rv := some (.int q.1)) 0 12 F K E hA Z (c_X12_isSign (l := l) (D := D) (ad := ad) (cy := cy) (ee := ee) hf) ⟨wd1036, wd1035, wd1037, wd1038, wd1008⟩ (by decide +kernel) rfl rfl hR rfl hl hst hd kk
end
set_option maxRecDepth 100000 in
set_option maxHeartbeats 4000000 in
theorem b_X12_scan_348 {p : Program} {l : Launch} {e : Env} {s : State} {m : MethodId} {args : Array Value} {below : List Frame} {meth : Method} {c : Code} {D : va_G} {A : Nat → Prop} {ad : Nat → Nat} {cy : Nat → ClassId} {ee : EE} {n : Nat} {res : StT} (F : CallFix p m c cX12_scan 2 s args (Cond.code yX12_scan cX12_scan 2 none :: Gw) yX12_scan.cls) (hr : meth.sig.returnType = none) (hk : meth.locks = false) (K : va_K D vwCl (tyL cy) s) (E : EV ee A s s.heap) (hA : ∀ q, s.heap.size ≤ q → A q) : ∀ (st : StT) (x1 : Int32), f_X12_scan_348 n st x1 = some res → ∀ (H : Heap) (locs : List Loc) (ls : Array Slot), ZG D (wM ad cy st) A s H locs → lv_has ls 2 [(0, .ref (ad 0)), (1, .int x1)] → W p l e { frames := 1, cells := 0, slots := 0, locals := 26 } s m args below meth c H locs 0 0 (MQ below (QC D (none) (wM ad cy res) A) args s 0 0 A) (F0 m 348 ls []) := by
  have hx := F.1
  have hb := F.2.1
  intro st x1 hf H locs ls Z hl
  unfold f_X12_scan_348 at hf
  refine lv_aload_n hx hb dX12_scan_348 rfl (lv_at hl 0 rfl) ?_
  refine lv_aload_n hx hb dX12_scan_349 rfl (lv_at hl 0 rfl) ?_
  refine lv_iload_n hx hb dX12_scan_350 rfl (lv_at hl 1 rfl) ?_
  obtain ⟨q351, h351, hf⟩ := bind_some hf
  refine krX12_254_X12_isSign F K E hA Z h351 ⟨Nat.le_of_ble_eq_true rfl, Nat.le_of_ble_eq_true rfl⟩ hl.1 (Nat.le_of_ble_eq_true rfl) dX12_scan_351 (fun H locs Z => ?_)
  refine lv_if_eq (tgt := 361) hx hb dX12_scan_354 (by decide) (fun c354 => ?_) (fun c354 => ?_)
  · have hf := if_t c354 hf
    refine lv_sipush (v := 262) hx hb dX12_scan_361 (by decide) ?_
    refine pmX12_240 F K Z dX12_scan_364 (fun H locs Z => ?_)
    have hf := Option.some.inj hf
    subst hf
    exact ret_v F hr hk Z dX12_scan_367
  have hf := if_f c354 hf
  refine lv_iload_n hx hb dX12_scan_357 rfl (lv_at hl 1 rfl) ?_
  refine lv_goto (tgt := 364) hx hb dX12_scan_358 (by decide) ?_
  refine pmX12_240 F K Z dX12_scan_364 (fun H locs Z => ?_)
  have hf := Option.some.inj hf
  subst hf
  exact ret_v F hr hk Z dX12_scan_367
set_option maxRecDepth 100000 in
set_option maxHeartbeats 4000000 in
theorem b_X12_scan_297 {p : Program} {l : Launch} {e : Env} {s : State} {m : MethodId} {args : Array Value} {below : List Frame} {meth : Method} {c : Code} {D : va_G} {A : Nat → Prop} {ad : Nat → Nat} {cy : Nat → ClassId} {ee : EE} {n : Nat} {res : StT} (F : CallFix p m c cX12_scan 2 s args (Cond.code yX12_scan cX12_scan 2 none :: Gw) yX12_scan.cls) (hr : meth.sig.returnType = none) (hk : meth.locks = false) (K : va_K D vwCl (tyL cy) s) (E : EV ee A s s.heap) (hA : ∀ q, s.heap.size ≤ q → A q) : ∀ (st : StT) (x1 : Int32), f_X12_scan_297 n st x1 = some res → ∀ (H : Heap) (locs : List Loc) (ls : Array Slot), ZG D (wM ad cy st) A s H locs → lv_has ls 2 [(0, .ref (ad 0)), (1, .int x1)] → W p l e { frames := 1, cells := 0, slots := 0, locals := 26 } s m args below meth c H locs 0 0 (MQ below (QC D (none) (wM ad cy res) A) args s 0 0 A) (F0 m 297 ls []) := by
  have hx := F.1
  have hb := F.2.1
  intro st x1 hf H locs ls Z hl
  unfold f_X12_scan_297 at hf
  refine lv_iload_n hx hb dX12_scan_297 rfl (lv_at hl 1 rfl) ?_
  refine lv_bipush (v := 60) hx hb dX12_scan_298 (by decide) ?_
  refine lv_icmp_ne (tgt := 348) hx hb dX12_scan_300 (by decide) (fun c300 => ?_) (fun c300 => ?_)
  · have hf := if_f c300 hf
    exact b_X12_scan_348 F hr hk K E hA _ _ hf _ _ _ Z hl
  have hf := if_t c300 hf
  refine lv_aload_n hx hb dX12_scan_303 rfl (lv_at hl 0 rfl) ?_
  refine lv_aload_n hx hb dX12_scan_304 rfl (lv_at hl 0 rfl) ?_
  refine gmX12_230 F K Z dX12_scan_305 ?_
  refine lv_iconst (v := 1) hx hb dX12_scan_308 (by decide) ?_
  refine lv_iadd hx hb dX12_scan_309 ?_
  obtain ⟨q310, h310, hf⟩ := bind_some hf
  refine krX12_236_X12_signAt F K E hA Z h310 ⟨Nat.le_of_ble_eq_true rfl, Nat.le_of_ble_eq_true rfl⟩ hl.1 (Nat.le_of_ble_eq_true rfl) dX12_scan_310 (fun H locs Z => ?_)
  refine lv_bipush (v := 45) hx hb dX12_scan_313 (by decide) ?_
  refine lv_icmp_ne (tgt := 348) hx hb dX12_scan_315 (by decide) (fun c315 => ?_) (fun c315 => ?_)
  · have hf := if_f c315 hf
    exact b_X12_scan_348 F hr hk K E hA _ _ hf _ _ _ Z hl
  have hf := if_t c315 hf
  refine lv_aload_n hx hb dX12_scan_318 rfl (lv_at hl 0 rfl) ?_
  refine lv_aload_n hx hb dX12_scan_319 rfl (lv_at hl 0 rfl) ?_
  refine gmX12_230 F K Z dX12_scan_320 ?_
  refine lv_iconst (v := 2) hx hb dX12_scan_323 (by decide) ?_
  refine lv_iadd hx hb dX12_scan_324 ?_
  obtain ⟨q325, h325, hf⟩ := bind_some hf
  refine krX12_236_X12_signAt F K E hA Z h325 ⟨Nat.le_of_ble_eq_true rfl, Nat.le_of_ble_eq_true rfl⟩ hl.1 (Nat.le_of_ble_eq_true rfl) dX12_scan_325 (fun H locs Z => ?_)
  refine lv_bipush (v := 62) hx hb dX12_scan_328 (by decide) ?_
  refine lv_icmp_ne (tgt := 348) hx hb dX12_scan_330 (by decide) (fun c330 => ?_) (fun c330 => ?_)
  · have hf := if_f c330 hf
    exact b_X12_scan_348 F hr hk K E hA _ _ hf _ _ _ Z hl
  have hf := if_t c330 hf
  refine lv_aload_n hx hb dX12_scan_333 rfl (lv_at hl 0 rfl) ?_
  refine lv_sipush (v := 261) hx hb dX12_scan_334 (by decide) ?_
  refine pmX12_240 F K Z dX12_scan_337 (fun H locs Z => ?_)
  refine lv_aload_n hx hb dX12_scan_340 rfl (lv_at hl 0 rfl) ?_
  refine lv_iconst (v := 3) hx hb dX12_scan_341 (by decide) ?_
  refine pmX12_224 F K Z dX12_scan_342 (fun H locs Z => ?_)
  refine lv_goto (tgt := 367) hx hb dX12_scan_345 (by decide) ?_
  have hf := Option.some.inj hf
  subst hf
  exact ret_v F hr hk Z dX12_scan_367
set_option maxRecDepth 100000 in
set_option maxHeartbeats 4000000 in
theorem b_X12_scan_178 {p : Program} {l : Launch} {e : Env} {s : State} {m : MethodId} {args : Array Value} {below : List Frame} {meth : Method} {c : Code} {D : va_G} {A : Nat → Prop} {ad : Nat → Nat} {cy : Nat → ClassId} {ee : EE} {n : Nat} {res : StT} (F : CallFix p m c cX12_scan 2 s args (Cond.code yX12_scan cX12_scan 2 none :: Gw) yX12_scan.cls) (hr : meth.sig.returnType = none) (hk : meth.locks = false) (K : va_K D vwCl (tyL cy) s) (E : EV ee A s s.heap) (hA : ∀ q, s.heap.size ≤ q → A q) {k140 : StT → Option StT} (hk140 : ∀ (st : StT), k140 st = some res → ∀ (H : Heap) (locs : List Loc) (ls : Array Slot), ZG D (wM ad cy st) A s H locs → lv_has ls 2 [(0, .ref (ad 0))] → W p l e { frames := 1, cells := 0, slots := 0, locals := 26 } s m args below meth c H locs 0 0 (MQ below (QC D (none) (wM ad cy res) A) args s 0 0 A) (F0 m 140 ls [])) : ∀ (st : StT), f_X12_scan_178 n k140 st = some res → ∀ (H : Heap) (locs : List Loc) (ls : Array Slot), ZG D (wM ad cy st) A s H locs → lv_has ls 2 [(0, .ref (ad 0))] → W p l e { frames := 1, cells := 0, slots := 0, locals := 26 } s m args below meth c H locs 0 0 (MQ below (QC D (none) (wM ad cy res) A) args s 0 0 A) (F0 m 178 ls []) := by
  have hx := F.1
  have hb := F.2.1
  intro st hf H locs ls Z hl
  unfold f_X12_scan_178 at hf
  refine lv_aload_n hx hb dX12_scan_178 rfl (lv_at hl 0 rfl) ?_
  refine lv_dup hx hb dX12_scan_179 rfl ?_
  refine gmX12_224 F K Z dX12_scan_180 ?_
  refine lv_iconst (v := 1) hx hb dX12_scan_183 (by decide) ?_
  refine lv_iadd hx hb dX12_scan_184 ?_
  refine pmX12_224 F K Z dX12_scan_185 (fun H locs Z => ?_)
  refine lv_goto (tgt := 140) hx hb dX12_scan_188 (by decide) ?_
  exact hk140 _ hf _ _ _ Z hl
set_option maxRecDepth 100000 in
set_option maxHeartbeats 4000000 in
theorem b_X12_scan_140 {p : Program} {l : Launch} {e : Env} {s : State} {m : MethodId} {args : Array Value} {below : List Frame} {meth : Method} {c : Code} {D : va_G} {A : Nat → Prop} {ad : Nat → Nat} {cy : Nat → ClassId} {ee : EE} {n : Nat} {res : StT} (F : CallFix p m c cX12_scan 2 s args (Cond.code yX12_scan cX12_scan 2 none :: Gw) yX12_scan.cls) (hr : meth.sig.returnType = none) (hk : meth.locks = false) (K : va_K D vwCl (tyL cy) s) (E : EV ee A s s.heap) (hA : ∀ q, s.heap.size ≤ q → A q) : ∀ (k : Nat) (st : StT), f_X12_scan_140 n k st = some res → ∀ (H : Heap) (locs : List Loc) (ls : Array Slot), ZG D (wM ad cy st) A s H locs → lv_has ls 2 [(0, .ref (ad 0))] → W p l e { frames := 1, cells := 0, slots := 0, locals := 26 } s m args below meth c H locs 0 0 (MQ below (QC D (none) (wM ad cy res) A) args s 0 0 A) (F0 m 140 ls []) := by
  have hx := F.1
  have hb := F.2.1
  intro k
  induction k with
  | zero =>
    intro st hf
    exact absurd hf (by simp [f_X12_scan_140])
  | succ k ih =>
    intro st hf H locs ls Z hl
    rw [f_X12_scan_140] at hf
    refine lv_aload_n hx hb dX12_scan_140 rfl (lv_at hl 0 rfl) ?_
    refine lv_aload_n hx hb dX12_scan_141 rfl (lv_at hl 0 rfl) ?_
    refine gmX12_230 F K Z dX12_scan_142 ?_
    refine lv_aload_n hx hb dX12_scan_145 rfl (lv_at hl 0 rfl) ?_
    refine gmX12_224 F K Z dX12_scan_146 ?_
    refine lv_iadd hx hb dX12_scan_149 ?_
    obtain ⟨q150, h150, hf⟩ := bind_some hf
    refine krX12_236_X12_signAt F K E hA Z h150 ⟨Nat.le_of_ble_eq_true rfl, Nat.le_of_ble_eq_true rfl⟩ hl.1 (Nat.le_of_ble_eq_true rfl) dX12_scan_150 (fun H locs Z => ?_)
    obtain ⟨q153, h153, hf⟩ := bind_some hf
    refine krX12_243_X12_isSmall F K E hA Z h153 ⟨Nat.le_of_ble_eq_true rfl, Nat.le_of_ble_eq_true rfl⟩ hl.1 (Nat.le_of_ble_eq_true rfl) dX12_scan_153 (fun H locs Z => ?_)
    refine lv_if_ne (tgt := 178) hx hb dX12_scan_156 (by decide) (fun c156 => ?_) (fun c156 => ?_)
    · have hf := if_f c156 hf
      exact b_X12_scan_178 F hr hk K E hA ih _ hf _ _ _ Z hl
    have hf := if_t c156 hf
    refine lv_aload_n hx hb dX12_scan_159 rfl (lv_at hl 0 rfl) ?_
    refine lv_aload_n hx hb dX12_scan_160 rfl (lv_at hl 0 rfl) ?_
    refine gmX12_230 F K Z dX12_scan_161 ?_
    refine lv_aload_n hx hb dX12_scan_164 rfl (lv_at hl 0 rfl) ?_
    refine gmX12_224 F K Z dX12_scan_165 ?_
    refine lv_iadd hx hb dX12_scan_168 ?_
    obtain ⟨q169, h169, hf⟩ := bind_some hf
    refine krX12_236_X12_signAt F K E hA Z h169 ⟨Nat.le_of_ble_eq_true rfl, Nat.le_of_ble_eq_true rfl⟩ hl.1 (Nat.le_of_ble_eq_true rfl) dX12_scan_169 (fun H locs Z => ?_)
    obtain ⟨q172, h172, hf⟩ := bind_some hf
    refine krX12_247_X12_isDigit F K E hA Z h172 ⟨Nat.le_of_ble_eq_true rfl, Nat.le_of_ble_eq_true rfl⟩ hl.1 (Nat.le_of_ble_eq_true rfl) dX12_scan_172 (fun H locs Z => ?_)
    refine lv_if_eq (tgt := 191) hx hb dX12_scan_175 (by decide) (fun c175 => ?_) (fun c175 => ?_)
    · have hf := if_t c175 hf
      refine lv_aload_n hx hb dX12_scan_191 rfl (lv_at hl 0 rfl) ?_
      refine lv_aload_n hx hb dX12_scan_192 rfl (lv_at hl 0 rfl) ?_
      refine gmX12_224 F K Z dX12_scan_193 ?_
      refine lv_bipush (v := 6) hx hb dX12_scan_196 (by decide) ?_
      refine lv_icmp_le (tgt := 207) hx hb dX12_scan_198 (by decide) (fun c198 => ?_) (fun c198 => ?_)
      · have hf := if_t c198 hf
        refine lv_aload_n hx hb dX12_scan_207 rfl (lv_at hl 0 rfl) ?_
        refine lv_bipush (v := 116) hx hb dX12_scan_208 (by decide) ?_
        refine lv_bipush (v := 114) hx hb dX12_scan_210 (by decide) ?_
        refine lv_bipush (v := 117) hx hb dX12_scan_212 (by decide) ?_
        refine lv_bipush (v := 101) hx hb dX12_scan_214 (by decide) ?_
        refine lv_iconst (v := 0) hx hb dX12_scan_216 (by decide) ?_
        obtain ⟨q217, h217, hf⟩ := bind_some hf
        refine krX12_250_X12_isWord F K E hA Z h217 ⟨Nat.le_of_ble_eq_true rfl, Nat.le_of_ble_eq_true rfl⟩ hl.1 (Nat.le_of_ble_eq_true rfl) dX12_scan_217 (fun H locs Z => ?_)
        refine lv_if_eq (tgt := 229) hx hb dX12_scan_220 (by decide) (fun c220 => ?_) (fun c220 => ?_)
        · have hf := if_t c220 hf
          refine lv_aload_n hx hb dX12_scan_229 rfl (lv_at hl 0 rfl) ?_
          refine lv_bipush (v := 102) hx hb dX12_scan_230 (by decide) ?_
          refine lv_bipush (v := 97) hx hb dX12_scan_232 (by decide) ?_
          refine lv_bipush (v := 108) hx hb dX12_scan_234 (by decide) ?_
          refine lv_bipush (v := 115) hx hb dX12_scan_236 (by decide) ?_
          refine lv_bipush (v := 101) hx hb dX12_scan_238 (by decide) ?_
          obtain ⟨q240, h240, hf⟩ := bind_some hf
          refine krX12_250_X12_isWord F K E hA Z h240 ⟨Nat.le_of_ble_eq_true rfl, Nat.le_of_ble_eq_true rfl⟩ hl.1 (Nat.le_of_ble_eq_true rfl) dX12_scan_240 (fun H locs Z => ?_)
          refine lv_if_eq (tgt := 252) hx hb dX12_scan_243 (by decide) (fun c243 => ?_) (fun c243 => ?_)
          · have hf := if_t c243 hf
            refine lv_sipush (v := 257) hx hb dX12_scan_252 (by decide) ?_
            refine pmX12_240 F K Z dX12_scan_255 (fun H locs Z => ?_)
            refine lv_goto (tgt := 367) hx hb dX12_scan_258 (by decide) ?_
            have hf := Option.some.inj hf
            subst hf
            exact ret_v F hr hk Z dX12_scan_367
          have hf := if_f c243 hf
          refine lv_sipush (v := 259) hx hb dX12_scan_246 (by decide) ?_
          refine lv_goto (tgt := 255) hx hb dX12_scan_249 (by decide) ?_
          refine pmX12_240 F K Z dX12_scan_255 (fun H locs Z => ?_)
          refine lv_goto (tgt := 367) hx hb dX12_scan_258 (by decide) ?_
          have hf := Option.some.inj hf
          subst hf
          exact ret_v F hr hk Z dX12_scan_367
        have hf := if_f c220 hf
        refine lv_sipush (v := 258) hx hb dX12_scan_223 (by decide) ?_
        refine lv_goto (tgt := 255) hx hb dX12_scan_226 (by decide) ?_
        refine pmX12_240 F K Z dX12_scan_255 (fun H locs Z => ?_)
        refine lv_goto (tgt := 367) hx hb dX12_scan_258 (by decide) ?_
        have hf := Option.some.inj hf
        subst hf
        exact ret_v F hr hk Z dX12_scan_367
      have hf := if_f c198 hf
      refine lv_sipush (v := 262) hx hb dX12_scan_201 (by decide) ?_
      refine lv_goto (tgt := 255) hx hb dX12_scan_204 (by decide) ?_
      refine pmX12_240 F K Z dX12_scan_255 (fun H locs Z => ?_)
      refine lv_goto (tgt := 367) hx hb dX12_scan_258 (by decide) ?_
      have hf := Option.some.inj hf
      subst hf
      exact ret_v F hr hk Z dX12_scan_367
    have hf := if_f c175 hf
    exact b_X12_scan_178 F hr hk K E hA ih _ hf _ _ _ Z hl
set_option maxRecDepth 100000 in
set_option maxHeartbeats 4000000 in
theorem b_X12_scan_80 {p : Program} {l : Launch} {e : Env} {s : State} {m : MethodId} {args : Array Value} {below : List Frame} {meth : Method} {c : Code} {D : va_G} {A : Nat → Prop} {ad : Nat → Nat} {cy : Nat → ClassId} {ee : EE} {n : Nat} {res : StT} (F : CallFix p m c cX12_scan 2 s args (Cond.code yX12_scan cX12_scan 2 none :: Gw) yX12_scan.cls) (hr : meth.sig.returnType = none) (hk : meth.locks = false) (K : va_K D vwCl (tyL cy) s) (E : EV ee A s s.heap) (hA : ∀ q, s.heap.size ≤ q → A q) : ∀ (st : StT), f_X12_scan_80 n st = some res → ∀ (H : Heap) (locs : List Loc) (ls : Array Slot), ZG D (wM ad cy st) A s H locs → lv_has ls 2 [(0, .ref (ad 0))] → W p l e { frames := 1, cells := 0, slots := 0, locals := 26 } s m args below meth c H locs 0 0 (MQ below (QC D (none) (wM ad cy res) A) args s 0 0 A) (F0 m 80 ls []) := by
  have hx := F.1
  have hb := F.2.1
  intro st hf H locs ls Z hl
  unfold f_X12_scan_80 at hf
  refine lv_aload_n hx hb dX12_scan_80 rfl (lv_at hl 0 rfl) ?_
  refine lv_aload_n hx hb dX12_scan_81 rfl (lv_at hl 0 rfl) ?_
  refine gmX12_230 F K Z dX12_scan_82 ?_
  refine pmX12_227 F K Z dX12_scan_85 (fun H locs Z => ?_)
  refine lv_aload_n hx hb dX12_scan_88 rfl (lv_at hl 0 rfl) ?_
  refine lv_iconst (v := 1) hx hb dX12_scan_89 (by decide) ?_
  refine pmX12_224 F K Z dX12_scan_90 (fun H locs Z => ?_)
  refine lv_aload_n hx hb dX12_scan_93 rfl (lv_at hl 0 rfl) ?_
  refine lv_iconst (v := 1) hx hb dX12_scan_94 (by decide) ?_
  refine pmX12_233 F K Z rfl dX12_scan_95 (fun H locs Z => ?_)
  refine lv_aload_n hx hb dX12_scan_98 rfl (lv_at hl 0 rfl) ?_
  refine lv_aload_n hx hb dX12_scan_99 rfl (lv_at hl 0 rfl) ?_
  refine gmX12_230 F K Z dX12_scan_100 ?_
  obtain ⟨q103, h103, hf⟩ := bind_some hf
  refine krX12_236_X12_signAt F K E hA Z h103 ⟨Nat.le_of_ble_eq_true rfl, Nat.le_of_ble_eq_true rfl⟩ hl.1 (Nat.le_of_ble_eq_true rfl) dX12_scan_103 (fun H locs Z => ?_)
  refine lv_istore_n (lv' := [(1, .int q103.1), (0, .ref (ad 0))]) hx hb dX12_scan_106 rfl hl (by decide) rfl (fun ls hl => ?_)
  refine lv_aload_n hx hb dX12_scan_107 rfl (lv_at hl 1 rfl) ?_
  refine gmX12_230 F K Z dX12_scan_108 ?_
  refine lv_aload_n hx hb dX12_scan_111 rfl (lv_at hl 1 rfl) ?_
  refine gmX12_217 F K Z dX12_scan_112 ?_
  refine lv_icmp_ne (tgt := 133) hx hb dX12_scan_115 (by decide) (fun c115 => ?_) (fun c115 => ?_)
  · have hf := if_f c115 hf
    refine lv_iload_n hx hb dX12_scan_133 rfl (lv_at hl 0 rfl) ?_
    obtain ⟨q134, h134, hf⟩ := bind_some hf
    refine krX12_243_X12_isSmall F K E hA Z h134 ⟨Nat.le_of_ble_eq_true rfl, Nat.le_of_ble_eq_true rfl⟩ hl.1 (Nat.le_of_ble_eq_true rfl) dX12_scan_134 (fun H locs Z => ?_)
    refine lv_if_eq (tgt := 261) hx hb dX12_scan_137 (by decide) (fun c137 => ?_) (fun c137 => ?_)
    · have hf := if_t c137 hf
      refine lv_iload_n hx hb dX12_scan_261 rfl (lv_at hl 0 rfl) ?_
      refine lv_bipush (v := 45) hx hb dX12_scan_262 (by decide) ?_
      refine lv_icmp_ne (tgt := 297) hx hb dX12_scan_264 (by decide) (fun c264 => ?_) (fun c264 => ?_)
      · have hf := if_f c264 hf
        exact b_X12_scan_297 F hr hk K E hA _ _ hf _ _ _ Z (lv_sub hl [1, 0] rfl)
      have hf := if_t c264 hf
      refine lv_aload_n hx hb dX12_scan_267 rfl (lv_at hl 1 rfl) ?_
      refine lv_aload_n hx hb dX12_scan_268 rfl (lv_at hl 1 rfl) ?_
      refine gmX12_230 F K Z dX12_scan_269 ?_
      refine lv_iconst (v := 1) hx hb dX12_scan_272 (by decide) ?_
      refine lv_iadd hx hb dX12_scan_273 ?_
      obtain ⟨q274, h274, hf⟩ := bind_some hf
      refine krX12_236_X12_signAt F K E hA Z h274 ⟨Nat.le_of_ble_eq_true rfl, Nat.le_of_ble_eq_true rfl⟩ hl.1 (Nat.le_of_ble_eq_true rfl) dX12_scan_274 (fun H locs Z => ?_)
      refine lv_bipush (v := 62) hx hb dX12_scan_277 (by decide) ?_
      refine lv_icmp_ne (tgt := 297) hx hb dX12_scan_279 (by decide) (fun c279 => ?_) (fun c279 => ?_)
      · have hf := if_f c279 hf
        exact b_X12_scan_297 F hr hk K E hA _ _ hf _ _ _ Z (lv_sub hl [1, 0] rfl)
      have hf := if_t c279 hf
      refine lv_aload_n hx hb dX12_scan_282 rfl (lv_at hl 1 rfl) ?_
      refine lv_sipush (v := 260) hx hb dX12_scan_283 (by decide) ?_
      refine pmX12_240 F K Z dX12_scan_286 (fun H locs Z => ?_)
      refine lv_aload_n hx hb dX12_scan_289 rfl (lv_at hl 1 rfl) ?_
      refine lv_iconst (v := 2) hx hb dX12_scan_290 (by decide) ?_
      refine pmX12_224 F K Z dX12_scan_291 (fun H locs Z => ?_)
      refine lv_goto (tgt := 367) hx hb dX12_scan_294 (by decide) ?_
      have hf := Option.some.inj hf
      subst hf
      exact ret_v F hr hk Z dX12_scan_367
    have hf := if_f c137 hf
    exact b_X12_scan_140 F hr hk K E hA _ _ hf _ _ _ Z (lv_sub hl [1] rfl)
  have hf := if_t c115 hf
  refine lv_aload_n hx hb dX12_scan_118 rfl (lv_at hl 1 rfl) ?_
  refine lv_sipush (v := 256) hx hb dX12_scan_119 (by decide) ?_
  refine pmX12_240 F K Z dX12_scan_122 (fun H locs Z => ?_)
  refine lv_aload_n hx hb dX12_scan_125 rfl (lv_at hl 1 rfl) ?_
  refine lv_iconst (v := 0) hx hb dX12_scan_126 (by decide) ?_
  refine pmX12_224 F K Z dX12_scan_127 (fun H locs Z => ?_)
  refine lv_goto (tgt := 367) hx hb dX12_scan_130 (by decide) ?_
  have hf := Option.some.inj hf
  subst hf
  exact ret_v F hr hk Z dX12_scan_367
set_option maxRecDepth 100000 in
set_option maxHeartbeats 4000000 in
theorem b_X12_scan_67 {p : Program} {l : Launch} {e : Env} {s : State} {m : MethodId} {args : Array Value} {below : List Frame} {meth : Method} {c : Code} {D : va_G} {A : Nat → Prop} {ad : Nat → Nat} {cy : Nat → ClassId} {ee : EE} {n : Nat} {res : StT} (F : CallFix p m c cX12_scan 2 s args (Cond.code yX12_scan cX12_scan 2 none :: Gw) yX12_scan.cls) (hr : meth.sig.returnType = none) (hk : meth.locks = false) (K : va_K D vwCl (tyL cy) s) (E : EV ee A s s.heap) (hA : ∀ q, s.heap.size ≤ q → A q) {k0 : StT → Option StT} (hk0 : ∀ (st : StT), k0 st = some res → ∀ (H : Heap) (locs : List Loc) (ls : Array Slot), ZG D (wM ad cy st) A s H locs → lv_has ls 2 [(0, .ref (ad 0))] → W p l e { frames := 1, cells := 0, slots := 0, locals := 26 } s m args below meth c H locs 0 0 (MQ below (QC D (none) (wM ad cy res) A) args s 0 0 A) (F0 m 0 ls [])) : ∀ (st : StT), f_X12_scan_67 n k0 st = some res → ∀ (H : Heap) (locs : List Loc) (ls : Array Slot), ZG D (wM ad cy st) A s H locs → lv_has ls 2 [(0, .ref (ad 0))] → W p l e { frames := 1, cells := 0, slots := 0, locals := 26 } s m args below meth c H locs 0 0 (MQ below (QC D (none) (wM ad cy res) A) args s 0 0 A) (F0 m 67 ls []) := by
  have hx := F.1
  have hb := F.2.1
  intro st hf H locs ls Z hl
  unfold f_X12_scan_67 at hf
  refine lv_aload_n hx hb dX12_scan_67 rfl (lv_at hl 0 rfl) ?_
  refine lv_dup hx hb dX12_scan_68 rfl ?_
  refine gmX12_230 F K Z dX12_scan_69 ?_
  refine lv_iconst (v := 1) hx hb dX12_scan_72 (by decide) ?_
  refine lv_iadd hx hb dX12_scan_73 ?_
  refine pmX12_230 F K Z dX12_scan_74 (fun H locs Z => ?_)
  refine lv_goto (tgt := 0) hx hb dX12_scan_77 (by decide) ?_
  exact hk0 _ hf _ _ _ Z hl
set_option maxRecDepth 100000 in
set_option maxHeartbeats 4000000 in
theorem b_X12_scan_0 {p : Program} {l : Launch} {e : Env} {s : State} {m : MethodId} {args : Array Value} {below : List Frame} {meth : Method} {c : Code} {D : va_G} {A : Nat → Prop} {ad : Nat → Nat} {cy : Nat → ClassId} {ee : EE} {n : Nat} {res : StT} (F : CallFix p m c cX12_scan 2 s args (Cond.code yX12_scan cX12_scan 2 none :: Gw) yX12_scan.cls) (hr : meth.sig.returnType = none) (hk : meth.locks = false) (K : va_K D vwCl (tyL cy) s) (E : EV ee A s s.heap) (hA : ∀ q, s.heap.size ≤ q → A q) : ∀ (k : Nat) (st : StT), f_X12_scan_0 n k st = some res → ∀ (H : Heap) (locs : List Loc) (ls : Array Slot), ZG D (wM ad cy st) A s H locs → lv_has ls 2 [(0, .ref (ad 0))] → W p l e { frames := 1, cells := 0, slots := 0, locals := 26 } s m args below meth c H locs 0 0 (MQ below (QC D (none) (wM ad cy res) A) args s 0 0 A) (F0 m 0 ls []) := by
  have hx := F.1
  have hb := F.2.1
  intro k
  induction k with
  | zero =>
    intro st hf
    exact absurd hf (by simp [f_X12_scan_0])
  | succ k ih =>
    intro st hf H locs ls Z hl
    rw [f_X12_scan_0] at hf
    refine lv_aload_n hx hb dX12_scan_0 rfl (lv_at hl 0 rfl) ?_
    refine gmX12_230 F K Z dX12_scan_1 ?_
    refine lv_aload_n hx hb dX12_scan_4 rfl (lv_at hl 0 rfl) ?_
    refine gmX12_217 F K Z dX12_scan_5 ?_
    refine lv_icmp_ge (tgt := 80) hx hb dX12_scan_8 (by decide) (fun c8 => ?_) (fun c8 => ?_)
    · have hf := if_t c8 hf
      exact b_X12_scan_80 F hr hk K E hA _ hf _ _ _ Z hl
    have hf := if_f c8 hf
    refine lv_aload_n hx hb dX12_scan_11 rfl (lv_at hl 0 rfl) ?_
    refine gmX12_28 F K Z dX12_scan_12 ?_
    refine lv_aload_n hx hb dX12_scan_15 rfl (lv_at hl 0 rfl) ?_
    refine gmX12_230 F K Z dX12_scan_16 ?_
    obtain ⟨i19, hf⟩ := if_some hf
    refine ml7 F K Z i19 dX12_scan_19 ?_
    refine lv_bipush (v := 9) hx hb dX12_scan_20 (by decide) ?_
    refine lv_icmp_eq (tgt := 67) hx hb dX12_scan_22 (by decide) (fun c22 => ?_) (fun c22 => ?_)
    · have hf := if_t c22 hf
      exact b_X12_scan_67 F hr hk K E hA ih _ hf _ _ _ Z hl
    have hf := if_f c22 hf
    refine lv_aload_n hx hb dX12_scan_25 rfl (lv_at hl 0 rfl) ?_
    refine gmX12_28 F K Z dX12_scan_26 ?_
    refine lv_aload_n hx hb dX12_scan_29 rfl (lv_at hl 0 rfl) ?_
    refine gmX12_230 F K Z dX12_scan_30 ?_
    obtain ⟨i33, hf⟩ := if_some hf
    refine ml7 F K Z i33 dX12_scan_33 ?_
    refine lv_bipush (v := 10) hx hb dX12_scan_34 (by decide) ?_
    refine lv_icmp_eq (tgt := 67) hx hb dX12_scan_36 (by decide) (fun c36 => ?_) (fun c36 => ?_)
    · have hf := if_t c36 hf
      exact b_X12_scan_67 F hr hk K E hA ih _ hf _ _ _ Z hl
    have hf := if_f c36 hf
    refine lv_aload_n hx hb dX12_scan_39 rfl (lv_at hl 0 rfl) ?_
    refine gmX12_28 F K Z dX12_scan_40 ?_
    refine lv_aload_n hx hb dX12_scan_43 rfl (lv_at hl 0 rfl) ?_
    refine gmX12_230 F K Z dX12_scan_44 ?_
    obtain ⟨i47, hf⟩ := if_some hf
    refine ml7 F K Z i47 dX12_scan_47 ?_
    refine lv_bipush (v := 13) hx hb dX12_scan_48 (by decide) ?_
    refine lv_icmp_eq (tgt := 67) hx hb dX12_scan_50 (by decide) (fun c50 => ?_) (fun c50 => ?_)
    · have hf := if_t c50 hf
      exact b_X12_scan_67 F hr hk K E hA ih _ hf _ _ _ Z hl
    have hf := if_f c50 hf
    refine lv_aload_n hx hb dX12_scan_53 rfl (lv_at hl 0 rfl) ?_
    refine gmX12_28 F K Z dX12_scan_54 ?_
    refine lv_aload_n hx hb dX12_scan_57 rfl (lv_at hl 0 rfl) ?_
    refine gmX12_230 F K Z dX12_scan_58 ?_
    obtain ⟨i61, hf⟩ := if_some hf
    refine ml7 F K Z i61 dX12_scan_61 ?_
    refine lv_bipush (v := 32) hx hb dX12_scan_62 (by decide) ?_
    refine lv_icmp_ne (tgt := 80) hx hb dX12_scan_64 (by decide) (fun c64 => ?_) (fun c64 => ?_)
    · have hf := if_f c64 hf
      exact b_X12_scan_80 F hr hk K E hA _ hf _ _ _ Z hl
    have hf := if_t c64 hf
    exact b_X12_scan_67 F hr hk K E hA ih _ hf _ _ _ Z hl
set_option maxRecDepth 100000 in
set_option maxHeartbeats 4000000 in
theorem c_X12_scan {l : Launch} {D : va_G} {ad : Nat → Nat} {cy : Nat → ClassId} {ee : EE} {n : Nat} {st : StT} {res : StT} (hf : f_X12_scan n st = some res) : CT l yX12_scan cX12_scan 2 none 1 26 D cy ee (wM ad cy st) (wM ad cy res) [.ref (ad 0)] (none) := by
  refine CT.of (by decide +kernel) (Nat.le_of_ble_eq_true rfl) ?_
  intro p e s m args below meth c A F hr hk K E hA Z ls hl
  have hl : lv_has ls 2 [(0, .ref (ad 0))] := hl
  have hx := F.1
  have hb := F.2.1
  unfold f_X12_scan at hf
  exact b_X12_scan_0 F hr hk K E hA _ _ hf _ _ _ Z hl
def f_X12_fail (n : Nat) (st : StT) (x1 : Int32) (x2 : Int32) : Option (Int32 × StT) := if (st.1 10) = 0 then (some ((0 : Int32), (uF (uF st 10 x1) 11 x2))) else (some ((0 : Int32), st))
theorem wd1039 : Cond.fieldLink RX12 257 "WorldProverModel" "fault" "I" ∈ Gw := gT6 (List.mem_of_getElem? (i := 75) rfl) rfl
theorem wd1040 : Cond.fieldLink RX12 260 "WorldProverModel" "faultAt" "I" ∈ Gw := gT6 (List.mem_of_getElem? (i := 76) rfl) rfl
section
variable {p : Program} {l : Launch} {e : Env} {R : Room} {s : State} {m : MethodId} {args : Array Value} {below : List Frame} {meth : Method} {c : Code} {H : Heap} {locs : List Loc} {Q : State → Prop}
variable {cc : ByteArray} {nL pc : Nat} {ls : Array Slot} {rest : List Value} {D : va_G} {A : Nat → Prop} {cw : Cond} {ad : Nat → Nat} {cy : Nat → ClassId} {ee : EE} {st : StT} {own : String}
theorem gmX12_257 (F : CallFix p m c cc nL s args (cw :: Gw) RX12) (K : va_K D vwCl (tyL cy) s) (Z : ZG D (wM ad cy st) A s H locs) (hd : decode cc pc = .ok (.getfield 257, 3)) (kk : W p l e R s m args below meth c H locs 0 0 Q (F0 m (pc + 3) ls (.int (st.1 10) :: rest))) : W p l e R s m args below meth c H locs 0 0 Q (F0 m pc ls (.ref (ad 0) :: rest)) :=
  va_get (D := D) (ci := 12) (C := RX12) (T := TX12) (N := 98) F.1 F.2.1 F.2.2.2.2 (fun w h => List.mem_cons_of_mem _ (inG_X12 w h)) F.2.2.2.1 K Z.1 0 rfl rfl 17 (by decide) (F.2.2.2.2 _ (List.mem_cons_of_mem _ wd1039)) (fun _ h => h) rfl hd kk
theorem pmX12_257 {v : Int32} (F : CallFix p m c cc nL s args (cw :: Gw) RX12) (K : va_K D vwCl (tyL cy) s) (Z : ZG D (wM ad cy st) A s H locs) (hd : decode cc pc = .ok (.putfield 257, 3)) (kk : ∀ (H1 : Heap) (locs1 : List Loc), ZG D (wM ad cy (uF st 10 v)) A s H1 locs1 → W p l e R s m args below meth c H1 locs1 0 0 Q (F0 m (pc + 3) ls rest)) : W p l e R s m args below meth c H locs 0 0 Q (F0 m pc ls (.int v :: .ref (ad 0) :: rest)) :=
  va_put (D := D) (ci := 12) (v := .int v) (ty := .int) (C := RX12) (T := TX12) (N := 98) F.1 F.2.1 F.2.2.2.2 (fun w h => List.mem_cons_of_mem _ (inG_X12 w h)) tyX12 tyX12_ok nmX12 F.2.2.2.1 K Z.1 Z.2.1 Z.2.2 0 rfl rfl 17 (by decide) (F.2.2.2.2 _ (List.mem_cons_of_mem _ wd1039)) (fun _ h => h) rfl (by decide +kernel) rfl rfl (Nat.le_of_ble_eq_true rfl) hd (fun H1 locs1 hP hD hS => kk H1 locs1 ⟨hP, hD, hS⟩)
theorem pmX12_260 {v : Int32} (F : CallFix p m c cc nL s args (cw :: Gw) RX12) (K : va_K D vwCl (tyL cy) s) (Z : ZG D (wM ad cy st) A s H locs) (hd : decode cc pc = .ok (.putfield 260, 3)) (kk : ∀ (H1 : Heap) (locs1 : List Loc), ZG D (wM ad cy (uF st 11 v)) A s H1 locs1 → W p l e R s m args below meth c H1 locs1 0 0 Q (F0 m (pc + 3) ls rest)) : W p l e R s m args below meth c H locs 0 0 Q (F0 m pc ls (.int v :: .ref (ad 0) :: rest)) :=
  va_put (D := D) (ci := 12) (v := .int v) (ty := .int) (C := RX12) (T := TX12) (N := 98) F.1 F.2.1 F.2.2.2.2 (fun w h => List.mem_cons_of_mem _ (inG_X12 w h)) tyX12 tyX12_ok nmX12 F.2.2.2.1 K Z.1 Z.2.1 Z.2.2 0 rfl rfl 18 (by decide) (F.2.2.2.2 _ (List.mem_cons_of_mem _ wd1040)) (fun _ h => h) rfl (by decide +kernel) rfl rfl (Nat.le_of_ble_eq_true rfl) hd (fun H1 locs1 hP hD hS => kk H1 locs1 ⟨hP, hD, hS⟩)
end
set_option maxRecDepth 100000 in
set_option maxHeartbeats 4000000 in
theorem c_X12_fail {l : Launch} {D : va_G} {ad : Nat → Nat} {cy : Nat → ClassId} {ee : EE} {n : Nat} {st : StT} {x1 : Int32} {x2 : Int32} {res : (Int32 × StT)} (hf : f_X12_fail n st x1 x2 = some res) : CT l yX12_fail cX12_fail 3 (some .boolean) 0 0 D cy ee (wM ad cy st) (wM ad cy res.2) [.ref (ad 0), .int x1, .int x2] (some (.int res.1)) := by
  refine CT.of (by decide +kernel) (Nat.le_of_ble_eq_true rfl) ?_
  intro p e s m args below meth c A F hr hk K E hA Z ls hl
  have hl : lv_has ls 3 [(0, .ref (ad 0)), (1, .int x1), (2, .int x2)] := hl
  have hx := F.1
  have hb := F.2.1
  unfold f_X12_fail at hf
  refine lv_aload_n hx hb dX12_fail_0 rfl (lv_at hl 0 rfl) ?_
  refine gmX12_257 F K Z dX12_fail_1 ?_
  refine lv_if_ne (tgt := 17) hx hb dX12_fail_4 (by decide) (fun c4 => ?_) (fun c4 => ?_)
  · have hf := if_f c4 hf
    refine lv_iconst (v := 0) hx hb dX12_fail_17 (by decide) ?_
    have hf := Option.some.inj hf
    subst hf
    exact ret_z F hr hk Z rfl dX12_fail_18
  have hf := if_t c4 hf
  refine lv_aload_n hx hb dX12_fail_7 rfl (lv_at hl 0 rfl) ?_
  refine lv_iload_n hx hb dX12_fail_8 rfl (lv_at hl 1 rfl) ?_
  refine pmX12_257 F K Z dX12_fail_9 (fun H locs Z => ?_)
  refine lv_aload_n hx hb dX12_fail_12 rfl (lv_at hl 0 rfl) ?_
  refine lv_iload_n hx hb dX12_fail_13 rfl (lv_at hl 2 rfl) ?_
  refine pmX12_260 F K Z dX12_fail_14 (fun H locs Z => ?_)
  refine lv_iconst (v := 0) hx hb dX12_fail_17 (by decide) ?_
  have hf := Option.some.inj hf
  subst hf
  exact ret_z F hr hk Z rfl dX12_fail_18
def f_X12_look_31 (n : Nat) (st : StT) : Option (Int32 × StT) := if (st.1 10) = 0 then (some ((st.1 5), st)) else (some ((262 : Int32), st))
def f_X12_look (n : Nat) (st : StT) : Option (Int32 × StT) := if (st.1 8) = 0 then ((f_X12_scan n st).bind fun q8 => (if (q8.1 5) = (262 : Int32) then ((f_X12_fail n q8 (1 : Int32) (q8.1 6)).bind fun q27 => (f_X12_look_31 n q27.2)) else (f_X12_look_31 n q8))) else (f_X12_look_31 n st)
theorem wd1041 : Cond.methodLink RX12 266 yX12_fail ∈ Gw := gT8 (List.mem_of_getElem? (i := 13) rfl) rfl
theorem wd1042 : Cond.code yX12_fail prog_14_method_11_code 3 (some .boolean) ∈ Gw := gT8 (List.mem_of_getElem? (i := 16) rfl) rfl
theorem wd1043 : Cond.instanceMethod yX12_fail ∈ Gw := gT8 (List.mem_of_getElem? (i := 15) rfl) rfl
theorem wd1044 : Cond.selects RX12 yX12_fail yX12_fail ∈ Gw := gP6 (q := (yX12_fail, 98)) (List.mem_of_getElem? (i := 11) rfl)
theorem wd1045 : Cond.methodLink RX12 263 yX12_scan ∈ Gw := gT7 (List.mem_of_getElem? (i := 231) rfl) rfl
theorem wd1046 : Cond.code yX12_scan prog_14_method_10_code 2 none ∈ Gw := gT7 (List.mem_of_getElem? (i := 234) rfl) rfl
theorem wd1047 : Cond.instanceMethod yX12_scan ∈ Gw := gT7 (List.mem_of_getElem? (i := 233) rfl) rfl
theorem wd1048 : Cond.selects RX12 yX12_scan yX12_scan ∈ Gw := gP6 (q := (yX12_scan, 98)) (List.mem_of_getElem? (i := 7) rfl)
section
variable {p : Program} {l : Launch} {e : Env} {R : Room} {s : State} {m : MethodId} {args : Array Value} {below : List Frame} {meth : Method} {c : Code} {H : Heap} {locs : List Loc} {Q : State → Prop}
variable {cc : ByteArray} {nL pc : Nat} {ls : Array Slot} {rest : List Value} {D : va_G} {A : Nat → Prop} {cw : Cond} {ad : Nat → Nat} {cy : Nat → ClassId} {ee : EE} {st : StT} {own : String}
theorem gmX12_233 (F : CallFix p m c cc nL s args (cw :: Gw) RX12) (K : va_K D vwCl (tyL cy) s) (Z : ZG D (wM ad cy st) A s H locs) (hd : decode cc pc = .ok (.getfield 233, 3)) (kk : W p l e R s m args below meth c H locs 0 0 Q (F0 m (pc + 3) ls (.int (st.1 8) :: rest))) : W p l e R s m args below meth c H locs 0 0 Q (F0 m pc ls (.ref (ad 0) :: rest)) :=
  va_get (D := D) (ci := 12) (C := RX12) (T := TX12) (N := 98) F.1 F.2.1 F.2.2.2.2 (fun w h => List.mem_cons_of_mem _ (inG_X12 w h)) F.2.2.2.1 K Z.1 0 rfl rfl 15 (by decide) (F.2.2.2.2 _ (List.mem_cons_of_mem _ wd1019)) (fun _ h => h) rfl hd kk
theorem gmX12_240 (F : CallFix p m c cc nL s args (cw :: Gw) RX12) (K : va_K D vwCl (tyL cy) s) (Z : ZG D (wM ad cy st) A s H locs) (hd : decode cc pc = .ok (.getfield 240, 3)) (kk : W p l e R s m args below meth c H locs 0 0 Q (F0 m (pc + 3) ls (.int (st.1 5) :: rest))) : W p l e R s m args below meth c H locs 0 0 Q (F0 m pc ls (.ref (ad 0) :: rest)) :=
  va_get (D := D) (ci := 12) (C := RX12) (T := TX12) (N := 98) F.1 F.2.1 F.2.2.2.2 (fun w h => List.mem_cons_of_mem _ (inG_X12 w h)) F.2.2.2.1 K Z.1 0 rfl rfl 12 (by decide) (F.2.2.2.2 _ (List.mem_cons_of_mem _ wd1020)) (fun _ h => h) rfl hd kk
theorem krX12_266_X12_fail {n : Nat} {a0 : Int32} {a1 : Int32} {q : (Int32 × StT)} (F : CallFix p m c cc nL s args (cw :: Gw) RX12) (K : va_K D vwCl (tyL cy) s) (E : EV ee A s s.heap) (hA : ∀ q, s.heap.size ≤ q → A q) (Z : ZG D (wM ad cy st) A s H locs) (hf : f_X12_fail n st a0 a1 = some q) (hR : 1 ≤ R.frames ∧ 22 ≤ R.locals) (hl : ls.size = nL) (hst : (rest.map fun v => v.category).sum ≤ 8) (hd : decode cc pc = .ok (.invokevirtual 266, 3)) (kk : ∀ (H1 : Heap) (locs1 : List Loc), ZG D (wM ad cy q.2) A s H1 locs1 → W p l e R s m args below meth c H1 locs1 0 0 Q (F0 m (pc + 3) ls (.int q.1 :: rest))) : W p l e R s m args below meth c H locs 0 0 Q (F0 m pc ls (.int a1 :: .int a0 :: .ref (ad 0) :: rest)) :=
  call_V (q := (RX12, TX12, 98)) (n := 2) (As := [.int a0, .int a1]) (rv := some (.int q.1)) 0 12 F K E hA Z (c_X12_fail (l := l) (D := D) (ad := ad) (cy := cy) (ee := ee) hf) ⟨wd1042, wd1041, wd1043, wd1044, wd1008⟩ (by decide +kernel) rfl rfl hR rfl hl hst hd kk
theorem krX12_263_X12_scan {n : Nat}  {q : StT} (F : CallFix p m c cc nL s args (cw :: Gw) RX12) (K : va_K D vwCl (tyL cy) s) (E : EV ee A s s.heap) (hA : ∀ q, s.heap.size ≤ q → A q) (Z : ZG D (wM ad cy st) A s H locs) (hf : f_X12_scan n st = some q) (hR : 2 ≤ R.frames ∧ 47 ≤ R.locals) (hl : ls.size = nL) (hst : (rest.map fun v => v.category).sum ≤ 8) (hd : decode cc pc = .ok (.invokevirtual 263, 3)) (kk : ∀ (H1 : Heap) (locs1 : List Loc), ZG D (wM ad cy q) A s H1 locs1 → W p l e R s m args below meth c H1 locs1 0 0 Q (F0 m (pc + 3) ls (rest))) : W p l e R s m args below meth c H locs 0 0 Q (F0 m pc ls (.ref (ad 0) :: rest)) :=
  call_V (q := (RX12, TX12, 98)) (n := 0) (As := []) (rv := none) 0 12 F K E hA Z (c_X12_scan (l := l) (D := D) (ad := ad) (cy := cy) (ee := ee) hf) ⟨wd1046, wd1045, wd1047, wd1048, wd1008⟩ (by decide +kernel) rfl rfl hR rfl hl hst hd kk
end
set_option maxRecDepth 100000 in
set_option maxHeartbeats 4000000 in
theorem b_X12_look_31 {p : Program} {l : Launch} {e : Env} {s : State} {m : MethodId} {args : Array Value} {below : List Frame} {meth : Method} {c : Code} {D : va_G} {A : Nat → Prop} {ad : Nat → Nat} {cy : Nat → ClassId} {ee : EE} {n : Nat} {res : (Int32 × StT)} (F : CallFix p m c cX12_look 2 s args (Cond.code yX12_look cX12_look 2 (some .int) :: Gw) yX12_look.cls) (hr : meth.sig.returnType = (some .int)) (hk : meth.locks = false) (K : va_K D vwCl (tyL cy) s) (E : EV ee A s s.heap) (hA : ∀ q, s.heap.size ≤ q → A q) : ∀ (st : StT), f_X12_look_31 n st = some res → ∀ (H : Heap) (locs : List Loc) (ls : Array Slot), ZG D (wM ad cy st) A s H locs → lv_has ls 2 [(0, .ref (ad 0))] → W p l e { frames := 2, cells := 0, slots := 0, locals := 47 } s m args below meth c H locs 0 0 (MQ below (QC D (some (.int res.1)) (wM ad cy res.2) A) args s 0 0 A) (F0 m 31 ls []) := by
  have hx := F.1
  have hb := F.2.1
  intro st hf H locs ls Z hl
  unfold f_X12_look_31 at hf
  refine lv_aload_n hx hb dX12_look_31 rfl (lv_at hl 0 rfl) ?_
  refine gmX12_257 F K Z dX12_look_32 ?_
  refine lv_if_ne (tgt := 45) hx hb dX12_look_35 (by decide) (fun c35 => ?_) (fun c35 => ?_)
  · have hf := if_f c35 hf
    refine lv_sipush (v := 262) hx hb dX12_look_45 (by decide) ?_
    have hf := Option.some.inj hf
    subst hf
    exact ret_i F hr hk Z dX12_look_48
  have hf := if_t c35 hf
  refine lv_aload_n hx hb dX12_look_38 rfl (lv_at hl 0 rfl) ?_
  refine gmX12_240 F K Z dX12_look_39 ?_
  refine lv_goto (tgt := 48) hx hb dX12_look_42 (by decide) ?_
  have hf := Option.some.inj hf
  subst hf
  exact ret_i F hr hk Z dX12_look_48
set_option maxRecDepth 100000 in
set_option maxHeartbeats 4000000 in
theorem c_X12_look {l : Launch} {D : va_G} {ad : Nat → Nat} {cy : Nat → ClassId} {ee : EE} {n : Nat} {st : StT} {res : (Int32 × StT)} (hf : f_X12_look n st = some res) : CT l yX12_look cX12_look 2 (some .int) 2 47 D cy ee (wM ad cy st) (wM ad cy res.2) [.ref (ad 0)] (some (.int res.1)) := by
  refine CT.of (by decide +kernel) (Nat.le_of_ble_eq_true rfl) ?_
  intro p e s m args below meth c A F hr hk K E hA Z ls hl
  have hl : lv_has ls 2 [(0, .ref (ad 0))] := hl
  have hx := F.1
  have hb := F.2.1
  unfold f_X12_look at hf
  refine lv_aload_n hx hb dX12_look_0 rfl (lv_at hl 0 rfl) ?_
  refine gmX12_233 F K Z dX12_look_1 ?_
  refine lv_if_ne (tgt := 31) hx hb dX12_look_4 (by decide) (fun c4 => ?_) (fun c4 => ?_)
  · have hf := if_f c4 hf
    exact b_X12_look_31 F hr hk K E hA _ hf _ _ _ Z hl
  have hf := if_t c4 hf
  refine lv_aload_n hx hb dX12_look_7 rfl (lv_at hl 0 rfl) ?_
  obtain ⟨q8, h8, hf⟩ := bind_some hf
  refine krX12_263_X12_scan F K E hA Z h8 ⟨Nat.le_of_ble_eq_true rfl, Nat.le_of_ble_eq_true rfl⟩ hl.1 (Nat.le_of_ble_eq_true rfl) dX12_look_8 (fun H locs Z => ?_)
  refine lv_aload_n hx hb dX12_look_11 rfl (lv_at hl 0 rfl) ?_
  refine gmX12_240 F K Z dX12_look_12 ?_
  refine lv_sipush (v := 262) hx hb dX12_look_15 (by decide) ?_
  refine lv_icmp_ne (tgt := 31) hx hb dX12_look_18 (by decide) (fun c18 => ?_) (fun c18 => ?_)
  · have hf := if_f c18 hf
    exact b_X12_look_31 F hr hk K E hA _ hf _ _ _ Z hl
  have hf := if_t c18 hf
  refine lv_aload_n hx hb dX12_look_21 rfl (lv_at hl 0 rfl) ?_
  refine lv_iconst (v := 1) hx hb dX12_look_22 (by decide) ?_
  refine lv_aload_n hx hb dX12_look_23 rfl (lv_at hl 0 rfl) ?_
  refine gmX12_227 F K Z dX12_look_24 ?_
  obtain ⟨q27, h27, hf⟩ := bind_some hf
  refine krX12_266_X12_fail F K E hA Z h27 ⟨Nat.le_of_ble_eq_true rfl, Nat.le_of_ble_eq_true rfl⟩ hl.1 (Nat.le_of_ble_eq_true rfl) dX12_look_27 (fun H locs Z => ?_)
  refine lv_istore_n (lv' := [(1, .int q27.1), (0, .ref (ad 0))]) hx hb dX12_look_30 rfl hl (by decide) rfl (fun ls hl => ?_)
  exact b_X12_look_31 F hr hk K E hA _ hf _ _ _ Z (lv_sub hl [1] rfl)
def f_X12_pass (n : Nat) (st : StT) : Option StT := some (uF (uF st 4 ((st.1 6) + (st.1 7))) 8 (0 : Int32))
set_option maxRecDepth 100000 in
set_option maxHeartbeats 4000000 in
theorem c_X12_pass {l : Launch} {D : va_G} {ad : Nat → Nat} {cy : Nat → ClassId} {ee : EE} {n : Nat} {st : StT} {res : StT} (hf : f_X12_pass n st = some res) : CT l yX12_pass cX12_pass 1 none 0 0 D cy ee (wM ad cy st) (wM ad cy res) [.ref (ad 0)] (none) := by
  refine CT.of (by decide +kernel) (Nat.le_of_ble_eq_true rfl) ?_
  intro p e s m args below meth c A F hr hk K E hA Z ls hl
  have hl : lv_has ls 1 [(0, .ref (ad 0))] := hl
  have hx := F.1
  have hb := F.2.1
  unfold f_X12_pass at hf
  refine lv_aload_n hx hb dX12_pass_0 rfl (lv_at hl 0 rfl) ?_
  refine lv_aload_n hx hb dX12_pass_1 rfl (lv_at hl 0 rfl) ?_
  refine gmX12_227 F K Z dX12_pass_2 ?_
  refine lv_aload_n hx hb dX12_pass_5 rfl (lv_at hl 0 rfl) ?_
  refine gmX12_224 F K Z dX12_pass_6 ?_
  refine lv_iadd hx hb dX12_pass_9 ?_
  refine pmX12_230 F K Z dX12_pass_10 (fun H locs Z => ?_)
  refine lv_aload_n hx hb dX12_pass_13 rfl (lv_at hl 0 rfl) ?_
  refine lv_iconst (v := 0) hx hb dX12_pass_14 (by decide) ?_
  refine pmX12_233 F K Z rfl dX12_pass_15 (fun H locs Z => ?_)
  have hf := Option.some.inj hf
  subst hf
  exact ret_v F hr hk Z dX12_pass_18
def f_X12_want (n : Nat) (st : StT) (x1 : Int32) : Option (Int32 × StT) := (f_X12_look n st).bind fun q1 => (if q1.1 = x1 then ((f_X12_pass n q1.2).bind fun q19 => (some ((1 : Int32), q19))) else ((f_X12_fail n q1.2 (2 : Int32) (q1.2.1 6)).bind fun q14 => (if isZ q14.1 = true then some (q14.1, q14.2) else none)))
theorem wd1049 : Cond.methodLink RX12 274 yX12_pass ∈ Gw := gT8 (List.mem_of_getElem? (i := 21) rfl) rfl
theorem wd1050 : Cond.code yX12_pass prog_14_method_13_code 1 none ∈ Gw := gT8 (List.mem_of_getElem? (i := 24) rfl) rfl
theorem wd1051 : Cond.instanceMethod yX12_pass ∈ Gw := gT8 (List.mem_of_getElem? (i := 23) rfl) rfl
theorem wd1052 : Cond.selects RX12 yX12_pass yX12_pass ∈ Gw := gP6 (q := (yX12_pass, 98)) (List.mem_of_getElem? (i := 13) rfl)
theorem wd1053 : Cond.methodLink RX12 270 yX12_look ∈ Gw := gT7 (List.mem_of_getElem? (i := 227) rfl) rfl
theorem wd1054 : Cond.code yX12_look prog_14_method_12_code 2 (some .int) ∈ Gw := gT7 (List.mem_of_getElem? (i := 230) rfl) rfl
theorem wd1055 : Cond.instanceMethod yX12_look ∈ Gw := gT7 (List.mem_of_getElem? (i := 229) rfl) rfl
theorem wd1056 : Cond.selects RX12 yX12_look yX12_look ∈ Gw := gP6 (q := (yX12_look, 98)) (List.mem_of_getElem? (i := 6) rfl)
section
variable {p : Program} {l : Launch} {e : Env} {R : Room} {s : State} {m : MethodId} {args : Array Value} {below : List Frame} {meth : Method} {c : Code} {H : Heap} {locs : List Loc} {Q : State → Prop}
variable {cc : ByteArray} {nL pc : Nat} {ls : Array Slot} {rest : List Value} {D : va_G} {A : Nat → Prop} {cw : Cond} {ad : Nat → Nat} {cy : Nat → ClassId} {ee : EE} {st : StT} {own : String}
theorem krX12_274_X12_pass {n : Nat}  {q : StT} (F : CallFix p m c cc nL s args (cw :: Gw) RX12) (K : va_K D vwCl (tyL cy) s) (E : EV ee A s s.heap) (hA : ∀ q, s.heap.size ≤ q → A q) (Z : ZG D (wM ad cy st) A s H locs) (hf : f_X12_pass n st = some q) (hR : 1 ≤ R.frames ∧ 20 ≤ R.locals) (hl : ls.size = nL) (hst : (rest.map fun v => v.category).sum ≤ 8) (hd : decode cc pc = .ok (.invokevirtual 274, 3)) (kk : ∀ (H1 : Heap) (locs1 : List Loc), ZG D (wM ad cy q) A s H1 locs1 → W p l e R s m args below meth c H1 locs1 0 0 Q (F0 m (pc + 3) ls (rest))) : W p l e R s m args below meth c H locs 0 0 Q (F0 m pc ls (.ref (ad 0) :: rest)) :=
  call_V (q := (RX12, TX12, 98)) (n := 0) (As := []) (rv := none) 0 12 F K E hA Z (c_X12_pass (l := l) (D := D) (ad := ad) (cy := cy) (ee := ee) hf) ⟨wd1050, wd1049, wd1051, wd1052, wd1008⟩ (by decide +kernel) rfl rfl hR rfl hl hst hd kk
theorem krX12_270_X12_look {n : Nat}  {q : (Int32 × StT)} (F : CallFix p m c cc nL s args (cw :: Gw) RX12) (K : va_K D vwCl (tyL cy) s) (E : EV ee A s s.heap) (hA : ∀ q, s.heap.size ≤ q → A q) (Z : ZG D (wM ad cy st) A s H locs) (hf : f_X12_look n st = some q) (hR : 3 ≤ R.frames ∧ 68 ≤ R.locals) (hl : ls.size = nL) (hst : (rest.map fun v => v.category).sum ≤ 8) (hd : decode cc pc = .ok (.invokevirtual 270, 3)) (kk : ∀ (H1 : Heap) (locs1 : List Loc), ZG D (wM ad cy q.2) A s H1 locs1 → W p l e R s m args below meth c H1 locs1 0 0 Q (F0 m (pc + 3) ls (.int q.1 :: rest))) : W p l e R s m args below meth c H locs 0 0 Q (F0 m pc ls (.ref (ad 0) :: rest)) :=
  call_V (q := (RX12, TX12, 98)) (n := 0) (As := []) (rv := some (.int q.1)) 0 12 F K E hA Z (c_X12_look (l := l) (D := D) (ad := ad) (cy := cy) (ee := ee) hf) ⟨wd1054, wd1053, wd1055, wd1056, wd1008⟩ (by decide +kernel) rfl rfl hR rfl hl hst hd kk
end
set_option maxRecDepth 100000 in
set_option maxHeartbeats 4000000 in
theorem c_X12_want {l : Launch} {D : va_G} {ad : Nat → Nat} {cy : Nat → ClassId} {ee : EE} {n : Nat} {st : StT} {x1 : Int32} {res : (Int32 × StT)} (hf : f_X12_want n st x1 = some res) : CT l yX12_want cX12_want 2 (some .boolean) 3 68 D cy ee (wM ad cy st) (wM ad cy res.2) [.ref (ad 0), .int x1] (some (.int res.1)) := by
  refine CT.of (by decide +kernel) (Nat.le_of_ble_eq_true rfl) ?_
  intro p e s m args below meth c A F hr hk K E hA Z ls hl
  have hl : lv_has ls 2 [(0, .ref (ad 0)), (1, .int x1)] := hl
  have hx := F.1
  have hb := F.2.1
  unfold f_X12_want at hf
  refine lv_aload_n hx hb dX12_want_0 rfl (lv_at hl 0 rfl) ?_
  obtain ⟨q1, h1, hf⟩ := bind_some hf
  refine krX12_270_X12_look F K E hA Z h1 ⟨Nat.le_of_ble_eq_true rfl, Nat.le_of_ble_eq_true rfl⟩ hl.1 (Nat.le_of_ble_eq_true rfl) dX12_want_1 (fun H locs Z => ?_)
  refine lv_iload_n hx hb dX12_want_4 rfl (lv_at hl 1 rfl) ?_
  refine lv_icmp_eq (tgt := 18) hx hb dX12_want_5 (by decide) (fun c5 => ?_) (fun c5 => ?_)
  · have hf := if_t c5 hf
    refine lv_aload_n hx hb dX12_want_18 rfl (lv_at hl 0 rfl) ?_
    obtain ⟨q19, h19, hf⟩ := bind_some hf
    refine krX12_274_X12_pass F K E hA Z h19 ⟨Nat.le_of_ble_eq_true rfl, Nat.le_of_ble_eq_true rfl⟩ hl.1 (Nat.le_of_ble_eq_true rfl) dX12_want_19 (fun H locs Z => ?_)
    refine lv_iconst (v := 1) hx hb dX12_want_22 (by decide) ?_
    have hf := Option.some.inj hf
    subst hf
    exact ret_z F hr hk Z rfl dX12_want_23
  have hf := if_f c5 hf
  refine lv_aload_n hx hb dX12_want_8 rfl (lv_at hl 0 rfl) ?_
  refine lv_iconst (v := 2) hx hb dX12_want_9 (by decide) ?_
  refine lv_aload_n hx hb dX12_want_10 rfl (lv_at hl 0 rfl) ?_
  refine gmX12_227 F K Z dX12_want_11 ?_
  obtain ⟨q14, h14, hf⟩ := bind_some hf
  refine krX12_266_X12_fail F K E hA Z h14 ⟨Nat.le_of_ble_eq_true rfl, Nat.le_of_ble_eq_true rfl⟩ hl.1 (Nat.le_of_ble_eq_true rfl) dX12_want_14 (fun H locs Z => ?_)
  obtain ⟨i17, hf⟩ := if_some hf
  have hf := Option.some.inj hf
  subst hf
  exact ret_z F hr hk Z i17 dX12_want_17
def f_X12_nest (n : Nat) (st : StT) : Option (Int32 × StT) := if (st.1 13) = (40 : Int32) then ((f_X12_fail n st (3 : Int32) (st.1 6)).bind fun q15 => (if isZ q15.1 = true then some (q15.1, q15.2) else none)) else (some ((1 : Int32), (uF st 13 ((st.1 13) + (1 : Int32)))))
theorem wd1057 : Cond.fieldLink RX12 277 "WorldProverModel" "open" "I" ∈ Gw := gT6 (List.mem_of_getElem? (i := 78) rfl) rfl
section
variable {p : Program} {l : Launch} {e : Env} {R : Room} {s : State} {m : MethodId} {args : Array Value} {below : List Frame} {meth : Method} {c : Code} {H : Heap} {locs : List Loc} {Q : State → Prop}
variable {cc : ByteArray} {nL pc : Nat} {ls : Array Slot} {rest : List Value} {D : va_G} {A : Nat → Prop} {cw : Cond} {ad : Nat → Nat} {cy : Nat → ClassId} {ee : EE} {st : StT} {own : String}
theorem gmX12_277 (F : CallFix p m c cc nL s args (cw :: Gw) RX12) (K : va_K D vwCl (tyL cy) s) (Z : ZG D (wM ad cy st) A s H locs) (hd : decode cc pc = .ok (.getfield 277, 3)) (kk : W p l e R s m args below meth c H locs 0 0 Q (F0 m (pc + 3) ls (.int (st.1 13) :: rest))) : W p l e R s m args below meth c H locs 0 0 Q (F0 m pc ls (.ref (ad 0) :: rest)) :=
  va_get (D := D) (ci := 12) (C := RX12) (T := TX12) (N := 98) F.1 F.2.1 F.2.2.2.2 (fun w h => List.mem_cons_of_mem _ (inG_X12 w h)) F.2.2.2.1 K Z.1 0 rfl rfl 20 (by decide) (F.2.2.2.2 _ (List.mem_cons_of_mem _ wd1057)) (fun _ h => h) rfl hd kk
theorem pmX12_277 {v : Int32} (F : CallFix p m c cc nL s args (cw :: Gw) RX12) (K : va_K D vwCl (tyL cy) s) (Z : ZG D (wM ad cy st) A s H locs) (hd : decode cc pc = .ok (.putfield 277, 3)) (kk : ∀ (H1 : Heap) (locs1 : List Loc), ZG D (wM ad cy (uF st 13 v)) A s H1 locs1 → W p l e R s m args below meth c H1 locs1 0 0 Q (F0 m (pc + 3) ls rest)) : W p l e R s m args below meth c H locs 0 0 Q (F0 m pc ls (.int v :: .ref (ad 0) :: rest)) :=
  va_put (D := D) (ci := 12) (v := .int v) (ty := .int) (C := RX12) (T := TX12) (N := 98) F.1 F.2.1 F.2.2.2.2 (fun w h => List.mem_cons_of_mem _ (inG_X12 w h)) tyX12 tyX12_ok nmX12 F.2.2.2.1 K Z.1 Z.2.1 Z.2.2 0 rfl rfl 20 (by decide) (F.2.2.2.2 _ (List.mem_cons_of_mem _ wd1057)) (fun _ h => h) rfl (by decide +kernel) rfl rfl (Nat.le_of_ble_eq_true rfl) hd (fun H1 locs1 hP hD hS => kk H1 locs1 ⟨hP, hD, hS⟩)
end
set_option maxRecDepth 100000 in
set_option maxHeartbeats 4000000 in
theorem c_X12_nest {l : Launch} {D : va_G} {ad : Nat → Nat} {cy : Nat → ClassId} {ee : EE} {n : Nat} {st : StT} {res : (Int32 × StT)} (hf : f_X12_nest n st = some res) : CT l yX12_nest cX12_nest 1 (some .boolean) 1 22 D cy ee (wM ad cy st) (wM ad cy res.2) [.ref (ad 0)] (some (.int res.1)) := by
  refine CT.of (by decide +kernel) (Nat.le_of_ble_eq_true rfl) ?_
  intro p e s m args below meth c A F hr hk K E hA Z ls hl
  have hl : lv_has ls 1 [(0, .ref (ad 0))] := hl
  have hx := F.1
  have hb := F.2.1
  unfold f_X12_nest at hf
  refine lv_aload_n hx hb dX12_nest_0 rfl (lv_at hl 0 rfl) ?_
  refine gmX12_277 F K Z dX12_nest_1 ?_
  refine lv_bipush (v := 40) hx hb dX12_nest_4 (by decide) ?_
  refine lv_icmp_ne (tgt := 19) hx hb dX12_nest_6 (by decide) (fun c6 => ?_) (fun c6 => ?_)
  · have hf := if_f c6 hf
    refine lv_aload_n hx hb dX12_nest_19 rfl (lv_at hl 0 rfl) ?_
    refine lv_dup hx hb dX12_nest_20 rfl ?_
    refine gmX12_277 F K Z dX12_nest_21 ?_
    refine lv_iconst (v := 1) hx hb dX12_nest_24 (by decide) ?_
    refine lv_iadd hx hb dX12_nest_25 ?_
    refine pmX12_277 F K Z dX12_nest_26 (fun H locs Z => ?_)
    refine lv_iconst (v := 1) hx hb dX12_nest_29 (by decide) ?_
    have hf := Option.some.inj hf
    subst hf
    exact ret_z F hr hk Z rfl dX12_nest_30
  have hf := if_t c6 hf
  refine lv_aload_n hx hb dX12_nest_9 rfl (lv_at hl 0 rfl) ?_
  refine lv_iconst (v := 3) hx hb dX12_nest_10 (by decide) ?_
  refine lv_aload_n hx hb dX12_nest_11 rfl (lv_at hl 0 rfl) ?_
  refine gmX12_227 F K Z dX12_nest_12 ?_
  obtain ⟨q15, h15, hf⟩ := bind_some hf
  refine krX12_266_X12_fail F K E hA Z h15 ⟨Nat.le_of_ble_eq_true rfl, Nat.le_of_ble_eq_true rfl⟩ hl.1 (Nat.le_of_ble_eq_true rfl) dX12_nest_15 (fun H locs Z => ?_)
  obtain ⟨i18, hf⟩ := if_some hf
  have hf := Option.some.inj hf
  subst hf
  exact ret_z F hr hk Z i18 dX12_nest_18
def f_X12_variableOf_142 (n : Nat) : Nat → StT → Int32 → Option (Int32 × StT)
  | 0, _, _ => none
  | k + 1, st, x1 => if (st.1 7) ≤ x1 then (if inB (st.1 2) 24 = true then ((f_X12_add n (uA st 4 (st.1 2) (st.1 7)) (2 : Int32) ((uA st 4 (st.1 2) (st.1 7)).1 2) (0 : Int32)).bind fun q209 => (if inB ((uA st 4 (st.1 2) (st.1 7)).1 2) 24 = true then (some ((((uF (uA q209.2 5 ((uA st 4 (st.1 2) (st.1 7)).1 2) q209.1) 2 (((uA q209.2 5 ((uA st 4 (st.1 2) (st.1 7)).1 2) q209.1).1 2) + (1 : Int32))).1 0) - (1 : Int32)), (uF (uA q209.2 5 ((uA st 4 (st.1 2) (st.1 7)).1 2) q209.1) 2 (((uA q209.2 5 ((uA st 4 (st.1 2) (st.1 7)).1 2) q209.1).1 2) + (1 : Int32))))) else none)) else none) else (if inB ((st.1 6) + x1) 3000 = true then (if inB (((6 : Int32) * (st.1 2)) + x1) 144 = true then (f_X12_variableOf_142 n k (uA st 3 (((6 : Int32) * (st.1 2)) + x1) (st.2.1 6 (((st.1 6) + x1)).toNatClampNeg)) (x1 + (1 : Int32))) else none) else none)
def f_X12_variableOf_80 (n : Nat) (k2 : StT → Int32 → Option (Int32 × StT)) (st : StT) (x1 : Int32) (x2 : Int32) : Option (Int32 × StT) := if x2 = 0 then (k2 st (x1 + (1 : Int32))) else (if inB x1 24 = true then (some ((st.2.1 5 (x1).toNatClampNeg), st)) else none)
def f_X12_variableOf_31 (n : Nat) (k2 : StT → Int32 → Option (Int32 × StT)) : Nat → StT → Int32 → Int32 → Int32 → Option (Int32 × StT)
  | 0, _, _, _, _ => none
  | k + 1, st, x1, x2, x3 => if (st.1 7) ≤ x3 then (f_X12_variableOf_80 n k2 st x1 x2) else (if x2 = 0 then (f_X12_variableOf_80 n k2 st x1 x2) else (if inB (((6 : Int32) * x1) + x3) 144 = true then (if inB ((st.1 6) + x3) 3000 = true then (if (st.2.1 3 ((((6 : Int32) * x1) + x3)).toNatClampNeg) = (st.2.1 6 (((st.1 6) + x3)).toNatClampNeg) then (f_X12_variableOf_31 n k2 k st x1 (1 : Int32) (x3 + (1 : Int32))) else (f_X12_variableOf_31 n k2 k st x1 (0 : Int32) (x3 + (1 : Int32)))) else none) else none))
def f_X12_variableOf_2 (n : Nat) : Nat → StT → Int32 → Option (Int32 × StT)
  | 0, _, _ => none
  | k + 1, st, x1 => if (st.1 2) ≤ x1 then (if (st.1 2) = (24 : Int32) then ((f_X12_fail n st (4 : Int32) (st.1 6)).bind fun q112 => (some ((-1 : Int32), q112.2))) else (if (st.1 0) = (2000 : Int32) then ((f_X12_fail n st (5 : Int32) (st.1 6)).bind fun q134 => (some ((-1 : Int32), q134.2))) else (f_X12_variableOf_142 n n st (0 : Int32)))) else (if inB x1 24 = true then (if (st.2.1 4 (x1).toNatClampNeg) = (st.1 7) then (f_X12_variableOf_31 n (f_X12_variableOf_2 n k) n st x1 (1 : Int32) (0 : Int32)) else (f_X12_variableOf_31 n (f_X12_variableOf_2 n k) n st x1 (0 : Int32) (0 : Int32))) else none)
def f_X12_variableOf (n : Nat) (st : StT) : Option (Int32 × StT) := f_X12_variableOf_2 n n st (0 : Int32)
theorem wd1058 : Cond.fieldLink RX12 280 "WorldProverModel" "variables" "I" ∈ Gw := gT6 (List.mem_of_getElem? (i := 66) rfl) rfl
theorem wd1059 : Cond.fieldLink RX12 22 "WorldProverModel" "varSize" "[I" ∈ Gw := gT6 (List.mem_of_getElem? (i := 64) rfl) rfl
theorem wd1060 : Cond.fieldLink RX12 19 "WorldProverModel" "varName" "[I" ∈ Gw := gT6 (List.mem_of_getElem? (i := 63) rfl) rfl
theorem wd1061 : Cond.fieldLink RX12 25 "WorldProverModel" "varFormula" "[I" ∈ Gw := gT6 (List.mem_of_getElem? (i := 65) rfl) rfl
section
variable {p : Program} {l : Launch} {e : Env} {R : Room} {s : State} {m : MethodId} {args : Array Value} {below : List Frame} {meth : Method} {c : Code} {H : Heap} {locs : List Loc} {Q : State → Prop}
variable {cc : ByteArray} {nL pc : Nat} {ls : Array Slot} {rest : List Value} {D : va_G} {A : Nat → Prop} {cw : Cond} {ad : Nat → Nat} {cy : Nat → ClassId} {ee : EE} {st : StT} {own : String}
theorem gmX12_280 (F : CallFix p m c cc nL s args (cw :: Gw) RX12) (K : va_K D vwCl (tyL cy) s) (Z : ZG D (wM ad cy st) A s H locs) (hd : decode cc pc = .ok (.getfield 280, 3)) (kk : W p l e R s m args below meth c H locs 0 0 Q (F0 m (pc + 3) ls (.int (st.1 2) :: rest))) : W p l e R s m args below meth c H locs 0 0 Q (F0 m pc ls (.ref (ad 0) :: rest)) :=
  va_get (D := D) (ci := 12) (C := RX12) (T := TX12) (N := 98) F.1 F.2.1 F.2.2.2.2 (fun w h => List.mem_cons_of_mem _ (inG_X12 w h)) F.2.2.2.1 K Z.1 0 rfl rfl 8 (by decide) (F.2.2.2.2 _ (List.mem_cons_of_mem _ wd1058)) (fun _ h => h) rfl hd kk
theorem gmX12_22 (F : CallFix p m c cc nL s args (cw :: Gw) RX12) (K : va_K D vwCl (tyL cy) s) (Z : ZG D (wM ad cy st) A s H locs) (hd : decode cc pc = .ok (.getfield 22, 3)) (kk : W p l e R s m args below meth c H locs 0 0 Q (F0 m (pc + 3) ls (.ref (ad 5) :: rest))) : W p l e R s m args below meth c H locs 0 0 Q (F0 m pc ls (.ref (ad 0) :: rest)) :=
  va_get (D := D) (ci := 12) (C := RX12) (T := TX12) (N := 98) F.1 F.2.1 F.2.2.2.2 (fun w h => List.mem_cons_of_mem _ (inG_X12 w h)) F.2.2.2.1 K Z.1 0 rfl rfl 6 (by decide) (F.2.2.2.2 _ (List.mem_cons_of_mem _ wd1059)) (fun _ h => h) rfl hd kk
theorem ml5 {i : Int32} (F : CallFix p m c cc nL s args (cw :: Gw) own) (K : va_K D vwCl (tyL cy) s) (Z : ZG D (wM ad cy st) A s H locs) (hi : inB i 24 = true) (hd : decode cc pc = .ok (.iaload, 1)) (kk : W p l e R s m args below meth c H locs 0 0 Q (F0 m (pc + 1) ls (.int (st.2.1 4 i.toNatClampNeg) :: rest))) : W p l e R s m args below meth c H locs 0 0 Q (F0 m pc ls (.int i :: .ref (ad 5) :: rest)) :=
  va_iald F.1 F.2.1 K Z.1 5 1 rfl rfl (inB_vp hi) hd kk
theorem gmX12_19 (F : CallFix p m c cc nL s args (cw :: Gw) RX12) (K : va_K D vwCl (tyL cy) s) (Z : ZG D (wM ad cy st) A s H locs) (hd : decode cc pc = .ok (.getfield 19, 3)) (kk : W p l e R s m args below meth c H locs 0 0 Q (F0 m (pc + 3) ls (.ref (ad 4) :: rest))) : W p l e R s m args below meth c H locs 0 0 Q (F0 m pc ls (.ref (ad 0) :: rest)) :=
  va_get (D := D) (ci := 12) (C := RX12) (T := TX12) (N := 98) F.1 F.2.1 F.2.2.2.2 (fun w h => List.mem_cons_of_mem _ (inG_X12 w h)) F.2.2.2.1 K Z.1 0 rfl rfl 5 (by decide) (F.2.2.2.2 _ (List.mem_cons_of_mem _ wd1060)) (fun _ h => h) rfl hd kk
theorem ml4 {i : Int32} (F : CallFix p m c cc nL s args (cw :: Gw) own) (K : va_K D vwCl (tyL cy) s) (Z : ZG D (wM ad cy st) A s H locs) (hi : inB i 144 = true) (hd : decode cc pc = .ok (.iaload, 1)) (kk : W p l e R s m args below meth c H locs 0 0 Q (F0 m (pc + 1) ls (.int (st.2.1 3 i.toNatClampNeg) :: rest))) : W p l e R s m args below meth c H locs 0 0 Q (F0 m pc ls (.int i :: .ref (ad 4) :: rest)) :=
  va_iald F.1 F.2.1 K Z.1 4 1 rfl rfl (inB_vp hi) hd kk
theorem gmX12_25 (F : CallFix p m c cc nL s args (cw :: Gw) RX12) (K : va_K D vwCl (tyL cy) s) (Z : ZG D (wM ad cy st) A s H locs) (hd : decode cc pc = .ok (.getfield 25, 3)) (kk : W p l e R s m args below meth c H locs 0 0 Q (F0 m (pc + 3) ls (.ref (ad 6) :: rest))) : W p l e R s m args below meth c H locs 0 0 Q (F0 m pc ls (.ref (ad 0) :: rest)) :=
  va_get (D := D) (ci := 12) (C := RX12) (T := TX12) (N := 98) F.1 F.2.1 F.2.2.2.2 (fun w h => List.mem_cons_of_mem _ (inG_X12 w h)) F.2.2.2.1 K Z.1 0 rfl rfl 7 (by decide) (F.2.2.2.2 _ (List.mem_cons_of_mem _ wd1061)) (fun _ h => h) rfl hd kk
theorem ml6 {i : Int32} (F : CallFix p m c cc nL s args (cw :: Gw) own) (K : va_K D vwCl (tyL cy) s) (Z : ZG D (wM ad cy st) A s H locs) (hi : inB i 24 = true) (hd : decode cc pc = .ok (.iaload, 1)) (kk : W p l e R s m args below meth c H locs 0 0 Q (F0 m (pc + 1) ls (.int (st.2.1 5 i.toNatClampNeg) :: rest))) : W p l e R s m args below meth c H locs 0 0 Q (F0 m pc ls (.int i :: .ref (ad 6) :: rest)) :=
  va_iald F.1 F.2.1 K Z.1 6 1 rfl rfl (inB_vp hi) hd kk
theorem ms5 {i : Int32} {v : Int32} (F : CallFix p m c cc nL s args (cw :: Gw) own) (K : va_K D vwCl (tyL cy) s) (Z : ZG D (wM ad cy st) A s H locs) (hi : inB i 24 = true) (hd : decode cc pc = .ok (.iastore, 1)) (kk : ∀ (H1 : Heap) (locs1 : List Loc), ZG D (wM ad cy (uA st 4 i v)) A s H1 locs1 → W p l e R s m args below meth c H1 locs1 0 0 Q (F0 m (pc + 1) ls rest)) : W p l e R s m args below meth c H locs 0 0 Q (F0 m pc ls (.int v :: .int i :: .ref (ad 5) :: rest)) :=
  va_iast F.1 F.2.1 K Z.1 Z.2.1 Z.2.2 5 1 rfl rfl (inB_vp hi) hd (fun H1 locs1 hP hD hS => kk H1 locs1 ⟨hP, hD, hS⟩)
theorem ms6 {i : Int32} {v : Int32} (F : CallFix p m c cc nL s args (cw :: Gw) own) (K : va_K D vwCl (tyL cy) s) (Z : ZG D (wM ad cy st) A s H locs) (hi : inB i 24 = true) (hd : decode cc pc = .ok (.iastore, 1)) (kk : ∀ (H1 : Heap) (locs1 : List Loc), ZG D (wM ad cy (uA st 5 i v)) A s H1 locs1 → W p l e R s m args below meth c H1 locs1 0 0 Q (F0 m (pc + 1) ls rest)) : W p l e R s m args below meth c H locs 0 0 Q (F0 m pc ls (.int v :: .int i :: .ref (ad 6) :: rest)) :=
  va_iast F.1 F.2.1 K Z.1 Z.2.1 Z.2.2 6 1 rfl rfl (inB_vp hi) hd (fun H1 locs1 hP hD hS => kk H1 locs1 ⟨hP, hD, hS⟩)
theorem pmX12_280 {v : Int32} (F : CallFix p m c cc nL s args (cw :: Gw) RX12) (K : va_K D vwCl (tyL cy) s) (Z : ZG D (wM ad cy st) A s H locs) (hd : decode cc pc = .ok (.putfield 280, 3)) (kk : ∀ (H1 : Heap) (locs1 : List Loc), ZG D (wM ad cy (uF st 2 v)) A s H1 locs1 → W p l e R s m args below meth c H1 locs1 0 0 Q (F0 m (pc + 3) ls rest)) : W p l e R s m args below meth c H locs 0 0 Q (F0 m pc ls (.int v :: .ref (ad 0) :: rest)) :=
  va_put (D := D) (ci := 12) (v := .int v) (ty := .int) (C := RX12) (T := TX12) (N := 98) F.1 F.2.1 F.2.2.2.2 (fun w h => List.mem_cons_of_mem _ (inG_X12 w h)) tyX12 tyX12_ok nmX12 F.2.2.2.1 K Z.1 Z.2.1 Z.2.2 0 rfl rfl 8 (by decide) (F.2.2.2.2 _ (List.mem_cons_of_mem _ wd1058)) (fun _ h => h) rfl (by decide +kernel) rfl rfl (Nat.le_of_ble_eq_true rfl) hd (fun H1 locs1 hP hD hS => kk H1 locs1 ⟨hP, hD, hS⟩)
theorem ms4 {i : Int32} {v : Int32} (F : CallFix p m c cc nL s args (cw :: Gw) own) (K : va_K D vwCl (tyL cy) s) (Z : ZG D (wM ad cy st) A s H locs) (hi : inB i 144 = true) (hd : decode cc pc = .ok (.iastore, 1)) (kk : ∀ (H1 : Heap) (locs1 : List Loc), ZG D (wM ad cy (uA st 3 i v)) A s H1 locs1 → W p l e R s m args below meth c H1 locs1 0 0 Q (F0 m (pc + 1) ls rest)) : W p l e R s m args below meth c H locs 0 0 Q (F0 m pc ls (.int v :: .int i :: .ref (ad 4) :: rest)) :=
  va_iast F.1 F.2.1 K Z.1 Z.2.1 Z.2.2 4 1 rfl rfl (inB_vp hi) hd (fun H1 locs1 hP hD hS => kk H1 locs1 ⟨hP, hD, hS⟩)
end
set_option maxRecDepth 100000 in
set_option maxHeartbeats 4000000 in
theorem b_X12_variableOf_142 {p : Program} {l : Launch} {e : Env} {s : State} {m : MethodId} {args : Array Value} {below : List Frame} {meth : Method} {c : Code} {D : va_G} {A : Nat → Prop} {ad : Nat → Nat} {cy : Nat → ClassId} {ee : EE} {n : Nat} {res : (Int32 × StT)} (F : CallFix p m c cX12_variableOf 4 s args (Cond.code yX12_variableOf cX12_variableOf 4 (some .int) :: Gw) yX12_variableOf.cls) (hr : meth.sig.returnType = (some .int)) (hk : meth.locks = false) (K : va_K D vwCl (tyL cy) s) (E : EV ee A s s.heap) (hA : ∀ q, s.heap.size ≤ q → A q) : ∀ (k : Nat) (st : StT) (x1 : Int32), f_X12_variableOf_142 n k st x1 = some res → ∀ (H : Heap) (locs : List Loc) (ls : Array Slot), ZG D (wM ad cy st) A s H locs → lv_has ls 4 [(0, .ref (ad 0)), (1, .int x1)] → W p l e { frames := 1, cells := 0, slots := 0, locals := 23 } s m args below meth c H locs 0 0 (MQ below (QC D (some (.int res.1)) (wM ad cy res.2) A) args s 0 0 A) (F0 m 142 ls []) := by
  have hx := F.1
  have hb := F.2.1
  intro k
  induction k with
  | zero =>
    intro st x1 hf
    exact absurd hf (by simp [f_X12_variableOf_142])
  | succ k ih =>
    intro st x1 hf H locs ls Z hl
    rw [f_X12_variableOf_142] at hf
    refine lv_iload_n hx hb dX12_variableOf_142 rfl (lv_at hl 1 rfl) ?_
    refine lv_aload_n hx hb dX12_variableOf_143 rfl (lv_at hl 0 rfl) ?_
    refine gmX12_224 F K Z dX12_variableOf_144 ?_
    refine lv_icmp_ge (tgt := 181) hx hb dX12_variableOf_147 (by decide) (fun c147 => ?_) (fun c147 => ?_)
    · have hf := if_t c147 hf
      refine lv_aload_n hx hb dX12_variableOf_181 rfl (lv_at hl 0 rfl) ?_
      refine gmX12_22 F K Z dX12_variableOf_182 ?_
      refine lv_aload_n hx hb dX12_variableOf_185 rfl (lv_at hl 0 rfl) ?_
      refine gmX12_280 F K Z dX12_variableOf_186 ?_
      refine lv_aload_n hx hb dX12_variableOf_189 rfl (lv_at hl 0 rfl) ?_
      refine gmX12_224 F K Z dX12_variableOf_190 ?_
      obtain ⟨i193, hf⟩ := if_some hf
      refine ms5 F K Z i193 dX12_variableOf_193 (fun H locs Z => ?_)
      refine lv_aload_n hx hb dX12_variableOf_194 rfl (lv_at hl 0 rfl) ?_
      refine gmX12_25 F K Z dX12_variableOf_195 ?_
      refine lv_aload_n hx hb dX12_variableOf_198 rfl (lv_at hl 0 rfl) ?_
      refine gmX12_280 F K Z dX12_variableOf_199 ?_
      refine lv_aload_n hx hb dX12_variableOf_202 rfl (lv_at hl 0 rfl) ?_
      refine lv_iconst (v := 2) hx hb dX12_variableOf_203 (by decide) ?_
      refine lv_aload_n hx hb dX12_variableOf_204 rfl (lv_at hl 0 rfl) ?_
      refine gmX12_280 F K Z dX12_variableOf_205 ?_
      refine lv_iconst (v := 0) hx hb dX12_variableOf_208 (by decide) ?_
      obtain ⟨q209, h209, hf⟩ := bind_some hf
      refine krX12_214_X12_add F K E hA Z h209 ⟨Nat.le_of_ble_eq_true rfl, Nat.le_of_ble_eq_true rfl⟩ hl.1 (Nat.le_of_ble_eq_true rfl) dX12_variableOf_209 (fun H locs Z => ?_)
      obtain ⟨i212, hf⟩ := if_some hf
      refine ms6 F K Z i212 dX12_variableOf_212 (fun H locs Z => ?_)
      refine lv_aload_n hx hb dX12_variableOf_213 rfl (lv_at hl 0 rfl) ?_
      refine lv_dup hx hb dX12_variableOf_214 rfl ?_
      refine gmX12_280 F K Z dX12_variableOf_215 ?_
      refine lv_iconst (v := 1) hx hb dX12_variableOf_218 (by decide) ?_
      refine lv_iadd hx hb dX12_variableOf_219 ?_
      refine pmX12_280 F K Z dX12_variableOf_220 (fun H locs Z => ?_)
      refine lv_aload_n hx hb dX12_variableOf_223 rfl (lv_at hl 0 rfl) ?_
      refine gmX12_204 F K Z dX12_variableOf_224 ?_
      refine lv_iconst (v := 1) hx hb dX12_variableOf_227 (by decide) ?_
      refine lv_isub hx hb dX12_variableOf_228 ?_
      have hf := Option.some.inj hf
      subst hf
      exact ret_i F hr hk Z dX12_variableOf_229
    have hf := if_f c147 hf
    refine lv_aload_n hx hb dX12_variableOf_150 rfl (lv_at hl 0 rfl) ?_
    refine gmX12_19 F K Z dX12_variableOf_151 ?_
    refine lv_bipush (v := 6) hx hb dX12_variableOf_154 (by decide) ?_
    refine lv_aload_n hx hb dX12_variableOf_156 rfl (lv_at hl 0 rfl) ?_
    refine gmX12_280 F K Z dX12_variableOf_157 ?_
    refine lv_imul hx hb dX12_variableOf_160 ?_
    refine lv_iload_n hx hb dX12_variableOf_161 rfl (lv_at hl 1 rfl) ?_
    refine lv_iadd hx hb dX12_variableOf_162 ?_
    refine lv_aload_n hx hb dX12_variableOf_163 rfl (lv_at hl 0 rfl) ?_
    refine gmX12_28 F K Z dX12_variableOf_164 ?_
    refine lv_aload_n hx hb dX12_variableOf_167 rfl (lv_at hl 0 rfl) ?_
    refine gmX12_227 F K Z dX12_variableOf_168 ?_
    refine lv_iload_n hx hb dX12_variableOf_171 rfl (lv_at hl 1 rfl) ?_
    refine lv_iadd hx hb dX12_variableOf_172 ?_
    obtain ⟨i173, hf⟩ := if_some hf
    refine ml7 F K Z i173 dX12_variableOf_173 ?_
    obtain ⟨i174, hf⟩ := if_some hf
    refine ms4 F K Z i174 dX12_variableOf_174 (fun H locs Z => ?_)
    refine lv_iinc (v := (x1 + (1 : Int32))) (lv' := [(1, .int (x1 + (1 : Int32))), (0, .ref (ad 0))]) hx hb dX12_variableOf_175 hl (k := 1) rfl (congrArg (fun z => x1 + z) (by decide)) (by decide) rfl (fun ls hl => ?_)
    refine lv_goto (tgt := 142) hx hb dX12_variableOf_178 (by decide) ?_
    exact ih _ _ hf _ _ _ Z (lv_sub hl [1, 0] rfl)
set_option maxRecDepth 100000 in
set_option maxHeartbeats 4000000 in
theorem b_X12_variableOf_80 {p : Program} {l : Launch} {e : Env} {s : State} {m : MethodId} {args : Array Value} {below : List Frame} {meth : Method} {c : Code} {D : va_G} {A : Nat → Prop} {ad : Nat → Nat} {cy : Nat → ClassId} {ee : EE} {n : Nat} {res : (Int32 × StT)} (F : CallFix p m c cX12_variableOf 4 s args (Cond.code yX12_variableOf cX12_variableOf 4 (some .int) :: Gw) yX12_variableOf.cls) (hr : meth.sig.returnType = (some .int)) (hk : meth.locks = false) (K : va_K D vwCl (tyL cy) s) (E : EV ee A s s.heap) (hA : ∀ q, s.heap.size ≤ q → A q) {k2 : StT → Int32 → Option (Int32 × StT)} (hk2 : ∀ (st : StT) (x1 : Int32), k2 st x1 = some res → ∀ (H : Heap) (locs : List Loc) (ls : Array Slot), ZG D (wM ad cy st) A s H locs → lv_has ls 4 [(0, .ref (ad 0)), (1, .int x1)] → W p l e { frames := 1, cells := 0, slots := 0, locals := 23 } s m args below meth c H locs 0 0 (MQ below (QC D (some (.int res.1)) (wM ad cy res.2) A) args s 0 0 A) (F0 m 2 ls [])) : ∀ (st : StT) (x1 : Int32) (x2 : Int32), f_X12_variableOf_80 n k2 st x1 x2 = some res → ∀ (H : Heap) (locs : List Loc) (ls : Array Slot), ZG D (wM ad cy st) A s H locs → lv_has ls 4 [(0, .ref (ad 0)), (1, .int x1), (2, .int x2)] → W p l e { frames := 1, cells := 0, slots := 0, locals := 23 } s m args below meth c H locs 0 0 (MQ below (QC D (some (.int res.1)) (wM ad cy res.2) A) args s 0 0 A) (F0 m 80 ls []) := by
  have hx := F.1
  have hb := F.2.1
  intro st x1 x2 hf H locs ls Z hl
  unfold f_X12_variableOf_80 at hf
  refine lv_iload_n hx hb dX12_variableOf_80 rfl (lv_at hl 2 rfl) ?_
  refine lv_if_eq (tgt := 91) hx hb dX12_variableOf_81 (by decide) (fun c81 => ?_) (fun c81 => ?_)
  · have hf := if_t c81 hf
    refine lv_iinc (v := (x1 + (1 : Int32))) (lv' := [(1, .int (x1 + (1 : Int32))), (0, .ref (ad 0)), (2, .int x2)]) hx hb dX12_variableOf_91 hl (k := 1) rfl (congrArg (fun z => x1 + z) (by decide)) (by decide) rfl (fun ls hl => ?_)
    refine lv_goto (tgt := 2) hx hb dX12_variableOf_94 (by decide) ?_
    exact hk2 _ _ hf _ _ _ Z (lv_sub hl [1, 0] rfl)
  have hf := if_f c81 hf
  refine lv_aload_n hx hb dX12_variableOf_84 rfl (lv_at hl 0 rfl) ?_
  refine gmX12_25 F K Z dX12_variableOf_85 ?_
  refine lv_iload_n hx hb dX12_variableOf_88 rfl (lv_at hl 1 rfl) ?_
  obtain ⟨i89, hf⟩ := if_some hf
  refine ml6 F K Z i89 dX12_variableOf_89 ?_
  have hf := Option.some.inj hf
  subst hf
  exact ret_i F hr hk Z dX12_variableOf_90
set_option maxRecDepth 100000 in
set_option maxHeartbeats 4000000 in
theorem b_X12_variableOf_31 {p : Program} {l : Launch} {e : Env} {s : State} {m : MethodId} {args : Array Value} {below : List Frame} {meth : Method} {c : Code} {D : va_G} {A : Nat → Prop} {ad : Nat → Nat} {cy : Nat → ClassId} {ee : EE} {n : Nat} {res : (Int32 × StT)} (F : CallFix p m c cX12_variableOf 4 s args (Cond.code yX12_variableOf cX12_variableOf 4 (some .int) :: Gw) yX12_variableOf.cls) (hr : meth.sig.returnType = (some .int)) (hk : meth.locks = false) (K : va_K D vwCl (tyL cy) s) (E : EV ee A s s.heap) (hA : ∀ q, s.heap.size ≤ q → A q) {k2 : StT → Int32 → Option (Int32 × StT)} (hk2 : ∀ (st : StT) (x1 : Int32), k2 st x1 = some res → ∀ (H : Heap) (locs : List Loc) (ls : Array Slot), ZG D (wM ad cy st) A s H locs → lv_has ls 4 [(0, .ref (ad 0)), (1, .int x1)] → W p l e { frames := 1, cells := 0, slots := 0, locals := 23 } s m args below meth c H locs 0 0 (MQ below (QC D (some (.int res.1)) (wM ad cy res.2) A) args s 0 0 A) (F0 m 2 ls [])) : ∀ (k : Nat) (st : StT) (x1 : Int32) (x2 : Int32) (x3 : Int32), f_X12_variableOf_31 n k2 k st x1 x2 x3 = some res → ∀ (H : Heap) (locs : List Loc) (ls : Array Slot), ZG D (wM ad cy st) A s H locs → lv_has ls 4 [(0, .ref (ad 0)), (1, .int x1), (2, .int x2), (3, .int x3)] → W p l e { frames := 1, cells := 0, slots := 0, locals := 23 } s m args below meth c H locs 0 0 (MQ below (QC D (some (.int res.1)) (wM ad cy res.2) A) args s 0 0 A) (F0 m 31 ls []) := by
  have hx := F.1
  have hb := F.2.1
  intro k
  induction k with
  | zero =>
    intro st x1 x2 x3 hf
    exact absurd hf (by simp [f_X12_variableOf_31])
  | succ k ih =>
    intro st x1 x2 x3 hf H locs ls Z hl
    rw [f_X12_variableOf_31] at hf
    refine lv_iload_n hx hb dX12_variableOf_31 rfl (lv_at hl 3 rfl) ?_
    refine lv_aload_n hx hb dX12_variableOf_32 rfl (lv_at hl 0 rfl) ?_
    refine gmX12_224 F K Z dX12_variableOf_33 ?_
    refine lv_icmp_ge (tgt := 80) hx hb dX12_variableOf_36 (by decide) (fun c36 => ?_) (fun c36 => ?_)
    · have hf := if_t c36 hf
      exact b_X12_variableOf_80 F hr hk K E hA hk2 _ _ _ hf _ _ _ Z (lv_sub hl [0, 1, 2] rfl)
    have hf := if_f c36 hf
    refine lv_iload_n hx hb dX12_variableOf_39 rfl (lv_at hl 2 rfl) ?_
    refine lv_if_eq (tgt := 80) hx hb dX12_variableOf_40 (by decide) (fun c40 => ?_) (fun c40 => ?_)
    · have hf := if_t c40 hf
      exact b_X12_variableOf_80 F hr hk K E hA hk2 _ _ _ hf _ _ _ Z (lv_sub hl [0, 1, 2] rfl)
    have hf := if_f c40 hf
    refine lv_aload_n hx hb dX12_variableOf_43 rfl (lv_at hl 0 rfl) ?_
    refine gmX12_19 F K Z dX12_variableOf_44 ?_
    refine lv_bipush (v := 6) hx hb dX12_variableOf_47 (by decide) ?_
    refine lv_iload_n hx hb dX12_variableOf_49 rfl (lv_at hl 1 rfl) ?_
    refine lv_imul hx hb dX12_variableOf_50 ?_
    refine lv_iload_n hx hb dX12_variableOf_51 rfl (lv_at hl 3 rfl) ?_
    refine lv_iadd hx hb dX12_variableOf_52 ?_
    obtain ⟨i53, hf⟩ := if_some hf
    refine ml4 F K Z i53 dX12_variableOf_53 ?_
    refine lv_aload_n hx hb dX12_variableOf_54 rfl (lv_at hl 0 rfl) ?_
    refine gmX12_28 F K Z dX12_variableOf_55 ?_
    refine lv_aload_n hx hb dX12_variableOf_58 rfl (lv_at hl 0 rfl) ?_
    refine gmX12_227 F K Z dX12_variableOf_59 ?_
    refine lv_iload_n hx hb dX12_variableOf_62 rfl (lv_at hl 3 rfl) ?_
    refine lv_iadd hx hb dX12_variableOf_63 ?_
    obtain ⟨i64, hf⟩ := if_some hf
    refine ml7 F K Z i64 dX12_variableOf_64 ?_
    refine lv_icmp_ne (tgt := 72) hx hb dX12_variableOf_65 (by decide) (fun c65 => ?_) (fun c65 => ?_)
    · have hf := if_f c65 hf
      refine lv_iconst (v := 0) hx hb dX12_variableOf_72 (by decide) ?_
      refine lv_istore_n (lv' := [(2, .int (0 : Int32)), (0, .ref (ad 0)), (1, .int x1), (3, .int x3)]) hx hb dX12_variableOf_73 rfl hl (by decide) rfl (fun ls hl => ?_)
      refine lv_iinc (v := (x3 + (1 : Int32))) (lv' := [(3, .int (x3 + (1 : Int32))), (2, .int (0 : Int32)), (0, .ref (ad 0)), (1, .int x1)]) hx hb dX12_variableOf_74 hl (k := 3) rfl (congrArg (fun z => x3 + z) (by decide)) (by decide) rfl (fun ls hl => ?_)
      refine lv_goto (tgt := 31) hx hb dX12_variableOf_77 (by decide) ?_
      exact ih _ _ _ _ hf _ _ _ Z (lv_sub hl [2, 3, 1, 0] rfl)
    have hf := if_t c65 hf
    refine lv_iconst (v := 1) hx hb dX12_variableOf_68 (by decide) ?_
    refine lv_goto (tgt := 73) hx hb dX12_variableOf_69 (by decide) ?_
    refine lv_istore_n (lv' := [(2, .int (1 : Int32)), (0, .ref (ad 0)), (1, .int x1), (3, .int x3)]) hx hb dX12_variableOf_73 rfl hl (by decide) rfl (fun ls hl => ?_)
    refine lv_iinc (v := (x3 + (1 : Int32))) (lv' := [(3, .int (x3 + (1 : Int32))), (2, .int (1 : Int32)), (0, .ref (ad 0)), (1, .int x1)]) hx hb dX12_variableOf_74 hl (k := 3) rfl (congrArg (fun z => x3 + z) (by decide)) (by decide) rfl (fun ls hl => ?_)
    refine lv_goto (tgt := 31) hx hb dX12_variableOf_77 (by decide) ?_
    exact ih _ _ _ _ hf _ _ _ Z (lv_sub hl [2, 3, 1, 0] rfl)
set_option maxRecDepth 100000 in
set_option maxHeartbeats 4000000 in
theorem b_X12_variableOf_2 {p : Program} {l : Launch} {e : Env} {s : State} {m : MethodId} {args : Array Value} {below : List Frame} {meth : Method} {c : Code} {D : va_G} {A : Nat → Prop} {ad : Nat → Nat} {cy : Nat → ClassId} {ee : EE} {n : Nat} {res : (Int32 × StT)} (F : CallFix p m c cX12_variableOf 4 s args (Cond.code yX12_variableOf cX12_variableOf 4 (some .int) :: Gw) yX12_variableOf.cls) (hr : meth.sig.returnType = (some .int)) (hk : meth.locks = false) (K : va_K D vwCl (tyL cy) s) (E : EV ee A s s.heap) (hA : ∀ q, s.heap.size ≤ q → A q) : ∀ (k : Nat) (st : StT) (x1 : Int32), f_X12_variableOf_2 n k st x1 = some res → ∀ (H : Heap) (locs : List Loc) (ls : Array Slot), ZG D (wM ad cy st) A s H locs → lv_has ls 4 [(0, .ref (ad 0)), (1, .int x1)] → W p l e { frames := 1, cells := 0, slots := 0, locals := 23 } s m args below meth c H locs 0 0 (MQ below (QC D (some (.int res.1)) (wM ad cy res.2) A) args s 0 0 A) (F0 m 2 ls []) := by
  have hx := F.1
  have hb := F.2.1
  intro k
  induction k with
  | zero =>
    intro st x1 hf
    exact absurd hf (by simp [f_X12_variableOf_2])
  | succ k ih =>
    intro st x1 hf H locs ls Z hl
    rw [f_X12_variableOf_2] at hf
    refine lv_iload_n hx hb dX12_variableOf_2 rfl (lv_at hl 1 rfl) ?_
    refine lv_aload_n hx hb dX12_variableOf_3 rfl (lv_at hl 0 rfl) ?_
    refine gmX12_280 F K Z dX12_variableOf_4 ?_
    refine lv_icmp_ge (tgt := 97) hx hb dX12_variableOf_7 (by decide) (fun c7 => ?_) (fun c7 => ?_)
    · have hf := if_t c7 hf
      refine lv_aload_n hx hb dX12_variableOf_97 rfl (lv_at hl 0 rfl) ?_
      refine gmX12_280 F K Z dX12_variableOf_98 ?_
      refine lv_bipush (v := 24) hx hb dX12_variableOf_101 (by decide) ?_
      refine lv_icmp_ne (tgt := 118) hx hb dX12_variableOf_103 (by decide) (fun c103 => ?_) (fun c103 => ?_)
      · have hf := if_f c103 hf
        refine lv_aload_n hx hb dX12_variableOf_118 rfl (lv_at hl 0 rfl) ?_
        refine gmX12_204 F K Z dX12_variableOf_119 ?_
        refine lv_sipush (v := 2000) hx hb dX12_variableOf_122 (by decide) ?_
        refine lv_icmp_ne (tgt := 140) hx hb dX12_variableOf_125 (by decide) (fun c125 => ?_) (fun c125 => ?_)
        · have hf := if_f c125 hf
          refine lv_iconst (v := 0) hx hb dX12_variableOf_140 (by decide) ?_
          refine lv_istore_n (lv' := [(1, .int (0 : Int32)), (0, .ref (ad 0))]) hx hb dX12_variableOf_141 rfl hl (by decide) rfl (fun ls hl => ?_)
          exact b_X12_variableOf_142 F hr hk K E hA _ _ _ hf _ _ _ Z (lv_sub hl [1, 0] rfl)
        have hf := if_t c125 hf
        refine lv_aload_n hx hb dX12_variableOf_128 rfl (lv_at hl 0 rfl) ?_
        refine lv_iconst (v := 5) hx hb dX12_variableOf_129 (by decide) ?_
        refine lv_aload_n hx hb dX12_variableOf_130 rfl (lv_at hl 0 rfl) ?_
        refine gmX12_227 F K Z dX12_variableOf_131 ?_
        obtain ⟨q134, h134, hf⟩ := bind_some hf
        refine krX12_266_X12_fail F K E hA Z h134 ⟨Nat.le_of_ble_eq_true rfl, Nat.le_of_ble_eq_true rfl⟩ hl.1 (Nat.le_of_ble_eq_true rfl) dX12_variableOf_134 (fun H locs Z => ?_)
        refine lv_istore_n (lv' := [(1, .int q134.1), (0, .ref (ad 0))]) hx hb dX12_variableOf_137 rfl hl (by decide) rfl (fun ls hl => ?_)
        refine lv_iconst (v := -1) hx hb dX12_variableOf_138 (by decide) ?_
        have hf := Option.some.inj hf
        subst hf
        exact ret_i F hr hk Z dX12_variableOf_139
      have hf := if_t c103 hf
      refine lv_aload_n hx hb dX12_variableOf_106 rfl (lv_at hl 0 rfl) ?_
      refine lv_iconst (v := 4) hx hb dX12_variableOf_107 (by decide) ?_
      refine lv_aload_n hx hb dX12_variableOf_108 rfl (lv_at hl 0 rfl) ?_
      refine gmX12_227 F K Z dX12_variableOf_109 ?_
      obtain ⟨q112, h112, hf⟩ := bind_some hf
      refine krX12_266_X12_fail F K E hA Z h112 ⟨Nat.le_of_ble_eq_true rfl, Nat.le_of_ble_eq_true rfl⟩ hl.1 (Nat.le_of_ble_eq_true rfl) dX12_variableOf_112 (fun H locs Z => ?_)
      refine lv_istore_n (lv' := [(1, .int q112.1), (0, .ref (ad 0))]) hx hb dX12_variableOf_115 rfl hl (by decide) rfl (fun ls hl => ?_)
      refine lv_iconst (v := -1) hx hb dX12_variableOf_116 (by decide) ?_
      have hf := Option.some.inj hf
      subst hf
      exact ret_i F hr hk Z dX12_variableOf_117
    have hf := if_f c7 hf
    refine lv_aload_n hx hb dX12_variableOf_10 rfl (lv_at hl 0 rfl) ?_
    refine gmX12_22 F K Z dX12_variableOf_11 ?_
    refine lv_iload_n hx hb dX12_variableOf_14 rfl (lv_at hl 1 rfl) ?_
    obtain ⟨i15, hf⟩ := if_some hf
    refine ml5 F K Z i15 dX12_variableOf_15 ?_
    refine lv_aload_n hx hb dX12_variableOf_16 rfl (lv_at hl 0 rfl) ?_
    refine gmX12_224 F K Z dX12_variableOf_17 ?_
    refine lv_icmp_ne (tgt := 27) hx hb dX12_variableOf_20 (by decide) (fun c20 => ?_) (fun c20 => ?_)
    · have hf := if_f c20 hf
      refine lv_iconst (v := 0) hx hb dX12_variableOf_27 (by decide) ?_
      refine lv_istore_n (lv' := [(2, .int (0 : Int32)), (0, .ref (ad 0)), (1, .int x1)]) hx hb dX12_variableOf_28 rfl hl (by decide) rfl (fun ls hl => ?_)
      refine lv_iconst (v := 0) hx hb dX12_variableOf_29 (by decide) ?_
      refine lv_istore_n (lv' := [(3, .int (0 : Int32)), (2, .int (0 : Int32)), (0, .ref (ad 0)), (1, .int x1)]) hx hb dX12_variableOf_30 rfl hl (by decide) rfl (fun ls hl => ?_)
      exact b_X12_variableOf_31 F hr hk K E hA ih _ _ _ _ _ hf _ _ _ Z (lv_sub hl [2, 3, 1, 0] rfl)
    have hf := if_t c20 hf
    refine lv_iconst (v := 1) hx hb dX12_variableOf_23 (by decide) ?_
    refine lv_goto (tgt := 28) hx hb dX12_variableOf_24 (by decide) ?_
    refine lv_istore_n (lv' := [(2, .int (1 : Int32)), (0, .ref (ad 0)), (1, .int x1)]) hx hb dX12_variableOf_28 rfl hl (by decide) rfl (fun ls hl => ?_)
    refine lv_iconst (v := 0) hx hb dX12_variableOf_29 (by decide) ?_
    refine lv_istore_n (lv' := [(3, .int (0 : Int32)), (2, .int (1 : Int32)), (0, .ref (ad 0)), (1, .int x1)]) hx hb dX12_variableOf_30 rfl hl (by decide) rfl (fun ls hl => ?_)
    exact b_X12_variableOf_31 F hr hk K E hA ih _ _ _ _ _ hf _ _ _ Z (lv_sub hl [2, 3, 1, 0] rfl)
set_option maxRecDepth 100000 in
set_option maxHeartbeats 4000000 in
theorem c_X12_variableOf {l : Launch} {D : va_G} {ad : Nat → Nat} {cy : Nat → ClassId} {ee : EE} {n : Nat} {st : StT} {res : (Int32 × StT)} (hf : f_X12_variableOf n st = some res) : CT l yX12_variableOf cX12_variableOf 4 (some .int) 1 23 D cy ee (wM ad cy st) (wM ad cy res.2) [.ref (ad 0)] (some (.int res.1)) := by
  refine CT.of (by decide +kernel) (Nat.le_of_ble_eq_true rfl) ?_
  intro p e s m args below meth c A F hr hk K E hA Z ls hl
  have hl : lv_has ls 4 [(0, .ref (ad 0))] := hl
  have hx := F.1
  have hb := F.2.1
  unfold f_X12_variableOf at hf
  refine lv_iconst (v := 0) hx hb dX12_variableOf_0 (by decide) ?_
  refine lv_istore_n (lv' := [(1, .int (0 : Int32)), (0, .ref (ad 0))]) hx hb dX12_variableOf_1 rfl hl (by decide) rfl (fun ls hl => ?_)
  exact b_X12_variableOf_2 F hr hk K E hA _ _ _ hf _ _ _ Z (lv_sub hl [1, 0] rfl)
def f_X12_madeAt (n : Nat) (st : StT) (x1 : Int32) (x2 : Int32) (x3 : Int32) (x4 : Int32) : Option (Int32 × StT) := (f_X12_formulaOf n st x1 x2 x3).bind fun q4 => (if 0 ≤ q4.1 then (some (q4.1, q4.2)) else ((f_X12_fail n q4.2 (5 : Int32) x4).bind fun q18 => (some (q4.1, q18.2))))
theorem wd1062 : Cond.methodLink RX12 283 yX12_formulaOf ∈ Gw := gT8 (List.mem_of_getElem? (i := 41) rfl) rfl
theorem wd1063 : Cond.code yX12_formulaOf prog_14_method_4_code 5 (some .int) ∈ Gw := gT8 (List.mem_of_getElem? (i := 44) rfl) rfl
theorem wd1064 : Cond.instanceMethod yX12_formulaOf ∈ Gw := gT8 (List.mem_of_getElem? (i := 43) rfl) rfl
theorem wd1065 : Cond.selects RX12 yX12_formulaOf yX12_formulaOf ∈ Gw := gP7 (q := (yX12_formulaOf, 98)) (List.mem_of_getElem? (i := 2) rfl)
section
variable {p : Program} {l : Launch} {e : Env} {R : Room} {s : State} {m : MethodId} {args : Array Value} {below : List Frame} {meth : Method} {c : Code} {H : Heap} {locs : List Loc} {Q : State → Prop}
variable {cc : ByteArray} {nL pc : Nat} {ls : Array Slot} {rest : List Value} {D : va_G} {A : Nat → Prop} {cw : Cond} {ad : Nat → Nat} {cy : Nat → ClassId} {ee : EE} {st : StT} {own : String}
theorem krX12_283_X12_formulaOf {n : Nat} {a0 : Int32} {a1 : Int32} {a2 : Int32} {q : (Int32 × StT)} (F : CallFix p m c cc nL s args (cw :: Gw) RX12) (K : va_K D vwCl (tyL cy) s) (E : EV ee A s s.heap) (hA : ∀ q, s.heap.size ≤ q → A q) (Z : ZG D (wM ad cy st) A s H locs) (hf : f_X12_formulaOf n st a0 a1 a2 = some q) (hR : 2 ≤ R.frames ∧ 48 ≤ R.locals) (hl : ls.size = nL) (hst : (rest.map fun v => v.category).sum ≤ 8) (hd : decode cc pc = .ok (.invokevirtual 283, 3)) (kk : ∀ (H1 : Heap) (locs1 : List Loc), ZG D (wM ad cy q.2) A s H1 locs1 → W p l e R s m args below meth c H1 locs1 0 0 Q (F0 m (pc + 3) ls (.int q.1 :: rest))) : W p l e R s m args below meth c H locs 0 0 Q (F0 m pc ls (.int a2 :: .int a1 :: .int a0 :: .ref (ad 0) :: rest)) :=
  call_V (q := (RX12, TX12, 98)) (n := 3) (As := [.int a0, .int a1, .int a2]) (rv := some (.int q.1)) 0 12 F K E hA Z (c_X12_formulaOf (l := l) (D := D) (ad := ad) (cy := cy) (ee := ee) hf) ⟨wd1063, wd1062, wd1064, wd1065, wd1008⟩ (by decide +kernel) rfl rfl hR rfl hl hst hd kk
end
set_option maxRecDepth 100000 in
set_option maxHeartbeats 4000000 in
theorem c_X12_madeAt {l : Launch} {D : va_G} {ad : Nat → Nat} {cy : Nat → ClassId} {ee : EE} {n : Nat} {st : StT} {x1 : Int32} {x2 : Int32} {x3 : Int32} {x4 : Int32} {res : (Int32 × StT)} (hf : f_X12_madeAt n st x1 x2 x3 x4 = some res) : CT l yX12_madeAt cX12_madeAt 7 (some .int) 2 48 D cy ee (wM ad cy st) (wM ad cy res.2) [.ref (ad 0), .int x1, .int x2, .int x3, .int x4] (some (.int res.1)) := by
  refine CT.of (by decide +kernel) (Nat.le_of_ble_eq_true rfl) ?_
  intro p e s m args below meth c A F hr hk K E hA Z ls hl
  have hl : lv_has ls 7 [(0, .ref (ad 0)), (1, .int x1), (2, .int x2), (3, .int x3), (4, .int x4)] := hl
  have hx := F.1
  have hb := F.2.1
  unfold f_X12_madeAt at hf
  refine lv_aload_n hx hb dX12_madeAt_0 rfl (lv_at hl 0 rfl) ?_
  refine lv_iload_n hx hb dX12_madeAt_1 rfl (lv_at hl 1 rfl) ?_
  refine lv_iload_n hx hb dX12_madeAt_2 rfl (lv_at hl 2 rfl) ?_
  refine lv_iload_n hx hb dX12_madeAt_3 rfl (lv_at hl 3 rfl) ?_
  obtain ⟨q4, h4, hf⟩ := bind_some hf
  refine krX12_283_X12_formulaOf F K E hA Z h4 ⟨Nat.le_of_ble_eq_true rfl, Nat.le_of_ble_eq_true rfl⟩ hl.1 (Nat.le_of_ble_eq_true rfl) dX12_madeAt_4 (fun H locs Z => ?_)
  refine lv_istore (lv' := [(5, .int q4.1), (0, .ref (ad 0)), (1, .int x1), (2, .int x2), (3, .int x3), (4, .int x4)]) hx hb dX12_madeAt_7 hl (by decide) rfl (fun ls hl => ?_)
  refine lv_iload hx hb dX12_madeAt_9 (lv_at hl 0 rfl) ?_
  refine lv_if_ge (tgt := 23) hx hb dX12_madeAt_11 (by decide) (fun c11 => ?_) (fun c11 => ?_)
  · have hf := if_t c11 hf
    refine lv_iload hx hb dX12_madeAt_23 (lv_at hl 0 rfl) ?_
    have hf := Option.some.inj hf
    subst hf
    exact ret_i F hr hk Z dX12_madeAt_25
  have hf := if_f c11 hf
  refine lv_aload_n hx hb dX12_madeAt_14 rfl (lv_at hl 1 rfl) ?_
  refine lv_iconst (v := 5) hx hb dX12_madeAt_15 (by decide) ?_
  refine lv_iload hx hb dX12_madeAt_16 (lv_at hl 5 rfl) ?_
  obtain ⟨q18, h18, hf⟩ := bind_some hf
  refine krX12_266_X12_fail F K E hA Z h18 ⟨Nat.le_of_ble_eq_true rfl, Nat.le_of_ble_eq_true rfl⟩ hl.1 (Nat.le_of_ble_eq_true rfl) dX12_madeAt_18 (fun H locs Z => ?_)
  refine lv_istore (lv' := [(6, .int q18.1), (5, .int q4.1), (0, .ref (ad 0)), (1, .int x1), (2, .int x2), (3, .int x3), (4, .int x4)]) hx hb dX12_madeAt_21 hl (by decide) rfl (fun ls hl => ?_)
  refine lv_iload hx hb dX12_madeAt_23 (lv_at hl 1 rfl) ?_
  have hf := Option.some.inj hf
  subst hf
  exact ret_i F hr hk Z dX12_madeAt_25
def f_X12_beginNot_112 (n : Nat) (st : StT) (x2 : Int32) : Option (Int32 × StT) := if x2 = (258 : Int32) then ((f_X12_pass n (uF st 17 (1 : Int32))).bind fun q129 => (some ((-1 : Int32), q129))) else ((f_X12_pass n (uF st 17 (0 : Int32))).bind fun q129 => (some ((-1 : Int32), q129)))
def f_X12_beginNot (n : Nat) (st : StT) (x1 : Int32) : Option (Int32 × StT) := (f_X12_look n st).bind fun q1 => (if (q1.2.1 10) = 0 then (if q1.1 = (126 : Int32) then (if inB x1 400 = true then ((f_X12_nest n (uA q1.2 13 x1 (q1.2.1 6))).bind fun q31 => (if q31.1 = 0 then (some ((-1 : Int32), q31.2)) else ((f_X12_pass n q31.2).bind fun q38 => (if inB x1 400 = true then (some ((4 : Int32), (uA q38 11 x1 (1 : Int32)))) else none)))) else none) else (if q1.1 = (40 : Int32) then ((f_X12_nest n q1.2).bind fun q57 => (if q57.1 = 0 then (some ((-1 : Int32), q57.2)) else ((f_X12_pass n q57.2).bind fun q64 => (if inB x1 400 = true then (some ((0 : Int32), (uA q64 11 x1 (2 : Int32)))) else none)))) else (if q1.1 = (257 : Int32) then ((f_X12_variableOf n q1.2).bind fun q85 => ((f_X12_pass n (uF q85.2 17 q85.1)).bind fun q92 => (some ((-1 : Int32), q92)))) else (if q1.1 = (258 : Int32) then (f_X12_beginNot_112 n q1.2 q1.1) else (if q1.1 = (259 : Int32) then (f_X12_beginNot_112 n q1.2 q1.1) else ((f_X12_fail n q1.2 (2 : Int32) (q1.2.1 6)).bind fun q141 => (some ((-1 : Int32), q141.2)))))))) else (some ((-1 : Int32), q1.2)))
theorem wd1066 : Cond.fieldLink RX12 293 "WorldProverModel" "value" "I" ∈ Gw := gT6 (List.mem_of_getElem? (i := 89) rfl) rfl
theorem wd1067 : Cond.fieldLink RX12 48 "WorldProverModel" "stage" "[I" ∈ Gw := gT6 (List.mem_of_getElem? (i := 86) rfl) rfl
theorem wd1068 : Cond.fieldLink RX12 54 "WorldProverModel" "signPlace" "[I" ∈ Gw := gT6 (List.mem_of_getElem? (i := 88) rfl) rfl
theorem wd1069 : Cond.methodLink RX12 290 yX12_variableOf ∈ Gw := gT8 (List.mem_of_getElem? (i := 25) rfl) rfl
theorem wd1070 : Cond.code yX12_variableOf prog_14_method_16_code 4 (some .int) ∈ Gw := gT8 (List.mem_of_getElem? (i := 28) rfl) rfl
theorem wd1071 : Cond.instanceMethod yX12_variableOf ∈ Gw := gT8 (List.mem_of_getElem? (i := 27) rfl) rfl
theorem wd1072 : Cond.selects RX12 yX12_variableOf yX12_variableOf ∈ Gw := gP6 (q := (yX12_variableOf, 98)) (List.mem_of_getElem? (i := 14) rfl)
theorem wd1073 : Cond.methodLink RX12 286 yX12_nest ∈ Gw := gT8 (List.mem_of_getElem? (i := 17) rfl) rfl
theorem wd1074 : Cond.code yX12_nest prog_14_method_15_code 1 (some .boolean) ∈ Gw := gT8 (List.mem_of_getElem? (i := 20) rfl) rfl
theorem wd1075 : Cond.instanceMethod yX12_nest ∈ Gw := gT8 (List.mem_of_getElem? (i := 19) rfl) rfl
theorem wd1076 : Cond.selects RX12 yX12_nest yX12_nest ∈ Gw := gP6 (q := (yX12_nest, 98)) (List.mem_of_getElem? (i := 12) rfl)
section
variable {p : Program} {l : Launch} {e : Env} {R : Room} {s : State} {m : MethodId} {args : Array Value} {below : List Frame} {meth : Method} {c : Code} {H : Heap} {locs : List Loc} {Q : State → Prop}
variable {cc : ByteArray} {nL pc : Nat} {ls : Array Slot} {rest : List Value} {D : va_G} {A : Nat → Prop} {cw : Cond} {ad : Nat → Nat} {cy : Nat → ClassId} {ee : EE} {st : StT} {own : String}
theorem pmX12_293 {v : Int32} (F : CallFix p m c cc nL s args (cw :: Gw) RX12) (K : va_K D vwCl (tyL cy) s) (Z : ZG D (wM ad cy st) A s H locs) (hd : decode cc pc = .ok (.putfield 293, 3)) (kk : ∀ (H1 : Heap) (locs1 : List Loc), ZG D (wM ad cy (uF st 17 v)) A s H1 locs1 → W p l e R s m args below meth c H1 locs1 0 0 Q (F0 m (pc + 3) ls rest)) : W p l e R s m args below meth c H locs 0 0 Q (F0 m pc ls (.int v :: .ref (ad 0) :: rest)) :=
  va_put (D := D) (ci := 12) (v := .int v) (ty := .int) (C := RX12) (T := TX12) (N := 98) F.1 F.2.1 F.2.2.2.2 (fun w h => List.mem_cons_of_mem _ (inG_X12 w h)) tyX12 tyX12_ok nmX12 F.2.2.2.1 K Z.1 Z.2.1 Z.2.2 0 rfl rfl 31 (by decide) (F.2.2.2.2 _ (List.mem_cons_of_mem _ wd1066)) (fun _ h => h) rfl (by decide +kernel) rfl rfl (Nat.le_of_ble_eq_true rfl) hd (fun H1 locs1 hP hD hS => kk H1 locs1 ⟨hP, hD, hS⟩)
theorem gmX12_48 (F : CallFix p m c cc nL s args (cw :: Gw) RX12) (K : va_K D vwCl (tyL cy) s) (Z : ZG D (wM ad cy st) A s H locs) (hd : decode cc pc = .ok (.getfield 48, 3)) (kk : W p l e R s m args below meth c H locs 0 0 Q (F0 m (pc + 3) ls (.ref (ad 12) :: rest))) : W p l e R s m args below meth c H locs 0 0 Q (F0 m pc ls (.ref (ad 0) :: rest)) :=
  va_get (D := D) (ci := 12) (C := RX12) (T := TX12) (N := 98) F.1 F.2.1 F.2.2.2.2 (fun w h => List.mem_cons_of_mem _ (inG_X12 w h)) F.2.2.2.1 K Z.1 0 rfl rfl 28 (by decide) (F.2.2.2.2 _ (List.mem_cons_of_mem _ wd1067)) (fun _ h => h) rfl hd kk
theorem ms12 {i : Int32} {v : Int32} (F : CallFix p m c cc nL s args (cw :: Gw) own) (K : va_K D vwCl (tyL cy) s) (Z : ZG D (wM ad cy st) A s H locs) (hi : inB i 400 = true) (hd : decode cc pc = .ok (.iastore, 1)) (kk : ∀ (H1 : Heap) (locs1 : List Loc), ZG D (wM ad cy (uA st 11 i v)) A s H1 locs1 → W p l e R s m args below meth c H1 locs1 0 0 Q (F0 m (pc + 1) ls rest)) : W p l e R s m args below meth c H locs 0 0 Q (F0 m pc ls (.int v :: .int i :: .ref (ad 12) :: rest)) :=
  va_iast F.1 F.2.1 K Z.1 Z.2.1 Z.2.2 12 1 rfl rfl (inB_vp hi) hd (fun H1 locs1 hP hD hS => kk H1 locs1 ⟨hP, hD, hS⟩)
theorem gmX12_54 (F : CallFix p m c cc nL s args (cw :: Gw) RX12) (K : va_K D vwCl (tyL cy) s) (Z : ZG D (wM ad cy st) A s H locs) (hd : decode cc pc = .ok (.getfield 54, 3)) (kk : W p l e R s m args below meth c H locs 0 0 Q (F0 m (pc + 3) ls (.ref (ad 14) :: rest))) : W p l e R s m args below meth c H locs 0 0 Q (F0 m pc ls (.ref (ad 0) :: rest)) :=
  va_get (D := D) (ci := 12) (C := RX12) (T := TX12) (N := 98) F.1 F.2.1 F.2.2.2.2 (fun w h => List.mem_cons_of_mem _ (inG_X12 w h)) F.2.2.2.1 K Z.1 0 rfl rfl 30 (by decide) (F.2.2.2.2 _ (List.mem_cons_of_mem _ wd1068)) (fun _ h => h) rfl hd kk
theorem ms14 {i : Int32} {v : Int32} (F : CallFix p m c cc nL s args (cw :: Gw) own) (K : va_K D vwCl (tyL cy) s) (Z : ZG D (wM ad cy st) A s H locs) (hi : inB i 400 = true) (hd : decode cc pc = .ok (.iastore, 1)) (kk : ∀ (H1 : Heap) (locs1 : List Loc), ZG D (wM ad cy (uA st 13 i v)) A s H1 locs1 → W p l e R s m args below meth c H1 locs1 0 0 Q (F0 m (pc + 1) ls rest)) : W p l e R s m args below meth c H locs 0 0 Q (F0 m pc ls (.int v :: .int i :: .ref (ad 14) :: rest)) :=
  va_iast F.1 F.2.1 K Z.1 Z.2.1 Z.2.2 14 1 rfl rfl (inB_vp hi) hd (fun H1 locs1 hP hD hS => kk H1 locs1 ⟨hP, hD, hS⟩)
theorem krX12_290_X12_variableOf {n : Nat}  {q : (Int32 × StT)} (F : CallFix p m c cc nL s args (cw :: Gw) RX12) (K : va_K D vwCl (tyL cy) s) (E : EV ee A s s.heap) (hA : ∀ q, s.heap.size ≤ q → A q) (Z : ZG D (wM ad cy st) A s H locs) (hf : f_X12_variableOf n st = some q) (hR : 2 ≤ R.frames ∧ 46 ≤ R.locals) (hl : ls.size = nL) (hst : (rest.map fun v => v.category).sum ≤ 8) (hd : decode cc pc = .ok (.invokevirtual 290, 3)) (kk : ∀ (H1 : Heap) (locs1 : List Loc), ZG D (wM ad cy q.2) A s H1 locs1 → W p l e R s m args below meth c H1 locs1 0 0 Q (F0 m (pc + 3) ls (.int q.1 :: rest))) : W p l e R s m args below meth c H locs 0 0 Q (F0 m pc ls (.ref (ad 0) :: rest)) :=
  call_V (q := (RX12, TX12, 98)) (n := 0) (As := []) (rv := some (.int q.1)) 0 12 F K E hA Z (c_X12_variableOf (l := l) (D := D) (ad := ad) (cy := cy) (ee := ee) hf) ⟨wd1070, wd1069, wd1071, wd1072, wd1008⟩ (by decide +kernel) rfl rfl hR rfl hl hst hd kk
theorem krX12_286_X12_nest {n : Nat}  {q : (Int32 × StT)} (F : CallFix p m c cc nL s args (cw :: Gw) RX12) (K : va_K D vwCl (tyL cy) s) (E : EV ee A s s.heap) (hA : ∀ q, s.heap.size ≤ q → A q) (Z : ZG D (wM ad cy st) A s H locs) (hf : f_X12_nest n st = some q) (hR : 2 ≤ R.frames ∧ 42 ≤ R.locals) (hl : ls.size = nL) (hst : (rest.map fun v => v.category).sum ≤ 8) (hd : decode cc pc = .ok (.invokevirtual 286, 3)) (kk : ∀ (H1 : Heap) (locs1 : List Loc), ZG D (wM ad cy q.2) A s H1 locs1 → W p l e R s m args below meth c H1 locs1 0 0 Q (F0 m (pc + 3) ls (.int q.1 :: rest))) : W p l e R s m args below meth c H locs 0 0 Q (F0 m pc ls (.ref (ad 0) :: rest)) :=
  call_V (q := (RX12, TX12, 98)) (n := 0) (As := []) (rv := some (.int q.1)) 0 12 F K E hA Z (c_X12_nest (l := l) (D := D) (ad := ad) (cy := cy) (ee := ee) hf) ⟨wd1074, wd1073, wd1075, wd1076, wd1008⟩ (by decide +kernel) rfl rfl hR rfl hl hst hd kk
end
set_option maxRecDepth 100000 in
set_option maxHeartbeats 4000000 in
theorem b_X12_beginNot_112 {p : Program} {l : Launch} {e : Env} {s : State} {m : MethodId} {args : Array Value} {below : List Frame} {meth : Method} {c : Code} {D : va_G} {A : Nat → Prop} {ad : Nat → Nat} {cy : Nat → ClassId} {ee : EE} {n : Nat} {res : (Int32 × StT)} (F : CallFix p m c cX12_beginNot 4 s args (Cond.code yX12_beginNot cX12_beginNot 4 (some .int) :: Gw) yX12_beginNot.cls) (hr : meth.sig.returnType = (some .int)) (hk : meth.locks = false) (K : va_K D vwCl (tyL cy) s) (E : EV ee A s s.heap) (hA : ∀ q, s.heap.size ≤ q → A q) : ∀ (st : StT) (x2 : Int32), f_X12_beginNot_112 n st x2 = some res → ∀ (H : Heap) (locs : List Loc) (ls : Array Slot), ZG D (wM ad cy st) A s H locs → lv_has ls 4 [(0, .ref (ad 0)), (2, .int x2)] → W p l e { frames := 3, cells := 0, slots := 0, locals := 68 } s m args below meth c H locs 0 0 (MQ below (QC D (some (.int res.1)) (wM ad cy res.2) A) args s 0 0 A) (F0 m 112 ls []) := by
  have hx := F.1
  have hb := F.2.1
  intro st x2 hf H locs ls Z hl
  unfold f_X12_beginNot_112 at hf
  refine lv_aload_n hx hb dX12_beginNot_112 rfl (lv_at hl 0 rfl) ?_
  refine lv_iload_n hx hb dX12_beginNot_113 rfl (lv_at hl 1 rfl) ?_
  refine lv_sipush (v := 258) hx hb dX12_beginNot_114 (by decide) ?_
  refine lv_icmp_ne (tgt := 124) hx hb dX12_beginNot_117 (by decide) (fun c117 => ?_) (fun c117 => ?_)
  · have hf := if_f c117 hf
    refine lv_iconst (v := 0) hx hb dX12_beginNot_124 (by decide) ?_
    refine pmX12_293 F K Z dX12_beginNot_125 (fun H locs Z => ?_)
    refine lv_aload_n hx hb dX12_beginNot_128 rfl (lv_at hl 0 rfl) ?_
    obtain ⟨q129, h129, hf⟩ := bind_some hf
    refine krX12_274_X12_pass F K E hA Z h129 ⟨Nat.le_of_ble_eq_true rfl, Nat.le_of_ble_eq_true rfl⟩ hl.1 (Nat.le_of_ble_eq_true rfl) dX12_beginNot_129 (fun H locs Z => ?_)
    refine lv_goto (tgt := 145) hx hb dX12_beginNot_132 (by decide) ?_
    refine lv_iconst (v := -1) hx hb dX12_beginNot_145 (by decide) ?_
    have hf := Option.some.inj hf
    subst hf
    exact ret_i F hr hk Z dX12_beginNot_146
  have hf := if_t c117 hf
  refine lv_iconst (v := 1) hx hb dX12_beginNot_120 (by decide) ?_
  refine lv_goto (tgt := 125) hx hb dX12_beginNot_121 (by decide) ?_
  refine pmX12_293 F K Z dX12_beginNot_125 (fun H locs Z => ?_)
  refine lv_aload_n hx hb dX12_beginNot_128 rfl (lv_at hl 0 rfl) ?_
  obtain ⟨q129, h129, hf⟩ := bind_some hf
  refine krX12_274_X12_pass F K E hA Z h129 ⟨Nat.le_of_ble_eq_true rfl, Nat.le_of_ble_eq_true rfl⟩ hl.1 (Nat.le_of_ble_eq_true rfl) dX12_beginNot_129 (fun H locs Z => ?_)
  refine lv_goto (tgt := 145) hx hb dX12_beginNot_132 (by decide) ?_
  refine lv_iconst (v := -1) hx hb dX12_beginNot_145 (by decide) ?_
  have hf := Option.some.inj hf
  subst hf
  exact ret_i F hr hk Z dX12_beginNot_146
set_option maxRecDepth 100000 in
set_option maxHeartbeats 4000000 in
theorem c_X12_beginNot {l : Launch} {D : va_G} {ad : Nat → Nat} {cy : Nat → ClassId} {ee : EE} {n : Nat} {st : StT} {x1 : Int32} {res : (Int32 × StT)} (hf : f_X12_beginNot n st x1 = some res) : CT l yX12_beginNot cX12_beginNot 4 (some .int) 3 68 D cy ee (wM ad cy st) (wM ad cy res.2) [.ref (ad 0), .int x1] (some (.int res.1)) := by
  refine CT.of (by decide +kernel) (Nat.le_of_ble_eq_true rfl) ?_
  intro p e s m args below meth c A F hr hk K E hA Z ls hl
  have hl : lv_has ls 4 [(0, .ref (ad 0)), (1, .int x1)] := hl
  have hx := F.1
  have hb := F.2.1
  unfold f_X12_beginNot at hf
  refine lv_aload_n hx hb dX12_beginNot_0 rfl (lv_at hl 0 rfl) ?_
  obtain ⟨q1, h1, hf⟩ := bind_some hf
  refine krX12_270_X12_look F K E hA Z h1 ⟨Nat.le_of_ble_eq_true rfl, Nat.le_of_ble_eq_true rfl⟩ hl.1 (Nat.le_of_ble_eq_true rfl) dX12_beginNot_1 (fun H locs Z => ?_)
  refine lv_istore_n (lv' := [(2, .int q1.1), (0, .ref (ad 0)), (1, .int x1)]) hx hb dX12_beginNot_4 rfl hl (by decide) rfl (fun ls hl => ?_)
  refine lv_aload_n hx hb dX12_beginNot_5 rfl (lv_at hl 1 rfl) ?_
  refine gmX12_257 F K Z dX12_beginNot_6 ?_
  refine lv_if_eq (tgt := 14) hx hb dX12_beginNot_9 (by decide) (fun c9 => ?_) (fun c9 => ?_)
  · have hf := if_t c9 hf
    refine lv_iload_n hx hb dX12_beginNot_14 rfl (lv_at hl 0 rfl) ?_
    refine lv_bipush (v := 126) hx hb dX12_beginNot_15 (by decide) ?_
    refine lv_icmp_ne (tgt := 50) hx hb dX12_beginNot_17 (by decide) (fun c17 => ?_) (fun c17 => ?_)
    · have hf := if_f c17 hf
      refine lv_iload_n hx hb dX12_beginNot_50 rfl (lv_at hl 0 rfl) ?_
      refine lv_bipush (v := 40) hx hb dX12_beginNot_51 (by decide) ?_
      refine lv_icmp_ne (tgt := 76) hx hb dX12_beginNot_53 (by decide) (fun c53 => ?_) (fun c53 => ?_)
      · have hf := if_f c53 hf
        refine lv_iload_n hx hb dX12_beginNot_76 rfl (lv_at hl 0 rfl) ?_
        refine lv_sipush (v := 257) hx hb dX12_beginNot_77 (by decide) ?_
        refine lv_icmp_ne (tgt := 98) hx hb dX12_beginNot_80 (by decide) (fun c80 => ?_) (fun c80 => ?_)
        · have hf := if_f c80 hf
          refine lv_iload_n hx hb dX12_beginNot_98 rfl (lv_at hl 0 rfl) ?_
          refine lv_sipush (v := 258) hx hb dX12_beginNot_99 (by decide) ?_
          refine lv_icmp_eq (tgt := 112) hx hb dX12_beginNot_102 (by decide) (fun c102 => ?_) (fun c102 => ?_)
          · have hf := if_t c102 hf
            exact b_X12_beginNot_112 F hr hk K E hA _ _ hf _ _ _ Z (lv_sub hl [1, 0] rfl)
          have hf := if_f c102 hf
          refine lv_iload_n hx hb dX12_beginNot_105 rfl (lv_at hl 0 rfl) ?_
          refine lv_sipush (v := 259) hx hb dX12_beginNot_106 (by decide) ?_
          refine lv_icmp_ne (tgt := 135) hx hb dX12_beginNot_109 (by decide) (fun c109 => ?_) (fun c109 => ?_)
          · have hf := if_f c109 hf
            refine lv_aload_n hx hb dX12_beginNot_135 rfl (lv_at hl 1 rfl) ?_
            refine lv_iconst (v := 2) hx hb dX12_beginNot_136 (by decide) ?_
            refine lv_aload_n hx hb dX12_beginNot_137 rfl (lv_at hl 1 rfl) ?_
            refine gmX12_227 F K Z dX12_beginNot_138 ?_
            obtain ⟨q141, h141, hf⟩ := bind_some hf
            refine krX12_266_X12_fail F K E hA Z h141 ⟨Nat.le_of_ble_eq_true rfl, Nat.le_of_ble_eq_true rfl⟩ hl.1 (Nat.le_of_ble_eq_true rfl) dX12_beginNot_141 (fun H locs Z => ?_)
            refine lv_istore_n (lv' := [(3, .int q141.1), (2, .int q1.1), (0, .ref (ad 0)), (1, .int x1)]) hx hb dX12_beginNot_144 rfl hl (by decide) rfl (fun ls hl => ?_)
            refine lv_iconst (v := -1) hx hb dX12_beginNot_145 (by decide) ?_
            have hf := Option.some.inj hf
            subst hf
            exact ret_i F hr hk Z dX12_beginNot_146
          have hf := if_t c109 hf
          exact b_X12_beginNot_112 F hr hk K E hA _ _ hf _ _ _ Z (lv_sub hl [1, 0] rfl)
        have hf := if_t c80 hf
        refine lv_aload_n hx hb dX12_beginNot_83 rfl (lv_at hl 1 rfl) ?_
        refine lv_aload_n hx hb dX12_beginNot_84 rfl (lv_at hl 1 rfl) ?_
        obtain ⟨q85, h85, hf⟩ := bind_some hf
        refine krX12_290_X12_variableOf F K E hA Z h85 ⟨Nat.le_of_ble_eq_true rfl, Nat.le_of_ble_eq_true rfl⟩ hl.1 (Nat.le_of_ble_eq_true rfl) dX12_beginNot_85 (fun H locs Z => ?_)
        refine pmX12_293 F K Z dX12_beginNot_88 (fun H locs Z => ?_)
        refine lv_aload_n hx hb dX12_beginNot_91 rfl (lv_at hl 1 rfl) ?_
        obtain ⟨q92, h92, hf⟩ := bind_some hf
        refine krX12_274_X12_pass F K E hA Z h92 ⟨Nat.le_of_ble_eq_true rfl, Nat.le_of_ble_eq_true rfl⟩ hl.1 (Nat.le_of_ble_eq_true rfl) dX12_beginNot_92 (fun H locs Z => ?_)
        refine lv_goto (tgt := 145) hx hb dX12_beginNot_95 (by decide) ?_
        refine lv_iconst (v := -1) hx hb dX12_beginNot_145 (by decide) ?_
        have hf := Option.some.inj hf
        subst hf
        exact ret_i F hr hk Z dX12_beginNot_146
      have hf := if_t c53 hf
      refine lv_aload_n hx hb dX12_beginNot_56 rfl (lv_at hl 1 rfl) ?_
      obtain ⟨q57, h57, hf⟩ := bind_some hf
      refine krX12_286_X12_nest F K E hA Z h57 ⟨Nat.le_of_ble_eq_true rfl, Nat.le_of_ble_eq_true rfl⟩ hl.1 (Nat.le_of_ble_eq_true rfl) dX12_beginNot_57 (fun H locs Z => ?_)
      refine lv_if_eq (tgt := 145) hx hb dX12_beginNot_60 (by decide) (fun c60 => ?_) (fun c60 => ?_)
      · have hf := if_t c60 hf
        refine lv_iconst (v := -1) hx hb dX12_beginNot_145 (by decide) ?_
        have hf := Option.some.inj hf
        subst hf
        exact ret_i F hr hk Z dX12_beginNot_146
      have hf := if_f c60 hf
      refine lv_aload_n hx hb dX12_beginNot_63 rfl (lv_at hl 1 rfl) ?_
      obtain ⟨q64, h64, hf⟩ := bind_some hf
      refine krX12_274_X12_pass F K E hA Z h64 ⟨Nat.le_of_ble_eq_true rfl, Nat.le_of_ble_eq_true rfl⟩ hl.1 (Nat.le_of_ble_eq_true rfl) dX12_beginNot_64 (fun H locs Z => ?_)
      refine lv_aload_n hx hb dX12_beginNot_67 rfl (lv_at hl 1 rfl) ?_
      refine gmX12_48 F K Z dX12_beginNot_68 ?_
      refine lv_iload_n hx hb dX12_beginNot_71 rfl (lv_at hl 2 rfl) ?_
      refine lv_iconst (v := 2) hx hb dX12_beginNot_72 (by decide) ?_
      obtain ⟨i73, hf⟩ := if_some hf
      refine ms12 F K Z i73 dX12_beginNot_73 (fun H locs Z => ?_)
      refine lv_iconst (v := 0) hx hb dX12_beginNot_74 (by decide) ?_
      have hf := Option.some.inj hf
      subst hf
      exact ret_i F hr hk Z dX12_beginNot_75
    have hf := if_t c17 hf
    refine lv_aload_n hx hb dX12_beginNot_20 rfl (lv_at hl 1 rfl) ?_
    refine gmX12_54 F K Z dX12_beginNot_21 ?_
    refine lv_iload_n hx hb dX12_beginNot_24 rfl (lv_at hl 2 rfl) ?_
    refine lv_aload_n hx hb dX12_beginNot_25 rfl (lv_at hl 1 rfl) ?_
    refine gmX12_227 F K Z dX12_beginNot_26 ?_
    obtain ⟨i29, hf⟩ := if_some hf
    refine ms14 F K Z i29 dX12_beginNot_29 (fun H locs Z => ?_)
    refine lv_aload_n hx hb dX12_beginNot_30 rfl (lv_at hl 1 rfl) ?_
    obtain ⟨q31, h31, hf⟩ := bind_some hf
    refine krX12_286_X12_nest F K E hA Z h31 ⟨Nat.le_of_ble_eq_true rfl, Nat.le_of_ble_eq_true rfl⟩ hl.1 (Nat.le_of_ble_eq_true rfl) dX12_beginNot_31 (fun H locs Z => ?_)
    refine lv_if_eq (tgt := 145) hx hb dX12_beginNot_34 (by decide) (fun c34 => ?_) (fun c34 => ?_)
    · have hf := if_t c34 hf
      refine lv_iconst (v := -1) hx hb dX12_beginNot_145 (by decide) ?_
      have hf := Option.some.inj hf
      subst hf
      exact ret_i F hr hk Z dX12_beginNot_146
    have hf := if_f c34 hf
    refine lv_aload_n hx hb dX12_beginNot_37 rfl (lv_at hl 1 rfl) ?_
    obtain ⟨q38, h38, hf⟩ := bind_some hf
    refine krX12_274_X12_pass F K E hA Z h38 ⟨Nat.le_of_ble_eq_true rfl, Nat.le_of_ble_eq_true rfl⟩ hl.1 (Nat.le_of_ble_eq_true rfl) dX12_beginNot_38 (fun H locs Z => ?_)
    refine lv_aload_n hx hb dX12_beginNot_41 rfl (lv_at hl 1 rfl) ?_
    refine gmX12_48 F K Z dX12_beginNot_42 ?_
    refine lv_iload_n hx hb dX12_beginNot_45 rfl (lv_at hl 2 rfl) ?_
    refine lv_iconst (v := 1) hx hb dX12_beginNot_46 (by decide) ?_
    obtain ⟨i47, hf⟩ := if_some hf
    refine ms12 F K Z i47 dX12_beginNot_47 (fun H locs Z => ?_)
    refine lv_iconst (v := 4) hx hb dX12_beginNot_48 (by decide) ?_
    have hf := Option.some.inj hf
    subst hf
    exact ret_i F hr hk Z dX12_beginNot_49
  have hf := if_f c9 hf
  refine lv_iconst (v := -1) hx hb dX12_beginNot_12 (by decide) ?_
  have hf := Option.some.inj hf
  subst hf
  exact ret_i F hr hk Z dX12_beginNot_13
def f_X12_arrow (n : Nat) (st : StT) (x1 : Int32) (x2 : Int32) (x3 : Int32) : Option (Int32 × StT) := (f_X12_look n (uF st 17 x2)).bind fun q6 => (if q6.1 = x3 then ((f_X12_nest n q6.2).bind fun q14 => (if q14.1 = 0 then (some ((-1 : Int32), q14.2)) else (if inB x1 400 = true then (if inB x1 400 = true then (if inB x1 400 = true then ((f_X12_pass n (uA (uA (uA q14.2 12 x1 x2) 13 x1 ((uA q14.2 12 x1 x2).1 6)) 11 x1 (1 : Int32))).bind fun q47 => (some ((1 : Int32), q47))) else none) else none) else none))) else (some ((-1 : Int32), q6.2)))
theorem wd1077 : Cond.fieldLink RX12 45 "WorldProverModel" "level" "[I" ∈ Gw := gT6 (List.mem_of_getElem? (i := 85) rfl) rfl
theorem wd1078 : Cond.fieldLink RX12 51 "WorldProverModel" "held" "[I" ∈ Gw := gT6 (List.mem_of_getElem? (i := 87) rfl) rfl
section
variable {p : Program} {l : Launch} {e : Env} {R : Room} {s : State} {m : MethodId} {args : Array Value} {below : List Frame} {meth : Method} {c : Code} {H : Heap} {locs : List Loc} {Q : State → Prop}
variable {cc : ByteArray} {nL pc : Nat} {ls : Array Slot} {rest : List Value} {D : va_G} {A : Nat → Prop} {cw : Cond} {ad : Nat → Nat} {cy : Nat → ClassId} {ee : EE} {st : StT} {own : String}
theorem gmX12_293 (F : CallFix p m c cc nL s args (cw :: Gw) RX12) (K : va_K D vwCl (tyL cy) s) (Z : ZG D (wM ad cy st) A s H locs) (hd : decode cc pc = .ok (.getfield 293, 3)) (kk : W p l e R s m args below meth c H locs 0 0 Q (F0 m (pc + 3) ls (.int (st.1 17) :: rest))) : W p l e R s m args below meth c H locs 0 0 Q (F0 m pc ls (.ref (ad 0) :: rest)) :=
  va_get (D := D) (ci := 12) (C := RX12) (T := TX12) (N := 98) F.1 F.2.1 F.2.2.2.2 (fun w h => List.mem_cons_of_mem _ (inG_X12 w h)) F.2.2.2.1 K Z.1 0 rfl rfl 31 (by decide) (F.2.2.2.2 _ (List.mem_cons_of_mem _ wd1066)) (fun _ h => h) rfl hd kk
theorem gmX12_45 (F : CallFix p m c cc nL s args (cw :: Gw) RX12) (K : va_K D vwCl (tyL cy) s) (Z : ZG D (wM ad cy st) A s H locs) (hd : decode cc pc = .ok (.getfield 45, 3)) (kk : W p l e R s m args below meth c H locs 0 0 Q (F0 m (pc + 3) ls (.ref (ad 11) :: rest))) : W p l e R s m args below meth c H locs 0 0 Q (F0 m pc ls (.ref (ad 0) :: rest)) :=
  va_get (D := D) (ci := 12) (C := RX12) (T := TX12) (N := 98) F.1 F.2.1 F.2.2.2.2 (fun w h => List.mem_cons_of_mem _ (inG_X12 w h)) F.2.2.2.1 K Z.1 0 rfl rfl 27 (by decide) (F.2.2.2.2 _ (List.mem_cons_of_mem _ wd1077)) (fun _ h => h) rfl hd kk
theorem ml11 {i : Int32} (F : CallFix p m c cc nL s args (cw :: Gw) own) (K : va_K D vwCl (tyL cy) s) (Z : ZG D (wM ad cy st) A s H locs) (hi : inB i 400 = true) (hd : decode cc pc = .ok (.iaload, 1)) (kk : W p l e R s m args below meth c H locs 0 0 Q (F0 m (pc + 1) ls (.int (st.2.1 10 i.toNatClampNeg) :: rest))) : W p l e R s m args below meth c H locs 0 0 Q (F0 m pc ls (.int i :: .ref (ad 11) :: rest)) :=
  va_iald F.1 F.2.1 K Z.1 11 1 rfl rfl (inB_vp hi) hd kk
theorem ml12 {i : Int32} (F : CallFix p m c cc nL s args (cw :: Gw) own) (K : va_K D vwCl (tyL cy) s) (Z : ZG D (wM ad cy st) A s H locs) (hi : inB i 400 = true) (hd : decode cc pc = .ok (.iaload, 1)) (kk : W p l e R s m args below meth c H locs 0 0 Q (F0 m (pc + 1) ls (.int (st.2.1 11 i.toNatClampNeg) :: rest))) : W p l e R s m args below meth c H locs 0 0 Q (F0 m pc ls (.int i :: .ref (ad 12) :: rest)) :=
  va_iald F.1 F.2.1 K Z.1 12 1 rfl rfl (inB_vp hi) hd kk
theorem gmX12_51 (F : CallFix p m c cc nL s args (cw :: Gw) RX12) (K : va_K D vwCl (tyL cy) s) (Z : ZG D (wM ad cy st) A s H locs) (hd : decode cc pc = .ok (.getfield 51, 3)) (kk : W p l e R s m args below meth c H locs 0 0 Q (F0 m (pc + 3) ls (.ref (ad 13) :: rest))) : W p l e R s m args below meth c H locs 0 0 Q (F0 m pc ls (.ref (ad 0) :: rest)) :=
  va_get (D := D) (ci := 12) (C := RX12) (T := TX12) (N := 98) F.1 F.2.1 F.2.2.2.2 (fun w h => List.mem_cons_of_mem _ (inG_X12 w h)) F.2.2.2.1 K Z.1 0 rfl rfl 29 (by decide) (F.2.2.2.2 _ (List.mem_cons_of_mem _ wd1078)) (fun _ h => h) rfl hd kk
theorem ml13 {i : Int32} (F : CallFix p m c cc nL s args (cw :: Gw) own) (K : va_K D vwCl (tyL cy) s) (Z : ZG D (wM ad cy st) A s H locs) (hi : inB i 400 = true) (hd : decode cc pc = .ok (.iaload, 1)) (kk : W p l e R s m args below meth c H locs 0 0 Q (F0 m (pc + 1) ls (.int (st.2.1 12 i.toNatClampNeg) :: rest))) : W p l e R s m args below meth c H locs 0 0 Q (F0 m pc ls (.int i :: .ref (ad 13) :: rest)) :=
  va_iald F.1 F.2.1 K Z.1 13 1 rfl rfl (inB_vp hi) hd kk
theorem ml14 {i : Int32} (F : CallFix p m c cc nL s args (cw :: Gw) own) (K : va_K D vwCl (tyL cy) s) (Z : ZG D (wM ad cy st) A s H locs) (hi : inB i 400 = true) (hd : decode cc pc = .ok (.iaload, 1)) (kk : W p l e R s m args below meth c H locs 0 0 Q (F0 m (pc + 1) ls (.int (st.2.1 13 i.toNatClampNeg) :: rest))) : W p l e R s m args below meth c H locs 0 0 Q (F0 m pc ls (.int i :: .ref (ad 14) :: rest)) :=
  va_iald F.1 F.2.1 K Z.1 14 1 rfl rfl (inB_vp hi) hd kk
theorem ms13 {i : Int32} {v : Int32} (F : CallFix p m c cc nL s args (cw :: Gw) own) (K : va_K D vwCl (tyL cy) s) (Z : ZG D (wM ad cy st) A s H locs) (hi : inB i 400 = true) (hd : decode cc pc = .ok (.iastore, 1)) (kk : ∀ (H1 : Heap) (locs1 : List Loc), ZG D (wM ad cy (uA st 12 i v)) A s H1 locs1 → W p l e R s m args below meth c H1 locs1 0 0 Q (F0 m (pc + 1) ls rest)) : W p l e R s m args below meth c H locs 0 0 Q (F0 m pc ls (.int v :: .int i :: .ref (ad 13) :: rest)) :=
  va_iast F.1 F.2.1 K Z.1 Z.2.1 Z.2.2 13 1 rfl rfl (inB_vp hi) hd (fun H1 locs1 hP hD hS => kk H1 locs1 ⟨hP, hD, hS⟩)
end
set_option maxRecDepth 100000 in
set_option maxHeartbeats 4000000 in
theorem c_X12_arrow {l : Launch} {D : va_G} {ad : Nat → Nat} {cy : Nat → ClassId} {ee : EE} {n : Nat} {st : StT} {x1 : Int32} {x2 : Int32} {x3 : Int32} {res : (Int32 × StT)} (hf : f_X12_arrow n st x1 x2 x3 = some res) : CT l yX12_arrow cX12_arrow 4 (some .int) 3 68 D cy ee (wM ad cy st) (wM ad cy res.2) [.ref (ad 0), .int x1, .int x2, .int x3] (some (.int res.1)) := by
  refine CT.of (by decide +kernel) (Nat.le_of_ble_eq_true rfl) ?_
  intro p e s m args below meth c A F hr hk K E hA Z ls hl
  have hl : lv_has ls 4 [(0, .ref (ad 0)), (1, .int x1), (2, .int x2), (3, .int x3)] := hl
  have hx := F.1
  have hb := F.2.1
  unfold f_X12_arrow at hf
  refine lv_aload_n hx hb dX12_arrow_0 rfl (lv_at hl 0 rfl) ?_
  refine lv_iload_n hx hb dX12_arrow_1 rfl (lv_at hl 2 rfl) ?_
  refine pmX12_293 F K Z dX12_arrow_2 (fun H locs Z => ?_)
  refine lv_aload_n hx hb dX12_arrow_5 rfl (lv_at hl 0 rfl) ?_
  obtain ⟨q6, h6, hf⟩ := bind_some hf
  refine krX12_270_X12_look F K E hA Z h6 ⟨Nat.le_of_ble_eq_true rfl, Nat.le_of_ble_eq_true rfl⟩ hl.1 (Nat.le_of_ble_eq_true rfl) dX12_arrow_6 (fun H locs Z => ?_)
  refine lv_iload_n hx hb dX12_arrow_9 rfl (lv_at hl 3 rfl) ?_
  refine lv_icmp_ne (tgt := 20) hx hb dX12_arrow_10 (by decide) (fun c10 => ?_) (fun c10 => ?_)
  · have hf := if_f c10 hf
    refine lv_iconst (v := -1) hx hb dX12_arrow_20 (by decide) ?_
    have hf := Option.some.inj hf
    subst hf
    exact ret_i F hr hk Z dX12_arrow_21
  have hf := if_t c10 hf
  refine lv_aload_n hx hb dX12_arrow_13 rfl (lv_at hl 0 rfl) ?_
  obtain ⟨q14, h14, hf⟩ := bind_some hf
  refine krX12_286_X12_nest F K E hA Z h14 ⟨Nat.le_of_ble_eq_true rfl, Nat.le_of_ble_eq_true rfl⟩ hl.1 (Nat.le_of_ble_eq_true rfl) dX12_arrow_14 (fun H locs Z => ?_)
  refine lv_if_ne (tgt := 22) hx hb dX12_arrow_17 (by decide) (fun c17 => ?_) (fun c17 => ?_)
  · have hf := if_f c17 hf
    refine lv_aload_n hx hb dX12_arrow_22 rfl (lv_at hl 0 rfl) ?_
    refine gmX12_51 F K Z dX12_arrow_23 ?_
    refine lv_iload_n hx hb dX12_arrow_26 rfl (lv_at hl 1 rfl) ?_
    refine lv_iload_n hx hb dX12_arrow_27 rfl (lv_at hl 2 rfl) ?_
    obtain ⟨i28, hf⟩ := if_some hf
    refine ms13 F K Z i28 dX12_arrow_28 (fun H locs Z => ?_)
    refine lv_aload_n hx hb dX12_arrow_29 rfl (lv_at hl 0 rfl) ?_
    refine gmX12_54 F K Z dX12_arrow_30 ?_
    refine lv_iload_n hx hb dX12_arrow_33 rfl (lv_at hl 1 rfl) ?_
    refine lv_aload_n hx hb dX12_arrow_34 rfl (lv_at hl 0 rfl) ?_
    refine gmX12_227 F K Z dX12_arrow_35 ?_
    obtain ⟨i38, hf⟩ := if_some hf
    refine ms14 F K Z i38 dX12_arrow_38 (fun H locs Z => ?_)
    refine lv_aload_n hx hb dX12_arrow_39 rfl (lv_at hl 0 rfl) ?_
    refine gmX12_48 F K Z dX12_arrow_40 ?_
    refine lv_iload_n hx hb dX12_arrow_43 rfl (lv_at hl 1 rfl) ?_
    refine lv_iconst (v := 1) hx hb dX12_arrow_44 (by decide) ?_
    obtain ⟨i45, hf⟩ := if_some hf
    refine ms12 F K Z i45 dX12_arrow_45 (fun H locs Z => ?_)
    refine lv_aload_n hx hb dX12_arrow_46 rfl (lv_at hl 0 rfl) ?_
    obtain ⟨q47, h47, hf⟩ := bind_some hf
    refine krX12_274_X12_pass F K E hA Z h47 ⟨Nat.le_of_ble_eq_true rfl, Nat.le_of_ble_eq_true rfl⟩ hl.1 (Nat.le_of_ble_eq_true rfl) dX12_arrow_47 (fun H locs Z => ?_)
    refine lv_iconst (v := 1) hx hb dX12_arrow_50 (by decide) ?_
    have hf := Option.some.inj hf
    subst hf
    exact ret_i F hr hk Z dX12_arrow_51
  have hf := if_t c17 hf
  refine lv_iconst (v := -1) hx hb dX12_arrow_20 (by decide) ?_
  have hf := Option.some.inj hf
  subst hf
  exact ret_i F hr hk Z dX12_arrow_21
def f_X12_series (n : Nat) (st : StT) (x1 : Int32) (x2 : Int32) (x3 : Int32) : Option (Int32 × StT) := if ((uF st 17 x2).1 10) = 0 then ((f_X12_look n (uF st 17 x2)).bind fun q13 => (if q13.1 = x3 then (if inB x1 400 = true then (if inB x1 400 = true then (if inB x1 400 = true then ((f_X12_pass n (uA (uA (uA q13.2 12 x1 x2) 13 x1 ((uA q13.2 12 x1 x2).1 6)) 11 x1 (1 : Int32))).bind fun q47 => (if inB x1 400 = true then (some (((q47.2.1 10 (x1).toNatClampNeg) + (1 : Int32)), q47)) else none)) else none) else none) else none) else (some ((-1 : Int32), q13.2)))) else (some ((-1 : Int32), (uF st 17 x2)))
set_option maxRecDepth 100000 in
set_option maxHeartbeats 4000000 in
theorem c_X12_series {l : Launch} {D : va_G} {ad : Nat → Nat} {cy : Nat → ClassId} {ee : EE} {n : Nat} {st : StT} {x1 : Int32} {x2 : Int32} {x3 : Int32} {res : (Int32 × StT)} (hf : f_X12_series n st x1 x2 x3 = some res) : CT l yX12_series cX12_series 4 (some .int) 3 68 D cy ee (wM ad cy st) (wM ad cy res.2) [.ref (ad 0), .int x1, .int x2, .int x3] (some (.int res.1)) := by
  refine CT.of (by decide +kernel) (Nat.le_of_ble_eq_true rfl) ?_
  intro p e s m args below meth c A F hr hk K E hA Z ls hl
  have hl : lv_has ls 4 [(0, .ref (ad 0)), (1, .int x1), (2, .int x2), (3, .int x3)] := hl
  have hx := F.1
  have hb := F.2.1
  unfold f_X12_series at hf
  refine lv_aload_n hx hb dX12_series_0 rfl (lv_at hl 0 rfl) ?_
  refine lv_iload_n hx hb dX12_series_1 rfl (lv_at hl 2 rfl) ?_
  refine pmX12_293 F K Z dX12_series_2 (fun H locs Z => ?_)
  refine lv_aload_n hx hb dX12_series_5 rfl (lv_at hl 0 rfl) ?_
  refine gmX12_257 F K Z dX12_series_6 ?_
  refine lv_if_ne (tgt := 20) hx hb dX12_series_9 (by decide) (fun c9 => ?_) (fun c9 => ?_)
  · have hf := if_f c9 hf
    refine lv_iconst (v := -1) hx hb dX12_series_20 (by decide) ?_
    have hf := Option.some.inj hf
    subst hf
    exact ret_i F hr hk Z dX12_series_21
  have hf := if_t c9 hf
  refine lv_aload_n hx hb dX12_series_12 rfl (lv_at hl 0 rfl) ?_
  obtain ⟨q13, h13, hf⟩ := bind_some hf
  refine krX12_270_X12_look F K E hA Z h13 ⟨Nat.le_of_ble_eq_true rfl, Nat.le_of_ble_eq_true rfl⟩ hl.1 (Nat.le_of_ble_eq_true rfl) dX12_series_13 (fun H locs Z => ?_)
  refine lv_iload_n hx hb dX12_series_16 rfl (lv_at hl 3 rfl) ?_
  refine lv_icmp_eq (tgt := 22) hx hb dX12_series_17 (by decide) (fun c17 => ?_) (fun c17 => ?_)
  · have hf := if_t c17 hf
    refine lv_aload_n hx hb dX12_series_22 rfl (lv_at hl 0 rfl) ?_
    refine gmX12_51 F K Z dX12_series_23 ?_
    refine lv_iload_n hx hb dX12_series_26 rfl (lv_at hl 1 rfl) ?_
    refine lv_iload_n hx hb dX12_series_27 rfl (lv_at hl 2 rfl) ?_
    obtain ⟨i28, hf⟩ := if_some hf
    refine ms13 F K Z i28 dX12_series_28 (fun H locs Z => ?_)
    refine lv_aload_n hx hb dX12_series_29 rfl (lv_at hl 0 rfl) ?_
    refine gmX12_54 F K Z dX12_series_30 ?_
    refine lv_iload_n hx hb dX12_series_33 rfl (lv_at hl 1 rfl) ?_
    refine lv_aload_n hx hb dX12_series_34 rfl (lv_at hl 0 rfl) ?_
    refine gmX12_227 F K Z dX12_series_35 ?_
    obtain ⟨i38, hf⟩ := if_some hf
    refine ms14 F K Z i38 dX12_series_38 (fun H locs Z => ?_)
    refine lv_aload_n hx hb dX12_series_39 rfl (lv_at hl 0 rfl) ?_
    refine gmX12_48 F K Z dX12_series_40 ?_
    refine lv_iload_n hx hb dX12_series_43 rfl (lv_at hl 1 rfl) ?_
    refine lv_iconst (v := 1) hx hb dX12_series_44 (by decide) ?_
    obtain ⟨i45, hf⟩ := if_some hf
    refine ms12 F K Z i45 dX12_series_45 (fun H locs Z => ?_)
    refine lv_aload_n hx hb dX12_series_46 rfl (lv_at hl 0 rfl) ?_
    obtain ⟨q47, h47, hf⟩ := bind_some hf
    refine krX12_274_X12_pass F K E hA Z h47 ⟨Nat.le_of_ble_eq_true rfl, Nat.le_of_ble_eq_true rfl⟩ hl.1 (Nat.le_of_ble_eq_true rfl) dX12_series_47 (fun H locs Z => ?_)
    refine lv_aload_n hx hb dX12_series_50 rfl (lv_at hl 0 rfl) ?_
    refine gmX12_45 F K Z dX12_series_51 ?_
    refine lv_iload_n hx hb dX12_series_54 rfl (lv_at hl 1 rfl) ?_
    obtain ⟨i55, hf⟩ := if_some hf
    refine ml11 F K Z i55 dX12_series_55 ?_
    refine lv_iconst (v := 1) hx hb dX12_series_56 (by decide) ?_
    refine lv_iadd hx hb dX12_series_57 ?_
    have hf := Option.some.inj hf
    subst hf
    exact ret_i F hr hk Z dX12_series_58
  have hf := if_f c17 hf
  refine lv_iconst (v := -1) hx hb dX12_series_20 (by decide) ?_
  have hf := Option.some.inj hf
  subst hf
  exact ret_i F hr hk Z dX12_series_21
def f_X12_goOn_297 (n : Nat) (st : StT) (x1 : Int32) (x3 : Int32) (y0 : Int32) : Option (Int32 × StT) := if (st.1 10) = 0 then (if inB x1 400 = true then ((f_X12_madeAt n st (3 : Int32) x3 y0 (st.2.1 13 (x1).toNatClampNeg)).bind fun q318 => (some ((-1 : Int32), (uF q318.2 17 q318.1)))) else none) else (some ((-1 : Int32), (uF st 17 (-1 : Int32))))
def f_X12_goOn (n : Nat) (st : StT) (x1 : Int32) : Option (Int32 × StT) := if inB x1 400 = true then (if (st.2.1 10 (x1).toNatClampNeg) = 1 then (if inB x1 400 = true then (if (st.2.1 11 (x1).toNatClampNeg) = (1 : Int32) then (if inB x1 400 = true then (if inB x1 400 = true then ((f_X12_madeAt n (uF st 13 ((st.1 13) - (1 : Int32))) (5 : Int32) ((uF st 13 ((st.1 13) - (1 : Int32))).2.1 12 (x1).toNatClampNeg) (st.1 17) ((uF st 13 ((st.1 13) - (1 : Int32))).2.1 13 (x1).toNatClampNeg)).bind fun q211 => (some ((-1 : Int32), (uF q211.2 17 q211.1)))) else none) else none) else ((f_X12_arrow n st x1 (st.1 17) (260 : Int32)).bind fun q225 => (some (q225.1, q225.2)))) else none) else (if (st.2.1 10 (x1).toNatClampNeg) = 2 then (if inB x1 400 = true then (if (st.2.1 11 (x1).toNatClampNeg) = (1 : Int32) then (if inB x1 400 = true then (if inB x1 400 = true then ((f_X12_madeAt n st (4 : Int32) (st.2.1 12 (x1).toNatClampNeg) (st.1 17) (st.2.1 13 (x1).toNatClampNeg)).bind fun q162 => ((f_X12_series n q162.2 x1 q162.1 (124 : Int32)).bind fun q171 => (some (q171.1, q171.2)))) else none) else none) else ((f_X12_series n st x1 (st.1 17) (124 : Int32)).bind fun q171 => (some (q171.1, q171.2)))) else none) else (if (st.2.1 10 (x1).toNatClampNeg) = 3 then (if inB x1 400 = true then (if (st.2.1 11 (x1).toNatClampNeg) = (1 : Int32) then (if inB x1 400 = true then (if inB x1 400 = true then ((f_X12_madeAt n st (3 : Int32) (st.2.1 12 (x1).toNatClampNeg) (st.1 17) (st.2.1 13 (x1).toNatClampNeg)).bind fun q124 => ((f_X12_series n q124.2 x1 q124.1 (38 : Int32)).bind fun q133 => (some (q133.1, q133.2)))) else none) else none) else ((f_X12_series n st x1 (st.1 17) (38 : Int32)).bind fun q133 => (some (q133.1, q133.2)))) else none) else (if (st.2.1 10 (x1).toNatClampNeg) = 4 then (if inB x1 400 = true then (if (st.2.1 11 (x1).toNatClampNeg) = (1 : Int32) then (if inB x1 400 = true then ((f_X12_madeAt n (uF st 13 ((st.1 13) - (1 : Int32))) (5 : Int32) (st.1 17) (0 : Int32) ((uF st 13 ((st.1 13) - (1 : Int32))).2.1 13 (x1).toNatClampNeg)).bind fun q71 => (some ((-1 : Int32), (uF q71.2 17 q71.1)))) else none) else ((f_X12_want n st (41 : Int32)).bind fun q83 => (some ((-1 : Int32), (uF q83.2 13 ((q83.2.1 13) - (1 : Int32))))))) else none) else (if inB x1 400 = true then (if (st.2.1 11 (x1).toNatClampNeg) = (1 : Int32) then (if inB x1 400 = true then (if inB x1 400 = true then ((f_X12_madeAt n (uF st 13 ((st.1 13) - (1 : Int32))) (5 : Int32) ((uF st 13 ((st.1 13) - (1 : Int32))).2.1 12 (x1).toNatClampNeg) (st.1 17) ((uF st 13 ((st.1 13) - (1 : Int32))).2.1 13 (x1).toNatClampNeg)).bind fun q264 => (if (q264.2.1 10) = 0 then (if inB x1 400 = true then (if inB x1 400 = true then ((f_X12_madeAt n q264.2 (5 : Int32) (st.1 17) (q264.2.2.1 12 (x1).toNatClampNeg) (q264.2.2.1 13 (x1).toNatClampNeg)).bind fun q290 => (f_X12_goOn_297 n q290.2 x1 q264.1 q290.1)) else none) else none) else (f_X12_goOn_297 n q264.2 x1 q264.1 (-1 : Int32)))) else none) else none) else ((f_X12_arrow n st x1 (st.1 17) (261 : Int32)).bind fun q336 => (some (q336.1, q336.2)))) else none))))) else none
theorem wd1079 : Cond.methodLink RX12 306 yX12_arrow ∈ Gw := gT8 (List.mem_of_getElem? (i := 57) rfl) rfl
theorem wd1080 : Cond.code yX12_arrow prog_14_method_21_code 4 (some .int) ∈ Gw := gT8 (List.mem_of_getElem? (i := 60) rfl) rfl
theorem wd1081 : Cond.instanceMethod yX12_arrow ∈ Gw := gT8 (List.mem_of_getElem? (i := 59) rfl) rfl
theorem wd1082 : Cond.selects RX12 yX12_arrow yX12_arrow ∈ Gw := gP7 (q := (yX12_arrow, 98)) (List.mem_of_getElem? (i := 6) rfl)
theorem wd1083 : Cond.methodLink RX12 296 yX12_madeAt ∈ Gw := gT8 (List.mem_of_getElem? (i := 37) rfl) rfl
theorem wd1084 : Cond.code yX12_madeAt prog_14_method_17_code 7 (some .int) ∈ Gw := gT8 (List.mem_of_getElem? (i := 40) rfl) rfl
theorem wd1085 : Cond.instanceMethod yX12_madeAt ∈ Gw := gT8 (List.mem_of_getElem? (i := 39) rfl) rfl
theorem wd1086 : Cond.selects RX12 yX12_madeAt yX12_madeAt ∈ Gw := gP7 (q := (yX12_madeAt, 98)) (List.mem_of_getElem? (i := 1) rfl)
theorem wd1087 : Cond.methodLink RX12 303 yX12_series ∈ Gw := gT8 (List.mem_of_getElem? (i := 53) rfl) rfl
theorem wd1088 : Cond.code yX12_series prog_14_method_20_code 4 (some .int) ∈ Gw := gT8 (List.mem_of_getElem? (i := 56) rfl) rfl
theorem wd1089 : Cond.instanceMethod yX12_series ∈ Gw := gT8 (List.mem_of_getElem? (i := 55) rfl) rfl
theorem wd1090 : Cond.selects RX12 yX12_series yX12_series ∈ Gw := gP7 (q := (yX12_series, 98)) (List.mem_of_getElem? (i := 5) rfl)
theorem wd1091 : Cond.methodLink RX12 300 yX12_want ∈ Gw := gT8 (List.mem_of_getElem? (i := 49) rfl) rfl
theorem wd1092 : Cond.code yX12_want prog_14_method_14_code 2 (some .boolean) ∈ Gw := gT8 (List.mem_of_getElem? (i := 52) rfl) rfl
theorem wd1093 : Cond.instanceMethod yX12_want ∈ Gw := gT8 (List.mem_of_getElem? (i := 51) rfl) rfl
theorem wd1094 : Cond.selects RX12 yX12_want yX12_want ∈ Gw := gP7 (q := (yX12_want, 98)) (List.mem_of_getElem? (i := 4) rfl)
section
variable {p : Program} {l : Launch} {e : Env} {R : Room} {s : State} {m : MethodId} {args : Array Value} {below : List Frame} {meth : Method} {c : Code} {H : Heap} {locs : List Loc} {Q : State → Prop}
variable {cc : ByteArray} {nL pc : Nat} {ls : Array Slot} {rest : List Value} {D : va_G} {A : Nat → Prop} {cw : Cond} {ad : Nat → Nat} {cy : Nat → ClassId} {ee : EE} {st : StT} {own : String}
theorem krX12_306_X12_arrow {n : Nat} {a0 : Int32} {a1 : Int32} {a2 : Int32} {q : (Int32 × StT)} (F : CallFix p m c cc nL s args (cw :: Gw) RX12) (K : va_K D vwCl (tyL cy) s) (E : EV ee A s s.heap) (hA : ∀ q, s.heap.size ≤ q → A q) (Z : ZG D (wM ad cy st) A s H locs) (hf : f_X12_arrow n st a0 a1 a2 = some q) (hR : 4 ≤ R.frames ∧ 91 ≤ R.locals) (hl : ls.size = nL) (hst : (rest.map fun v => v.category).sum ≤ 8) (hd : decode cc pc = .ok (.invokevirtual 306, 3)) (kk : ∀ (H1 : Heap) (locs1 : List Loc), ZG D (wM ad cy q.2) A s H1 locs1 → W p l e R s m args below meth c H1 locs1 0 0 Q (F0 m (pc + 3) ls (.int q.1 :: rest))) : W p l e R s m args below meth c H locs 0 0 Q (F0 m pc ls (.int a2 :: .int a1 :: .int a0 :: .ref (ad 0) :: rest)) :=
  call_V (q := (RX12, TX12, 98)) (n := 3) (As := [.int a0, .int a1, .int a2]) (rv := some (.int q.1)) 0 12 F K E hA Z (c_X12_arrow (l := l) (D := D) (ad := ad) (cy := cy) (ee := ee) hf) ⟨wd1080, wd1079, wd1081, wd1082, wd1008⟩ (by decide +kernel) rfl rfl hR rfl hl hst hd kk
theorem krX12_296_X12_madeAt {n : Nat} {a0 : Int32} {a1 : Int32} {a2 : Int32} {a3 : Int32} {q : (Int32 × StT)} (F : CallFix p m c cc nL s args (cw :: Gw) RX12) (K : va_K D vwCl (tyL cy) s) (E : EV ee A s s.heap) (hA : ∀ q, s.heap.size ≤ q → A q) (Z : ZG D (wM ad cy st) A s H locs) (hf : f_X12_madeAt n st a0 a1 a2 a3 = some q) (hR : 3 ≤ R.frames ∧ 74 ≤ R.locals) (hl : ls.size = nL) (hst : (rest.map fun v => v.category).sum ≤ 8) (hd : decode cc pc = .ok (.invokevirtual 296, 3)) (kk : ∀ (H1 : Heap) (locs1 : List Loc), ZG D (wM ad cy q.2) A s H1 locs1 → W p l e R s m args below meth c H1 locs1 0 0 Q (F0 m (pc + 3) ls (.int q.1 :: rest))) : W p l e R s m args below meth c H locs 0 0 Q (F0 m pc ls (.int a3 :: .int a2 :: .int a1 :: .int a0 :: .ref (ad 0) :: rest)) :=
  call_V (q := (RX12, TX12, 98)) (n := 4) (As := [.int a0, .int a1, .int a2, .int a3]) (rv := some (.int q.1)) 0 12 F K E hA Z (c_X12_madeAt (l := l) (D := D) (ad := ad) (cy := cy) (ee := ee) hf) ⟨wd1084, wd1083, wd1085, wd1086, wd1008⟩ (by decide +kernel) rfl rfl hR rfl hl hst hd kk
theorem krX12_303_X12_series {n : Nat} {a0 : Int32} {a1 : Int32} {a2 : Int32} {q : (Int32 × StT)} (F : CallFix p m c cc nL s args (cw :: Gw) RX12) (K : va_K D vwCl (tyL cy) s) (E : EV ee A s s.heap) (hA : ∀ q, s.heap.size ≤ q → A q) (Z : ZG D (wM ad cy st) A s H locs) (hf : f_X12_series n st a0 a1 a2 = some q) (hR : 4 ≤ R.frames ∧ 91 ≤ R.locals) (hl : ls.size = nL) (hst : (rest.map fun v => v.category).sum ≤ 8) (hd : decode cc pc = .ok (.invokevirtual 303, 3)) (kk : ∀ (H1 : Heap) (locs1 : List Loc), ZG D (wM ad cy q.2) A s H1 locs1 → W p l e R s m args below meth c H1 locs1 0 0 Q (F0 m (pc + 3) ls (.int q.1 :: rest))) : W p l e R s m args below meth c H locs 0 0 Q (F0 m pc ls (.int a2 :: .int a1 :: .int a0 :: .ref (ad 0) :: rest)) :=
  call_V (q := (RX12, TX12, 98)) (n := 3) (As := [.int a0, .int a1, .int a2]) (rv := some (.int q.1)) 0 12 F K E hA Z (c_X12_series (l := l) (D := D) (ad := ad) (cy := cy) (ee := ee) hf) ⟨wd1088, wd1087, wd1089, wd1090, wd1008⟩ (by decide +kernel) rfl rfl hR rfl hl hst hd kk
theorem krX12_300_X12_want {n : Nat} {a0 : Int32} {q : (Int32 × StT)} (F : CallFix p m c cc nL s args (cw :: Gw) RX12) (K : va_K D vwCl (tyL cy) s) (E : EV ee A s s.heap) (hA : ∀ q, s.heap.size ≤ q → A q) (Z : ZG D (wM ad cy st) A s H locs) (hf : f_X12_want n st a0 = some q) (hR : 4 ≤ R.frames ∧ 89 ≤ R.locals) (hl : ls.size = nL) (hst : (rest.map fun v => v.category).sum ≤ 8) (hd : decode cc pc = .ok (.invokevirtual 300, 3)) (kk : ∀ (H1 : Heap) (locs1 : List Loc), ZG D (wM ad cy q.2) A s H1 locs1 → W p l e R s m args below meth c H1 locs1 0 0 Q (F0 m (pc + 3) ls (.int q.1 :: rest))) : W p l e R s m args below meth c H locs 0 0 Q (F0 m pc ls (.int a0 :: .ref (ad 0) :: rest)) :=
  call_V (q := (RX12, TX12, 98)) (n := 1) (As := [.int a0]) (rv := some (.int q.1)) 0 12 F K E hA Z (c_X12_want (l := l) (D := D) (ad := ad) (cy := cy) (ee := ee) hf) ⟨wd1092, wd1091, wd1093, wd1094, wd1008⟩ (by decide +kernel) rfl rfl hR rfl hl hst hd kk
end
set_option maxRecDepth 100000 in
set_option maxHeartbeats 4000000 in
theorem b_X12_goOn_297 {p : Program} {l : Launch} {e : Env} {s : State} {m : MethodId} {args : Array Value} {below : List Frame} {meth : Method} {c : Code} {D : va_G} {A : Nat → Prop} {ad : Nat → Nat} {cy : Nat → ClassId} {ee : EE} {n : Nat} {res : (Int32 × StT)} (F : CallFix p m c cX12_goOn 5 s args (Cond.code yX12_goOn cX12_goOn 5 (some .int) :: Gw) yX12_goOn.cls) (hr : meth.sig.returnType = (some .int)) (hk : meth.locks = false) (K : va_K D vwCl (tyL cy) s) (E : EV ee A s s.heap) (hA : ∀ q, s.heap.size ≤ q → A q) : ∀ (st : StT) (x1 : Int32) (x3 : Int32) (y0 : Int32), f_X12_goOn_297 n st x1 x3 y0 = some res → ∀ (H : Heap) (locs : List Loc) (ls : Array Slot), ZG D (wM ad cy st) A s H locs → lv_has ls 5 [(0, .ref (ad 0)), (1, .int x1), (3, .int x3)] → W p l e { frames := 4, cells := 0, slots := 0, locals := 91 } s m args below meth c H locs 0 0 (MQ below (QC D (some (.int res.1)) (wM ad cy res.2) A) args s 0 0 A) (F0 m 297 ls [.int y0]) := by
  have hx := F.1
  have hb := F.2.1
  intro st x1 x3 y0 hf H locs ls Z hl
  unfold f_X12_goOn_297 at hf
  refine lv_istore (lv' := [(4, .int y0), (0, .ref (ad 0)), (1, .int x1), (3, .int x3)]) hx hb dX12_goOn_297 hl (by decide) rfl (fun ls hl => ?_)
  refine lv_aload_n hx hb dX12_goOn_299 rfl (lv_at hl 1 rfl) ?_
  refine lv_aload_n hx hb dX12_goOn_300 rfl (lv_at hl 1 rfl) ?_
  refine gmX12_257 F K Z dX12_goOn_301 ?_
  refine lv_if_ne (tgt := 324) hx hb dX12_goOn_304 (by decide) (fun c304 => ?_) (fun c304 => ?_)
  · have hf := if_f c304 hf
    refine lv_iconst (v := -1) hx hb dX12_goOn_324 (by decide) ?_
    refine pmX12_293 F K Z dX12_goOn_325 (fun H locs Z => ?_)
    refine lv_iconst (v := -1) hx hb dX12_goOn_328 (by decide) ?_
    have hf := Option.some.inj hf
    subst hf
    exact ret_i F hr hk Z dX12_goOn_329
  have hf := if_t c304 hf
  refine lv_aload_n hx hb dX12_goOn_307 rfl (lv_at hl 1 rfl) ?_
  refine lv_iconst (v := 3) hx hb dX12_goOn_308 (by decide) ?_
  refine lv_iload_n hx hb dX12_goOn_309 rfl (lv_at hl 3 rfl) ?_
  refine lv_iload hx hb dX12_goOn_310 (lv_at hl 0 rfl) ?_
  refine lv_aload_n hx hb dX12_goOn_312 rfl (lv_at hl 1 rfl) ?_
  refine gmX12_54 F K Z dX12_goOn_313 ?_
  refine lv_iload_n hx hb dX12_goOn_316 rfl (lv_at hl 2 rfl) ?_
  obtain ⟨i317, hf⟩ := if_some hf
  refine ml14 F K Z i317 dX12_goOn_317 ?_
  obtain ⟨q318, h318, hf⟩ := bind_some hf
  refine krX12_296_X12_madeAt F K E hA Z h318 ⟨Nat.le_of_ble_eq_true rfl, Nat.le_of_ble_eq_true rfl⟩ hl.1 (Nat.le_of_ble_eq_true rfl) dX12_goOn_318 (fun H locs Z => ?_)
  refine lv_goto (tgt := 325) hx hb dX12_goOn_321 (by decide) ?_
  refine pmX12_293 F K Z dX12_goOn_325 (fun H locs Z => ?_)
  refine lv_iconst (v := -1) hx hb dX12_goOn_328 (by decide) ?_
  have hf := Option.some.inj hf
  subst hf
  exact ret_i F hr hk Z dX12_goOn_329
set_option maxRecDepth 100000 in
set_option maxHeartbeats 4000000 in
theorem c_X12_goOn {l : Launch} {D : va_G} {ad : Nat → Nat} {cy : Nat → ClassId} {ee : EE} {n : Nat} {st : StT} {x1 : Int32} {res : (Int32 × StT)} (hf : f_X12_goOn n st x1 = some res) : CT l yX12_goOn cX12_goOn 5 (some .int) 4 91 D cy ee (wM ad cy st) (wM ad cy res.2) [.ref (ad 0), .int x1] (some (.int res.1)) := by
  refine CT.of (by decide +kernel) (Nat.le_of_ble_eq_true rfl) ?_
  intro p e s m args below meth c A F hr hk K E hA Z ls hl
  have hl : lv_has ls 5 [(0, .ref (ad 0)), (1, .int x1)] := hl
  have hx := F.1
  have hb := F.2.1
  unfold f_X12_goOn at hf
  refine lv_aload_n hx hb dX12_goOn_0 rfl (lv_at hl 0 rfl) ?_
  refine gmX12_293 F K Z dX12_goOn_1 ?_
  refine lv_istore_n (lv' := [(2, .int (st.1 17)), (0, .ref (ad 0)), (1, .int x1)]) hx hb dX12_goOn_4 rfl hl (by decide) rfl (fun ls hl => ?_)
  refine lv_aload_n hx hb dX12_goOn_5 rfl (lv_at hl 1 rfl) ?_
  refine gmX12_45 F K Z dX12_goOn_6 ?_
  refine lv_iload_n hx hb dX12_goOn_9 rfl (lv_at hl 2 rfl) ?_
  obtain ⟨i10, hf⟩ := if_some hf
  refine ml11 F K Z i10 dX12_goOn_10 ?_
  by_cases c11_1 : (st.2.1 10 (x1).toNatClampNeg) = 1
  · have hf := if_t c11_1 hf
    refine lv_tableIn (tgt := 175) hx hb dX12_goOn_11 (by rw [c11_1] <;> decide) (by rw [c11_1] <;> decide) (by rw [c11_1] <;> rfl) (by decide) ?_
    refine lv_aload_n hx hb dX12_goOn_175 rfl (lv_at hl 1 rfl) ?_
    refine gmX12_48 F K Z dX12_goOn_176 ?_
    refine lv_iload_n hx hb dX12_goOn_179 rfl (lv_at hl 2 rfl) ?_
    obtain ⟨i180, hf⟩ := if_some hf
    refine ml12 F K Z i180 dX12_goOn_180 ?_
    refine lv_iconst (v := 1) hx hb dX12_goOn_181 (by decide) ?_
    refine lv_icmp_ne (tgt := 219) hx hb dX12_goOn_182 (by decide) (fun c182 => ?_) (fun c182 => ?_)
    · have hf := if_f c182 hf
      refine lv_aload_n hx hb dX12_goOn_219 rfl (lv_at hl 1 rfl) ?_
      refine lv_iload_n hx hb dX12_goOn_220 rfl (lv_at hl 2 rfl) ?_
      refine lv_iload_n hx hb dX12_goOn_221 rfl (lv_at hl 0 rfl) ?_
      refine lv_sipush (v := 260) hx hb dX12_goOn_222 (by decide) ?_
      obtain ⟨q225, h225, hf⟩ := bind_some hf
      refine krX12_306_X12_arrow F K E hA Z h225 ⟨Nat.le_of_ble_eq_true rfl, Nat.le_of_ble_eq_true rfl⟩ hl.1 (Nat.le_of_ble_eq_true rfl) dX12_goOn_225 (fun H locs Z => ?_)
      have hf := Option.some.inj hf
      subst hf
      exact ret_i F hr hk Z dX12_goOn_228
    have hf := if_t c182 hf
    refine lv_aload_n hx hb dX12_goOn_185 rfl (lv_at hl 1 rfl) ?_
    refine lv_dup hx hb dX12_goOn_186 rfl ?_
    refine gmX12_277 F K Z dX12_goOn_187 ?_
    refine lv_iconst (v := 1) hx hb dX12_goOn_190 (by decide) ?_
    refine lv_isub hx hb dX12_goOn_191 ?_
    refine pmX12_277 F K Z dX12_goOn_192 (fun H locs Z => ?_)
    refine lv_aload_n hx hb dX12_goOn_195 rfl (lv_at hl 1 rfl) ?_
    refine lv_aload_n hx hb dX12_goOn_196 rfl (lv_at hl 1 rfl) ?_
    refine lv_iconst (v := 5) hx hb dX12_goOn_197 (by decide) ?_
    refine lv_aload_n hx hb dX12_goOn_198 rfl (lv_at hl 1 rfl) ?_
    refine gmX12_51 F K Z dX12_goOn_199 ?_
    refine lv_iload_n hx hb dX12_goOn_202 rfl (lv_at hl 2 rfl) ?_
    obtain ⟨i203, hf⟩ := if_some hf
    refine ml13 F K Z i203 dX12_goOn_203 ?_
    refine lv_iload_n hx hb dX12_goOn_204 rfl (lv_at hl 0 rfl) ?_
    refine lv_aload_n hx hb dX12_goOn_205 rfl (lv_at hl 1 rfl) ?_
    refine gmX12_54 F K Z dX12_goOn_206 ?_
    refine lv_iload_n hx hb dX12_goOn_209 rfl (lv_at hl 2 rfl) ?_
    obtain ⟨i210, hf⟩ := if_some hf
    refine ml14 F K Z i210 dX12_goOn_210 ?_
    obtain ⟨q211, h211, hf⟩ := bind_some hf
    refine krX12_296_X12_madeAt F K E hA Z h211 ⟨Nat.le_of_ble_eq_true rfl, Nat.le_of_ble_eq_true rfl⟩ hl.1 (Nat.le_of_ble_eq_true rfl) dX12_goOn_211 (fun H locs Z => ?_)
    refine pmX12_293 F K Z dX12_goOn_214 (fun H locs Z => ?_)
    refine lv_iconst (v := -1) hx hb dX12_goOn_217 (by decide) ?_
    have hf := Option.some.inj hf
    subst hf
    exact ret_i F hr hk Z dX12_goOn_218
  have hf := if_f c11_1 hf
  by_cases c11_2 : (st.2.1 10 (x1).toNatClampNeg) = 2
  · have hf := if_t c11_2 hf
    refine lv_tableIn (tgt := 137) hx hb dX12_goOn_11 (by rw [c11_2] <;> decide) (by rw [c11_2] <;> decide) (by rw [c11_2] <;> rfl) (by decide) ?_
    refine lv_aload_n hx hb dX12_goOn_137 rfl (lv_at hl 1 rfl) ?_
    refine gmX12_48 F K Z dX12_goOn_138 ?_
    refine lv_iload_n hx hb dX12_goOn_141 rfl (lv_at hl 2 rfl) ?_
    obtain ⟨i142, hf⟩ := if_some hf
    refine ml12 F K Z i142 dX12_goOn_142 ?_
    refine lv_iconst (v := 1) hx hb dX12_goOn_143 (by decide) ?_
    refine lv_icmp_ne (tgt := 166) hx hb dX12_goOn_144 (by decide) (fun c144 => ?_) (fun c144 => ?_)
    · have hf := if_f c144 hf
      refine lv_aload_n hx hb dX12_goOn_166 rfl (lv_at hl 1 rfl) ?_
      refine lv_iload_n hx hb dX12_goOn_167 rfl (lv_at hl 2 rfl) ?_
      refine lv_iload_n hx hb dX12_goOn_168 rfl (lv_at hl 0 rfl) ?_
      refine lv_bipush (v := 124) hx hb dX12_goOn_169 (by decide) ?_
      obtain ⟨q171, h171, hf⟩ := bind_some hf
      refine krX12_303_X12_series F K E hA Z h171 ⟨Nat.le_of_ble_eq_true rfl, Nat.le_of_ble_eq_true rfl⟩ hl.1 (Nat.le_of_ble_eq_true rfl) dX12_goOn_171 (fun H locs Z => ?_)
      have hf := Option.some.inj hf
      subst hf
      exact ret_i F hr hk Z dX12_goOn_174
    have hf := if_t c144 hf
    refine lv_aload_n hx hb dX12_goOn_147 rfl (lv_at hl 1 rfl) ?_
    refine lv_iconst (v := 4) hx hb dX12_goOn_148 (by decide) ?_
    refine lv_aload_n hx hb dX12_goOn_149 rfl (lv_at hl 1 rfl) ?_
    refine gmX12_51 F K Z dX12_goOn_150 ?_
    refine lv_iload_n hx hb dX12_goOn_153 rfl (lv_at hl 2 rfl) ?_
    obtain ⟨i154, hf⟩ := if_some hf
    refine ml13 F K Z i154 dX12_goOn_154 ?_
    refine lv_iload_n hx hb dX12_goOn_155 rfl (lv_at hl 0 rfl) ?_
    refine lv_aload_n hx hb dX12_goOn_156 rfl (lv_at hl 1 rfl) ?_
    refine gmX12_54 F K Z dX12_goOn_157 ?_
    refine lv_iload_n hx hb dX12_goOn_160 rfl (lv_at hl 2 rfl) ?_
    obtain ⟨i161, hf⟩ := if_some hf
    refine ml14 F K Z i161 dX12_goOn_161 ?_
    obtain ⟨q162, h162, hf⟩ := bind_some hf
    refine krX12_296_X12_madeAt F K E hA Z h162 ⟨Nat.le_of_ble_eq_true rfl, Nat.le_of_ble_eq_true rfl⟩ hl.1 (Nat.le_of_ble_eq_true rfl) dX12_goOn_162 (fun H locs Z => ?_)
    refine lv_istore_n (lv' := [(2, .int q162.1), (0, .ref (ad 0)), (1, .int x1)]) hx hb dX12_goOn_165 rfl hl (by decide) rfl (fun ls hl => ?_)
    refine lv_aload_n hx hb dX12_goOn_166 rfl (lv_at hl 1 rfl) ?_
    refine lv_iload_n hx hb dX12_goOn_167 rfl (lv_at hl 2 rfl) ?_
    refine lv_iload_n hx hb dX12_goOn_168 rfl (lv_at hl 0 rfl) ?_
    refine lv_bipush (v := 124) hx hb dX12_goOn_169 (by decide) ?_
    obtain ⟨q171, h171, hf⟩ := bind_some hf
    refine krX12_303_X12_series F K E hA Z h171 ⟨Nat.le_of_ble_eq_true rfl, Nat.le_of_ble_eq_true rfl⟩ hl.1 (Nat.le_of_ble_eq_true rfl) dX12_goOn_171 (fun H locs Z => ?_)
    have hf := Option.some.inj hf
    subst hf
    exact ret_i F hr hk Z dX12_goOn_174
  have hf := if_f c11_2 hf
  by_cases c11_3 : (st.2.1 10 (x1).toNatClampNeg) = 3
  · have hf := if_t c11_3 hf
    refine lv_tableIn (tgt := 99) hx hb dX12_goOn_11 (by rw [c11_3] <;> decide) (by rw [c11_3] <;> decide) (by rw [c11_3] <;> rfl) (by decide) ?_
    refine lv_aload_n hx hb dX12_goOn_99 rfl (lv_at hl 1 rfl) ?_
    refine gmX12_48 F K Z dX12_goOn_100 ?_
    refine lv_iload_n hx hb dX12_goOn_103 rfl (lv_at hl 2 rfl) ?_
    obtain ⟨i104, hf⟩ := if_some hf
    refine ml12 F K Z i104 dX12_goOn_104 ?_
    refine lv_iconst (v := 1) hx hb dX12_goOn_105 (by decide) ?_
    refine lv_icmp_ne (tgt := 128) hx hb dX12_goOn_106 (by decide) (fun c106 => ?_) (fun c106 => ?_)
    · have hf := if_f c106 hf
      refine lv_aload_n hx hb dX12_goOn_128 rfl (lv_at hl 1 rfl) ?_
      refine lv_iload_n hx hb dX12_goOn_129 rfl (lv_at hl 2 rfl) ?_
      refine lv_iload_n hx hb dX12_goOn_130 rfl (lv_at hl 0 rfl) ?_
      refine lv_bipush (v := 38) hx hb dX12_goOn_131 (by decide) ?_
      obtain ⟨q133, h133, hf⟩ := bind_some hf
      refine krX12_303_X12_series F K E hA Z h133 ⟨Nat.le_of_ble_eq_true rfl, Nat.le_of_ble_eq_true rfl⟩ hl.1 (Nat.le_of_ble_eq_true rfl) dX12_goOn_133 (fun H locs Z => ?_)
      have hf := Option.some.inj hf
      subst hf
      exact ret_i F hr hk Z dX12_goOn_136
    have hf := if_t c106 hf
    refine lv_aload_n hx hb dX12_goOn_109 rfl (lv_at hl 1 rfl) ?_
    refine lv_iconst (v := 3) hx hb dX12_goOn_110 (by decide) ?_
    refine lv_aload_n hx hb dX12_goOn_111 rfl (lv_at hl 1 rfl) ?_
    refine gmX12_51 F K Z dX12_goOn_112 ?_
    refine lv_iload_n hx hb dX12_goOn_115 rfl (lv_at hl 2 rfl) ?_
    obtain ⟨i116, hf⟩ := if_some hf
    refine ml13 F K Z i116 dX12_goOn_116 ?_
    refine lv_iload_n hx hb dX12_goOn_117 rfl (lv_at hl 0 rfl) ?_
    refine lv_aload_n hx hb dX12_goOn_118 rfl (lv_at hl 1 rfl) ?_
    refine gmX12_54 F K Z dX12_goOn_119 ?_
    refine lv_iload_n hx hb dX12_goOn_122 rfl (lv_at hl 2 rfl) ?_
    obtain ⟨i123, hf⟩ := if_some hf
    refine ml14 F K Z i123 dX12_goOn_123 ?_
    obtain ⟨q124, h124, hf⟩ := bind_some hf
    refine krX12_296_X12_madeAt F K E hA Z h124 ⟨Nat.le_of_ble_eq_true rfl, Nat.le_of_ble_eq_true rfl⟩ hl.1 (Nat.le_of_ble_eq_true rfl) dX12_goOn_124 (fun H locs Z => ?_)
    refine lv_istore_n (lv' := [(2, .int q124.1), (0, .ref (ad 0)), (1, .int x1)]) hx hb dX12_goOn_127 rfl hl (by decide) rfl (fun ls hl => ?_)
    refine lv_aload_n hx hb dX12_goOn_128 rfl (lv_at hl 1 rfl) ?_
    refine lv_iload_n hx hb dX12_goOn_129 rfl (lv_at hl 2 rfl) ?_
    refine lv_iload_n hx hb dX12_goOn_130 rfl (lv_at hl 0 rfl) ?_
    refine lv_bipush (v := 38) hx hb dX12_goOn_131 (by decide) ?_
    obtain ⟨q133, h133, hf⟩ := bind_some hf
    refine krX12_303_X12_series F K E hA Z h133 ⟨Nat.le_of_ble_eq_true rfl, Nat.le_of_ble_eq_true rfl⟩ hl.1 (Nat.le_of_ble_eq_true rfl) dX12_goOn_133 (fun H locs Z => ?_)
    have hf := Option.some.inj hf
    subst hf
    exact ret_i F hr hk Z dX12_goOn_136
  have hf := if_f c11_3 hf
  by_cases c11_4 : (st.2.1 10 (x1).toNatClampNeg) = 4
  · have hf := if_t c11_4 hf
    refine lv_tableIn (tgt := 40) hx hb dX12_goOn_11 (by rw [c11_4] <;> decide) (by rw [c11_4] <;> decide) (by rw [c11_4] <;> rfl) (by decide) ?_
    refine lv_aload_n hx hb dX12_goOn_40 rfl (lv_at hl 1 rfl) ?_
    refine gmX12_48 F K Z dX12_goOn_41 ?_
    refine lv_iload_n hx hb dX12_goOn_44 rfl (lv_at hl 2 rfl) ?_
    obtain ⟨i45, hf⟩ := if_some hf
    refine ml12 F K Z i45 dX12_goOn_45 ?_
    refine lv_iconst (v := 1) hx hb dX12_goOn_46 (by decide) ?_
    refine lv_icmp_ne (tgt := 80) hx hb dX12_goOn_47 (by decide) (fun c47 => ?_) (fun c47 => ?_)
    · have hf := if_f c47 hf
      refine lv_aload_n hx hb dX12_goOn_80 rfl (lv_at hl 1 rfl) ?_
      refine lv_bipush (v := 41) hx hb dX12_goOn_81 (by decide) ?_
      obtain ⟨q83, h83, hf⟩ := bind_some hf
      refine krX12_300_X12_want F K E hA Z h83 ⟨Nat.le_of_ble_eq_true rfl, Nat.le_of_ble_eq_true rfl⟩ hl.1 (Nat.le_of_ble_eq_true rfl) dX12_goOn_83 (fun H locs Z => ?_)
      refine lv_istore_n (lv' := [(3, .int q83.1), (2, .int (st.1 17)), (0, .ref (ad 0)), (1, .int x1)]) hx hb dX12_goOn_86 rfl hl (by decide) rfl (fun ls hl => ?_)
      refine lv_aload_n hx hb dX12_goOn_87 rfl (lv_at hl 2 rfl) ?_
      refine lv_dup hx hb dX12_goOn_88 rfl ?_
      refine gmX12_277 F K Z dX12_goOn_89 ?_
      refine lv_iconst (v := 1) hx hb dX12_goOn_92 (by decide) ?_
      refine lv_isub hx hb dX12_goOn_93 ?_
      refine pmX12_277 F K Z dX12_goOn_94 (fun H locs Z => ?_)
      refine lv_iconst (v := -1) hx hb dX12_goOn_97 (by decide) ?_
      have hf := Option.some.inj hf
      subst hf
      exact ret_i F hr hk Z dX12_goOn_98
    have hf := if_t c47 hf
    refine lv_aload_n hx hb dX12_goOn_50 rfl (lv_at hl 1 rfl) ?_
    refine lv_dup hx hb dX12_goOn_51 rfl ?_
    refine gmX12_277 F K Z dX12_goOn_52 ?_
    refine lv_iconst (v := 1) hx hb dX12_goOn_55 (by decide) ?_
    refine lv_isub hx hb dX12_goOn_56 ?_
    refine pmX12_277 F K Z dX12_goOn_57 (fun H locs Z => ?_)
    refine lv_aload_n hx hb dX12_goOn_60 rfl (lv_at hl 1 rfl) ?_
    refine lv_aload_n hx hb dX12_goOn_61 rfl (lv_at hl 1 rfl) ?_
    refine lv_iconst (v := 5) hx hb dX12_goOn_62 (by decide) ?_
    refine lv_iload_n hx hb dX12_goOn_63 rfl (lv_at hl 0 rfl) ?_
    refine lv_iconst (v := 0) hx hb dX12_goOn_64 (by decide) ?_
    refine lv_aload_n hx hb dX12_goOn_65 rfl (lv_at hl 1 rfl) ?_
    refine gmX12_54 F K Z dX12_goOn_66 ?_
    refine lv_iload_n hx hb dX12_goOn_69 rfl (lv_at hl 2 rfl) ?_
    obtain ⟨i70, hf⟩ := if_some hf
    refine ml14 F K Z i70 dX12_goOn_70 ?_
    obtain ⟨q71, h71, hf⟩ := bind_some hf
    refine krX12_296_X12_madeAt F K E hA Z h71 ⟨Nat.le_of_ble_eq_true rfl, Nat.le_of_ble_eq_true rfl⟩ hl.1 (Nat.le_of_ble_eq_true rfl) dX12_goOn_71 (fun H locs Z => ?_)
    refine pmX12_293 F K Z dX12_goOn_74 (fun H locs Z => ?_)
    refine lv_goto (tgt := 97) hx hb dX12_goOn_77 (by decide) ?_
    refine lv_iconst (v := -1) hx hb dX12_goOn_97 (by decide) ?_
    have hf := Option.some.inj hf
    subst hf
    exact ret_i F hr hk Z dX12_goOn_98
  have hf := if_f c11_4 hf
  refine sw_tab (tgt := 229) hx hb dX12_goOn_11 (sw_any (fun j h1 h2 hj => ?_)) (by decide) ?_
  · rcases (show j = 1 ∨ j = 2 ∨ j = 3 ∨ j = 4 by omega) with rfl | rfl | rfl | rfl
    · exact absurd hj (lv_neT c11_1 (by decide))
    · exact absurd hj (lv_neT c11_2 (by decide))
    · exact absurd hj (lv_neT c11_3 (by decide))
    · exact absurd hj (lv_neT c11_4 (by decide))
  refine lv_aload_n hx hb dX12_goOn_229 rfl (lv_at hl 1 rfl) ?_
  refine gmX12_48 F K Z dX12_goOn_230 ?_
  refine lv_iload_n hx hb dX12_goOn_233 rfl (lv_at hl 2 rfl) ?_
  obtain ⟨i234, hf⟩ := if_some hf
  refine ml12 F K Z i234 dX12_goOn_234 ?_
  refine lv_iconst (v := 1) hx hb dX12_goOn_235 (by decide) ?_
  refine lv_icmp_ne (tgt := 330) hx hb dX12_goOn_236 (by decide) (fun c236 => ?_) (fun c236 => ?_)
  · have hf := if_f c236 hf
    refine lv_aload_n hx hb dX12_goOn_330 rfl (lv_at hl 1 rfl) ?_
    refine lv_iload_n hx hb dX12_goOn_331 rfl (lv_at hl 2 rfl) ?_
    refine lv_iload_n hx hb dX12_goOn_332 rfl (lv_at hl 0 rfl) ?_
    refine lv_sipush (v := 261) hx hb dX12_goOn_333 (by decide) ?_
    obtain ⟨q336, h336, hf⟩ := bind_some hf
    refine krX12_306_X12_arrow F K E hA Z h336 ⟨Nat.le_of_ble_eq_true rfl, Nat.le_of_ble_eq_true rfl⟩ hl.1 (Nat.le_of_ble_eq_true rfl) dX12_goOn_336 (fun H locs Z => ?_)
    have hf := Option.some.inj hf
    subst hf
    exact ret_i F hr hk Z dX12_goOn_339
  have hf := if_t c236 hf
  refine lv_aload_n hx hb dX12_goOn_239 rfl (lv_at hl 1 rfl) ?_
  refine lv_dup hx hb dX12_goOn_240 rfl ?_
  refine gmX12_277 F K Z dX12_goOn_241 ?_
  refine lv_iconst (v := 1) hx hb dX12_goOn_244 (by decide) ?_
  refine lv_isub hx hb dX12_goOn_245 ?_
  refine pmX12_277 F K Z dX12_goOn_246 (fun H locs Z => ?_)
  refine lv_aload_n hx hb dX12_goOn_249 rfl (lv_at hl 1 rfl) ?_
  refine lv_iconst (v := 5) hx hb dX12_goOn_250 (by decide) ?_
  refine lv_aload_n hx hb dX12_goOn_251 rfl (lv_at hl 1 rfl) ?_
  refine gmX12_51 F K Z dX12_goOn_252 ?_
  refine lv_iload_n hx hb dX12_goOn_255 rfl (lv_at hl 2 rfl) ?_
  obtain ⟨i256, hf⟩ := if_some hf
  refine ml13 F K Z i256 dX12_goOn_256 ?_
  refine lv_iload_n hx hb dX12_goOn_257 rfl (lv_at hl 0 rfl) ?_
  refine lv_aload_n hx hb dX12_goOn_258 rfl (lv_at hl 1 rfl) ?_
  refine gmX12_54 F K Z dX12_goOn_259 ?_
  refine lv_iload_n hx hb dX12_goOn_262 rfl (lv_at hl 2 rfl) ?_
  obtain ⟨i263, hf⟩ := if_some hf
  refine ml14 F K Z i263 dX12_goOn_263 ?_
  obtain ⟨q264, h264, hf⟩ := bind_some hf
  refine krX12_296_X12_madeAt F K E hA Z h264 ⟨Nat.le_of_ble_eq_true rfl, Nat.le_of_ble_eq_true rfl⟩ hl.1 (Nat.le_of_ble_eq_true rfl) dX12_goOn_264 (fun H locs Z => ?_)
  refine lv_istore_n (lv' := [(3, .int q264.1), (2, .int (st.1 17)), (0, .ref (ad 0)), (1, .int x1)]) hx hb dX12_goOn_267 rfl hl (by decide) rfl (fun ls hl => ?_)
  refine lv_aload_n hx hb dX12_goOn_268 rfl (lv_at hl 2 rfl) ?_
  refine gmX12_257 F K Z dX12_goOn_269 ?_
  refine lv_if_ne (tgt := 296) hx hb dX12_goOn_272 (by decide) (fun c272 => ?_) (fun c272 => ?_)
  · have hf := if_f c272 hf
    refine lv_iconst (v := -1) hx hb dX12_goOn_296 (by decide) ?_
    exact b_X12_goOn_297 F hr hk K E hA _ _ _ _ hf _ _ _ Z (lv_sub hl [2, 3, 0] rfl)
  have hf := if_t c272 hf
  refine lv_aload_n hx hb dX12_goOn_275 rfl (lv_at hl 2 rfl) ?_
  refine lv_iconst (v := 5) hx hb dX12_goOn_276 (by decide) ?_
  refine lv_iload_n hx hb dX12_goOn_277 rfl (lv_at hl 1 rfl) ?_
  refine lv_aload_n hx hb dX12_goOn_278 rfl (lv_at hl 2 rfl) ?_
  refine gmX12_51 F K Z dX12_goOn_279 ?_
  refine lv_iload_n hx hb dX12_goOn_282 rfl (lv_at hl 3 rfl) ?_
  obtain ⟨i283, hf⟩ := if_some hf
  refine ml13 F K Z i283 dX12_goOn_283 ?_
  refine lv_aload_n hx hb dX12_goOn_284 rfl (lv_at hl 2 rfl) ?_
  refine gmX12_54 F K Z dX12_goOn_285 ?_
  refine lv_iload_n hx hb dX12_goOn_288 rfl (lv_at hl 3 rfl) ?_
  obtain ⟨i289, hf⟩ := if_some hf
  refine ml14 F K Z i289 dX12_goOn_289 ?_
  obtain ⟨q290, h290, hf⟩ := bind_some hf
  refine krX12_296_X12_madeAt F K E hA Z h290 ⟨Nat.le_of_ble_eq_true rfl, Nat.le_of_ble_eq_true rfl⟩ hl.1 (Nat.le_of_ble_eq_true rfl) dX12_goOn_290 (fun H locs Z => ?_)
  refine lv_goto (tgt := 297) hx hb dX12_goOn_293 (by decide) ?_
  exact b_X12_goOn_297 F hr hk K E hA _ _ _ _ hf _ _ _ Z (lv_sub hl [2, 3, 0] rfl)
def f_X12_readFormula_119 (n : Nat) (k34 : StT → Int32 → Option (Int32 × StT)) (st : StT) (x1 : Int32) (x2 : Int32) : Option (Int32 × StT) := if 0 ≤ x2 then (if inB (x1 + (1 : Int32)) 400 = true then (if inB (x1 + (1 : Int32)) 400 = true then (k34 (uA (uA st 10 (x1 + (1 : Int32)) x2) 11 (x1 + (1 : Int32)) (0 : Int32)) (x1 + (1 : Int32))) else none) else none) else (if (st.1 10) = 0 then (some ((st.1 17), st)) else (some ((-1 : Int32), st)))
def f_X12_readFormula_92 (n : Nat) (k34 : StT → Int32 → Option (Int32 × StT)) : Nat → StT → Int32 → Int32 → Option (Int32 × StT)
  | 0, _, _, _ => none
  | k + 1, st, x1, x2 => if 0 ≤ x2 then (f_X12_readFormula_119 n k34 st x1 x2) else (if x1 ≤ 0 then (f_X12_readFormula_119 n k34 st x1 x2) else (if (st.1 10) = 0 then ((f_X12_goOn n st (x1 + (-1 : Int32))).bind fun q112 => (f_X12_readFormula_92 n k34 k q112.2 (x1 + (-1 : Int32)) q112.1)) else (f_X12_readFormula_119 n k34 st x1 x2)))
def f_X12_readFormula_45 (n : Nat) (k34 : StT → Int32 → Option (Int32 × StT)) : Nat → StT → Int32 → Option (Int32 × StT)
  | 0, _, _ => none
  | k + 1, st, x1 => if inB x1 400 = true then (if (4 : Int32) ≤ (st.2.1 10 (x1).toNatClampNeg) then ((f_X12_beginNot n st x1).bind fun q88 => (f_X12_readFormula_92 n k34 n q88.2 x1 q88.1)) else (if inB x1 400 = true then (if inB (x1 + (1 : Int32)) 400 = true then (if inB (x1 + (1 : Int32)) 400 = true then (f_X12_readFormula_45 n k34 k (uA (uA st 10 (x1 + (1 : Int32)) ((st.2.1 10 (x1).toNatClampNeg) + (1 : Int32))) 11 (x1 + (1 : Int32)) (0 : Int32)) (x1 + (1 : Int32))) else none) else none) else none)) else none
def f_X12_readFormula_34 (n : Nat) : Nat → StT → Int32 → Option (Int32 × StT)
  | 0, _, _ => none
  | k + 1, st, x1 => if x1 < 0 then (some ((-1 : Int32), st)) else (if (st.1 10) = 0 then (f_X12_readFormula_45 n (f_X12_readFormula_34 n k) n st x1) else (some ((-1 : Int32), st)))
def f_X12_readFormula (n : Nat) (st : StT) : Option (Int32 × StT) := if inB (0 : Int32) 400 = true then (if inB (0 : Int32) 400 = true then (if inB (1 : Int32) 400 = true then (if inB (1 : Int32) 400 = true then (f_X12_readFormula_34 n n (uA (uA (uA (uA st 10 (0 : Int32) (0 : Int32)) 11 (0 : Int32) (0 : Int32)) 10 (1 : Int32) (1 : Int32)) 11 (1 : Int32) (0 : Int32)) (1 : Int32)) else none) else none) else none) else none
theorem wd1095 : Cond.methodLink RX12 309 yX12_beginNot ∈ Gw := gT7 (List.mem_of_getElem? (i := 223) rfl) rfl
theorem wd1096 : Cond.code yX12_beginNot prog_14_method_18_code 4 (some .int) ∈ Gw := gT7 (List.mem_of_getElem? (i := 226) rfl) rfl
theorem wd1097 : Cond.instanceMethod yX12_beginNot ∈ Gw := gT7 (List.mem_of_getElem? (i := 225) rfl) rfl
theorem wd1098 : Cond.selects RX12 yX12_beginNot yX12_beginNot ∈ Gw := gP6 (q := (yX12_beginNot, 98)) (List.mem_of_getElem? (i := 5) rfl)
theorem wd1099 : Cond.methodLink RX12 312 yX12_goOn ∈ Gw := gT8 (List.mem_of_getElem? (i := 33) rfl) rfl
theorem wd1100 : Cond.code yX12_goOn prog_14_method_19_code 5 (some .int) ∈ Gw := gT8 (List.mem_of_getElem? (i := 36) rfl) rfl
theorem wd1101 : Cond.instanceMethod yX12_goOn ∈ Gw := gT8 (List.mem_of_getElem? (i := 35) rfl) rfl
theorem wd1102 : Cond.selects RX12 yX12_goOn yX12_goOn ∈ Gw := gP7 (q := (yX12_goOn, 98)) (List.mem_of_getElem? (i := 0) rfl)
section
variable {p : Program} {l : Launch} {e : Env} {R : Room} {s : State} {m : MethodId} {args : Array Value} {below : List Frame} {meth : Method} {c : Code} {H : Heap} {locs : List Loc} {Q : State → Prop}
variable {cc : ByteArray} {nL pc : Nat} {ls : Array Slot} {rest : List Value} {D : va_G} {A : Nat → Prop} {cw : Cond} {ad : Nat → Nat} {cy : Nat → ClassId} {ee : EE} {st : StT} {own : String}
theorem ms11 {i : Int32} {v : Int32} (F : CallFix p m c cc nL s args (cw :: Gw) own) (K : va_K D vwCl (tyL cy) s) (Z : ZG D (wM ad cy st) A s H locs) (hi : inB i 400 = true) (hd : decode cc pc = .ok (.iastore, 1)) (kk : ∀ (H1 : Heap) (locs1 : List Loc), ZG D (wM ad cy (uA st 10 i v)) A s H1 locs1 → W p l e R s m args below meth c H1 locs1 0 0 Q (F0 m (pc + 1) ls rest)) : W p l e R s m args below meth c H locs 0 0 Q (F0 m pc ls (.int v :: .int i :: .ref (ad 11) :: rest)) :=
  va_iast F.1 F.2.1 K Z.1 Z.2.1 Z.2.2 11 1 rfl rfl (inB_vp hi) hd (fun H1 locs1 hP hD hS => kk H1 locs1 ⟨hP, hD, hS⟩)
theorem krX12_309_X12_beginNot {n : Nat} {a0 : Int32} {q : (Int32 × StT)} (F : CallFix p m c cc nL s args (cw :: Gw) RX12) (K : va_K D vwCl (tyL cy) s) (E : EV ee A s s.heap) (hA : ∀ q, s.heap.size ≤ q → A q) (Z : ZG D (wM ad cy st) A s H locs) (hf : f_X12_beginNot n st a0 = some q) (hR : 4 ≤ R.frames ∧ 91 ≤ R.locals) (hl : ls.size = nL) (hst : (rest.map fun v => v.category).sum ≤ 8) (hd : decode cc pc = .ok (.invokevirtual 309, 3)) (kk : ∀ (H1 : Heap) (locs1 : List Loc), ZG D (wM ad cy q.2) A s H1 locs1 → W p l e R s m args below meth c H1 locs1 0 0 Q (F0 m (pc + 3) ls (.int q.1 :: rest))) : W p l e R s m args below meth c H locs 0 0 Q (F0 m pc ls (.int a0 :: .ref (ad 0) :: rest)) :=
  call_V (q := (RX12, TX12, 98)) (n := 1) (As := [.int a0]) (rv := some (.int q.1)) 0 12 F K E hA Z (c_X12_beginNot (l := l) (D := D) (ad := ad) (cy := cy) (ee := ee) hf) ⟨wd1096, wd1095, wd1097, wd1098, wd1008⟩ (by decide +kernel) rfl rfl hR rfl hl hst hd kk
theorem krX12_312_X12_goOn {n : Nat} {a0 : Int32} {q : (Int32 × StT)} (F : CallFix p m c cc nL s args (cw :: Gw) RX12) (K : va_K D vwCl (tyL cy) s) (E : EV ee A s s.heap) (hA : ∀ q, s.heap.size ≤ q → A q) (Z : ZG D (wM ad cy st) A s H locs) (hf : f_X12_goOn n st a0 = some q) (hR : 5 ≤ R.frames ∧ 115 ≤ R.locals) (hl : ls.size = nL) (hst : (rest.map fun v => v.category).sum ≤ 8) (hd : decode cc pc = .ok (.invokevirtual 312, 3)) (kk : ∀ (H1 : Heap) (locs1 : List Loc), ZG D (wM ad cy q.2) A s H1 locs1 → W p l e R s m args below meth c H1 locs1 0 0 Q (F0 m (pc + 3) ls (.int q.1 :: rest))) : W p l e R s m args below meth c H locs 0 0 Q (F0 m pc ls (.int a0 :: .ref (ad 0) :: rest)) :=
  call_V (q := (RX12, TX12, 98)) (n := 1) (As := [.int a0]) (rv := some (.int q.1)) 0 12 F K E hA Z (c_X12_goOn (l := l) (D := D) (ad := ad) (cy := cy) (ee := ee) hf) ⟨wd1100, wd1099, wd1101, wd1102, wd1008⟩ (by decide +kernel) rfl rfl hR rfl hl hst hd kk
end
set_option maxRecDepth 100000 in
set_option maxHeartbeats 4000000 in
theorem b_X12_readFormula_119 {p : Program} {l : Launch} {e : Env} {s : State} {m : MethodId} {args : Array Value} {below : List Frame} {meth : Method} {c : Code} {D : va_G} {A : Nat → Prop} {ad : Nat → Nat} {cy : Nat → ClassId} {ee : EE} {n : Nat} {res : (Int32 × StT)} (F : CallFix p m c cX12_readFormula 3 s args (Cond.code yX12_readFormula cX12_readFormula 3 (some .int) :: Gw) yX12_readFormula.cls) (hr : meth.sig.returnType = (some .int)) (hk : meth.locks = false) (K : va_K D vwCl (tyL cy) s) (E : EV ee A s s.heap) (hA : ∀ q, s.heap.size ≤ q → A q) {k34 : StT → Int32 → Option (Int32 × StT)} (hk34 : ∀ (st : StT) (x1 : Int32), k34 st x1 = some res → ∀ (H : Heap) (locs : List Loc) (ls : Array Slot), ZG D (wM ad cy st) A s H locs → lv_has ls 3 [(0, .ref (ad 0)), (1, .int x1)] → W p l e { frames := 5, cells := 0, slots := 0, locals := 115 } s m args below meth c H locs 0 0 (MQ below (QC D (some (.int res.1)) (wM ad cy res.2) A) args s 0 0 A) (F0 m 34 ls [])) : ∀ (st : StT) (x1 : Int32) (x2 : Int32), f_X12_readFormula_119 n k34 st x1 x2 = some res → ∀ (H : Heap) (locs : List Loc) (ls : Array Slot), ZG D (wM ad cy st) A s H locs → lv_has ls 3 [(0, .ref (ad 0)), (1, .int x1), (2, .int x2)] → W p l e { frames := 5, cells := 0, slots := 0, locals := 115 } s m args below meth c H locs 0 0 (MQ below (QC D (some (.int res.1)) (wM ad cy res.2) A) args s 0 0 A) (F0 m 119 ls []) := by
  have hx := F.1
  have hb := F.2.1
  intro st x1 x2 hf H locs ls Z hl
  unfold f_X12_readFormula_119 at hf
  refine lv_iload_n hx hb dX12_readFormula_119 rfl (lv_at hl 2 rfl) ?_
  refine lv_if_ge (tgt := 139) hx hb dX12_readFormula_120 (by decide) (fun c120 => ?_) (fun c120 => ?_)
  · have hf := if_t c120 hf
    refine lv_aload_n hx hb dX12_readFormula_139 rfl (lv_at hl 0 rfl) ?_
    refine gmX12_45 F K Z dX12_readFormula_140 ?_
    refine lv_iload_n hx hb dX12_readFormula_143 rfl (lv_at hl 1 rfl) ?_
    refine lv_iconst (v := 1) hx hb dX12_readFormula_144 (by decide) ?_
    refine lv_iadd hx hb dX12_readFormula_145 ?_
    refine lv_iload_n hx hb dX12_readFormula_146 rfl (lv_at hl 2 rfl) ?_
    obtain ⟨i147, hf⟩ := if_some hf
    refine ms11 F K Z i147 dX12_readFormula_147 (fun H locs Z => ?_)
    refine lv_aload_n hx hb dX12_readFormula_148 rfl (lv_at hl 0 rfl) ?_
    refine gmX12_48 F K Z dX12_readFormula_149 ?_
    refine lv_iload_n hx hb dX12_readFormula_152 rfl (lv_at hl 1 rfl) ?_
    refine lv_iconst (v := 1) hx hb dX12_readFormula_153 (by decide) ?_
    refine lv_iadd hx hb dX12_readFormula_154 ?_
    refine lv_iconst (v := 0) hx hb dX12_readFormula_155 (by decide) ?_
    obtain ⟨i156, hf⟩ := if_some hf
    refine ms12 F K Z i156 dX12_readFormula_156 (fun H locs Z => ?_)
    refine lv_iinc (v := (x1 + (1 : Int32))) (lv' := [(1, .int (x1 + (1 : Int32))), (0, .ref (ad 0)), (2, .int x2)]) hx hb dX12_readFormula_157 hl (k := 1) rfl (congrArg (fun z => x1 + z) (by decide)) (by decide) rfl (fun ls hl => ?_)
    refine lv_goto (tgt := 34) hx hb dX12_readFormula_160 (by decide) ?_
    exact hk34 _ _ hf _ _ _ Z (lv_sub hl [1, 0] rfl)
  have hf := if_f c120 hf
  refine lv_aload_n hx hb dX12_readFormula_123 rfl (lv_at hl 0 rfl) ?_
  refine gmX12_257 F K Z dX12_readFormula_124 ?_
  refine lv_if_ne (tgt := 137) hx hb dX12_readFormula_127 (by decide) (fun c127 => ?_) (fun c127 => ?_)
  · have hf := if_f c127 hf
    refine lv_iconst (v := -1) hx hb dX12_readFormula_137 (by decide) ?_
    have hf := Option.some.inj hf
    subst hf
    exact ret_i F hr hk Z dX12_readFormula_138
  have hf := if_t c127 hf
  refine lv_aload_n hx hb dX12_readFormula_130 rfl (lv_at hl 0 rfl) ?_
  refine gmX12_293 F K Z dX12_readFormula_131 ?_
  refine lv_goto (tgt := 138) hx hb dX12_readFormula_134 (by decide) ?_
  have hf := Option.some.inj hf
  subst hf
  exact ret_i F hr hk Z dX12_readFormula_138
set_option maxRecDepth 100000 in
set_option maxHeartbeats 4000000 in
theorem b_X12_readFormula_92 {p : Program} {l : Launch} {e : Env} {s : State} {m : MethodId} {args : Array Value} {below : List Frame} {meth : Method} {c : Code} {D : va_G} {A : Nat → Prop} {ad : Nat → Nat} {cy : Nat → ClassId} {ee : EE} {n : Nat} {res : (Int32 × StT)} (F : CallFix p m c cX12_readFormula 3 s args (Cond.code yX12_readFormula cX12_readFormula 3 (some .int) :: Gw) yX12_readFormula.cls) (hr : meth.sig.returnType = (some .int)) (hk : meth.locks = false) (K : va_K D vwCl (tyL cy) s) (E : EV ee A s s.heap) (hA : ∀ q, s.heap.size ≤ q → A q) {k34 : StT → Int32 → Option (Int32 × StT)} (hk34 : ∀ (st : StT) (x1 : Int32), k34 st x1 = some res → ∀ (H : Heap) (locs : List Loc) (ls : Array Slot), ZG D (wM ad cy st) A s H locs → lv_has ls 3 [(0, .ref (ad 0)), (1, .int x1)] → W p l e { frames := 5, cells := 0, slots := 0, locals := 115 } s m args below meth c H locs 0 0 (MQ below (QC D (some (.int res.1)) (wM ad cy res.2) A) args s 0 0 A) (F0 m 34 ls [])) : ∀ (k : Nat) (st : StT) (x1 : Int32) (x2 : Int32), f_X12_readFormula_92 n k34 k st x1 x2 = some res → ∀ (H : Heap) (locs : List Loc) (ls : Array Slot), ZG D (wM ad cy st) A s H locs → lv_has ls 3 [(0, .ref (ad 0)), (1, .int x1), (2, .int x2)] → W p l e { frames := 5, cells := 0, slots := 0, locals := 115 } s m args below meth c H locs 0 0 (MQ below (QC D (some (.int res.1)) (wM ad cy res.2) A) args s 0 0 A) (F0 m 92 ls []) := by
  have hx := F.1
  have hb := F.2.1
  intro k
  induction k with
  | zero =>
    intro st x1 x2 hf
    exact absurd hf (by simp [f_X12_readFormula_92])
  | succ k ih =>
    intro st x1 x2 hf H locs ls Z hl
    rw [f_X12_readFormula_92] at hf
    refine lv_iload_n hx hb dX12_readFormula_92 rfl (lv_at hl 2 rfl) ?_
    refine lv_if_ge (tgt := 119) hx hb dX12_readFormula_93 (by decide) (fun c93 => ?_) (fun c93 => ?_)
    · have hf := if_t c93 hf
      exact b_X12_readFormula_119 F hr hk K E hA hk34 _ _ _ hf _ _ _ Z hl
    have hf := if_f c93 hf
    refine lv_iload_n hx hb dX12_readFormula_96 rfl (lv_at hl 1 rfl) ?_
    refine lv_if_le (tgt := 119) hx hb dX12_readFormula_97 (by decide) (fun c97 => ?_) (fun c97 => ?_)
    · have hf := if_t c97 hf
      exact b_X12_readFormula_119 F hr hk K E hA hk34 _ _ _ hf _ _ _ Z hl
    have hf := if_f c97 hf
    refine lv_aload_n hx hb dX12_readFormula_100 rfl (lv_at hl 0 rfl) ?_
    refine gmX12_257 F K Z dX12_readFormula_101 ?_
    refine lv_if_ne (tgt := 119) hx hb dX12_readFormula_104 (by decide) (fun c104 => ?_) (fun c104 => ?_)
    · have hf := if_f c104 hf
      exact b_X12_readFormula_119 F hr hk K E hA hk34 _ _ _ hf _ _ _ Z hl
    have hf := if_t c104 hf
    refine lv_iinc (v := (x1 + (-1 : Int32))) (lv' := [(1, .int (x1 + (-1 : Int32))), (0, .ref (ad 0)), (2, .int x2)]) hx hb dX12_readFormula_107 hl (k := 1) rfl (congrArg (fun z => x1 + z) (by decide)) (by decide) rfl (fun ls hl => ?_)
    refine lv_aload_n hx hb dX12_readFormula_110 rfl (lv_at hl 1 rfl) ?_
    refine lv_iload_n hx hb dX12_readFormula_111 rfl (lv_at hl 0 rfl) ?_
    obtain ⟨q112, h112, hf⟩ := bind_some hf
    refine krX12_312_X12_goOn F K E hA Z h112 ⟨Nat.le_of_ble_eq_true rfl, Nat.le_of_ble_eq_true rfl⟩ hl.1 (Nat.le_of_ble_eq_true rfl) dX12_readFormula_112 (fun H locs Z => ?_)
    refine lv_istore_n (lv' := [(2, .int q112.1), (1, .int (x1 + (-1 : Int32))), (0, .ref (ad 0))]) hx hb dX12_readFormula_115 rfl hl (by decide) rfl (fun ls hl => ?_)
    refine lv_goto (tgt := 92) hx hb dX12_readFormula_116 (by decide) ?_
    exact ih _ _ _ hf _ _ _ Z (lv_sub hl [2, 1, 0] rfl)
set_option maxRecDepth 100000 in
set_option maxHeartbeats 4000000 in
theorem b_X12_readFormula_45 {p : Program} {l : Launch} {e : Env} {s : State} {m : MethodId} {args : Array Value} {below : List Frame} {meth : Method} {c : Code} {D : va_G} {A : Nat → Prop} {ad : Nat → Nat} {cy : Nat → ClassId} {ee : EE} {n : Nat} {res : (Int32 × StT)} (F : CallFix p m c cX12_readFormula 3 s args (Cond.code yX12_readFormula cX12_readFormula 3 (some .int) :: Gw) yX12_readFormula.cls) (hr : meth.sig.returnType = (some .int)) (hk : meth.locks = false) (K : va_K D vwCl (tyL cy) s) (E : EV ee A s s.heap) (hA : ∀ q, s.heap.size ≤ q → A q) {k34 : StT → Int32 → Option (Int32 × StT)} (hk34 : ∀ (st : StT) (x1 : Int32), k34 st x1 = some res → ∀ (H : Heap) (locs : List Loc) (ls : Array Slot), ZG D (wM ad cy st) A s H locs → lv_has ls 3 [(0, .ref (ad 0)), (1, .int x1)] → W p l e { frames := 5, cells := 0, slots := 0, locals := 115 } s m args below meth c H locs 0 0 (MQ below (QC D (some (.int res.1)) (wM ad cy res.2) A) args s 0 0 A) (F0 m 34 ls [])) : ∀ (k : Nat) (st : StT) (x1 : Int32), f_X12_readFormula_45 n k34 k st x1 = some res → ∀ (H : Heap) (locs : List Loc) (ls : Array Slot), ZG D (wM ad cy st) A s H locs → lv_has ls 3 [(0, .ref (ad 0)), (1, .int x1)] → W p l e { frames := 5, cells := 0, slots := 0, locals := 115 } s m args below meth c H locs 0 0 (MQ below (QC D (some (.int res.1)) (wM ad cy res.2) A) args s 0 0 A) (F0 m 45 ls []) := by
  have hx := F.1
  have hb := F.2.1
  intro k
  induction k with
  | zero =>
    intro st x1 hf
    exact absurd hf (by simp [f_X12_readFormula_45])
  | succ k ih =>
    intro st x1 hf H locs ls Z hl
    rw [f_X12_readFormula_45] at hf
    refine lv_aload_n hx hb dX12_readFormula_45 rfl (lv_at hl 0 rfl) ?_
    refine gmX12_45 F K Z dX12_readFormula_46 ?_
    refine lv_iload_n hx hb dX12_readFormula_49 rfl (lv_at hl 1 rfl) ?_
    obtain ⟨i50, hf⟩ := if_some hf
    refine ml11 F K Z i50 dX12_readFormula_50 ?_
    refine lv_iconst (v := 4) hx hb dX12_readFormula_51 (by decide) ?_
    refine lv_icmp_ge (tgt := 86) hx hb dX12_readFormula_52 (by decide) (fun c52 => ?_) (fun c52 => ?_)
    · have hf := if_t c52 hf
      refine lv_aload_n hx hb dX12_readFormula_86 rfl (lv_at hl 0 rfl) ?_
      refine lv_iload_n hx hb dX12_readFormula_87 rfl (lv_at hl 1 rfl) ?_
      obtain ⟨q88, h88, hf⟩ := bind_some hf
      refine krX12_309_X12_beginNot F K E hA Z h88 ⟨Nat.le_of_ble_eq_true rfl, Nat.le_of_ble_eq_true rfl⟩ hl.1 (Nat.le_of_ble_eq_true rfl) dX12_readFormula_88 (fun H locs Z => ?_)
      refine lv_istore_n (lv' := [(2, .int q88.1), (0, .ref (ad 0)), (1, .int x1)]) hx hb dX12_readFormula_91 rfl hl (by decide) rfl (fun ls hl => ?_)
      exact b_X12_readFormula_92 F hr hk K E hA hk34 _ _ _ _ hf _ _ _ Z (lv_sub hl [1, 2, 0] rfl)
    have hf := if_f c52 hf
    refine lv_aload_n hx hb dX12_readFormula_55 rfl (lv_at hl 0 rfl) ?_
    refine gmX12_45 F K Z dX12_readFormula_56 ?_
    refine lv_iload_n hx hb dX12_readFormula_59 rfl (lv_at hl 1 rfl) ?_
    refine lv_iconst (v := 1) hx hb dX12_readFormula_60 (by decide) ?_
    refine lv_iadd hx hb dX12_readFormula_61 ?_
    refine lv_aload_n hx hb dX12_readFormula_62 rfl (lv_at hl 0 rfl) ?_
    refine gmX12_45 F K Z dX12_readFormula_63 ?_
    refine lv_iload_n hx hb dX12_readFormula_66 rfl (lv_at hl 1 rfl) ?_
    obtain ⟨i67, hf⟩ := if_some hf
    refine ml11 F K Z i67 dX12_readFormula_67 ?_
    refine lv_iconst (v := 1) hx hb dX12_readFormula_68 (by decide) ?_
    refine lv_iadd hx hb dX12_readFormula_69 ?_
    obtain ⟨i70, hf⟩ := if_some hf
    refine ms11 F K Z i70 dX12_readFormula_70 (fun H locs Z => ?_)
    refine lv_aload_n hx hb dX12_readFormula_71 rfl (lv_at hl 0 rfl) ?_
    refine gmX12_48 F K Z dX12_readFormula_72 ?_
    refine lv_iload_n hx hb dX12_readFormula_75 rfl (lv_at hl 1 rfl) ?_
    refine lv_iconst (v := 1) hx hb dX12_readFormula_76 (by decide) ?_
    refine lv_iadd hx hb dX12_readFormula_77 ?_
    refine lv_iconst (v := 0) hx hb dX12_readFormula_78 (by decide) ?_
    obtain ⟨i79, hf⟩ := if_some hf
    refine ms12 F K Z i79 dX12_readFormula_79 (fun H locs Z => ?_)
    refine lv_iinc (v := (x1 + (1 : Int32))) (lv' := [(1, .int (x1 + (1 : Int32))), (0, .ref (ad 0))]) hx hb dX12_readFormula_80 hl (k := 1) rfl (congrArg (fun z => x1 + z) (by decide)) (by decide) rfl (fun ls hl => ?_)
    refine lv_goto (tgt := 45) hx hb dX12_readFormula_83 (by decide) ?_
    exact ih _ _ hf _ _ _ Z (lv_sub hl [1, 0] rfl)
set_option maxRecDepth 100000 in
set_option maxHeartbeats 4000000 in
theorem b_X12_readFormula_34 {p : Program} {l : Launch} {e : Env} {s : State} {m : MethodId} {args : Array Value} {below : List Frame} {meth : Method} {c : Code} {D : va_G} {A : Nat → Prop} {ad : Nat → Nat} {cy : Nat → ClassId} {ee : EE} {n : Nat} {res : (Int32 × StT)} (F : CallFix p m c cX12_readFormula 3 s args (Cond.code yX12_readFormula cX12_readFormula 3 (some .int) :: Gw) yX12_readFormula.cls) (hr : meth.sig.returnType = (some .int)) (hk : meth.locks = false) (K : va_K D vwCl (tyL cy) s) (E : EV ee A s s.heap) (hA : ∀ q, s.heap.size ≤ q → A q) : ∀ (k : Nat) (st : StT) (x1 : Int32), f_X12_readFormula_34 n k st x1 = some res → ∀ (H : Heap) (locs : List Loc) (ls : Array Slot), ZG D (wM ad cy st) A s H locs → lv_has ls 3 [(0, .ref (ad 0)), (1, .int x1)] → W p l e { frames := 5, cells := 0, slots := 0, locals := 115 } s m args below meth c H locs 0 0 (MQ below (QC D (some (.int res.1)) (wM ad cy res.2) A) args s 0 0 A) (F0 m 34 ls []) := by
  have hx := F.1
  have hb := F.2.1
  intro k
  induction k with
  | zero =>
    intro st x1 hf
    exact absurd hf (by simp [f_X12_readFormula_34])
  | succ k ih =>
    intro st x1 hf H locs ls Z hl
    rw [f_X12_readFormula_34] at hf
    refine lv_iload_n hx hb dX12_readFormula_34 rfl (lv_at hl 1 rfl) ?_
    refine lv_if_lt (tgt := 163) hx hb dX12_readFormula_35 (by decide) (fun c35 => ?_) (fun c35 => ?_)
    · have hf := if_t c35 hf
      refine lv_iconst (v := -1) hx hb dX12_readFormula_163 (by decide) ?_
      have hf := Option.some.inj hf
      subst hf
      exact ret_i F hr hk Z dX12_readFormula_164
    have hf := if_f c35 hf
    refine lv_aload_n hx hb dX12_readFormula_38 rfl (lv_at hl 0 rfl) ?_
    refine gmX12_257 F K Z dX12_readFormula_39 ?_
    refine lv_if_ne (tgt := 163) hx hb dX12_readFormula_42 (by decide) (fun c42 => ?_) (fun c42 => ?_)
    · have hf := if_f c42 hf
      refine lv_iconst (v := -1) hx hb dX12_readFormula_163 (by decide) ?_
      have hf := Option.some.inj hf
      subst hf
      exact ret_i F hr hk Z dX12_readFormula_164
    have hf := if_t c42 hf
    exact b_X12_readFormula_45 F hr hk K E hA ih _ _ _ hf _ _ _ Z hl
set_option maxRecDepth 100000 in
set_option maxHeartbeats 4000000 in
theorem c_X12_readFormula {l : Launch} {D : va_G} {ad : Nat → Nat} {cy : Nat → ClassId} {ee : EE} {n : Nat} {st : StT} {res : (Int32 × StT)} (hf : f_X12_readFormula n st = some res) : CT l yX12_readFormula cX12_readFormula 3 (some .int) 5 115 D cy ee (wM ad cy st) (wM ad cy res.2) [.ref (ad 0)] (some (.int res.1)) := by
  refine CT.of (by decide +kernel) (Nat.le_of_ble_eq_true rfl) ?_
  intro p e s m args below meth c A F hr hk K E hA Z ls hl
  have hl : lv_has ls 3 [(0, .ref (ad 0))] := hl
  have hx := F.1
  have hb := F.2.1
  unfold f_X12_readFormula at hf
  refine lv_iconst (v := 0) hx hb dX12_readFormula_0 (by decide) ?_
  refine lv_istore_n (lv' := [(1, .int (0 : Int32)), (0, .ref (ad 0))]) hx hb dX12_readFormula_1 rfl hl (by decide) rfl (fun ls hl => ?_)
  refine lv_aload_n hx hb dX12_readFormula_2 rfl (lv_at hl 1 rfl) ?_
  refine gmX12_45 F K Z dX12_readFormula_3 ?_
  refine lv_iconst (v := 0) hx hb dX12_readFormula_6 (by decide) ?_
  refine lv_iconst (v := 0) hx hb dX12_readFormula_7 (by decide) ?_
  obtain ⟨i8, hf⟩ := if_some hf
  refine ms11 F K Z i8 dX12_readFormula_8 (fun H locs Z => ?_)
  refine lv_aload_n hx hb dX12_readFormula_9 rfl (lv_at hl 1 rfl) ?_
  refine gmX12_48 F K Z dX12_readFormula_10 ?_
  refine lv_iconst (v := 0) hx hb dX12_readFormula_13 (by decide) ?_
  refine lv_iconst (v := 0) hx hb dX12_readFormula_14 (by decide) ?_
  obtain ⟨i15, hf⟩ := if_some hf
  refine ms12 F K Z i15 dX12_readFormula_15 (fun H locs Z => ?_)
  refine lv_iconst (v := 1) hx hb dX12_readFormula_16 (by decide) ?_
  refine lv_istore_n (lv' := [(2, .int (1 : Int32)), (1, .int (0 : Int32)), (0, .ref (ad 0))]) hx hb dX12_readFormula_17 rfl hl (by decide) rfl (fun ls hl => ?_)
  refine lv_iconst (v := 1) hx hb dX12_readFormula_18 (by decide) ?_
  refine lv_istore_n (lv' := [(1, .int (1 : Int32)), (2, .int (1 : Int32)), (0, .ref (ad 0))]) hx hb dX12_readFormula_19 rfl hl (by decide) rfl (fun ls hl => ?_)
  refine lv_aload_n hx hb dX12_readFormula_20 rfl (lv_at hl 2 rfl) ?_
  refine gmX12_45 F K Z dX12_readFormula_21 ?_
  refine lv_iconst (v := 1) hx hb dX12_readFormula_24 (by decide) ?_
  refine lv_iconst (v := 1) hx hb dX12_readFormula_25 (by decide) ?_
  obtain ⟨i26, hf⟩ := if_some hf
  refine ms11 F K Z i26 dX12_readFormula_26 (fun H locs Z => ?_)
  refine lv_aload_n hx hb dX12_readFormula_27 rfl (lv_at hl 2 rfl) ?_
  refine gmX12_48 F K Z dX12_readFormula_28 ?_
  refine lv_iconst (v := 1) hx hb dX12_readFormula_31 (by decide) ?_
  refine lv_iconst (v := 0) hx hb dX12_readFormula_32 (by decide) ?_
  obtain ⟨i33, hf⟩ := if_some hf
  refine ms12 F K Z i33 dX12_readFormula_33 (fun H locs Z => ?_)
  exact b_X12_readFormula_34 F hr hk K E hA _ _ _ hf _ _ _ Z (lv_sub hl [2, 0] rfl)
