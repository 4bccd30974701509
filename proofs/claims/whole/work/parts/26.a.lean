theorem lwt_1 {w : Cond} (i : Nat) (h : tables_1_1[i]? = some w) : w ∈ lw_tbl := List.mem_append_right _ (List.mem_append_left _ (List.mem_of_getElem? h))
theorem lwt_2 {w : Cond} (i : Nat) (h : tables_1_2[i]? = some w) : w ∈ lw_tbl := List.mem_append_right _ (List.mem_append_right _ (List.mem_append_left _ (List.mem_of_getElem? h)))
theorem lwt_3 {w : Cond} (i : Nat) (h : tables_1_3[i]? = some w) : w ∈ lw_tbl := List.mem_append_right _ (List.mem_append_right _ (List.mem_append_right _ (List.mem_append_left _ (List.mem_of_getElem? h))))
theorem lwt_4 {w : Cond} (i : Nat) (h : tables_1_4[i]? = some w) : w ∈ lw_tbl := List.mem_append_right _ (List.mem_append_right _ (List.mem_append_right _ (List.mem_append_right _ (List.mem_append_left _ (List.mem_of_getElem? h)))))
theorem lwt_5 {w : Cond} (i : Nat) (h : tables_1_5[i]? = some w) : w ∈ lw_tbl := List.mem_append_right _ (List.mem_append_right _ (List.mem_append_right _ (List.mem_append_right _ (List.mem_append_right _ (List.mem_append_left _ (List.mem_of_getElem? h))))))
theorem lwt_6 {w : Cond} (i : Nat) (h : tables_1_6[i]? = some w) : w ∈ lw_tbl := List.mem_append_right _ (List.mem_append_right _ (List.mem_append_right _ (List.mem_append_right _ (List.mem_append_right _ (List.mem_append_right _ (List.mem_append_left _ (List.mem_of_getElem? h)))))))
theorem lwt_7 {w : Cond} (i : Nat) (h : tables_1_7[i]? = some w) : w ∈ lw_tbl := List.mem_append_right _ (List.mem_append_right _ (List.mem_append_right _ (List.mem_append_right _ (List.mem_append_right _ (List.mem_append_right _ (List.mem_append_right _ (List.mem_append_left _ (List.mem_of_getElem? h))))))))
theorem lwt_8 {w : Cond} (i : Nat) (h : tables_1_8[i]? = some w) : w ∈ lw_tbl := List.mem_append_right _ (List.mem_append_right _ (List.mem_append_right _ (List.mem_append_right _ (List.mem_append_right _ (List.mem_append_right _ (List.mem_append_right _ (List.mem_append_right _ (List.mem_append_left _ (List.mem_of_getElem? h)))))))))
theorem lwt_9 {w : Cond} (i : Nat) (h : tables_1_9[i]? = some w) : w ∈ lw_tbl := List.mem_append_right _ (List.mem_append_right _ (List.mem_append_right _ (List.mem_append_right _ (List.mem_append_right _ (List.mem_append_right _ (List.mem_append_right _ (List.mem_append_right _ (List.mem_append_right _ (List.mem_of_getElem? h)))))))))
theorem nuf_0 : Cond.fieldLinkNest "MirrorHou\x72" 94 "MirrorHour$Tape" "count" "I" "MirrorHou\x72" ∈ lw_tbl := lwt_1 43 (by decide +kernel)
theorem nuf_1 : Cond.fieldLinkNest "MirrorHour$Reade\x72" 44 "MirrorHour$Tape" "place" "I" "MirrorHou\x72" ∈ lw_tbl := lwt_1 46 (by decide +kernel)
theorem nuf_2 : Cond.fieldLinkNest "MirrorHour$Reade\x72" 38 "MirrorHour$Tape" "sort" "I" "MirrorHou\x72" ∈ lw_tbl := lwt_1 48 (by decide +kernel)
theorem nuf_3 : Cond.fieldLinkNest "MirrorHour$Town" 9 "MirrorHou\x72" "LINES" "[LMirrorHour$Line;" "MirrorHou\x72" ∈ lw_tbl := lwt_1 70 (by decide +kernel)
theorem nuf_4 : Cond.fieldLinkNest "MirrorHour$Riddle" 28 "MirrorHour$Town" "marks" "I" "MirrorHou\x72" ∈ lw_tbl := lwt_1 92 (by decide +kernel)
theorem nuf_5 : Cond.fieldLinkNest "MirrorHour$Reade\x72" 130 "MirrorHour$Town" "marks" "I" "MirrorHou\x72" ∈ lw_tbl := lwt_1 93 (by decide +kernel)
theorem nuf_6 : Cond.fieldLinkNest "MirrorHour$State" 142 "MirrorHour$Town" "marks" "I" "MirrorHou\x72" ∈ lw_tbl := lwt_1 94 (by decide +kernel)
theorem nuf_7 : Cond.fieldLinkNest "MirrorHou\x72" 285 "MirrorHour$Town" "marks" "I" "MirrorHou\x72" ∈ lw_tbl := lwt_1 95 (by decide +kernel)
theorem nuf_8 : Cond.fieldLinkNest "MirrorHour$Reade\x72" 134 "MirrorHour$Town" "within" "I" "MirrorHou\x72" ∈ lw_tbl := lwt_1 97 (by decide +kernel)
theorem nuf_9 : Cond.fieldLinkNest "MirrorHour$State" 106 "MirrorHour$Town" "within" "I" "MirrorHou\x72" ∈ lw_tbl := lwt_1 98 (by decide +kernel)
theorem nuf_10 : Cond.fieldLinkNest "MirrorHou\x72" 338 "MirrorHour$Town" "within" "I" "MirrorHou\x72" ∈ lw_tbl := lwt_1 99 (by decide +kernel)
theorem nuf_11 : Cond.fieldLinkNest "MirrorHour$Reade\x72" 138 "MirrorHour$Town" "late" "I" "MirrorHou\x72" ∈ lw_tbl := lwt_1 101 (by decide +kernel)
theorem nuf_12 : Cond.fieldLinkNest "MirrorHour$State" 84 "MirrorHour$Town" "late" "I" "MirrorHou\x72" ∈ lw_tbl := lwt_1 102 (by decide +kernel)
theorem nuf_13 : Cond.fieldLinkNest "MirrorHou\x72" 341 "MirrorHour$Town" "late" "I" "MirrorHou\x72" ∈ lw_tbl := lwt_1 103 (by decide +kernel)
theorem nuf_14 : Cond.fieldLinkNest "MirrorHour$Reade\x72" 142 "MirrorHour$Town" "shut" "I" "MirrorHou\x72" ∈ lw_tbl := lwt_1 105 (by decide +kernel)
theorem nuf_15 : Cond.fieldLinkNest "MirrorHou\x72" 344 "MirrorHour$Town" "shut" "I" "MirrorHou\x72" ∈ lw_tbl := lwt_1 106 (by decide +kernel)
theorem nuf_16 : Cond.fieldLinkNest "MirrorHou\x72" 161 "MirrorHour$Town" "kinds" "[I" "MirrorHou\x72" ∈ lw_tbl := lwt_1 110 (by decide +kernel)
theorem nuf_17 : Cond.fieldLinkNest "MirrorHour$State" 93 "MirrorHour$Town" "kinds" "[I" "MirrorHou\x72" ∈ lw_tbl := lwt_1 111 (by decide +kernel)
theorem nuf_18 : Cond.fieldLinkNest "MirrorHour$Riddle" 75 "MirrorHour$Town" "told" "[I" "MirrorHou\x72" ∈ lw_tbl := lwt_1 113 (by decide +kernel)
theorem nuf_19 : Cond.fieldLinkNest "MirrorHour$State" 81 "MirrorHour$Town" "told" "[I" "MirrorHou\x72" ∈ lw_tbl := lwt_1 114 (by decide +kernel)
theorem nuf_20 : Cond.fieldLinkNest "MirrorHour$State" 44 "MirrorHour$Town" "looks" "LMirrorHour$Looks;" "MirrorHou\x72" ∈ lw_tbl := lwt_1 116 (by decide +kernel)
theorem nuf_21 : Cond.fieldLinkNest "MirrorHour$Reade\x72" 171 "MirrorHour$Town" "looks" "LMirrorHour$Looks;" "MirrorHou\x72" ∈ lw_tbl := lwt_1 117 (by decide +kernel)
theorem nuf_22 : Cond.fieldLinkNest "MirrorHour$State" 37 "MirrorHour$Town" "visits" "[I" "MirrorHou\x72" ∈ lw_tbl := lwt_1 119 (by decide +kernel)
theorem nuf_23 : Cond.fieldLinkNest "MirrorHour$Reade\x72" 181 "MirrorHour$Town" "visits" "[I" "MirrorHou\x72" ∈ lw_tbl := lwt_1 120 (by decide +kernel)
theorem nuf_24 : Cond.fieldLinkNest "MirrorHour$Fewest" 33 "MirrorHour$Town" "wishPerson" "[I" "MirrorHou\x72" ∈ lw_tbl := lwt_1 122 (by decide +kernel)
theorem nuf_25 : Cond.fieldLinkNest "MirrorHour$Reade\x72" 202 "MirrorHour$Town" "wishPerson" "[I" "MirrorHou\x72" ∈ lw_tbl := lwt_1 123 (by decide +kernel)
theorem nuf_26 : Cond.fieldLinkNest "MirrorHour$State" 122 "MirrorHour$Town" "wishPerson" "[I" "MirrorHou\x72" ∈ lw_tbl := lwt_1 124 (by decide +kernel)
theorem nuf_27 : Cond.fieldLinkNest "MirrorHour$Fewest" 40 "MirrorHour$Town" "wishDay" "[I" "MirrorHou\x72" ∈ lw_tbl := lwt_1 126 (by decide +kernel)
theorem nuf_28 : Cond.fieldLinkNest "MirrorHour$Reade\x72" 205 "MirrorHour$Town" "wishDay" "[I" "MirrorHou\x72" ∈ lw_tbl := lwt_1 127 (by decide +kernel)
theorem nuf_29 : Cond.fieldLinkNest "MirrorHour$State" 125 "MirrorHour$Town" "wishDay" "[I" "MirrorHou\x72" ∈ lw_tbl := lwt_1 128 (by decide +kernel)
theorem nuf_30 : Cond.fieldLinkNest "MirrorHour$Reade\x72" 213 "MirrorHour$Town" "odds" "[I" "MirrorHou\x72" ∈ lw_tbl := lwt_1 130 (by decide +kernel)
theorem nuf_31 : Cond.fieldLinkNest "MirrorHour$Riddle" 88 "MirrorHour$Town" "stares" "[I" "MirrorHou\x72" ∈ lw_tbl := lwt_1 132 (by decide +kernel)
theorem nuf_32 : Cond.fieldLinkNest "MirrorHour$Reade\x72" 221 "MirrorHour$Town" "stares" "[I" "MirrorHou\x72" ∈ lw_tbl := lwt_1 133 (by decide +kernel)
theorem nuf_33 : Cond.fieldLinkNest "MirrorHou\x72" 109 "MirrorHour$Reade\x72" "spot" "I" "MirrorHou\x72" ∈ lw_tbl := lwt_1 173 (by decide +kernel)
theorem nuf_34 : Cond.fieldLinkNest "MirrorHour$Fewest" 21 "MirrorHour$State" "town" "LMirrorHour$Town;" "MirrorHou\x72" ∈ lw_tbl := lwt_1 213 (by decide +kernel)
theorem nuf_35 : Cond.fieldLinkNest "MirrorHour$Rings" 21 "MirrorHour$State" "town" "LMirrorHour$Town;" "MirrorHou\x72" ∈ lw_tbl := lwt_1 214 (by decide +kernel)
theorem nuf_36 : Cond.fieldLinkNest "MirrorHour$Riddle" 22 "MirrorHour$State" "town" "LMirrorHour$Town;" "MirrorHou\x72" ∈ lw_tbl := lwt_1 215 (by decide +kernel)
theorem nuf_37 : Cond.fieldLinkNest "MirrorHour$Rings" 52 "MirrorHour$State" "day" "I" "MirrorHou\x72" ∈ lw_tbl := lwt_1 217 (by decide +kernel)
theorem nuf_38 : Cond.fieldLinkNest "MirrorHour$Acts" 43 "MirrorHour$State" "day" "I" "MirrorHou\x72" ∈ lw_tbl := lwt_1 218 (by decide +kernel)
theorem nuf_39 : Cond.fieldLinkNest "MirrorHou\x72" 311 "MirrorHour$State" "day" "I" "MirrorHou\x72" ∈ lw_tbl := lwt_1 219 (by decide +kernel)
theorem nuf_40 : Cond.fieldLinkNest "MirrorHour$Acts" 52 "MirrorHour$State" "shocks" "I" "MirrorHou\x72" ∈ lw_tbl := lwt_1 221 (by decide +kernel)
theorem nuf_41 : Cond.fieldLinkNest "MirrorHou\x72" 317 "MirrorHour$State" "shocks" "I" "MirrorHou\x72" ∈ lw_tbl := lwt_1 222 (by decide +kernel)
theorem nuf_42 : Cond.fieldLinkNest "MirrorHour$Riddle" 55 "MirrorHour$State" "looks" "LMirrorHour$Looks;" "MirrorHou\x72" ∈ lw_tbl := lwt_1 225 (by decide +kernel)
theorem nuf_43 : Cond.fieldLinkNest "MirrorHour$Acts" 39 "MirrorHour$State" "looks" "LMirrorHour$Looks;" "MirrorHou\x72" ∈ lw_tbl := lwt_1 226 (by decide +kernel)
theorem nuf_44 : Cond.fieldLinkNest "MirrorHou\x72" 138 "MirrorHour$State" "looks" "LMirrorHour$Looks;" "MirrorHou\x72" ∈ lw_tbl := lwt_1 227 (by decide +kernel)
theorem nuf_45 : Cond.fieldLinkNest "MirrorHou\x72" 323 "MirrorHour$Acts" "count" "I" "MirrorHou\x72" ∈ lw_tbl := lwt_2 8 (by decide +kernel)
theorem nuf_46 : Cond.fieldLinkNest "MirrorHou\x72" 218 "MirrorHour$Fewest" "chosen" "[I" "MirrorHou\x72" ∈ lw_tbl := lwt_2 23 (by decide +kernel)
theorem nuf_47 : Cond.fieldLinkNest "MirrorHou\x72" 214 "MirrorHour$Fewest" "count" "I" "MirrorHou\x72" ∈ lw_tbl := lwt_2 26 (by decide +kernel)
theorem nuf_48 : Cond.fieldLinkNest "MirrorHou\x72" 227 "MirrorHour$Rings" "has" "[I" "MirrorHou\x72" ∈ lw_tbl := lwt_2 51 (by decide +kernel)
theorem nuf_49 : Cond.fieldLinkNest "MirrorHou\x72" 224 "MirrorHour$Rings" "gets" "[I" "MirrorHou\x72" ∈ lw_tbl := lwt_2 53 (by decide +kernel)
theorem nuf_50 : Cond.fieldLinkNest "MirrorHou\x72" 294 "MirrorHour$Riddle" "passBy" "I" "MirrorHou\x72" ∈ lw_tbl := lwt_2 82 (by decide +kernel)
theorem nuf_51 : Cond.fieldLinkNest "MirrorHou\x72" 297 "MirrorHour$Riddle" "passLeft" "I" "MirrorHou\x72" ∈ lw_tbl := lwt_2 84 (by decide +kernel)
theorem nuf_52 : Cond.fieldLinkNest "MirrorHour$Reade\x72" 109 "MirrorHou\x72" "LINES" "[LMirrorHour$Line;" "MirrorHou\x72" ∈ lw_tbl := lwt_2 194 (by decide +kernel)
theorem nuf_53 : Cond.fieldLinkNest "MirrorHour$Reade\x72" 113 "MirrorHour$Line" "word" "Ljava/lang/String;" "MirrorHou\x72" ∈ lw_tbl := lwt_8 238 (by decide +kernel)
theorem nuf_54 : Cond.fieldLinkNest "MirrorHour$Town" 71 "MirrorHour$Line" "numbe\x72" "I" "MirrorHou\x72" ∈ lw_tbl := lwt_9 1 (by decide +kernel)
theorem nuf_55 : Cond.fieldLinkNest "MirrorHour$Reade\x72" 72 "MirrorHour$Line" "room" "I" "MirrorHou\x72" ∈ lw_tbl := lwt_9 2 (by decide +kernel)
theorem num_0 : Cond.methodLinkNest "MirrorHou\x72" 9 ⟨"MirrorHour$Tape", "<init>", "()V"⟩ "MirrorHou\x72" ∈ lw_tbl := lwt_1 37 (by decide +kernel)
theorem num_1 : Cond.methodLinkNest "MirrorHour$Town" 31 ⟨"MirrorHour$Looks", "<init>", "()V"⟩ "MirrorHou\x72" ∈ lw_tbl := lwt_1 74 (by decide +kernel)
theorem num_2 : Cond.methodLinkNest "MirrorHour$Town" 67 ⟨"MirrorHou\x72", "fill", "([II)V"⟩ "MirrorHou\x72" ∈ lw_tbl := lwt_1 88 (by decide +kernel)
theorem num_3 : Cond.methodLinkNest "MirrorHour$State" 17 ⟨"MirrorHour$Looks", "<init>", "()V"⟩ "MirrorHou\x72" ∈ lw_tbl := lwt_1 193 (by decide +kernel)
theorem num_4 : Cond.methodLinkNest "MirrorHour$State" 40 ⟨"MirrorHou\x72", "copyRow", "([I[I)V"⟩ "MirrorHou\x72" ∈ lw_tbl := lwt_1 198 (by decide +kernel)
theorem num_5 : Cond.methodLinkNest "MirrorHour$Looks" 36 ⟨"MirrorHou\x72", "copyRow", "([I[I)V"⟩ "MirrorHou\x72" ∈ lw_tbl := lwt_1 211 (by decide +kernel)
theorem num_6 : Cond.methodLinkNest "MirrorHou\x72" 53 ⟨"MirrorHour$Acts", "<init>", "()V"⟩ "MirrorHou\x72" ∈ lw_tbl := lwt_2 2 (by decide +kernel)
theorem num_7 : Cond.methodLinkNest "MirrorHou\x72" 60 ⟨"MirrorHour$Fewest", "<init>", "()V"⟩ "MirrorHou\x72" ∈ lw_tbl := lwt_2 16 (by decide +kernel)
theorem num_8 : Cond.methodLinkNest "MirrorHou\x72" 67 ⟨"MirrorHour$Rings", "<init>", "()V"⟩ "MirrorHou\x72" ∈ lw_tbl := lwt_2 46 (by decide +kernel)
theorem num_9 : Cond.methodLinkNest "MirrorHou\x72" 74 ⟨"MirrorHour$Asking", "<init>", "()V"⟩ "MirrorHou\x72" ∈ lw_tbl := lwt_2 64 (by decide +kernel)
theorem num_10 : Cond.methodLinkNest "MirrorHou\x72" 81 ⟨"MirrorHour$Riddle", "<init>", "()V"⟩ "MirrorHou\x72" ∈ lw_tbl := lwt_2 74 (by decide +kernel)
theorem num_11 : Cond.methodLinkNest "MirrorHour$Tape" 19 ⟨"MirrorHou\x72", "inside", "(II)Z"⟩ "MirrorHou\x72" ∈ lw_tbl := lwt_2 157 (by decide +kernel)
theorem num_12 : Cond.methodLinkNest "MirrorHour$Town" 76 ⟨"MirrorHou\x72", "get", "([II)I"⟩ "MirrorHou\x72" ∈ lw_tbl := lwt_3 21 (by decide +kernel)
theorem num_13 : Cond.methodLinkNest "MirrorHour$Town" 99 ⟨"MirrorHou\x72", "inside", "(II)Z"⟩ "MirrorHou\x72" ∈ lw_tbl := lwt_3 95 (by decide +kernel)
theorem num_14 : Cond.methodLinkNest "MirrorHour$Town" 84 ⟨"MirrorHou\x72", "set", "([III)V"⟩ "MirrorHou\x72" ∈ lw_tbl := lwt_3 96 (by decide +kernel)
theorem num_15 : Cond.methodLinkNest "MirrorHour$Looks" 15 ⟨"MirrorHou\x72", "inside", "(II)Z"⟩ "MirrorHou\x72" ∈ lw_tbl := lwt_3 103 (by decide +kernel)
theorem num_16 : Cond.methodLinkNest "MirrorHour$Looks" 19 ⟨"MirrorHou\x72", "set", "([III)V"⟩ "MirrorHou\x72" ∈ lw_tbl := lwt_3 104 (by decide +kernel)
theorem num_17 : Cond.methodLinkNest "MirrorHour$Reade\x72" 184 ⟨"MirrorHou\x72", "get", "([II)I"⟩ "MirrorHou\x72" ∈ lw_tbl := lwt_3 137 (by decide +kernel)
theorem num_18 : Cond.methodLinkNest "MirrorHour$Reade\x72" 191 ⟨"MirrorHou\x72", "set", "([III)V"⟩ "MirrorHou\x72" ∈ lw_tbl := lwt_3 142 (by decide +kernel)
theorem num_19 : Cond.methodLinkNest "MirrorHour$State" 49 ⟨"MirrorHou\x72", "inside", "(II)Z"⟩ "MirrorHou\x72" ∈ lw_tbl := lwt_4 9 (by decide +kernel)
theorem num_20 : Cond.methodLinkNest "MirrorHour$State" 53 ⟨"MirrorHou\x72", "get", "([II)I"⟩ "MirrorHou\x72" ∈ lw_tbl := lwt_4 10 (by decide +kernel)
theorem num_21 : Cond.methodLinkNest "MirrorHour$Fewest" 36 ⟨"MirrorHou\x72", "get", "([II)I"⟩ "MirrorHou\x72" ∈ lw_tbl := lwt_4 136 (by decide +kernel)
theorem num_22 : Cond.methodLinkNest "MirrorHour$Fewest" 47 ⟨"MirrorHou\x72", "set", "([III)V"⟩ "MirrorHou\x72" ∈ lw_tbl := lwt_4 138 (by decide +kernel)
theorem num_23 : Cond.methodLinkNest "MirrorHour$Rings" 41 ⟨"MirrorHou\x72", "set", "([III)V"⟩ "MirrorHou\x72" ∈ lw_tbl := lwt_4 195 (by decide +kernel)
theorem num_24 : Cond.methodLinkNest "MirrorHour$Rings" 59 ⟨"MirrorHou\x72", "get", "([II)I"⟩ "MirrorHou\x72" ∈ lw_tbl := lwt_4 204 (by decide +kernel)
theorem num_25 : Cond.methodLinkNest "MirrorHour$State" 57 ⟨"MirrorHou\x72", "set", "([III)V"⟩ "MirrorHou\x72" ∈ lw_tbl := lwt_4 236 (by decide +kernel)
theorem num_26 : Cond.methodLinkNest "MirrorHour$Riddle" 67 ⟨"MirrorHou\x72", "set", "([III)V"⟩ "MirrorHou\x72" ∈ lw_tbl := lwt_5 89 (by decide +kernel)
theorem num_27 : Cond.methodLinkNest "MirrorHour$Riddle" 71 ⟨"MirrorHou\x72", "get", "([II)I"⟩ "MirrorHou\x72" ∈ lw_tbl := lwt_5 95 (by decide +kernel)
theorem num_28 : Cond.methodLinkNest "MirrorHour$Riddle" 116 ⟨"MirrorHou\x72", "fill", "([II)V"⟩ "MirrorHou\x72" ∈ lw_tbl := lwt_5 139 (by decide +kernel)
theorem num_29 : Cond.methodLinkNest "MirrorHour$Acts" 25 ⟨"MirrorHou\x72", "set", "([III)V"⟩ "MirrorHou\x72" ∈ lw_tbl := lwt_5 179 (by decide +kernel)
theorem num_30 : Cond.methodLinkNest "MirrorHour$Acts" 29 ⟨"MirrorHou\x72", "get", "([II)I"⟩ "MirrorHou\x72" ∈ lw_tbl := lwt_5 209 (by decide +kernel)
theorem nus_0 : Cond.stringRef "MirrorHour$Reade\x72" 121 "marks" ∈ lw_tbl := lwt_3 37 (by decide +kernel)
theorem nus_1 : Cond.stringRef "MirrorHour$Reade\x72" 132 "within" ∈ lw_tbl := lwt_3 50 (by decide +kernel)
theorem nus_2 : Cond.stringRef "MirrorHour$Reade\x72" 136 "late" ∈ lw_tbl := lwt_3 51 (by decide +kernel)
theorem nus_3 : Cond.stringRef "MirrorHour$Reade\x72" 140 "shut" ∈ lw_tbl := lwt_3 52 (by decide +kernel)
theorem nus_4 : Cond.stringRef "MirrorHour$Reade\x72" 226 "plain" ∈ lw_tbl := lwt_3 76 (by decide +kernel)
theorem nus_5 : Cond.stringRef "MirrorHour$Reade\x72" 228 "aged" ∈ lw_tbl := lwt_3 77 (by decide +kernel)
theorem nus_6 : Cond.stringRef "MirrorHour$Reade\x72" 230 "bearded" ∈ lw_tbl := lwt_3 78 (by decide +kernel)
theorem nus_7 : Cond.stringRef "MirrorHour$Reade\x72" 232 "vain" ∈ lw_tbl := lwt_3 79 (by decide +kernel)
theorem nus_8 : Cond.stringRef "MirrorHour$Reade\x72" 165 "day" ∈ lw_tbl := lwt_3 129 (by decide +kernel)
theorem nus_9 : Cond.stringRef "MirrorHour$Reade\x72" 167 "mark" ∈ lw_tbl := lwt_3 130 (by decide +kernel)
theorem nus_10 : Cond.stringRef "MirrorHour$Reade\x72" 169 "by" ∈ lw_tbl := lwt_3 131 (by decide +kernel)
theorem nus_11 : Cond.stringRef "MirrorHour$Reade\x72" 211 "odds" ∈ lw_tbl := lwt_3 170 (by decide +kernel)
theorem nus_12 : Cond.stringRef "MirrorHou\x72" 333 "nobody of that number is led astray" ∈ lw_tbl := lwt_6 51 (by decide +kernel)
theorem nus_13 : Cond.stringRef "MirrorHourModel" 128 "town" ∈ lw_tbl := lwt_6 224 (by decide +kernel)
theorem nus_14 : Cond.stringRef "MirrorHourModel" 213 "marks" ∈ lw_tbl := lwt_6 239 (by decide +kernel)
theorem nus_15 : Cond.stringRef "MirrorHourModel" 219 "within" ∈ lw_tbl := lwt_7 20 (by decide +kernel)
theorem nus_16 : Cond.stringRef "MirrorHourModel" 221 "late" ∈ lw_tbl := lwt_7 21 (by decide +kernel)
theorem nus_17 : Cond.stringRef "MirrorHourModel" 223 "shut" ∈ lw_tbl := lwt_7 22 (by decide +kernel)
theorem nus_18 : Cond.stringRef "MirrorHourModel" 130 "person" ∈ lw_tbl := lwt_7 23 (by decide +kernel)
theorem nus_19 : Cond.stringRef "MirrorHourModel" 132 "change" ∈ lw_tbl := lwt_7 36 (by decide +kernel)
theorem nus_20 : Cond.stringRef "MirrorHourModel" 134 "visit" ∈ lw_tbl := lwt_7 37 (by decide +kernel)
theorem nus_21 : Cond.stringRef "MirrorHourModel" 136 "wish" ∈ lw_tbl := lwt_7 38 (by decide +kernel)
theorem nus_22 : Cond.stringRef "MirrorHourModel" 138 "asks" ∈ lw_tbl := lwt_7 39 (by decide +kernel)
theorem nus_23 : Cond.stringRef "MirrorHourModel" 140 "stare" ∈ lw_tbl := lwt_7 40 (by decide +kernel)
theorem nus_24 : Cond.stringRef "MirrorHourModel" 225 "plain" ∈ lw_tbl := lwt_7 45 (by decide +kernel)
theorem nus_25 : Cond.stringRef "MirrorHourModel" 227 "aged" ∈ lw_tbl := lwt_7 46 (by decide +kernel)
theorem nus_26 : Cond.stringRef "MirrorHourModel" 229 "bearded" ∈ lw_tbl := lwt_7 47 (by decide +kernel)
theorem nus_27 : Cond.stringRef "MirrorHourModel" 231 "vain" ∈ lw_tbl := lwt_7 48 (by decide +kernel)
theorem nus_28 : Cond.stringRef "MirrorHourModel" 236 "day" ∈ lw_tbl := lwt_7 61 (by decide +kernel)
theorem nus_29 : Cond.stringRef "MirrorHourModel" 238 "mark" ∈ lw_tbl := lwt_7 62 (by decide +kernel)
theorem nus_30 : Cond.stringRef "MirrorHourModel" 240 "by" ∈ lw_tbl := lwt_7 63 (by decide +kernel)
theorem nus_31 : Cond.stringRef "MirrorHourModel" 245 "odds" ∈ lw_tbl := lwt_7 80 (by decide +kernel)
theorem nus_32 : Cond.stringRef "MirrorHour$Line" 58 "town" ∈ lw_tbl := lwt_9 5 (by decide +kernel)
theorem nus_33 : Cond.stringRef "MirrorHour$Line" 64 "person" ∈ lw_tbl := lwt_9 6 (by decide +kernel)
theorem nus_34 : Cond.stringRef "MirrorHour$Line" 73 "wish" ∈ lw_tbl := lwt_9 7 (by decide +kernel)
theorem nus_35 : Cond.stringRef "MirrorHour$Line" 67 "change" ∈ lw_tbl := lwt_9 8 (by decide +kernel)
theorem nus_36 : Cond.stringRef "MirrorHour$Line" 76 "asks" ∈ lw_tbl := lwt_9 9 (by decide +kernel)
theorem nus_37 : Cond.stringRef "MirrorHour$Line" 79 "stare" ∈ lw_tbl := lwt_9 10 (by decide +kernel)
theorem nus_38 : Cond.stringRef "MirrorHour$Line" 70 "visit" ∈ lw_tbl := lwt_9 11 (by decide +kernel)
section START
variable {s : State} {A : Array Value}
theorem nu_f (hts : ∀ w ∈ lw_tbl, w.before A s = true) : ∀ q ∈ fnL, va_Nw (.fieldLinkNest q.1 q.2.1 q.2.2.1 q.2.2.2.1 q.2.2.2.2.1 q.2.2.2.2.2) s := by
  unfold fnL
  refine List.forall_mem_cons.mpr ⟨va_Nw.of rfl (hts _ nuf_0), ?_⟩
  refine List.forall_mem_cons.mpr ⟨va_Nw.of rfl (hts _ nuf_1), ?_⟩
  refine List.forall_mem_cons.mpr ⟨va_Nw.of rfl (hts _ nuf_2), ?_⟩
  refine List.forall_mem_cons.mpr ⟨va_Nw.of rfl (hts _ nuf_3), ?_⟩
  refine List.forall_mem_cons.mpr ⟨va_Nw.of rfl (hts _ nuf_4), ?_⟩
  refine List.forall_mem_cons.mpr ⟨va_Nw.of rfl (hts _ nuf_5), ?_⟩
  refine List.forall_mem_cons.mpr ⟨va_Nw.of rfl (hts _ nuf_6), ?_⟩
  refine List.forall_mem_cons.mpr ⟨va_Nw.of rfl (hts _ nuf_7), ?_⟩
  refine List.forall_mem_cons.mpr ⟨va_Nw.of rfl (hts _ nuf_8), ?_⟩
  refine List.forall_mem_cons.mpr ⟨va_Nw.of rfl (hts _ nuf_9), ?_⟩
  refine List.forall_mem_cons.mpr ⟨va_Nw.of rfl (hts _ nuf_10), ?_⟩
  refine List.forall_mem_cons.mpr ⟨va_Nw.of rfl (hts _ nuf_11), ?_⟩
  refine List.forall_mem_cons.mpr ⟨va_Nw.of rfl (hts _ nuf_12), ?_⟩
  refine List.forall_mem_cons.mpr ⟨va_Nw.of rfl (hts _ nuf_13), ?_⟩
  refine List.forall_mem_cons.mpr ⟨va_Nw.of rfl (hts _ nuf_14), ?_⟩
  refine List.forall_mem_cons.mpr ⟨va_Nw.of rfl (hts _ nuf_15), ?_⟩
  refine List.forall_mem_cons.mpr ⟨va_Nw.of rfl (hts _ nuf_16), ?_⟩
  refine List.forall_mem_cons.mpr ⟨va_Nw.of rfl (hts _ nuf_17), ?_⟩
  refine List.forall_mem_cons.mpr ⟨va_Nw.of rfl (hts _ nuf_18), ?_⟩
  refine List.forall_mem_cons.mpr ⟨va_Nw.of rfl (hts _ nuf_19), ?_⟩
  refine List.forall_mem_cons.mpr ⟨va_Nw.of rfl (hts _ nuf_20), ?_⟩
  refine List.forall_mem_cons.mpr ⟨va_Nw.of rfl (hts _ nuf_21), ?_⟩
  refine List.forall_mem_cons.mpr ⟨va_Nw.of rfl (hts _ nuf_22), ?_⟩
  refine List.forall_mem_cons.mpr ⟨va_Nw.of rfl (hts _ nuf_23), ?_⟩
  refine List.forall_mem_cons.mpr ⟨va_Nw.of rfl (hts _ nuf_24), ?_⟩
  refine List.forall_mem_cons.mpr ⟨va_Nw.of rfl (hts _ nuf_25), ?_⟩
  refine List.forall_mem_cons.mpr ⟨va_Nw.of rfl (hts _ nuf_26), ?_⟩
  refine List.forall_mem_cons.mpr ⟨va_Nw.of rfl (hts _ nuf_27), ?_⟩
  refine List.forall_mem_cons.mpr ⟨va_Nw.of rfl (hts _ nuf_28), ?_⟩
  refine List.forall_mem_cons.mpr ⟨va_Nw.of rfl (hts _ nuf_29), ?_⟩
  refine List.forall_mem_cons.mpr ⟨va_Nw.of rfl (hts _ nuf_30), ?_⟩
  refine List.forall_mem_cons.mpr ⟨va_Nw.of rfl (hts _ nuf_31), ?_⟩
  refine List.forall_mem_cons.mpr ⟨va_Nw.of rfl (hts _ nuf_32), ?_⟩
  refine List.forall_mem_cons.mpr ⟨va_Nw.of rfl (hts _ nuf_33), ?_⟩
  refine List.forall_mem_cons.mpr ⟨va_Nw.of rfl (hts _ nuf_34), ?_⟩
  refine List.forall_mem_cons.mpr ⟨va_Nw.of rfl (hts _ nuf_35), ?_⟩
  refine List.forall_mem_cons.mpr ⟨va_Nw.of rfl (hts _ nuf_36), ?_⟩
  refine List.forall_mem_cons.mpr ⟨va_Nw.of rfl (hts _ nuf_37), ?_⟩
  refine List.forall_mem_cons.mpr ⟨va_Nw.of rfl (hts _ nuf_38), ?_⟩
  refine List.forall_mem_cons.mpr ⟨va_Nw.of rfl (hts _ nuf_39), ?_⟩
  refine List.forall_mem_cons.mpr ⟨va_Nw.of rfl (hts _ nuf_40), ?_⟩
  refine List.forall_mem_cons.mpr ⟨va_Nw.of rfl (hts _ nuf_41), ?_⟩
  refine List.forall_mem_cons.mpr ⟨va_Nw.of rfl (hts _ nuf_42), ?_⟩
  refine List.forall_mem_cons.mpr ⟨va_Nw.of rfl (hts _ nuf_43), ?_⟩
  refine List.forall_mem_cons.mpr ⟨va_Nw.of rfl (hts _ nuf_44), ?_⟩
  refine List.forall_mem_cons.mpr ⟨va_Nw.of rfl (hts _ nuf_45), ?_⟩
  refine List.forall_mem_cons.mpr ⟨va_Nw.of rfl (hts _ nuf_46), ?_⟩
  refine List.forall_mem_cons.mpr ⟨va_Nw.of rfl (hts _ nuf_47), ?_⟩
  refine List.forall_mem_cons.mpr ⟨va_Nw.of rfl (hts _ nuf_48), ?_⟩
  refine List.forall_mem_cons.mpr ⟨va_Nw.of rfl (hts _ nuf_49), ?_⟩
  refine List.forall_mem_cons.mpr ⟨va_Nw.of rfl (hts _ nuf_50), ?_⟩
  refine List.forall_mem_cons.mpr ⟨va_Nw.of rfl (hts _ nuf_51), ?_⟩
  refine List.forall_mem_cons.mpr ⟨va_Nw.of rfl (hts _ nuf_52), ?_⟩
  refine List.forall_mem_cons.mpr ⟨va_Nw.of rfl (hts _ nuf_53), ?_⟩
  refine List.forall_mem_cons.mpr ⟨va_Nw.of rfl (hts _ nuf_54), ?_⟩
  refine List.forall_mem_cons.mpr ⟨va_Nw.of rfl (hts _ nuf_55), ?_⟩
  exact fun _ h => absurd h List.not_mem_nil
theorem nu_m (hts : ∀ w ∈ lw_tbl, w.before A s = true) : ∀ q ∈ mnL, va_Nw (.methodLinkNest q.1 q.2.1 q.2.2.1 q.2.2.2) s := by
  unfold mnL
  refine List.forall_mem_cons.mpr ⟨va_Nw.of rfl (hts _ num_0), ?_⟩
  refine List.forall_mem_cons.mpr ⟨va_Nw.of rfl (hts _ num_1), ?_⟩
  refine List.forall_mem_cons.mpr ⟨va_Nw.of rfl (hts _ num_2), ?_⟩
  refine List.forall_mem_cons.mpr ⟨va_Nw.of rfl (hts _ num_3), ?_⟩
  refine List.forall_mem_cons.mpr ⟨va_Nw.of rfl (hts _ num_4), ?_⟩
  refine List.forall_mem_cons.mpr ⟨va_Nw.of rfl (hts _ num_5), ?_⟩
  refine List.forall_mem_cons.mpr ⟨va_Nw.of rfl (hts _ num_6), ?_⟩
  refine List.forall_mem_cons.mpr ⟨va_Nw.of rfl (hts _ num_7), ?_⟩
  refine List.forall_mem_cons.mpr ⟨va_Nw.of rfl (hts _ num_8), ?_⟩
  refine List.forall_mem_cons.mpr ⟨va_Nw.of rfl (hts _ num_9), ?_⟩
  refine List.forall_mem_cons.mpr ⟨va_Nw.of rfl (hts _ num_10), ?_⟩
  refine List.forall_mem_cons.mpr ⟨va_Nw.of rfl (hts _ num_11), ?_⟩
  refine List.forall_mem_cons.mpr ⟨va_Nw.of rfl (hts _ num_12), ?_⟩
  refine List.forall_mem_cons.mpr ⟨va_Nw.of rfl (hts _ num_13), ?_⟩
  refine List.forall_mem_cons.mpr ⟨va_Nw.of rfl (hts _ num_14), ?_⟩
  refine List.forall_mem_cons.mpr ⟨va_Nw.of rfl (hts _ num_15), ?_⟩
  refine List.forall_mem_cons.mpr ⟨va_Nw.of rfl (hts _ num_16), ?_⟩
  refine List.forall_mem_cons.mpr ⟨va_Nw.of rfl (hts _ num_17), ?_⟩
  refine List.forall_mem_cons.mpr ⟨va_Nw.of rfl (hts _ num_18), ?_⟩
  refine List.forall_mem_cons.mpr ⟨va_Nw.of rfl (hts _ num_19), ?_⟩
  refine List.forall_mem_cons.mpr ⟨va_Nw.of rfl (hts _ num_20), ?_⟩
  refine List.forall_mem_cons.mpr ⟨va_Nw.of rfl (hts _ num_21), ?_⟩
  refine List.forall_mem_cons.mpr ⟨va_Nw.of rfl (hts _ num_22), ?_⟩
  refine List.forall_mem_cons.mpr ⟨va_Nw.of rfl (hts _ num_23), ?_⟩
  refine List.forall_mem_cons.mpr ⟨va_Nw.of rfl (hts _ num_24), ?_⟩
  refine List.forall_mem_cons.mpr ⟨va_Nw.of rfl (hts _ num_25), ?_⟩
  refine List.forall_mem_cons.mpr ⟨va_Nw.of rfl (hts _ num_26), ?_⟩
  refine List.forall_mem_cons.mpr ⟨va_Nw.of rfl (hts _ num_27), ?_⟩
  refine List.forall_mem_cons.mpr ⟨va_Nw.of rfl (hts _ num_28), ?_⟩
  refine List.forall_mem_cons.mpr ⟨va_Nw.of rfl (hts _ num_29), ?_⟩
  refine List.forall_mem_cons.mpr ⟨va_Nw.of rfl (hts _ num_30), ?_⟩
  exact fun _ h => absurd h List.not_mem_nil
def tmS (i : Nat) : Term := ([.string "MirrorHour$Line" 58, .string "MirrorHour$Line" 64, .string "MirrorHour$Line" 67, .string "MirrorHour$Line" 70, .string "MirrorHour$Line" 73, .string "MirrorHour$Line" 76, .string "MirrorHour$Line" 79, .string "MirrorHour$Reade\x72" 121, .string "MirrorHour$Reade\x72" 132, .string "MirrorHour$Reade\x72" 136, .string "MirrorHour$Reade\x72" 140, .string "MirrorHour$Reade\x72" 165, .string "MirrorHour$Reade\x72" 167, .string "MirrorHour$Reade\x72" 169, .string "MirrorHour$Reade\x72" 211, .string "MirrorHour$Reade\x72" 226, .string "MirrorHour$Reade\x72" 228, .string "MirrorHour$Reade\x72" 230, .string "MirrorHour$Reade\x72" 232, .string "MirrorHou\x72" 333] : List Term).getD i (.int 0)
def NF : List Cond := flatC (Jvm.Cond.and given_1 narrow_1)
def stA : List Nat := [415, 424, 444, 474, 435, 455, 464, 102, 111, 121, 129, 173, 180, 188, 194, 137, 146, 154, 165, 202]
theorem nf_ex : ∀ i, i < 20 → Cond.exactly (tmS i) "java/lang/String" ∈ NF := by
  have h : ∀ i, i < 20 → NF[stA.getD i 0]? = some (Cond.exactly (tmS i) "java/lang/String") := by decide +kernel
  exact fun i hi => List.mem_of_getElem? (h i hi)
theorem nf_co : ∀ i, i < 20 → Cond.eq (.field (tmS i) "java/lang/String" "code\x72" "B") (.int 0) ∈ NF := by
  have h : ∀ i, i < 20 → NF[stA.getD i 0 + 1]? = some (Cond.eq (.field (tmS i) "java/lang/String" "code\x72" "B") (.int 0)) := by decide +kernel
  exact fun i hi => List.mem_of_getElem? (h i hi)
theorem nf_ar : ∀ i, i < 20 → Cond.arrayOf (.field (tmS i) "java/lang/String" "value" "[B") .byte ∈ NF := by
  have h : ∀ i, i < 20 → NF[stA.getD i 0 + 2]? = some (Cond.arrayOf (.field (tmS i) "java/lang/String" "value" "[B") .byte) := by decide +kernel
  exact fun i hi => List.mem_of_getElem? (h i hi)
theorem nf_le : ∀ i, i < 19 → Cond.eq (.length (.field (tmS i) "java/lang/String" "value" "[B")) (.int (Int32.ofNat (strLen.getD i 0))) ∈ NF := by
  have h : ∀ i, i < 19 → NF[stA.getD i 0 + 3]? = some (Cond.eq (.length (.field (tmS i) "java/lang/String" "value" "[B")) (.int (Int32.ofNat (strLen.getD i 0)))) := by decide +kernel
  exact fun i hi => List.mem_of_getElem? (h i hi)
theorem nf_el : ∀ i, i < 19 → ∀ j, j < strLen.getD i 0 → Cond.eq (.elem (.field (tmS i) "java/lang/String" "value" "[B") (.int (Int32.ofNat j))) (.int ((strB.getD i []).getD j 0)) ∈ NF := by
  have h : ∀ i, i < 19 → ∀ j, j < strLen.getD i 0 → NF[stA.getD i 0 + 4 + j]? = some (Cond.eq (.elem (.field (tmS i) "java/lang/String" "value" "[B") (.int (Int32.ofNat j))) (.int ((strB.getD i []).getD j 0))) := by decide +kernel
  exact fun i hi j hj => List.mem_of_getElem? (h i hi j hj)
theorem str_tab : ∀ i, i < 19 → ∀ j, j < 19 → Int32.ofNat (strLen.getD i 0) = Int32.ofNat (strLen.getD j 0) → (∀ k, k < strLen.getD i 0 → k < strLen.getD j 0 → (strB.getD i []).getD k 0 = (strB.getD j []).getD k 0) → i = j := by decide +kernel
theorem nf_lx : ∀ i, i < 7 → Cond.exactly (.static RX4 (lnNames.getD i "") "LMirrorHour$Line;") RX4 ∈ NF := by
  have h : ∀ i, i < 7 → NF[[21, 36, 49, 78, 42, 57, 66].getD i 0]? = some (Cond.exactly (.static RX4 (lnNames.getD i "") "LMirrorHour$Line;") RX4) := by decide +kernel
  exact fun i hi => List.mem_of_getElem? (h i hi)
theorem nf_lnumber : ∀ i, i < 7 → Cond.eq (.field (.static RX4 (lnNames.getD i "") "LMirrorHour$Line;") "MirrorHour$Line" "numbe\x72" "I") (.int (lnNum.getD i 0)) ∈ NF := by
  have h : ∀ i, i < 7 → NF[[24, 39, 52, 81, 45, 60, 69].getD i 0]? = some (Cond.eq (.field (.static RX4 (lnNames.getD i "") "LMirrorHour$Line;") "MirrorHour$Line" "numbe\x72" "I") (.int (lnNum.getD i 0))) := by decide +kernel
  exact fun i hi => List.mem_of_getElem? (h i hi)
theorem nf_lroom : ∀ i, i < 7 → Cond.eq (.field (.static RX4 (lnNames.getD i "") "LMirrorHour$Line;") "MirrorHour$Line" "room" "I") (.int (lnRoom.getD i 0)) ∈ NF := by
  have h : ∀ i, i < 7 → NF[[25, 40, 53, 82, 46, 61, 70].getD i 0]? = some (Cond.eq (.field (.static RX4 (lnNames.getD i "") "LMirrorHour$Line;") "MirrorHour$Line" "room" "I") (.int (lnRoom.getD i 0))) := by decide +kernel
  exact fun i hi => List.mem_of_getElem? (h i hi)
theorem nf_lordinal : ∀ i, i < 7 → Cond.eq (.field (.static RX4 (lnNames.getD i "") "LMirrorHour$Line;") "java/lang/Enum" "ordinal" "I") (.int (lnNum.getD i 0)) ∈ NF := by
  have h : ∀ i, i < 7 → NF[[22, 37, 50, 79, 43, 58, 67].getD i 0]? = some (Cond.eq (.field (.static RX4 (lnNames.getD i "") "LMirrorHour$Line;") "java/lang/Enum" "ordinal" "I") (.int (lnNum.getD i 0))) := by decide +kernel
  exact fun i hi => List.mem_of_getElem? (h i hi)
theorem nf_lw : ∀ i, i < 7 → Cond.eq (.field (.static RX4 (lnNames.getD i "") "LMirrorHour$Line;") RX4 "word" "Ljava/lang/String;") (tmS i) ∈ NF := by
  have h : ∀ i, i < 7 → NF[[23, 38, 51, 80, 44, 59, 68].getD i 0]? = some (Cond.eq (.field (.static RX4 (lnNames.getD i "") "LMirrorHour$Line;") RX4 "word" "Ljava/lang/String;") (tmS i)) := by decide +kernel
  exact fun i hi => List.mem_of_getElem? (h i hi)
def neA : List Nat := [0, 41, 54, 83, 47, 62, 71, 1041, 0, 55, 84, 48, 63, 72, 1054, 1055, 0, 86, 1056, 65, 74, 1083, 1084, 1086, 0, 1085, 1087, 1088, 1047, 1048, 56, 85, 0, 64, 73, 1062, 1063, 1065, 87, 1064, 0, 75, 1071, 1072, 1074, 88, 1073, 1075, 0]
theorem nf_ne : ∀ i j, i < 7 → j < 7 → i ≠ j → Cond.not (.eq (.static RX4 (lnNames.getD i "") "LMirrorHour$Line;") (.static RX4 (lnNames.getD j "") "LMirrorHour$Line;")) ∈ NF ∨ Cond.not (.eq (.static RX4 (lnNames.getD j "") "LMirrorHour$Line;") (.static RX4 (lnNames.getD i "") "LMirrorHour$Line;")) ∈ NF := by
  have h : ∀ i, i < 7 → ∀ j, j < 7 → i ≠ j → NF[neA.getD (7 * i + j) 0]? = some (Cond.not (.eq (.static RX4 (lnNames.getD i "") "LMirrorHour$Line;") (.static RX4 (lnNames.getD j "") "LMirrorHour$Line;"))) ∨ NF[neA.getD (7 * i + j) 0 - 1000]? = some (Cond.not (.eq (.static RX4 (lnNames.getD j "") "LMirrorHour$Line;") (.static RX4 (lnNames.getD i "") "LMirrorHour$Line;"))) := by decide +kernel
  exact fun i j hi hj e => (h i hi j hj e).imp (fun q => List.mem_of_getElem? q) (fun q => List.mem_of_getElem? q)
theorem nf_la : Cond.arrayOf (.static RX12 "LINES" "[LMirrorHour$Line;") (.object RX4) ∈ NF := List.mem_of_getElem? (i := 6) (by decide +kernel)
theorem nf_ll : Cond.eq (.length (.static RX12 "LINES" "[LMirrorHour$Line;")) (.int (Int32.ofNat 7)) ∈ NF := List.mem_of_getElem? (i := 7) (by decide +kernel)
theorem nf_le7 : ∀ j, j < 7 → Cond.eq (.elem (.static RX12 "LINES" "[LMirrorHour$Line;") (.int (Int32.ofNat j))) (.static RX4 (lnNames.getD j "") "LMirrorHour$Line;") ∈ NF := by
  have h : ∀ j, j < 7 → NF[9 + j]? = some (Cond.eq (.elem (.static RX12 "LINES" "[LMirrorHour$Line;") (.int (Int32.ofNat j))) (.static RX4 (lnNames.getD j "") "LMirrorHour$Line;")) := by decide +kernel
  exact fun i hi => List.mem_of_getElem? (h i hi)
theorem nf_sa : Cond.arrayOf (.static RX0 "$SwitchMap$MirrorHour$Line" "[I") .int ∈ NF := List.mem_of_getElem? (i := 27) (by decide +kernel)
theorem nf_sl : Cond.eq (.length (.static RX0 "$SwitchMap$MirrorHour$Line" "[I")) (.int (Int32.ofNat 7)) ∈ NF := List.mem_of_getElem? (i := 28) (by decide +kernel)
theorem nf_se7 : ∀ j, j < 7 → Cond.eq (.elem (.static RX0 "$SwitchMap$MirrorHour$Line" "[I") (.int (Int32.ofNat j))) (.int (swl.getD j 0)) ∈ NF := by
  have h : ∀ j, j < 7 → NF[29 + j]? = some (Cond.eq (.elem (.static RX0 "$SwitchMap$MirrorHour$Line" "[I") (.int (Int32.ofNat j))) (.int (swl.getD j 0))) := by decide +kernel
  exact fun i hi => List.mem_of_getElem? (h i hi)
theorem nf_cs : Cond.eq (.static "java/lang/String" "COMPACT_STRINGS" "Z") (.int 1) ∈ NF := List.mem_of_getElem? (i := 16) (by decide +kernel)
theorem nf_sf : Cond.isRef (.static "jdk/internal/util/Preconditions" "SIOOBE_FORMATTER" "Ljava/util/function/BiFunction;") ∈ NF := List.mem_of_getElem? (i := 17) (by decide +kernel)
theorem nf_us : Cond.isRef (.static Bundle.tN "UNASSIGNED_STACK" Bundle.steD) ∈ NF := List.mem_of_getElem? (i := 76) (by decide +kernel)
theorem nf_ss : Cond.isRef (.static Bundle.tN "SUPPRESSED_SENTINEL" Bundle.listD) ∈ NF := List.mem_of_getElem? (i := 77) (by decide +kernel)
theorem nf_q13 : Cond.eq (.string "MirrorHourModel" 128) (.string "MirrorHour$Line" 58) ∈ NF := List.mem_of_getElem? (i := 423) (by decide +kernel)
theorem nf_q14 : Cond.eq (.string "MirrorHour$Reade\x72" 121) (.string "MirrorHourModel" 213) ∈ NF := List.mem_of_getElem? (i := 258) (by decide +kernel)
theorem nf_q15 : Cond.eq (.string "MirrorHour$Reade\x72" 132) (.string "MirrorHourModel" 219) ∈ NF := List.mem_of_getElem? (i := 269) (by decide +kernel)
theorem nf_q16 : Cond.eq (.string "MirrorHour$Reade\x72" 136) (.string "MirrorHourModel" 221) ∈ NF := List.mem_of_getElem? (i := 278) (by decide +kernel)
theorem nf_q17 : Cond.eq (.string "MirrorHour$Reade\x72" 140) (.string "MirrorHourModel" 223) ∈ NF := List.mem_of_getElem? (i := 287) (by decide +kernel)
theorem nf_q18 : Cond.eq (.string "MirrorHourModel" 130) (.string "MirrorHour$Line" 64) ∈ NF := List.mem_of_getElem? (i := 434) (by decide +kernel)
theorem nf_q19 : Cond.eq (.string "MirrorHourModel" 132) (.string "MirrorHour$Line" 67) ∈ NF := List.mem_of_getElem? (i := 454) (by decide +kernel)
theorem nf_q20 : Cond.eq (.string "MirrorHourModel" 134) (.string "MirrorHour$Line" 70) ∈ NF := List.mem_of_getElem? (i := 483) (by decide +kernel)
theorem nf_q21 : Cond.eq (.string "MirrorHourModel" 136) (.string "MirrorHour$Line" 73) ∈ NF := List.mem_of_getElem? (i := 443) (by decide +kernel)
theorem nf_q22 : Cond.eq (.string "MirrorHourModel" 138) (.string "MirrorHour$Line" 76) ∈ NF := List.mem_of_getElem? (i := 463) (by decide +kernel)
theorem nf_q23 : Cond.eq (.string "MirrorHourModel" 140) (.string "MirrorHour$Line" 79) ∈ NF := List.mem_of_getElem? (i := 473) (by decide +kernel)
theorem nf_q24 : Cond.eq (.string "MirrorHour$Reade\x72" 226) (.string "MirrorHourModel" 225) ∈ NF := List.mem_of_getElem? (i := 351) (by decide +kernel)
theorem nf_q25 : Cond.eq (.string "MirrorHour$Reade\x72" 228) (.string "MirrorHourModel" 227) ∈ NF := List.mem_of_getElem? (i := 360) (by decide +kernel)
theorem nf_q26 : Cond.eq (.string "MirrorHour$Reade\x72" 230) (.string "MirrorHourModel" 229) ∈ NF := List.mem_of_getElem? (i := 372) (by decide +kernel)
theorem nf_q27 : Cond.eq (.string "MirrorHour$Reade\x72" 232) (.string "MirrorHourModel" 231) ∈ NF := List.mem_of_getElem? (i := 381) (by decide +kernel)
theorem nf_q28 : Cond.eq (.string "MirrorHour$Reade\x72" 165) (.string "MirrorHourModel" 236) ∈ NF := List.mem_of_getElem? (i := 389) (by decide +kernel)
theorem nf_q29 : Cond.eq (.string "MirrorHour$Reade\x72" 167) (.string "MirrorHourModel" 238) ∈ NF := List.mem_of_getElem? (i := 398) (by decide +kernel)
theorem nf_q30 : Cond.eq (.string "MirrorHour$Reade\x72" 169) (.string "MirrorHourModel" 240) ∈ NF := List.mem_of_getElem? (i := 405) (by decide +kernel)
theorem nf_q31 : Cond.eq (.string "MirrorHour$Reade\x72" 211) (.string "MirrorHourModel" 245) ∈ NF := List.mem_of_getElem? (i := 414) (by decide +kernel)
theorem ws_TOWN : Cond.laysStatic RX4 "TOWN" "LMirrorHour$Line;" ∈ lw_tbl := lwt_3 16 (by decide +kernel)
theorem ws_PERSON : Cond.laysStatic RX4 "PERSON" "LMirrorHour$Line;" ∈ lw_tbl := lwt_3 71 (by decide +kernel)
theorem ws_CHANGE : Cond.laysStatic RX4 "CHANGE" "LMirrorHour$Line;" ∈ lw_tbl := lwt_5 229 (by decide +kernel)
theorem ws_VISIT : Cond.laysStatic RX4 "VISIT" "LMirrorHour$Line;" ∈ lw_tbl := lwt_9 4 (by decide +kernel)
theorem ws_WISH : Cond.laysStatic RX4 "WISH" "LMirrorHour$Line;" ∈ lw_tbl := lwt_3 156 (by decide +kernel)
theorem ws_ASKS : Cond.laysStatic RX4 "ASKS" "LMirrorHour$Line;" ∈ lw_tbl := lwt_5 237 (by decide +kernel)
theorem ws_STARE : Cond.laysStatic RX4 "STARE" "LMirrorHour$Line;" ∈ lw_tbl := lwt_5 239 (by decide +kernel)
theorem ws_LINES : Cond.laysStatic RX12 "LINES" "[LMirrorHour$Line;" ∈ lw_tbl := lwt_1 71 (by decide +kernel)
theorem ws_SW : Cond.laysStatic RX0 "$SwitchMap$MirrorHour$Line" "[I" ∈ lw_tbl := lwt_3 26 (by decide +kernel)
theorem ws_CS : Cond.laysStatic "java/lang/String" "COMPACT_STRINGS" "Z" ∈ lw_tbl := lwt_2 208 (by decide +kernel)
theorem ws_SF : Cond.laysStatic "jdk/internal/util/Preconditions" "SIOOBE_FORMATTER" "Ljava/util/function/BiFunction;" ∈ lw_tbl := lwt_2 228 (by decide +kernel)
theorem ws_US : Cond.laysStatic Bundle.tN "UNASSIGNED_STACK" Bundle.steD ∈ lw_tbl := lwt_6 39 (by decide +kernel)
theorem ws_SS : Cond.laysStatic Bundle.tN "SUPPRESSED_SENTINEL" Bundle.listD ∈ lw_tbl := lwt_6 41 (by decide +kernel)
theorem wi_X4 : Cond.initialized RX4 ∈ lw_tbl := lwt_1 20 (by decide +kernel)
theorem wi_X0 : Cond.initialized RX0 ∈ lw_tbl := lwt_1 21 (by decide +kernel)
theorem wi_X12 : Cond.initialized RX12 ∈ lw_tbl := lwt_1 1 (by decide +kernel)
theorem wi_Str : Cond.initialized "java/lang/String" ∈ lw_tbl := lwt_1 15 (by decide +kernel)
theorem wi_Pre : Cond.initialized "jdk/internal/util/Preconditions" ∈ lw_tbl := lwt_1 17 (by decide +kernel)
theorem wi_Thr : Cond.initialized Bundle.tN ∈ lw_tbl := lwt_1 23 (by decide +kernel)
theorem wa_int : Cond.arrayClass .int ∈ lw_tbl := lwt_1 82 (by decide +kernel)
theorem wa_byte : Cond.arrayClass .byte ∈ lw_tbl := lwt_1 63 (by decide +kernel)
theorem wa_long : Cond.arrayClass .long ∈ lw_tbl := lwt_1 83 (by decide +kernel)
theorem wa_obj : Cond.arrayOver (.object RX9) ∈ lw_tbl := lwt_1 239 (by decide +kernel)
theorem wd_1 : Cond.declares (Bundle.initS "java/lang/RuntimeException") ∈ lw_tbl := lwt_6 16 (by decide +kernel)
theorem wd_2 : Cond.declares (Bundle.initS "java/lang/Exception") ∈ lw_tbl := lwt_6 18 (by decide +kernel)
theorem wd_3 : Cond.declares (Bundle.initS Bundle.tN) ∈ lw_tbl := lwt_6 20 (by decide +kernel)
theorem wd_4 : Cond.castable "java/util/NoSuchElementException" "java/util/NoSuchElementException" ∈ lw_tbl := lwt_6 14 (by decide +kernel)
theorem ws_ln : ∀ i, i < 7 → Cond.laysStatic RX4 (lnNames.getD i "") "LMirrorHour$Line;" ∈ lw_tbl
  | 0, _ => ws_TOWN
  | 1, _ => ws_PERSON
  | 2, _ => ws_CHANGE
  | 3, _ => ws_VISIT
  | 4, _ => ws_WISH
  | 5, _ => ws_ASKS
  | 6, _ => ws_STARE
  | n + 7, h => absurd h (by omega)
theorem arr_of {t : FieldType} {cA : ClassId} {kA : Class} {comp : ClassId} (h1 : s.vm.classes[cA]? = some kA) (h2 : kA.kind = .array comp t) : ArrOfT s cA t := fun n z => ⟨fun k h => (by cases h), kA, h1, comp, h2⟩
/-- two texts at one address are one text -/
theorem of_same {o n d : String} {v w : Value} {t : Nat} {B : Nat → Prop} {H : Heap} (h1 : va_OF o n d v t B s H) (h2 : va_OF o n d w t B s H) : v = w := by
  obtain ⟨cf, k, i, f, cell, a1, a2, a3, a4, a5, a6⟩ := h1
  obtain ⟨cf2, k2, i2, f2, cell2, b1, b2, b3, b4, b5, b6⟩ := h2
  rw [a1] at b1
  obtain ⟨-, -, -, e⟩ : cf = cf2 ∧ k = k2 ∧ i = i2 ∧ f = f2 := by simpa using b1
  subst e
  rw [a3] at b3
  obtain rfl := Option.some.inj b3
  rw [a5] at b5
  exact Option.some.inj b5
theorem T_same {t : Nat} {n1 n2 : Nat} {f1 f2 : Nat → Value} {B : Nat → Prop} {H : Heap} (h1 : va_T .byte t n1 f1 B s H) (h2 : va_T .byte t n2 f2 B s H) : Int32.ofNat n1 = Int32.ofNat n2 ∧ ∀ k, k < n1 → k < n2 → f1 k = f2 k := by
  obtain ⟨cell, a1, a2, a3, a4, a5, a6, a7⟩ := h1
  obtain ⟨cell2, b1, b2, b3, b4, b5, b6, b7⟩ := h2
  rw [a1] at b1
  obtain rfl := Option.some.inj b1
  exact ⟨a5.symm.trans b5, fun k q1 q2 => Option.some.inj ((a6 k q1).symm.trans (b6 k q2))⟩
theorem start_str {b : Addr} {A : Nat → Prop} (hn : ∀ w ∈ NF, w.before #[Value.ref b] s = true) (hA : ∀ a : Nat, a < s.heap.size → ¬ A a) : ∃ adS adV : Nat → Nat, vk_S 19 strLen strB adS adV A s s.heap ∧ ∀ i, i < 20 → (tmS i).eval #[Value.ref b] s none [] s = some (.ref (adS i)) := by
  have h0 : ∀ i : Nat, ∃ q : Nat × Nat, (i < 20 → (tmS i).eval #[Value.ref b] s none [] s = some (.ref q.1)) ∧ (i < 19 → va_O "java/lang/String" q.1 A s s.heap ∧ va_OF "java/lang/String" "code\x72" "B" (.int 0) q.1 A s s.heap ∧ va_OF "java/lang/String" "value" "[B" (.ref q.2) q.1 A s s.heap ∧ va_T .byte q.2 (strLen.getD i 0) (fun j => .int ((strB.getD i []).getD j 0)) A s s.heap) := by
    intro i
    by_cases hi : i < 20
    · obtain ⟨a, c, cA, kA, q1, q2, q3, q4, q5, q6, -⟩ := Cond.exactly_spec (args := #[Value.ref b]) (first := s) (o := none) (s := s) (idx := []) (t := tmS i) (cls := "java/lang/String") (hn _ (nf_ex i hi))
      by_cases h9 : i < 19
      · have hlt : strLen.getD i 0 < 2 ^ 31 := (show ∀ i, i < 19 → strLen.getD i 0 < 2 ^ 31 by decide) i h9
        obtain ⟨t, ht, hT⟩ := va_Tof (f := fun j => .int ((strB.getD i []).getD j 0)) (A := A) hlt (hn _ (nf_ar i hi)) (va_eqt (hn _ (nf_le i h9))) (fun j hj => va_eqt (hn _ (nf_el i h9 j hj))) hA
        exact ⟨(a, t), fun _ => q1, fun _ => ⟨⟨cA, q3, q5, by rw [q6]; exact q2, hA a (Array.getElem?_eq_some_iff.mp q3).1⟩, vk_OFof q1 (va_eqt (hn _ (nf_co i hi))) hA, vk_OFof q1 ht hA, hT⟩⟩
      · exact ⟨(a, 0), fun _ => q1, fun h => absurd h h9⟩
    · exact ⟨(0, 0), fun h => absurd h hi, fun h => absurd h (by omega)⟩
  obtain ⟨ad, had⟩ := Classical.axiomOfChoice h0
  refine ⟨fun i => (ad i).1, fun i => (ad i).2, ⟨fun i hi => (had i).2 hi, fun i j hi hj e => ?_⟩, fun i hi => (had i).1 hi⟩
  have e : (ad i).1 = (ad j).1 := e
  obtain ⟨-, -, i3, i4⟩ := (had i).2 hi
  obtain ⟨-, -, j3, j4⟩ := (had j).2 hj
  rw [← e] at j3
  have ev : (ad i).2 = (ad j).2 := Value.ref.inj (of_same i3 j3)
  rw [← ev] at j4
  obtain ⟨e1, e2⟩ := T_same i4 j4
  exact str_tab i hi j hj e1 (fun k k1 k2 => Value.int.inj (e2 k k1 k2))
theorem va_eqvr {args : Array Value} {t u : Term} {v : Value} (h : (Cond.eq t u).before args s = true) (ht : t.eval args s none [] s = some v) : u.eval args s none [] s = some v := by
  cases hu : u.eval args s none [] s with
  | none => cases v <;> simp [Cond.before, Cond.holds, Cond.value, ht, hu] at h
  | some w =>
    simp only [Cond.before, Cond.holds, Cond.value, ht, hu] at h
    cases w <;> cases v <;> simp_all
theorem nu_s {b : Addr} {g : XG} (hts : ∀ w ∈ lw_tbl, w.before #[Value.ref b] s = true) (hn : ∀ w ∈ NF, w.before #[Value.ref b] s = true) (hS : ∀ i, i < 20 → (tmS i).eval #[Value.ref b] s none [] s = some (.ref (adS g i))) : ∀ q ∈ srL, vk_R q.1 q.2.1 q.2.2.1 (adS g q.2.2.2) s := by
  unfold srL
  refine List.forall_mem_cons.mpr ⟨vk_R.of (hts _ nus_0) (hS 7 (by decide)), ?_⟩
  refine List.forall_mem_cons.mpr ⟨vk_R.of (hts _ nus_1) (hS 8 (by decide)), ?_⟩
  refine List.forall_mem_cons.mpr ⟨vk_R.of (hts _ nus_2) (hS 9 (by decide)), ?_⟩
  refine List.forall_mem_cons.mpr ⟨vk_R.of (hts _ nus_3) (hS 10 (by decide)), ?_⟩
  refine List.forall_mem_cons.mpr ⟨vk_R.of (hts _ nus_4) (hS 15 (by decide)), ?_⟩
  refine List.forall_mem_cons.mpr ⟨vk_R.of (hts _ nus_5) (hS 16 (by decide)), ?_⟩
  refine List.forall_mem_cons.mpr ⟨vk_R.of (hts _ nus_6) (hS 17 (by decide)), ?_⟩
  refine List.forall_mem_cons.mpr ⟨vk_R.of (hts _ nus_7) (hS 18 (by decide)), ?_⟩
  refine List.forall_mem_cons.mpr ⟨vk_R.of (hts _ nus_8) (hS 11 (by decide)), ?_⟩
  refine List.forall_mem_cons.mpr ⟨vk_R.of (hts _ nus_9) (hS 12 (by decide)), ?_⟩
  refine List.forall_mem_cons.mpr ⟨vk_R.of (hts _ nus_10) (hS 13 (by decide)), ?_⟩
  refine List.forall_mem_cons.mpr ⟨vk_R.of (hts _ nus_11) (hS 14 (by decide)), ?_⟩
  refine List.forall_mem_cons.mpr ⟨vk_R.of (hts _ nus_12) (hS 19 (by decide)), ?_⟩
  refine List.forall_mem_cons.mpr ⟨vk_R.of (hts _ nus_13) (va_eqv (hn _ nf_q13) (hS 0 (by decide))), ?_⟩
  refine List.forall_mem_cons.mpr ⟨vk_R.of (hts _ nus_14) (va_eqvr (hn _ nf_q14) (hS 7 (by decide))), ?_⟩
  refine List.forall_mem_cons.mpr ⟨vk_R.of (hts _ nus_15) (va_eqvr (hn _ nf_q15) (hS 8 (by decide))), ?_⟩
  refine List.forall_mem_cons.mpr ⟨vk_R.of (hts _ nus_16) (va_eqvr (hn _ nf_q16) (hS 9 (by decide))), ?_⟩
  refine List.forall_mem_cons.mpr ⟨vk_R.of (hts _ nus_17) (va_eqvr (hn _ nf_q17) (hS 10 (by decide))), ?_⟩
  refine List.forall_mem_cons.mpr ⟨vk_R.of (hts _ nus_18) (va_eqv (hn _ nf_q18) (hS 1 (by decide))), ?_⟩
  refine List.forall_mem_cons.mpr ⟨vk_R.of (hts _ nus_19) (va_eqv (hn _ nf_q19) (hS 2 (by decide))), ?_⟩
  refine List.forall_mem_cons.mpr ⟨vk_R.of (hts _ nus_20) (va_eqv (hn _ nf_q20) (hS 3 (by decide))), ?_⟩
  refine List.forall_mem_cons.mpr ⟨vk_R.of (hts _ nus_21) (va_eqv (hn _ nf_q21) (hS 4 (by decide))), ?_⟩
  refine List.forall_mem_cons.mpr ⟨vk_R.of (hts _ nus_22) (va_eqv (hn _ nf_q22) (hS 5 (by decide))), ?_⟩
  refine List.forall_mem_cons.mpr ⟨vk_R.of (hts _ nus_23) (va_eqv (hn _ nf_q23) (hS 6 (by decide))), ?_⟩
  refine List.forall_mem_cons.mpr ⟨vk_R.of (hts _ nus_24) (va_eqvr (hn _ nf_q24) (hS 15 (by decide))), ?_⟩
  refine List.forall_mem_cons.mpr ⟨vk_R.of (hts _ nus_25) (va_eqvr (hn _ nf_q25) (hS 16 (by decide))), ?_⟩
  refine List.forall_mem_cons.mpr ⟨vk_R.of (hts _ nus_26) (va_eqvr (hn _ nf_q26) (hS 17 (by decide))), ?_⟩
  refine List.forall_mem_cons.mpr ⟨vk_R.of (hts _ nus_27) (va_eqvr (hn _ nf_q27) (hS 18 (by decide))), ?_⟩
  refine List.forall_mem_cons.mpr ⟨vk_R.of (hts _ nus_28) (va_eqvr (hn _ nf_q28) (hS 11 (by decide))), ?_⟩
  refine List.forall_mem_cons.mpr ⟨vk_R.of (hts _ nus_29) (va_eqvr (hn _ nf_q29) (hS 12 (by decide))), ?_⟩
  refine List.forall_mem_cons.mpr ⟨vk_R.of (hts _ nus_30) (va_eqvr (hn _ nf_q30) (hS 13 (by decide))), ?_⟩
  refine List.forall_mem_cons.mpr ⟨vk_R.of (hts _ nus_31) (va_eqvr (hn _ nf_q31) (hS 14 (by decide))), ?_⟩
  refine List.forall_mem_cons.mpr ⟨vk_R.of (hts _ nus_32) (hS 0 (by decide)), ?_⟩
  refine List.forall_mem_cons.mpr ⟨vk_R.of (hts _ nus_33) (hS 1 (by decide)), ?_⟩
  refine List.forall_mem_cons.mpr ⟨vk_R.of (hts _ nus_34) (hS 4 (by decide)), ?_⟩
  refine List.forall_mem_cons.mpr ⟨vk_R.of (hts _ nus_35) (hS 2 (by decide)), ?_⟩
  refine List.forall_mem_cons.mpr ⟨vk_R.of (hts _ nus_36) (hS 5 (by decide)), ?_⟩
  refine List.forall_mem_cons.mpr ⟨vk_R.of (hts _ nus_37) (hS 6 (by decide)), ?_⟩
  refine List.forall_mem_cons.mpr ⟨vk_R.of (hts _ nus_38) (hS 3 (by decide)), ?_⟩
  exact fun _ h => absurd h List.not_mem_nil
end START
set_option maxHeartbeats 1000000 in
theorem start_world {s : State} {b : Addr} (hgv : (Jvm.Cond.and given_1 narrow_1).before #[Value.ref b] s = true) (hts : ∀ w ∈ lw_tbl, w.before #[Value.ref b] s = true) : ∃ g : XG, g.2.2.1 = s.heap.size ∧ ZS g s ∧ ST g s s.heap ∧ XN s ∧ (Cond.arrayOver (.object RX9)).before #[] s = true := by
  have hn : ∀ w ∈ NF, w.before #[Value.ref b] s = true := flat_of_before _ hgv
  have htg : ∀ w ∈ lwg, w.before #[Value.ref b] s = true := fun w h => hts w (lwg_in w h)
  have hA : ∀ a : Nat, a < s.heap.size → ¬ s.heap.size ≤ a := fun a h => Nat.not_le.mpr h
  obtain ⟨c1, i1, k1⟩ := u_known htg lays_1 (htg _ lin_X1)
  obtain ⟨c2, i2, k2⟩ := u_known htg lays_2 (htg _ lin_X2)
  obtain ⟨c3, i3, k3⟩ := u_known htg lays_3 (htg _ lin_X3)
  obtain ⟨c5, i5, k5⟩ := u_known htg lays_5 (htg _ lin_X5)
  obtain ⟨c6, i6, k6⟩ := u_known htg lays_6 (htg _ lin_X6)
  obtain ⟨c7, i7, k7⟩ := u_known htg lays_7 (htg _ lin_X7)
  obtain ⟨c8, i8, k8⟩ := u_known htg lays_8 (htg _ lin_X8)
  obtain ⟨c9, i9, k9⟩ := u_known htg lays_9 (htg _ lin_X9)
  obtain ⟨c10, i10, k10⟩ := u_known htg lays_10 (htg _ lin_X10)
  obtain ⟨c11, i11, k11⟩ := u_known htg lays_11 (htg _ lin_X11)
  obtain ⟨c12, i12, k12⟩ := u_known htg lays_12 (htg _ lin_X12)
  obtain ⟨c13, i13, k13⟩ := u_known htg lays_13 (htg _ lin_X13)
  obtain ⟨aI, kI, pI, I1, I2, I3⟩ := Cond.arrayClass_spec (hts _ wa_int)
  obtain ⟨aB, kB, pB, B1, B2, B3⟩ := Cond.arrayClass_spec (hts _ wa_byte)
  obtain ⟨aJ, kJ, pJ, J1, J2, J3⟩ := Cond.arrayClass_spec (hts _ wa_long)
  obtain ⟨pO, aO, kO, O1, O2, O3, O4, O5⟩ := Cond.arrayOver_spec (hts _ wa_obj)
  obtain ⟨adE, hE, hEe⟩ := va_Enof2 (args := #[Value.ref b]) (s := s) (E := RX4) (d := "LMirrorHour$Line;") (nm := lnNames) (F := lnF) (A := fun q => s.heap.size ≤ q) (fun i hi => hts _ (ws_ln i hi)) (hts _ wi_X4) (fun i hi => hn _ (nf_lx i hi)) (List.forall_mem_cons.mpr ⟨fun i hi => hn _ (nf_lnumber i hi), List.forall_mem_cons.mpr ⟨fun i hi => hn _ (nf_lroom i hi), List.forall_mem_cons.mpr ⟨fun i hi => hn _ (nf_lordinal i hi), fun _ h => absurd h List.not_mem_nil⟩⟩⟩) (fun i j hi hj e => (nf_ne i j hi hj e).imp (fun q => hn _ q) (fun q => hn _ q)) hA
  obtain ⟨adS', adV', hSt, hSe⟩ := start_str hn hA
  obtain ⟨tL, hLe, hLT⟩ := va_Tof (args := #[Value.ref b]) (s := s) (tm := .static RX12 "LINES" "[LMirrorHour$Line;") (ty := .object RX4) (N := 7) (f := fun j => .ref (adE j)) (A := fun q => s.heap.size ≤ q) (by decide) (hn _ nf_la) (va_eqt (hn _ nf_ll)) (fun j hj => va_eqv (hn _ (nf_le7 j hj)) (hEe j hj)) hA
  obtain ⟨tS, hWe, hWT⟩ := va_Tof (args := #[Value.ref b]) (s := s) (tm := .static RX0 "$SwitchMap$MirrorHour$Line" "[I") (ty := .int) (N := 7) (f := fun j => .int (swl.getD j 0)) (A := fun q => s.heap.size ≤ q) (by decide) (hn _ nf_sa) (va_eqt (hn _ nf_sl)) (fun j hj => va_eqt (hn _ (nf_se7 j hj))) hA
  refine ⟨((fun c => [c1, c2, c3, c5, c6, c7, c8, c9, c10, c11, c12, c13].getD c 0, fun c => [i1, i2, i3, i5, i6, i7, i8, i9, i10, i11, i12, i13].getD c (fun _ => 0)), fun k => [aI, aB, aJ, aO].getD k 0, s.heap.size, adE, adS', adV', tL, tS), rfl, ⟨⟨?_, ?_⟩, nu_f hts, nu_m hts, nu_s hts hn hSe⟩, ⟨⟨hE, va_Zref (hts _ ws_LINES) (hts _ wi_X12) hLe hA, hLT⟩, ⟨va_Zref (hts _ ws_SW) (hts _ wi_X0) hWe hA, hWT⟩, va_Efof (tm := tmS) hEe (fun i hi => hn _ (nf_lw i hi)) (fun i hi => hSe i (Nat.lt_trans hi (by decide))) hA, hSt, va_Zof (hts _ ws_CS) (hts _ wi_Str) (va_eqi (hn _ nf_cs)) hA, ⟨vx_Zqof (hts _ ws_US) (hts _ wi_Thr) (hn _ nf_us) hA, vx_Zqof (hts _ ws_SS) (hts _ wi_Thr) (hn _ nf_ss) hA⟩, va_Zqof (hts _ ws_SF) (hts _ wi_Pre) (hn _ nf_sf) hA⟩, ⟨va_Nw.of rfl (hts _ wd_1), va_Nw.of rfl (hts _ wd_2), va_Nw.of rfl (hts _ wd_3), va_Nw.of rfl (hts _ wd_4)⟩, va_AO.of (hts _ wa_obj)⟩
  · intro c q hq
    match c, hq with
    | 0, hq =>
      obtain rfl := Option.some.inj (show some ((RX1, TX1, 2) : vw_C) = some q from hq)
      exact k1
    | 1, hq =>
      obtain rfl := Option.some.inj (show some ((RX2, TX2, 1) : vw_C) = some q from hq)
      exact k2
    | 2, hq =>
      obtain rfl := Option.some.inj (show some ((RX3, TX3, 7) : vw_C) = some q from hq)
      exact k3
    | 3, hq =>
      obtain rfl := Option.some.inj (show some ((RX5, TX5, 1) : vw_C) = some q from hq)
      exact k5
    | 4, hq =>
      obtain rfl := Option.some.inj (show some ((RX6, TX6, 5) : vw_C) = some q from hq)
      exact k6
    | 5, hq =>
      obtain rfl := Option.some.inj (show some ((RX7, TX7, 5) : vw_C) = some q from hq)
      exact k7
    | 6, hq =>
      obtain rfl := Option.some.inj (show some ((RX8, TX8, 3) : vw_C) = some q from hq)
      exact k8
    | 7, hq =>
      obtain rfl := Option.some.inj (show some ((RX9, TX9, 5) : vw_C) = some q from hq)
      exact k9
    | 8, hq =>
      obtain rfl := Option.some.inj (show some ((RX10, TX10, 6) : vw_C) = some q from hq)
      exact k10
    | 9, hq =>
      obtain rfl := Option.some.inj (show some ((RX11, TX11, 14) : vw_C) = some q from hq)
      exact k11
    | 10, hq =>
      obtain rfl := Option.some.inj (show some ((RX12, TX12, 16) : vw_C) = some q from hq)
      exact k12
    | 11, hq =>
      obtain rfl := Option.some.inj (show some ((RX13, TX13, 33) : vw_C) = some q from hq)
      exact k13
    | n + 12, hq =>
      rw [List.getElem?_eq_none (by show 12 ≤ n + 12; omega)] at hq
      cases hq
  · intro k q hq
    match k, hq with
    | 0, hq =>
      obtain rfl := Option.some.inj (show some ((aI, FieldType.int) : ClassId × FieldType) = some q from hq)
      exact ⟨arr_of I2 I3, I1⟩
    | 1, hq =>
      obtain rfl := Option.some.inj (show some ((aB, FieldType.byte) : ClassId × FieldType) = some q from hq)
      exact ⟨arr_of B2 B3, B1⟩
    | 2, hq =>
      obtain rfl := Option.some.inj (show some ((aJ, FieldType.long) : ClassId × FieldType) = some q from hq)
      exact ⟨arr_of J2 J3, J1⟩
    | 3, hq =>
      obtain rfl := Option.some.inj (show some ((aO, FieldType.object RX9) : ClassId × FieldType) = some q from hq)
      exact ⟨arr_of O3 O4, kO, pO, O3, O4, O1, O5⟩
    | n + 4, hq =>
      rw [List.getElem?_eq_none (by show 4 ≤ n + 4; omega)] at hq
      cases hq
