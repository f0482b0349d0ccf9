theorem lw_good_of {w : Cond} (h : w ∈ lw_tbl) (hg : goodWord w = true) : w ∈ lw_good := List.mem_filter.mpr ⟨h, hg⟩
theorem lw_good_all : ∀ w ∈ lw_good, goodWord w = true := fun _ h => (List.mem_filter.mp h).2
def tb_at (c i : Nat) : Option Cond := match c with
  | 0 => (k2_sels lw_privs)[i]?
  | 1 => tables_1_1[i]?
  | 2 => tables_1_2[i]?
  | 3 => tables_1_3[i]?
  | 4 => tables_1_4[i]?
  | 5 => tables_1_5[i]?
  | _ => none
theorem tb_mem {c i : Nat} {w : Cond} (h : tb_at c i = some w) : w ∈ lw_tbl := by
  have hh : w ∈ k2_sels lw_privs ++ (tables_1_1 ++ (tables_1_2 ++ (tables_1_3 ++ (tables_1_4 ++ tables_1_5)))) := by
    simp only [List.mem_append]
    unfold tb_at at h
    split at h
    · exact Or.inl (List.mem_of_getElem? h)
    · exact Or.inr (Or.inl (List.mem_of_getElem? h))
    · exact Or.inr (Or.inr (Or.inl (List.mem_of_getElem? h)))
    · exact Or.inr (Or.inr (Or.inr (Or.inl (List.mem_of_getElem? h))))
    · exact Or.inr (Or.inr (Or.inr (Or.inr (Or.inl (List.mem_of_getElem? h)))))
    · exact Or.inr (Or.inr (Or.inr (Or.inr (Or.inr (List.mem_of_getElem? h)))))
    · cases h
  exact hh
/-- a word stands in the table at its place -/
def ck_at (q : Nat × Nat) (w : Cond) : Bool := decide (tb_at q.1 q.2 = some w) && goodWord w
theorem ck_at_of {q : Nat × Nat} {w : Cond} (h : ck_at q w = true) : w ∈ lw_good := by
  simp only [ck_at, Bool.and_eq_true, decide_eq_true_eq] at h
  exact lw_good_of (tb_mem h.1) h.2
def ck_all (l : List (Nat × Nat)) (ws : List Cond) : Bool := decide (l.length = ws.length) && (l.zip ws).all fun q => ck_at q.1 q.2
theorem ck_all_of {l : List (Nat × Nat)} {ws : List Cond} (h : ck_all l ws = true) : ∀ w ∈ ws, w ∈ lw_good := by
  intro w hw
  simp only [ck_all, Bool.and_eq_true, decide_eq_true_eq] at h
  obtain ⟨i, hi⟩ := List.getElem?_of_mem hw
  have hl : i < l.length := by rw [h.1]; exact (List.getElem?_eq_some_iff.mp hi).1
  have hz : (l.zip ws)[i]? = some (l[i], w) := by
    rw [List.getElem?_zip_eq_some]; exact ⟨List.getElem?_eq_getElem hl, hi⟩
  exact ck_at_of (List.all_eq_true.mp h.2 _ (List.mem_of_getElem? hz))
theorem am_f2_mem {β : Type} {l : List (Nat × Nat × β)} {o i : Nat} {b : β} (h : am_f2 l o i = some b) : (o, i, b) ∈ l := by
  simp only [am_f2, Option.map_eq_some_iff] at h
  obtain ⟨⟨o', i', b'⟩, h1, h2⟩ := h
  have h3 := List.find?_some h1
  simp only [Bool.and_eq_true, beq_iff_eq] at h3
  obtain ⟨rfl, rfl⟩ := h3
  cases h2
  exact List.mem_of_find?_eq_some h1
set_option maxRecDepth 20000 in
theorem pcm_0 : Cond.code ⟨"SwingCity$Now", "<init>", "()V"⟩ prog_2_method_1_code 1 none ∈ lw_tbl := tb_mem (c := 1) (i := 56) rfl
set_option maxRecDepth 20000 in
theorem pcm_1 : Cond.code ⟨"SwingCity$Now", "copyFrom", "(LSwingCity$Now;)V"⟩ prog_2_method_2_code 2 none ∈ lw_tbl := tb_mem (c := 3) (i := 163) rfl
set_option maxRecDepth 20000 in
theorem pcm_2 : Cond.code ⟨"SwingCity$Now", "ridersIn", "()I"⟩ prog_2_method_3_code 1 (some .int) ∈ lw_tbl := tb_mem (c := 3) (i := 168) rfl
set_option maxRecDepth 20000 in
theorem pcm_3 : Cond.code ⟨"SwingCity$Now", "noteDeed", "(IILSwingCity$Rows;)V"⟩ prog_2_method_4_code 6 none ∈ lw_tbl := tb_mem (c := 3) (i := 4) rfl
set_option maxRecDepth 20000 in
theorem pcm_4 : Cond.code ⟨"SwingCity$Now", "noteRide", "(IILSwingCity$Ride;)V"⟩ prog_2_method_5_code 5 none ∈ lw_tbl := tb_mem (c := 3) (i := 15) rfl
set_option maxRecDepth 20000 in
theorem pcm_5 : Cond.code ⟨"SwingCity$Now", "takeBack", "()V"⟩ prog_2_method_6_code 5 none ∈ lw_tbl := tb_mem (c := 3) (i := 37) rfl
set_option maxRecDepth 20000 in
theorem pcm_6 : Cond.code ⟨"SwingCity$Now", "haveMet", "(II)Z"⟩ prog_2_method_7_code 3 (some .boolean) ∈ lw_tbl := tb_mem (c := 3) (i := 49) rfl
set_option maxRecDepth 20000 in
theorem pcm_7 : Cond.code ⟨"SwingCity$Reader", "<init>", "()V"⟩ prog_3_method_1_code 1 none ∈ lw_tbl := tb_mem (c := 1) (i := 82) rfl
set_option maxRecDepth 20000 in
theorem pcm_8 : Cond.code ⟨"SwingCity$Reader", "startAnew", "()V"⟩ prog_3_method_2_code 1 none ∈ lw_tbl := tb_mem (c := 1) (i := 218) rfl
set_option maxRecDepth 20000 in
theorem pcm_9 : Cond.code ⟨"SwingCity$Reader", "read", "([II)I"⟩ prog_3_method_3_code 4 (some .int) ∈ lw_tbl := tb_mem (c := 2) (i := 63) rfl
set_option maxRecDepth 20000 in
theorem pcm_10 : Cond.code ⟨"SwingCity$Reader", "readItem", "(I)Z"⟩ prog_3_method_4_code 4 (some .boolean) ∈ lw_tbl := tb_mem (c := 2) (i := 91) rfl
set_option maxRecDepth 20000 in
theorem pcm_11 : Cond.code ⟨"SwingCity$Reader", "itemOfWord", "()I"⟩ prog_3_method_5_code 1 (some .int) ∈ lw_tbl := tb_mem (c := 2) (i := 95) rfl
set_option maxRecDepth 20000 in
theorem pcm_12 : Cond.code ⟨"SwingCity$Reader", "mayStand", "(II)Z"⟩ prog_3_method_6_code 3 (some .boolean) ∈ lw_tbl := tb_mem (c := 2) (i := 157) rfl
set_option maxRecDepth 20000 in
theorem pcm_13 : Cond.code ⟨"SwingCity$Reader", "isNumberOf", "(II)Z"⟩ prog_3_method_7_code 5 (some .boolean) ∈ lw_tbl := tb_mem (c := 2) (i := 161) rfl
set_option maxRecDepth 20000 in
theorem pcm_14 : Cond.code ⟨"SwingCity$Reader", "addItem", "(I)V"⟩ prog_3_method_8_code 2 none ∈ lw_tbl := tb_mem (c := 2) (i := 169) rfl
set_option maxRecDepth 20000 in
theorem pcm_15 : Cond.code ⟨"SwingCity$Reader", "setSills", "(I)V"⟩ prog_3_method_9_code 3 none ∈ lw_tbl := tb_mem (c := 1) (i := 222) rfl
set_option maxRecDepth 20000 in
theorem pcm_16 : Cond.code ⟨"SwingCity$Reader", "addRope", "()V"⟩ prog_3_method_10_code 2 none ∈ lw_tbl := tb_mem (c := 2) (i := 173) rfl
set_option maxRecDepth 20000 in
theorem pcm_17 : Cond.code ⟨"SwingCity$Reader", "addRider", "()V"⟩ prog_3_method_11_code 2 none ∈ lw_tbl := tb_mem (c := 2) (i := 177) rfl
set_option maxRecDepth 20000 in
theorem pcm_18 : Cond.code ⟨"SwingCity$Reader", "byteAt", "(I)I"⟩ prog_3_method_12_code 2 (some .int) ∈ lw_tbl := tb_mem (c := 2) (i := 73) rfl
set_option maxRecDepth 20000 in
theorem pcm_19 : Cond.code ⟨"SwingCity$Reader", "isLetter", "(I)Z"⟩ prog_3_method_13_code 1 (some .boolean) ∈ lw_tbl := tb_mem (c := 2) (i := 76) rfl
set_option maxRecDepth 20000 in
theorem pcm_20 : Cond.code ⟨"SwingCity$Reader", "isFigure", "(I)Z"⟩ prog_3_method_14_code 1 (some .boolean) ∈ lw_tbl := tb_mem (c := 2) (i := 83) rfl
set_option maxRecDepth 20000 in
theorem pcm_21 : Cond.code ⟨"SwingCity$Reader", "nextToken", "()V"⟩ prog_3_method_15_code 2 none ∈ lw_tbl := tb_mem (c := 2) (i := 69) rfl
set_option maxRecDepth 20000 in
theorem pcm_22 : Cond.code ⟨"SwingCity$Reader", "passWord", "()V"⟩ prog_3_method_16_code 1 none ∈ lw_tbl := tb_mem (c := 2) (i := 80) rfl
set_option maxRecDepth 20000 in
theorem pcm_23 : Cond.code ⟨"SwingCity$Reader", "passNumber", "()V"⟩ prog_3_method_17_code 2 none ∈ lw_tbl := tb_mem (c := 2) (i := 87) rfl
set_option maxRecDepth 20000 in
theorem pcm_24 : Cond.code ⟨"SwingCity$Reader", "isWord", "(Ljava/lang/String;)Z"⟩ prog_3_method_18_code 3 (some .boolean) ∈ lw_tbl := tb_mem (c := 2) (i := 100) rfl
set_option maxRecDepth 20000 in
theorem pcm_25 : Cond.code ⟨"SwingCity$Ride", "<init>", "()V"⟩ prog_4_method_1_code 1 none ∈ lw_tbl := tb_mem (c := 1) (i := 141) rfl
set_option maxRecDepth 20000 in
theorem pcm_26 : Cond.code ⟨"SwingCity$Ride", "find", "(LSwingCity$Streets;IIII)Z"⟩ prog_4_method_2_code 7 (some .boolean) ∈ lw_tbl := tb_mem (c := 2) (i := 222) rfl
set_option maxRecDepth 20000 in
theorem pcm_27 : Cond.code ⟨"SwingCity$Route", "<init>", "()V"⟩ prog_5_method_1_code 1 none ∈ lw_tbl := tb_mem (c := 1) (i := 169) rfl
set_option maxRecDepth 20000 in
theorem pcm_28 : Cond.code ⟨"SwingCity$Route", "read", "(II)Z"⟩ prog_5_method_2_code 5 (some .boolean) ∈ lw_tbl := tb_mem (c := 3) (i := 88) rfl
set_option maxRecDepth 20000 in
theorem pcm_29 : Cond.code ⟨"SwingCity$Route", "ropeOf", "(I)I"⟩ prog_5_method_3_code 2 (some .int) ∈ lw_tbl := tb_mem (c := 3) (i := 99) rfl
set_option maxRecDepth 20000 in
theorem pcm_30 : Cond.code ⟨"SwingCity$Route", "follow", "(LSwingCity$Streets;III)I"⟩ prog_5_method_4_code 6 (some .int) ∈ lw_tbl := tb_mem (c := 3) (i := 95) rfl
set_option maxRecDepth 20000 in
theorem pcm_31 : Cond.code ⟨"SwingCity$Route", "listUnlike", "([I)I"⟩ prog_5_method_5_code 6 (some .int) ∈ lw_tbl := tb_mem (c := 3) (i := 109) rfl
set_option maxRecDepth 20000 in
theorem pcm_32 : Cond.code ⟨"SwingCity$Rows", "<init>", "(II)V"⟩ prog_6_method_1_code 3 none ∈ lw_tbl := tb_mem (c := 1) (i := 27) rfl
set_option maxRecDepth 20000 in
theorem pcm_33 : Cond.code ⟨"SwingCity$Rows", "has", "(I)Z"⟩ prog_6_method_2_code 2 (some .boolean) ∈ lw_tbl := tb_mem (c := 2) (i := 187) rfl
set_option maxRecDepth 20000 in
theorem pcm_34 : Cond.code ⟨"SwingCity$Rows", "get", "(II)I"⟩ prog_6_method_3_code 5 (some .int) ∈ lw_tbl := tb_mem (c := 2) (i := 194) rfl
set_option maxRecDepth 20000 in
theorem pcm_35 : Cond.code ⟨"SwingCity$Rows", "set", "(III)V"⟩ prog_6_method_4_code 5 none ∈ lw_tbl := tb_mem (c := 1) (i := 234) rfl
set_option maxRecDepth 20000 in
theorem pcm_36 : Cond.code ⟨"SwingCity$Rows", "sum", "(I)I"⟩ prog_6_method_5_code 4 (some .int) ∈ lw_tbl := tb_mem (c := 3) (i := 154) rfl
set_option maxRecDepth 20000 in
theorem pcm_37 : Cond.code ⟨"SwingCity$Rows", "empty", "()V"⟩ prog_6_method_6_code 1 none ∈ lw_tbl := tb_mem (c := 1) (i := 226) rfl
set_option maxRecDepth 20000 in
theorem pcm_38 : Cond.code ⟨"SwingCity$Rows", "add", "()Z"⟩ prog_6_method_7_code 1 (some .boolean) ∈ lw_tbl := tb_mem (c := 1) (i := 230) rfl
set_option maxRecDepth 20000 in
theorem pcm_39 : Cond.code ⟨"SwingCity$Rows", "addLatest", "()V"⟩ prog_6_method_8_code 2 none ∈ lw_tbl := tb_mem (c := 3) (i := 8) rfl
set_option maxRecDepth 20000 in
theorem pcm_40 : Cond.code ⟨"SwingCity$Rows", "dropLatest", "()V"⟩ prog_6_method_9_code 1 none ∈ lw_tbl := tb_mem (c := 3) (i := 41) rfl
set_option maxRecDepth 20000 in
theorem pcm_41 : Cond.code ⟨"SwingCity$Rows", "copyFrom", "(LSwingCity$Rows;)V"⟩ prog_6_method_10_code 4 none ∈ lw_tbl := tb_mem (c := 1) (i := 238) rfl
set_option maxRecDepth 20000 in
theorem pcm_42 : Cond.code ⟨"SwingCity$Streets", "<init>", "(LSwingCity$Rows;LSwingCity$Rows;)V"⟩ prog_7_method_1_code 3 none ∈ lw_tbl := tb_mem (c := 1) (i := 125) rfl
set_option maxRecDepth 20000 in
theorem pcm_43 : Cond.code ⟨"SwingCity$Streets", "isOpen", "(II)Z"⟩ prog_7_method_2_code 4 (some .boolean) ∈ lw_tbl := tb_mem (c := 2) (i := 213) rfl
set_option maxRecDepth 20000 in
theorem pcm_44 : Cond.code ⟨"SwingCity$Streets", "canTake", "(II)Z"⟩ prog_7_method_3_code 3 (some .boolean) ∈ lw_tbl := tb_mem (c := 2) (i := 226) rfl
set_option maxRecDepth 20000 in
theorem pcm_45 : Cond.code ⟨"SwingCity$Streets", "otherEnd", "(II)I"⟩ prog_7_method_4_code 3 (some .int) ∈ lw_tbl := tb_mem (c := 2) (i := 239) rfl
set_option maxRecDepth 20000 in
theorem pcm_46 : Cond.code ⟨"SwingCity$Streets", "firstAt", "(III)I"⟩ prog_7_method_5_code 6 (some .int) ∈ lw_tbl := tb_mem (c := 2) (i := 231) rfl
set_option maxRecDepth 20000 in
theorem pcm_47 : Cond.code ⟨"SwingCity$Streets", "firstAcross", "(III)I"⟩ prog_7_method_6_code 7 (some .int) ∈ lw_tbl := tb_mem (c := 3) (i := 72) rfl
set_option maxRecDepth 20000 in
theorem pcm_48 : Cond.code ⟨"SwingCity$Ways", "<init>", "()V"⟩ prog_8_method_1_code 1 none ∈ lw_tbl := tb_mem (c := 1) (i := 198) rfl
set_option maxRecDepth 20000 in
theorem pcm_49 : Cond.code ⟨"SwingCity$Ways", "find", "(LSwingCity$Streets;III)Z"⟩ prog_8_method_2_code 6 (some .boolean) ∈ lw_tbl := tb_mem (c := 3) (i := 57) rfl
set_option maxRecDepth 20000 in
theorem pcm_50 : Cond.code ⟨"SwingCity$Ways", "rideOnceMore", "(LSwingCity$Streets;)V"⟩ prog_8_method_3_code 3 none ∈ lw_tbl := tb_mem (c := 3) (i := 61) rfl
set_option maxRecDepth 20000 in
theorem pcm_51 : Cond.code ⟨"SwingCity$Ways", "cross", "(LSwingCity$Streets;II)V"⟩ prog_8_method_4_code 5 none ∈ lw_tbl := tb_mem (c := 3) (i := 66) rfl
set_option maxRecDepth 20000 in
theorem pcm_52 : Cond.code ⟨"SwingCity", "<init>", "()V"⟩ prog_1_method_1_code 1 none ∈ lw_tbl := tb_mem (c := 1) (i := 19) rfl
set_option maxRecDepth 20000 in
theorem pcm_53 : Cond.code ⟨"SwingCity", "type", "(JI)I"⟩ prog_1_method_2_code 5 (some .int) ∈ lw_tbl := tb_mem (c := 2) (i := 51) rfl
set_option maxRecDepth 20000 in
theorem pcm_54 : Cond.code ⟨"SwingCity", "clear", "()I"⟩ prog_1_method_3_code 2 (some .int) ∈ lw_tbl := tb_mem (c := 2) (i := 55) rfl
set_option maxRecDepth 20000 in
theorem pcm_55 : Cond.code ⟨"SwingCity", "city", "()I"⟩ prog_1_method_4_code 2 (some .int) ∈ lw_tbl := tb_mem (c := 2) (i := 59) rfl
set_option maxRecDepth 20000 in
theorem pcm_56 : Cond.code ⟨"SwingCity", "sill", "(II)I"⟩ prog_1_method_5_code 3 (some .int) ∈ lw_tbl := tb_mem (c := 2) (i := 183) rfl
set_option maxRecDepth 20000 in
theorem pcm_57 : Cond.code ⟨"SwingCity", "rope", "(II)I"⟩ prog_1_method_6_code 3 (some .int) ∈ lw_tbl := tb_mem (c := 2) (i := 198) rfl
set_option maxRecDepth 20000 in
theorem pcm_58 : Cond.code ⟨"SwingCity", "rider", "(II)I"⟩ prog_1_method_7_code 3 (some .int) ∈ lw_tbl := tb_mem (c := 2) (i := 202) rfl
set_option maxRecDepth 20000 in
theorem pcm_59 : Cond.code ⟨"SwingCity", "open", "(II)I"⟩ prog_1_method_8_code 3 (some .int) ∈ lw_tbl := tb_mem (c := 2) (i := 206) rfl
set_option maxRecDepth 20000 in
theorem pcm_60 : Cond.code ⟨"SwingCity", "go", "(II)I"⟩ prog_1_method_9_code 4 (some .int) ∈ lw_tbl := tb_mem (c := 2) (i := 218) rfl
set_option maxRecDepth 20000 in
theorem pcm_61 : Cond.code ⟨"SwingCity", "waits", "(II)I"⟩ prog_1_method_10_code 4 (some .int) ∈ lw_tbl := tb_mem (c := 3) (i := 21) rfl
set_option maxRecDepth 20000 in
theorem pcm_62 : Cond.code ⟨"SwingCity", "stop", "(I)I"⟩ prog_1_method_11_code 2 (some .int) ∈ lw_tbl := tb_mem (c := 3) (i := 25) rfl
set_option maxRecDepth 20000 in
theorem pcm_63 : Cond.code ⟨"SwingCity", "push", "(II)I"⟩ prog_1_method_12_code 4 (some .int) ∈ lw_tbl := tb_mem (c := 3) (i := 29) rfl
set_option maxRecDepth 20000 in
theorem pcm_64 : Cond.code ⟨"SwingCity", "undo", "()I"⟩ prog_1_method_13_code 1 (some .int) ∈ lw_tbl := tb_mem (c := 3) (i := 33) rfl
set_option maxRecDepth 20000 in
theorem pcm_65 : Cond.code ⟨"SwingCity", "meets", "()I"⟩ prog_1_method_14_code 4 (some .int) ∈ lw_tbl := tb_mem (c := 3) (i := 45) rfl
set_option maxRecDepth 20000 in
theorem pcm_66 : Cond.code ⟨"SwingCity", "soonest", "(IIII)I"⟩ prog_1_method_15_code 5 (some .int) ∈ lw_tbl := tb_mem (c := 3) (i := 53) rfl
set_option maxRecDepth 20000 in
theorem pcm_67 : Cond.code ⟨"SwingCity", "route", "(IIIII)I"⟩ prog_1_method_16_code 7 (some .int) ∈ lw_tbl := tb_mem (c := 3) (i := 80) rfl
set_option maxRecDepth 20000 in
theorem pcm_68 : Cond.code ⟨"SwingCity", "drift", "(IIIIII)I"⟩ prog_1_method_17_code 12 (some .int) ∈ lw_tbl := tb_mem (c := 3) (i := 105) rfl
set_option maxRecDepth 20000 in
theorem pcm_69 : Cond.code ⟨"SwingCity", "tune", "(IIIII)I"⟩ prog_1_method_18_code 9 (some .int) ∈ lw_tbl := tb_mem (c := 3) (i := 118) rfl
set_option maxRecDepth 20000 in
theorem pcm_70 : Cond.code ⟨"SwingCity", "saw", "(II)I"⟩ prog_1_method_19_code 3 (some .int) ∈ lw_tbl := tb_mem (c := 3) (i := 122) rfl
set_option maxRecDepth 20000 in
theorem pcm_71 : Cond.code ⟨"SwingCity", "forget", "()I"⟩ prog_1_method_20_code 2 (some .int) ∈ lw_tbl := tb_mem (c := 3) (i := 127) rfl
set_option maxRecDepth 20000 in
theorem pcm_72 : Cond.code ⟨"SwingCity", "fits", "(III)I"⟩ prog_1_method_21_code 4 (some .int) ∈ lw_tbl := tb_mem (c := 3) (i := 131) rfl
set_option maxRecDepth 20000 in
theorem pcm_73 : Cond.code ⟨"SwingCity", "rate", "(II)I"⟩ prog_1_method_22_code 3 (some .int) ∈ lw_tbl := tb_mem (c := 3) (i := 143) rfl
set_option maxRecDepth 20000 in
theorem pcm_74 : Cond.code ⟨"SwingCity", "keep", "(I)I"⟩ prog_1_method_23_code 2 (some .int) ∈ lw_tbl := tb_mem (c := 3) (i := 159) rfl
set_option maxRecDepth 20000 in
theorem pcm_75 : Cond.code ⟨"SwingCity", "back", "(I)I"⟩ prog_1_method_24_code 2 (some .int) ∈ lw_tbl := tb_mem (c := 3) (i := 173) rfl
set_option maxRecDepth 20000 in
theorem pcm_76 : Cond.code ⟨"SwingCity", "count", "(I)I"⟩ prog_1_method_25_code 2 (some .int) ∈ lw_tbl := tb_mem (c := 3) (i := 177) rfl
set_option maxRecDepth 20000 in
theorem pcm_77 : Cond.code ⟨"SwingCity", "trace", "()J"⟩ prog_1_method_26_code 1 (some .long) ∈ lw_tbl := tb_mem (c := 3) (i := 181) rfl
set_option maxRecDepth 20000 in
theorem pcm_78 : Cond.code ⟨"SwingCity", "within", "(III)Z"⟩ prog_1_method_27_code 3 (some .boolean) ∈ lw_tbl := tb_mem (c := 2) (i := 190) rfl
set_option maxRecDepth 20000 in
theorem pcm_79 : Cond.code ⟨"SwingCity", "isMinute", "(I)Z"⟩ prog_1_method_28_code 1 (some .boolean) ∈ lw_tbl := tb_mem (c := 2) (i := 209) rfl
set_option maxRecDepth 20000 in
theorem pcm_80 : Cond.code ⟨"SwingCity", "canAskRoute", "(IIII)Z"⟩ prog_1_method_29_code 5 (some .boolean) ∈ lw_tbl := tb_mem (c := 3) (i := 84) rfl
set_option maxRecDepth 20000 in
theorem pcm_81 : Cond.code ⟨"SwingCity", "driftBy", "(III)V"⟩ prog_1_method_30_code 8 none ∈ lw_tbl := tb_mem (c := 3) (i := 113) rfl
set_option maxRecDepth 20000 in
theorem pcm_82 : Cond.code ⟨"SwingCity", "countFitting", "(IIII)I"⟩ prog_1_method_31_code 7 (some .int) ∈ lw_tbl := tb_mem (c := 3) (i := 135) rfl
set_option maxRecDepth 20000 in
theorem pcm_83 : Cond.code ⟨"SwingCity", "isAsSeen", "(IIII)Z"⟩ prog_1_method_32_code 8 (some .boolean) ∈ lw_tbl := tb_mem (c := 3) (i := 139) rfl
set_option maxRecDepth 20000 in
theorem pcm_84 : Cond.code ⟨"SwingCity", "rateAs", "(II)I"⟩ prog_1_method_33_code 3 (some .int) ∈ lw_tbl := tb_mem (c := 3) (i := 148) rfl
set_option maxRecDepth 20000 in
theorem pcm_85 : Cond.code ⟨"SwingCityModel", "<init>", "()V"⟩ prog_10_method_1_code 2 none ∈ lw_tbl := tb_mem (c := 3) (i := 186) rfl
set_option maxRecDepth 20000 in
theorem pcm_86 : Cond.code ⟨"SwingCityModel", "in", "(III)Z"⟩ prog_10_method_3_code 3 (some .boolean) ∈ lw_tbl := tb_mem (c := 4) (i := 51) rfl
set_option maxRecDepth 20000 in
theorem pcm_87 : Cond.code ⟨"SwingCityModel", "type", "(JI)I"⟩ prog_10_method_4_code 5 (some .int) ∈ lw_tbl := tb_mem (c := 4) (i := 48) rfl
set_option maxRecDepth 20000 in
theorem pcm_88 : Cond.code ⟨"SwingCityModel", "clear", "()I"⟩ prog_10_method_5_code 2 (some .int) ∈ lw_tbl := tb_mem (c := 4) (i := 56) rfl
set_option maxRecDepth 20000 in
theorem pcm_89 : Cond.code ⟨"SwingCityModel", "byteAt", "(I)I"⟩ prog_10_method_6_code 2 (some .int) ∈ lw_tbl := tb_mem (c := 4) (i := 68) rfl
set_option maxRecDepth 20000 in
theorem pcm_90 : Cond.code ⟨"SwingCityModel", "add", "(JI)J"⟩ prog_10_method_7_code 3 (some .long) ∈ lw_tbl := tb_mem (c := 4) (i := 71) rfl
set_option maxRecDepth 20000 in
theorem pcm_91 : Cond.code ⟨"SwingCityModel", "named", "(IIIII)J"⟩ prog_10_method_8_code 5 (some .long) ∈ lw_tbl := tb_mem (c := 4) (i := 78) rfl
set_option maxRecDepth 20000 in
theorem pcm_92 : Cond.code ⟨"SwingCityModel", "wordOf", "(J)I"⟩ prog_10_method_9_code 3 (some .int) ∈ lw_tbl := tb_mem (c := 4) (i := 75) rfl
set_option maxRecDepth 20000 in
theorem pcm_93 : Cond.code ⟨"SwingCityModel", "advances", "()V"⟩ prog_10_method_10_code 4 none ∈ lw_tbl := tb_mem (c := 4) (i := 64) rfl
set_option maxRecDepth 20000 in
theorem pcm_94 : Cond.code ⟨"SwingCityModel", "isWell", "()Z"⟩ prog_10_method_11_code 1 (some .boolean) ∈ lw_tbl := tb_mem (c := 4) (i := 82) rfl
set_option maxRecDepth 20000 in
theorem pcm_95 : Cond.code ⟨"SwingCityModel", "takes", "(Z)I"⟩ prog_10_method_12_code 3 (some .int) ∈ lw_tbl := tb_mem (c := 4) (i := 86) rfl
set_option maxRecDepth 20000 in
theorem pcm_96 : Cond.code ⟨"SwingCityModel", "number", "(II)I"⟩ prog_10_method_13_code 3 (some .int) ∈ lw_tbl := tb_mem (c := 4) (i := 94) rfl
set_option maxRecDepth 20000 in
theorem pcm_97 : Cond.code ⟨"SwingCityModel", "readsItem", "(I)V"⟩ prog_10_method_14_code 5 none ∈ lw_tbl := tb_mem (c := 4) (i := 90) rfl
set_option maxRecDepth 20000 in
theorem pcm_98 : Cond.code ⟨"SwingCityModel", "city", "()I"⟩ prog_10_method_15_code 4 (some .int) ∈ lw_tbl := tb_mem (c := 4) (i := 60) rfl
set_option maxRecDepth 20000 in
theorem pcm_99 : Cond.code ⟨"SwingCityModel", "settles", "()V"⟩ prog_10_method_16_code 2 none ∈ lw_tbl := tb_mem (c := 4) (i := 98) rfl
set_option maxRecDepth 20000 in
theorem pcm_100 : Cond.code ⟨"SwingCityModel", "isSill", "(I)Z"⟩ prog_10_method_17_code 2 (some .boolean) ∈ lw_tbl := tb_mem (c := 4) (i := 106) rfl
set_option maxRecDepth 20000 in
theorem pcm_101 : Cond.code ⟨"SwingCityModel", "isRope", "(I)Z"⟩ prog_10_method_18_code 2 (some .boolean) ∈ lw_tbl := tb_mem (c := 4) (i := 114) rfl
set_option maxRecDepth 20000 in
theorem pcm_102 : Cond.code ⟨"SwingCityModel", "isRider", "(I)Z"⟩ prog_10_method_19_code 2 (some .boolean) ∈ lw_tbl := tb_mem (c := 4) (i := 122) rfl
set_option maxRecDepth 20000 in
theorem pcm_103 : Cond.code ⟨"SwingCityModel", "isMinute", "(I)Z"⟩ prog_10_method_20_code 1 (some .boolean) ∈ lw_tbl := tb_mem (c := 4) (i := 129) rfl
set_option maxRecDepth 20000 in
theorem pcm_104 : Cond.code ⟨"SwingCityModel", "sill", "(II)I"⟩ prog_10_method_21_code 3 (some .int) ∈ lw_tbl := tb_mem (c := 4) (i := 102) rfl
set_option maxRecDepth 20000 in
theorem pcm_105 : Cond.code ⟨"SwingCityModel", "rope", "(II)I"⟩ prog_10_method_22_code 3 (some .int) ∈ lw_tbl := tb_mem (c := 4) (i := 110) rfl
set_option maxRecDepth 20000 in
theorem pcm_106 : Cond.code ⟨"SwingCityModel", "rider", "(II)I"⟩ prog_10_method_23_code 3 (some .int) ∈ lw_tbl := tb_mem (c := 4) (i := 118) rfl
set_option maxRecDepth 20000 in
theorem pcm_107 : Cond.code ⟨"SwingCityModel", "isOpen", "(II)Z"⟩ prog_10_method_24_code 3 (some .boolean) ∈ lw_tbl := tb_mem (c := 4) (i := 133) rfl
set_option maxRecDepth 20000 in
theorem pcm_108 : Cond.code ⟨"SwingCityModel", "open", "(II)I"⟩ prog_10_method_25_code 3 (some .int) ∈ lw_tbl := tb_mem (c := 4) (i := 126) rfl
set_option maxRecDepth 20000 in
theorem pcm_109 : Cond.code ⟨"SwingCityModel", "isThere", "(IIII)Z"⟩ prog_10_method_26_code 6 (some .boolean) ∈ lw_tbl := tb_mem (c := 4) (i := 149) rfl
set_option maxRecDepth 20000 in
theorem pcm_110 : Cond.code ⟨"SwingCityModel", "hangs", "(II)Z"⟩ prog_10_method_27_code 3 (some .boolean) ∈ lw_tbl := tb_mem (c := 4) (i := 141) rfl
set_option maxRecDepth 20000 in
theorem pcm_111 : Cond.code ⟨"SwingCityModel", "across", "(II)I"⟩ prog_10_method_28_code 3 (some .int) ∈ lw_tbl := tb_mem (c := 4) (i := 153) rfl
set_option maxRecDepth 20000 in
theorem pcm_112 : Cond.code ⟨"SwingCityModel", "rides", "(IIIII)V"⟩ prog_10_method_29_code 7 none ∈ lw_tbl := tb_mem (c := 4) (i := 145) rfl
set_option maxRecDepth 20000 in
theorem pcm_113 : Cond.code ⟨"SwingCityModel", "notes", "(IIIIII)V"⟩ prog_10_method_30_code 8 none ∈ lw_tbl := tb_mem (c := 4) (i := 157) rfl
set_option maxRecDepth 20000 in
theorem pcm_114 : Cond.code ⟨"SwingCityModel", "keepsRide", "(II)V"⟩ prog_10_method_31_code 4 none ∈ lw_tbl := tb_mem (c := 4) (i := 161) rfl
set_option maxRecDepth 20000 in
theorem pcm_115 : Cond.code ⟨"SwingCityModel", "go", "(II)I"⟩ prog_10_method_32_code 5 (some .int) ∈ lw_tbl := tb_mem (c := 4) (i := 137) rfl
set_option maxRecDepth 20000 in
theorem pcm_116 : Cond.code ⟨"SwingCityModel", "waits", "(II)I"⟩ prog_10_method_33_code 4 (some .int) ∈ lw_tbl := tb_mem (c := 4) (i := 165) rfl
set_option maxRecDepth 20000 in
theorem pcm_117 : Cond.code ⟨"SwingCityModel", "stop", "(I)I"⟩ prog_10_method_34_code 2 (some .int) ∈ lw_tbl := tb_mem (c := 4) (i := 169) rfl
set_option maxRecDepth 20000 in
theorem pcm_118 : Cond.code ⟨"SwingCityModel", "push", "(II)I"⟩ prog_10_method_35_code 4 (some .int) ∈ lw_tbl := tb_mem (c := 4) (i := 173) rfl
set_option maxRecDepth 20000 in
theorem pcm_119 : Cond.code ⟨"SwingCityModel", "undo", "()I"⟩ prog_10_method_36_code 4 (some .int) ∈ lw_tbl := tb_mem (c := 4) (i := 177) rfl
set_option maxRecDepth 20000 in
theorem pcm_120 : Cond.code ⟨"SwingCityModel", "meets", "()I"⟩ prog_10_method_37_code 6 (some .int) ∈ lw_tbl := tb_mem (c := 4) (i := 181) rfl
set_option maxRecDepth 20000 in
theorem pcm_121 : Cond.code ⟨"SwingCityModel", "beatsAsTold", "()V"⟩ prog_10_method_38_code 2 none ∈ lw_tbl := tb_mem (c := 4) (i := 189) rfl
set_option maxRecDepth 20000 in
theorem pcm_122 : Cond.code ⟨"SwingCityModel", "soonestBy", "(III)I"⟩ prog_10_method_39_code 11 (some .int) ∈ lw_tbl := tb_mem (c := 4) (i := 193) rfl
set_option maxRecDepth 20000 in
theorem pcm_123 : Cond.code ⟨"SwingCityModel", "soonest", "(IIII)I"⟩ prog_10_method_40_code 6 (some .int) ∈ lw_tbl := tb_mem (c := 4) (i := 185) rfl
set_option maxRecDepth 20000 in
theorem pcm_124 : Cond.code ⟨"SwingCityModel", "figuresOf", "(I)I"⟩ prog_10_method_41_code 3 (some .int) ∈ lw_tbl := tb_mem (c := 4) (i := 204) rfl
set_option maxRecDepth 20000 in
theorem pcm_125 : Cond.code ⟨"SwingCityModel", "figure", "(III)I"⟩ prog_10_method_42_code 5 (some .int) ∈ lw_tbl := tb_mem (c := 4) (i := 211) rfl
set_option maxRecDepth 20000 in
theorem pcm_126 : Cond.code ⟨"SwingCityModel", "goesBy", "(IIIII)I"⟩ prog_10_method_43_code 8 (some .int) ∈ lw_tbl := tb_mem (c := 4) (i := 208) rfl
set_option maxRecDepth 20000 in
theorem pcm_127 : Cond.code ⟨"SwingCityModel", "isRow", "(IIIII)Z"⟩ prog_10_method_44_code 6 (some .boolean) ∈ lw_tbl := tb_mem (c := 4) (i := 201) rfl
set_option maxRecDepth 20000 in
theorem pcm_128 : Cond.code ⟨"SwingCityModel", "route", "(IIIII)I"⟩ prog_10_method_45_code 7 (some .int) ∈ lw_tbl := tb_mem (c := 4) (i := 197) rfl
set_option maxRecDepth 20000 in
theorem pcm_129 : Cond.code ⟨"SwingCityModel", "drift", "(IIIIII)I"⟩ prog_10_method_46_code 12 (some .int) ∈ lw_tbl := tb_mem (c := 4) (i := 215) rfl
set_option maxRecDepth 20000 in
theorem pcm_130 : Cond.code ⟨"SwingCityModel", "usesRope", "(II)Z"⟩ prog_10_method_47_code 4 (some .boolean) ∈ lw_tbl := tb_mem (c := 4) (i := 218) rfl
set_option maxRecDepth 20000 in
theorem pcm_131 : Cond.code ⟨"SwingCityModel", "tune", "(IIIII)I"⟩ prog_10_method_48_code 11 (some .int) ∈ lw_tbl := tb_mem (c := 4) (i := 222) rfl
set_option maxRecDepth 20000 in
theorem pcm_132 : Cond.code ⟨"SwingCityModel", "saw", "(II)I"⟩ prog_10_method_49_code 3 (some .int) ∈ lw_tbl := tb_mem (c := 4) (i := 226) rfl
set_option maxRecDepth 20000 in
theorem pcm_133 : Cond.code ⟨"SwingCityModel", "forget", "()I"⟩ prog_10_method_50_code 2 (some .int) ∈ lw_tbl := tb_mem (c := 4) (i := 230) rfl
set_option maxRecDepth 20000 in
theorem pcm_134 : Cond.code ⟨"SwingCityModel", "looksAt", "(III)I"⟩ prog_10_method_51_code 6 (some .int) ∈ lw_tbl := tb_mem (c := 5) (i := 2) rfl
set_option maxRecDepth 20000 in
theorem pcm_135 : Cond.code ⟨"SwingCityModel", "fitsRow", "(IIII)Z"⟩ prog_10_method_52_code 9 (some .boolean) ∈ lw_tbl := tb_mem (c := 4) (i := 238) rfl
set_option maxRecDepth 20000 in
theorem pcm_136 : Cond.code ⟨"SwingCityModel", "fits", "(III)I"⟩ prog_10_method_53_code 7 (some .int) ∈ lw_tbl := tb_mem (c := 4) (i := 234) rfl
set_option maxRecDepth 20000 in
theorem pcm_137 : Cond.code ⟨"SwingCityModel", "rate", "(II)I"⟩ prog_10_method_54_code 8 (some .int) ∈ lw_tbl := tb_mem (c := 5) (i := 6) rfl
set_option maxRecDepth 20000 in
theorem pcm_138 : Cond.code ⟨"SwingCityModel", "inside", "()I"⟩ prog_10_method_55_code 3 (some .int) ∈ lw_tbl := tb_mem (c := 5) (i := 20) rfl
set_option maxRecDepth 20000 in
theorem pcm_139 : Cond.code ⟨"SwingCityModel", "keep", "(I)I"⟩ prog_10_method_56_code 3 (some .int) ∈ lw_tbl := tb_mem (c := 5) (i := 16) rfl
set_option maxRecDepth 20000 in
theorem pcm_140 : Cond.code ⟨"SwingCityModel", "back", "(I)I"⟩ prog_10_method_57_code 3 (some .int) ∈ lw_tbl := tb_mem (c := 5) (i := 24) rfl
set_option maxRecDepth 20000 in
theorem pcm_141 : Cond.code ⟨"SwingCityModel", "count", "(I)I"⟩ prog_10_method_58_code 2 (some .int) ∈ lw_tbl := tb_mem (c := 5) (i := 28) rfl
set_option maxRecDepth 20000 in
theorem pcm_142 : Cond.code ⟨"SwingCityModel", "trace", "()J"⟩ prog_10_method_59_code 1 (some .long) ∈ lw_tbl := tb_mem (c := 5) (i := 32) rfl
set_option maxRecDepth 20000 in
theorem pcm_143 : Cond.code ⟨"java/lang/Math", "floorMod", "(II)I"⟩ prog_11_method_50_code 3 (some .int) ∈ lw_tbl := tb_mem (c := 2) (i := 234) rfl
set_option maxRecDepth 20000 in
theorem pcm_144 : Cond.code ⟨"java/lang/Math", "max", "(II)I"⟩ prog_11_method_65_code 2 (some .int) ∈ lw_tbl := tb_mem (c := 1) (i := 31) rfl
set_option maxRecDepth 20000 in
theorem pcm_145 : Cond.code ⟨"java/lang/Math", "min", "(II)I"⟩ prog_11_method_69_code 2 (some .int) ∈ lw_tbl := tb_mem (c := 2) (i := 1) rfl
set_option maxRecDepth 20000 in
theorem pcm_146 : Cond.code ⟨"java/lang/String", "length", "()I"⟩ prog_12_method_54_code 1 (some .int) ∈ lw_tbl := tb_mem (c := 2) (i := 104) rfl
set_option maxRecDepth 20000 in
theorem pcm_147 : Cond.code ⟨"java/lang/String", "charAt", "(I)C"⟩ prog_12_method_56_code 2 (some .char) ∈ lw_tbl := tb_mem (c := 2) (i := 114) rfl
set_option maxRecDepth 20000 in
theorem pcm_148 : Cond.code ⟨"java/lang/String", "coder", "()B"⟩ prog_12_method_152_code 1 (some .byte) ∈ lw_tbl := tb_mem (c := 2) (i := 108) rfl
set_option maxRecDepth 20000 in
theorem pcm_149 : Cond.code ⟨"java/lang/String", "isLatin1", "()Z"⟩ prog_12_method_154_code 1 (some .boolean) ∈ lw_tbl := tb_mem (c := 2) (i := 118) rfl
set_option maxRecDepth 20000 in
theorem pcm_150 : Cond.code ⟨"java/lang/String", "checkIndex", "(II)V"⟩ prog_12_method_155_code 2 none ∈ lw_tbl := tb_mem (c := 2) (i := 124) rfl
set_option maxRecDepth 20000 in
theorem pcm_151 : Cond.code ⟨"java/lang/StringLatin1", "charAt", "([BI)C"⟩ prog_13_method_2_code 2 (some .char) ∈ lw_tbl := tb_mem (c := 2) (i := 121) rfl
set_option maxRecDepth 20000 in
theorem pcm_152 : Cond.code ⟨"jdk/internal/util/Preconditions", "checkIndex", "(IILjava/util/function/BiFunction;)I"⟩ prog_15_method_11_code 3 (some .int) ∈ lw_tbl := tb_mem (c := 2) (i := 129) rfl
theorem pca_0 : ∀ M ∈ (pm.drop 0).take 16, Cond.code M.1 M.2.1 M.2.2.1 M.2.2.2.1 ∈ lw_tbl := List.forall_mem_cons.mpr ⟨pcm_0, List.forall_mem_cons.mpr ⟨pcm_1, List.forall_mem_cons.mpr ⟨pcm_2, List.forall_mem_cons.mpr ⟨pcm_3, List.forall_mem_cons.mpr ⟨pcm_4, List.forall_mem_cons.mpr ⟨pcm_5, List.forall_mem_cons.mpr ⟨pcm_6, List.forall_mem_cons.mpr ⟨pcm_7, List.forall_mem_cons.mpr ⟨pcm_8, List.forall_mem_cons.mpr ⟨pcm_9, List.forall_mem_cons.mpr ⟨pcm_10, List.forall_mem_cons.mpr ⟨pcm_11, List.forall_mem_cons.mpr ⟨pcm_12, List.forall_mem_cons.mpr ⟨pcm_13, List.forall_mem_cons.mpr ⟨pcm_14, List.forall_mem_cons.mpr ⟨pcm_15, fun _ h => absurd h List.not_mem_nil⟩⟩⟩⟩⟩⟩⟩⟩⟩⟩⟩⟩⟩⟩⟩⟩
theorem pda_0 : ∀ M ∈ (pm.drop 0).take 16, pm_dq M.2.1 0 M.2.2.2.2.2.2.2 = true := List.forall_mem_cons.mpr ⟨pd_0, List.forall_mem_cons.mpr ⟨pd_1, List.forall_mem_cons.mpr ⟨pd_2, List.forall_mem_cons.mpr ⟨pd_3, List.forall_mem_cons.mpr ⟨pd_4, List.forall_mem_cons.mpr ⟨pd_5, List.forall_mem_cons.mpr ⟨pd_6, List.forall_mem_cons.mpr ⟨pd_7, List.forall_mem_cons.mpr ⟨pd_8, List.forall_mem_cons.mpr ⟨pd_9, List.forall_mem_cons.mpr ⟨pd_10, List.forall_mem_cons.mpr ⟨pd_11, List.forall_mem_cons.mpr ⟨pd_12, List.forall_mem_cons.mpr ⟨pd_13, List.forall_mem_cons.mpr ⟨pd_14, List.forall_mem_cons.mpr ⟨pd_15, fun _ h => absurd h List.not_mem_nil⟩⟩⟩⟩⟩⟩⟩⟩⟩⟩⟩⟩⟩⟩⟩⟩
theorem pca_1 : ∀ M ∈ (pm.drop 16).take 16, Cond.code M.1 M.2.1 M.2.2.1 M.2.2.2.1 ∈ lw_tbl := List.forall_mem_cons.mpr ⟨pcm_16, List.forall_mem_cons.mpr ⟨pcm_17, List.forall_mem_cons.mpr ⟨pcm_18, List.forall_mem_cons.mpr ⟨pcm_19, List.forall_mem_cons.mpr ⟨pcm_20, List.forall_mem_cons.mpr ⟨pcm_21, List.forall_mem_cons.mpr ⟨pcm_22, List.forall_mem_cons.mpr ⟨pcm_23, List.forall_mem_cons.mpr ⟨pcm_24, List.forall_mem_cons.mpr ⟨pcm_25, List.forall_mem_cons.mpr ⟨pcm_26, List.forall_mem_cons.mpr ⟨pcm_27, List.forall_mem_cons.mpr ⟨pcm_28, List.forall_mem_cons.mpr ⟨pcm_29, List.forall_mem_cons.mpr ⟨pcm_30, List.forall_mem_cons.mpr ⟨pcm_31, fun _ h => absurd h List.not_mem_nil⟩⟩⟩⟩⟩⟩⟩⟩⟩⟩⟩⟩⟩⟩⟩⟩
theorem pda_1 : ∀ M ∈ (pm.drop 16).take 16, pm_dq M.2.1 0 M.2.2.2.2.2.2.2 = true := List.forall_mem_cons.mpr ⟨pd_16, List.forall_mem_cons.mpr ⟨pd_17, List.forall_mem_cons.mpr ⟨pd_18, List.forall_mem_cons.mpr ⟨pd_19, List.forall_mem_cons.mpr ⟨pd_20, List.forall_mem_cons.mpr ⟨pd_21, List.forall_mem_cons.mpr ⟨pd_22, List.forall_mem_cons.mpr ⟨pd_23, List.forall_mem_cons.mpr ⟨pd_24, List.forall_mem_cons.mpr ⟨pd_25, List.forall_mem_cons.mpr ⟨pd_26, List.forall_mem_cons.mpr ⟨pd_27, List.forall_mem_cons.mpr ⟨pd_28, List.forall_mem_cons.mpr ⟨pd_29, List.forall_mem_cons.mpr ⟨pd_30, List.forall_mem_cons.mpr ⟨pd_31, fun _ h => absurd h List.not_mem_nil⟩⟩⟩⟩⟩⟩⟩⟩⟩⟩⟩⟩⟩⟩⟩⟩
theorem pca_2 : ∀ M ∈ (pm.drop 32).take 16, Cond.code M.1 M.2.1 M.2.2.1 M.2.2.2.1 ∈ lw_tbl := List.forall_mem_cons.mpr ⟨pcm_32, List.forall_mem_cons.mpr ⟨pcm_33, List.forall_mem_cons.mpr ⟨pcm_34, List.forall_mem_cons.mpr ⟨pcm_35, List.forall_mem_cons.mpr ⟨pcm_36, List.forall_mem_cons.mpr ⟨pcm_37, List.forall_mem_cons.mpr ⟨pcm_38, List.forall_mem_cons.mpr ⟨pcm_39, List.forall_mem_cons.mpr ⟨pcm_40, List.forall_mem_cons.mpr ⟨pcm_41, List.forall_mem_cons.mpr ⟨pcm_42, List.forall_mem_cons.mpr ⟨pcm_43, List.forall_mem_cons.mpr ⟨pcm_44, List.forall_mem_cons.mpr ⟨pcm_45, List.forall_mem_cons.mpr ⟨pcm_46, List.forall_mem_cons.mpr ⟨pcm_47, fun _ h => absurd h List.not_mem_nil⟩⟩⟩⟩⟩⟩⟩⟩⟩⟩⟩⟩⟩⟩⟩⟩
theorem pda_2 : ∀ M ∈ (pm.drop 32).take 16, pm_dq M.2.1 0 M.2.2.2.2.2.2.2 = true := List.forall_mem_cons.mpr ⟨pd_32, List.forall_mem_cons.mpr ⟨pd_33, List.forall_mem_cons.mpr ⟨pd_34, List.forall_mem_cons.mpr ⟨pd_35, List.forall_mem_cons.mpr ⟨pd_36, List.forall_mem_cons.mpr ⟨pd_37, List.forall_mem_cons.mpr ⟨pd_38, List.forall_mem_cons.mpr ⟨pd_39, List.forall_mem_cons.mpr ⟨pd_40, List.forall_mem_cons.mpr ⟨pd_41, List.forall_mem_cons.mpr ⟨pd_42, List.forall_mem_cons.mpr ⟨pd_43, List.forall_mem_cons.mpr ⟨pd_44, List.forall_mem_cons.mpr ⟨pd_45, List.forall_mem_cons.mpr ⟨pd_46, List.forall_mem_cons.mpr ⟨pd_47, fun _ h => absurd h List.not_mem_nil⟩⟩⟩⟩⟩⟩⟩⟩⟩⟩⟩⟩⟩⟩⟩⟩
theorem pca_3 : ∀ M ∈ (pm.drop 48).take 16, Cond.code M.1 M.2.1 M.2.2.1 M.2.2.2.1 ∈ lw_tbl := List.forall_mem_cons.mpr ⟨pcm_48, List.forall_mem_cons.mpr ⟨pcm_49, List.forall_mem_cons.mpr ⟨pcm_50, List.forall_mem_cons.mpr ⟨pcm_51, List.forall_mem_cons.mpr ⟨pcm_52, List.forall_mem_cons.mpr ⟨pcm_53, List.forall_mem_cons.mpr ⟨pcm_54, List.forall_mem_cons.mpr ⟨pcm_55, List.forall_mem_cons.mpr ⟨pcm_56, List.forall_mem_cons.mpr ⟨pcm_57, List.forall_mem_cons.mpr ⟨pcm_58, List.forall_mem_cons.mpr ⟨pcm_59, List.forall_mem_cons.mpr ⟨pcm_60, List.forall_mem_cons.mpr ⟨pcm_61, List.forall_mem_cons.mpr ⟨pcm_62, List.forall_mem_cons.mpr ⟨pcm_63, fun _ h => absurd h List.not_mem_nil⟩⟩⟩⟩⟩⟩⟩⟩⟩⟩⟩⟩⟩⟩⟩⟩
theorem pda_3 : ∀ M ∈ (pm.drop 48).take 16, pm_dq M.2.1 0 M.2.2.2.2.2.2.2 = true := List.forall_mem_cons.mpr ⟨pd_48, List.forall_mem_cons.mpr ⟨pd_49, List.forall_mem_cons.mpr ⟨pd_50, List.forall_mem_cons.mpr ⟨pd_51, List.forall_mem_cons.mpr ⟨pd_52, List.forall_mem_cons.mpr ⟨pd_53, List.forall_mem_cons.mpr ⟨pd_54, List.forall_mem_cons.mpr ⟨pd_55, List.forall_mem_cons.mpr ⟨pd_56, List.forall_mem_cons.mpr ⟨pd_57, List.forall_mem_cons.mpr ⟨pd_58, List.forall_mem_cons.mpr ⟨pd_59, List.forall_mem_cons.mpr ⟨pd_60, List.forall_mem_cons.mpr ⟨pd_61, List.forall_mem_cons.mpr ⟨pd_62, List.forall_mem_cons.mpr ⟨pd_63, fun _ h => absurd h List.not_mem_nil⟩⟩⟩⟩⟩⟩⟩⟩⟩⟩⟩⟩⟩⟩⟩⟩
theorem pca_4 : ∀ M ∈ (pm.drop 64).take 16, Cond.code M.1 M.2.1 M.2.2.1 M.2.2.2.1 ∈ lw_tbl := List.forall_mem_cons.mpr ⟨pcm_64, List.forall_mem_cons.mpr ⟨pcm_65, List.forall_mem_cons.mpr ⟨pcm_66, List.forall_mem_cons.mpr ⟨pcm_67, List.forall_mem_cons.mpr ⟨pcm_68, List.forall_mem_cons.mpr ⟨pcm_69, List.forall_mem_cons.mpr ⟨pcm_70, List.forall_mem_cons.mpr ⟨pcm_71, List.forall_mem_cons.mpr ⟨pcm_72, List.forall_mem_cons.mpr ⟨pcm_73, List.forall_mem_cons.mpr ⟨pcm_74, List.forall_mem_cons.mpr ⟨pcm_75, List.forall_mem_cons.mpr ⟨pcm_76, List.forall_mem_cons.mpr ⟨pcm_77, List.forall_mem_cons.mpr ⟨pcm_78, List.forall_mem_cons.mpr ⟨pcm_79, fun _ h => absurd h List.not_mem_nil⟩⟩⟩⟩⟩⟩⟩⟩⟩⟩⟩⟩⟩⟩⟩⟩
theorem pda_4 : ∀ M ∈ (pm.drop 64).take 16, pm_dq M.2.1 0 M.2.2.2.2.2.2.2 = true := List.forall_mem_cons.mpr ⟨pd_64, List.forall_mem_cons.mpr ⟨pd_65, List.forall_mem_cons.mpr ⟨pd_66, List.forall_mem_cons.mpr ⟨pd_67, List.forall_mem_cons.mpr ⟨pd_68, List.forall_mem_cons.mpr ⟨pd_69, List.forall_mem_cons.mpr ⟨pd_70, List.forall_mem_cons.mpr ⟨pd_71, List.forall_mem_cons.mpr ⟨pd_72, List.forall_mem_cons.mpr ⟨pd_73, List.forall_mem_cons.mpr ⟨pd_74, List.forall_mem_cons.mpr ⟨pd_75, List.forall_mem_cons.mpr ⟨pd_76, List.forall_mem_cons.mpr ⟨pd_77, List.forall_mem_cons.mpr ⟨pd_78, List.forall_mem_cons.mpr ⟨pd_79, fun _ h => absurd h List.not_mem_nil⟩⟩⟩⟩⟩⟩⟩⟩⟩⟩⟩⟩⟩⟩⟩⟩
theorem pca_5 : ∀ M ∈ (pm.drop 80).take 16, Cond.code M.1 M.2.1 M.2.2.1 M.2.2.2.1 ∈ lw_tbl := List.forall_mem_cons.mpr ⟨pcm_80, List.forall_mem_cons.mpr ⟨pcm_81, List.forall_mem_cons.mpr ⟨pcm_82, List.forall_mem_cons.mpr ⟨pcm_83, List.forall_mem_cons.mpr ⟨pcm_84, List.forall_mem_cons.mpr ⟨pcm_85, List.forall_mem_cons.mpr ⟨pcm_86, List.forall_mem_cons.mpr ⟨pcm_87, List.forall_mem_cons.mpr ⟨pcm_88, List.forall_mem_cons.mpr ⟨pcm_89, List.forall_mem_cons.mpr ⟨pcm_90, List.forall_mem_cons.mpr ⟨pcm_91, List.forall_mem_cons.mpr ⟨pcm_92, List.forall_mem_cons.mpr ⟨pcm_93, List.forall_mem_cons.mpr ⟨pcm_94, List.forall_mem_cons.mpr ⟨pcm_95, fun _ h => absurd h List.not_mem_nil⟩⟩⟩⟩⟩⟩⟩⟩⟩⟩⟩⟩⟩⟩⟩⟩
theorem pda_5 : ∀ M ∈ (pm.drop 80).take 16, pm_dq M.2.1 0 M.2.2.2.2.2.2.2 = true := List.forall_mem_cons.mpr ⟨pd_80, List.forall_mem_cons.mpr ⟨pd_81, List.forall_mem_cons.mpr ⟨pd_82, List.forall_mem_cons.mpr ⟨pd_83, List.forall_mem_cons.mpr ⟨pd_84, List.forall_mem_cons.mpr ⟨pd_85, List.forall_mem_cons.mpr ⟨pd_86, List.forall_mem_cons.mpr ⟨pd_87, List.forall_mem_cons.mpr ⟨pd_88, List.forall_mem_cons.mpr ⟨pd_89, List.forall_mem_cons.mpr ⟨pd_90, List.forall_mem_cons.mpr ⟨pd_91, List.forall_mem_cons.mpr ⟨pd_92, List.forall_mem_cons.mpr ⟨pd_93, List.forall_mem_cons.mpr ⟨pd_94, List.forall_mem_cons.mpr ⟨pd_95, fun _ h => absurd h List.not_mem_nil⟩⟩⟩⟩⟩⟩⟩⟩⟩⟩⟩⟩⟩⟩⟩⟩
theorem pca_6 : ∀ M ∈ (pm.drop 96).take 16, Cond.code M.1 M.2.1 M.2.2.1 M.2.2.2.1 ∈ lw_tbl := List.forall_mem_cons.mpr ⟨pcm_96, List.forall_mem_cons.mpr ⟨pcm_97, List.forall_mem_cons.mpr ⟨pcm_98, List.forall_mem_cons.mpr ⟨pcm_99, List.forall_mem_cons.mpr ⟨pcm_100, List.forall_mem_cons.mpr ⟨pcm_101, List.forall_mem_cons.mpr ⟨pcm_102, List.forall_mem_cons.mpr ⟨pcm_103, List.forall_mem_cons.mpr ⟨pcm_104, List.forall_mem_cons.mpr ⟨pcm_105, List.forall_mem_cons.mpr ⟨pcm_106, List.forall_mem_cons.mpr ⟨pcm_107, List.forall_mem_cons.mpr ⟨pcm_108, List.forall_mem_cons.mpr ⟨pcm_109, List.forall_mem_cons.mpr ⟨pcm_110, List.forall_mem_cons.mpr ⟨pcm_111, fun _ h => absurd h List.not_mem_nil⟩⟩⟩⟩⟩⟩⟩⟩⟩⟩⟩⟩⟩⟩⟩⟩
theorem pda_6 : ∀ M ∈ (pm.drop 96).take 16, pm_dq M.2.1 0 M.2.2.2.2.2.2.2 = true := List.forall_mem_cons.mpr ⟨pd_96, List.forall_mem_cons.mpr ⟨pd_97, List.forall_mem_cons.mpr ⟨pd_98, List.forall_mem_cons.mpr ⟨pd_99, List.forall_mem_cons.mpr ⟨pd_100, List.forall_mem_cons.mpr ⟨pd_101, List.forall_mem_cons.mpr ⟨pd_102, List.forall_mem_cons.mpr ⟨pd_103, List.forall_mem_cons.mpr ⟨pd_104, List.forall_mem_cons.mpr ⟨pd_105, List.forall_mem_cons.mpr ⟨pd_106, List.forall_mem_cons.mpr ⟨pd_107, List.forall_mem_cons.mpr ⟨pd_108, List.forall_mem_cons.mpr ⟨pd_109, List.forall_mem_cons.mpr ⟨pd_110, List.forall_mem_cons.mpr ⟨pd_111, fun _ h => absurd h List.not_mem_nil⟩⟩⟩⟩⟩⟩⟩⟩⟩⟩⟩⟩⟩⟩⟩⟩
theorem pca_7 : ∀ M ∈ (pm.drop 112).take 16, Cond.code M.1 M.2.1 M.2.2.1 M.2.2.2.1 ∈ lw_tbl := List.forall_mem_cons.mpr ⟨pcm_112, List.forall_mem_cons.mpr ⟨pcm_113, List.forall_mem_cons.mpr ⟨pcm_114, List.forall_mem_cons.mpr ⟨pcm_115, List.forall_mem_cons.mpr ⟨pcm_116, List.forall_mem_cons.mpr ⟨pcm_117, List.forall_mem_cons.mpr ⟨pcm_118, List.forall_mem_cons.mpr ⟨pcm_119, List.forall_mem_cons.mpr ⟨pcm_120, List.forall_mem_cons.mpr ⟨pcm_121, List.forall_mem_cons.mpr ⟨pcm_122, List.forall_mem_cons.mpr ⟨pcm_123, List.forall_mem_cons.mpr ⟨pcm_124, List.forall_mem_cons.mpr ⟨pcm_125, List.forall_mem_cons.mpr ⟨pcm_126, List.forall_mem_cons.mpr ⟨pcm_127, fun _ h => absurd h List.not_mem_nil⟩⟩⟩⟩⟩⟩⟩⟩⟩⟩⟩⟩⟩⟩⟩⟩
theorem pda_7 : ∀ M ∈ (pm.drop 112).take 16, pm_dq M.2.1 0 M.2.2.2.2.2.2.2 = true := List.forall_mem_cons.mpr ⟨pd_112, List.forall_mem_cons.mpr ⟨pd_113, List.forall_mem_cons.mpr ⟨pd_114, List.forall_mem_cons.mpr ⟨pd_115, List.forall_mem_cons.mpr ⟨pd_116, List.forall_mem_cons.mpr ⟨pd_117, List.forall_mem_cons.mpr ⟨pd_118, List.forall_mem_cons.mpr ⟨pd_119, List.forall_mem_cons.mpr ⟨pd_120, List.forall_mem_cons.mpr ⟨pd_121, List.forall_mem_cons.mpr ⟨pd_122, List.forall_mem_cons.mpr ⟨pd_123, List.forall_mem_cons.mpr ⟨pd_124, List.forall_mem_cons.mpr ⟨pd_125, List.forall_mem_cons.mpr ⟨pd_126, List.forall_mem_cons.mpr ⟨pd_127, fun _ h => absurd h List.not_mem_nil⟩⟩⟩⟩⟩⟩⟩⟩⟩⟩⟩⟩⟩⟩⟩⟩
theorem pca_8 : ∀ M ∈ (pm.drop 128).take 16, Cond.code M.1 M.2.1 M.2.2.1 M.2.2.2.1 ∈ lw_tbl := List.forall_mem_cons.mpr ⟨pcm_128, List.forall_mem_cons.mpr ⟨pcm_129, List.forall_mem_cons.mpr ⟨pcm_130, List.forall_mem_cons.mpr ⟨pcm_131, List.forall_mem_cons.mpr ⟨pcm_132, List.forall_mem_cons.mpr ⟨pcm_133, List.forall_mem_cons.mpr ⟨pcm_134, List.forall_mem_cons.mpr ⟨pcm_135, List.forall_mem_cons.mpr ⟨pcm_136, List.forall_mem_cons.mpr ⟨pcm_137, List.forall_mem_cons.mpr ⟨pcm_138, List.forall_mem_cons.mpr ⟨pcm_139, List.forall_mem_cons.mpr ⟨pcm_140, List.forall_mem_cons.mpr ⟨pcm_141, List.forall_mem_cons.mpr ⟨pcm_142, List.forall_mem_cons.mpr ⟨pcm_143, fun _ h => absurd h List.not_mem_nil⟩⟩⟩⟩⟩⟩⟩⟩⟩⟩⟩⟩⟩⟩⟩⟩
theorem pda_8 : ∀ M ∈ (pm.drop 128).take 16, pm_dq M.2.1 0 M.2.2.2.2.2.2.2 = true := List.forall_mem_cons.mpr ⟨pd_128, List.forall_mem_cons.mpr ⟨pd_129, List.forall_mem_cons.mpr ⟨pd_130, List.forall_mem_cons.mpr ⟨pd_131, List.forall_mem_cons.mpr ⟨pd_132, List.forall_mem_cons.mpr ⟨pd_133, List.forall_mem_cons.mpr ⟨pd_134, List.forall_mem_cons.mpr ⟨pd_135, List.forall_mem_cons.mpr ⟨pd_136, List.forall_mem_cons.mpr ⟨pd_137, List.forall_mem_cons.mpr ⟨pd_138, List.forall_mem_cons.mpr ⟨pd_139, List.forall_mem_cons.mpr ⟨pd_140, List.forall_mem_cons.mpr ⟨pd_141, List.forall_mem_cons.mpr ⟨pd_142, List.forall_mem_cons.mpr ⟨pd_143, fun _ h => absurd h List.not_mem_nil⟩⟩⟩⟩⟩⟩⟩⟩⟩⟩⟩⟩⟩⟩⟩⟩
theorem pca_9 : ∀ M ∈ (pm.drop 144).take 9, Cond.code M.1 M.2.1 M.2.2.1 M.2.2.2.1 ∈ lw_tbl := List.forall_mem_cons.mpr ⟨pcm_144, List.forall_mem_cons.mpr ⟨pcm_145, List.forall_mem_cons.mpr ⟨pcm_146, List.forall_mem_cons.mpr ⟨pcm_147, List.forall_mem_cons.mpr ⟨pcm_148, List.forall_mem_cons.mpr ⟨pcm_149, List.forall_mem_cons.mpr ⟨pcm_150, List.forall_mem_cons.mpr ⟨pcm_151, List.forall_mem_cons.mpr ⟨pcm_152, fun _ h => absurd h List.not_mem_nil⟩⟩⟩⟩⟩⟩⟩⟩⟩
theorem pda_9 : ∀ M ∈ (pm.drop 144).take 9, pm_dq M.2.1 0 M.2.2.2.2.2.2.2 = true := List.forall_mem_cons.mpr ⟨pd_144, List.forall_mem_cons.mpr ⟨pd_145, List.forall_mem_cons.mpr ⟨pd_146, List.forall_mem_cons.mpr ⟨pd_147, List.forall_mem_cons.mpr ⟨pd_148, List.forall_mem_cons.mpr ⟨pd_149, List.forall_mem_cons.mpr ⟨pd_150, List.forall_mem_cons.mpr ⟨pd_151, List.forall_mem_cons.mpr ⟨pd_152, fun _ h => absurd h List.not_mem_nil⟩⟩⟩⟩⟩⟩⟩⟩⟩
theorem pm_part {a n k : Nat} {M : pm_T} (h : pm[k]? = some M) (h1 : a ≤ k) (h2 : k < a + n) : M ∈ (pm.drop a).take n := by
  refine List.mem_of_getElem? (i := k - a) ?_
  rw [List.getElem?_take_of_lt (by omega), List.getElem?_drop, show a + (k - a) = k by omega]
  exact h
theorem pmM_of {k : Nat} {M : pm_T} (h : pm[k]? = some M) : pmM k = M := by simp [pmM, List.getD_eq_getElem?_getD, h]
theorem pm_len : pm.length = 154 := by decide +kernel
theorem pm_get {k : Nat} (hk : k < 154) : pm[k]? = some (pmM k) := by
  have h : k < pm.length := by rw [pm_len]; exact hk
  rw [List.getElem?_eq_getElem h, pmM_of (List.getElem?_eq_getElem h)]
theorem pm_i_lt {k pc : Nat} {e : Instr × Nat} (h : pm_i k pc = some e) : k < 154 := by
  by_cases hk : k < 154
  · exact hk
  · have : pmM k = pmD := by
      have : pm[k]? = none := List.getElem?_eq_none (by rw [pm_len]; omega)
      simp [pmM, List.getD_eq_getElem?_getD, this]
    simp [pm_i, this, pmD] at h
theorem pm_code {k : Nat} (hk : k < 153) : Cond.code (pm_y k) (pm_b k) (pm_L k) (pm_r k) ∈ lw_good := by
  refine lw_good_of ?_ rfl
  have h := pm_get (show k < 154 by omega)
  by_cases h0 : k < 16
  · exact pca_0 _ (pm_part h (by omega) (by omega))
  by_cases h1 : k < 32
  · exact pca_1 _ (pm_part h (by omega) (by omega))
  by_cases h2 : k < 48
  · exact pca_2 _ (pm_part h (by omega) (by omega))
  by_cases h3 : k < 64
  · exact pca_3 _ (pm_part h (by omega) (by omega))
  by_cases h4 : k < 80
  · exact pca_4 _ (pm_part h (by omega) (by omega))
  by_cases h5 : k < 96
  · exact pca_5 _ (pm_part h (by omega) (by omega))
  by_cases h6 : k < 112
  · exact pca_6 _ (pm_part h (by omega) (by omega))
  by_cases h7 : k < 128
  · exact pca_7 _ (pm_part h (by omega) (by omega))
  by_cases h8 : k < 144
  · exact pca_8 _ (pm_part h (by omega) (by omega))
  by_cases h9 : k < 153
  · exact pca_9 _ (pm_part h (by omega) (by omega))
  exact absurd hk (by omega)
theorem pm_decA {k : Nat} (hk : k < 153) : pm_dq (pm_b k) 0 (pmM k).2.2.2.2.2.2.2 = true := by
  have h := pm_get (show k < 154 by omega)
  by_cases h0 : k < 16
  · exact pda_0 _ (pm_part h (by omega) (by omega))
  by_cases h1 : k < 32
  · exact pda_1 _ (pm_part h (by omega) (by omega))
  by_cases h2 : k < 48
  · exact pda_2 _ (pm_part h (by omega) (by omega))
  by_cases h3 : k < 64
  · exact pda_3 _ (pm_part h (by omega) (by omega))
  by_cases h4 : k < 80
  · exact pda_4 _ (pm_part h (by omega) (by omega))
  by_cases h5 : k < 96
  · exact pda_5 _ (pm_part h (by omega) (by omega))
  by_cases h6 : k < 112
  · exact pda_6 _ (pm_part h (by omega) (by omega))
  by_cases h7 : k < 128
  · exact pda_7 _ (pm_part h (by omega) (by omega))
  by_cases h8 : k < 144
  · exact pda_8 _ (pm_part h (by omega) (by omega))
  by_cases h9 : k < 153
  · exact pda_9 _ (pm_part h (by omega) (by omega))
  exact absurd hk (by omega)
theorem pm_decL {pc : Nat} {e : Instr × Nat} (h : pi_153[pc]? = some (some e)) : decode code pc = .ok e := by
  have hl : pc < pi_153.length := (List.getElem?_eq_some_iff.mp h).1
  have hn : pi_153.length ≤ 1000 := by decide +kernel
  have hc : ∀ a, a ≤ pc → pc < a + 100 → ((pi_153.drop a).take 100)[pc - a]? = some (some e) := fun a h1 h2 => by
    rw [List.getElem?_take_of_lt (by omega), List.getElem?_drop, show a + (pc - a) = pc by omega]; exact h
  have hs : ∀ a, a ≤ pc → pc < a + 100 → pm_dq code a ((pi_153.drop a).take 100) = true → decode code pc = .ok e := fun a h1 h2 h3 => by
    have := pm_dq_spec h3 (hc a h1 h2); rwa [show a + (pc - a) = pc by omega] at this
  by_cases h0 : pc < 100
  · exact hs 0 (by omega) (by omega) pdl_0
  by_cases h1 : pc < 200
  · exact hs 100 (by omega) (by omega) pdl_1
  by_cases h2 : pc < 300
  · exact hs 200 (by omega) (by omega) pdl_2
  by_cases h3 : pc < 400
  · exact hs 300 (by omega) (by omega) pdl_3
  by_cases h4 : pc < 500
  · exact hs 400 (by omega) (by omega) pdl_4
  by_cases h5 : pc < 600
  · exact hs 500 (by omega) (by omega) pdl_5
  by_cases h6 : pc < 700
  · exact hs 600 (by omega) (by omega) pdl_6
  by_cases h7 : pc < 800
  · exact hs 700 (by omega) (by omega) pdl_7
  by_cases h8 : pc < 900
  · exact hs 800 (by omega) (by omega) pdl_8
  by_cases h9 : pc < 1000
  · exact hs 900 (by omega) (by omega) pdl_9
  exact absurd hl (by omega)
theorem pm_dec {k pc : Nat} {e : Instr × Nat} (h : pm_i k pc = some e) : decode (pm_b k) pc = .ok e := by
  have hk := pm_i_lt h
  have h2 : (pmM k).2.2.2.2.2.2.2[pc]? = some (some e) := by
    unfold pm_i at h
    cases hq : (pmM k).2.2.2.2.2.2.2[pc]? with
    | none => rw [hq] at h; cases h
    | some z => rw [hq] at h; rw [show z = some e from h]
  by_cases h1 : k < 153
  · have := pm_dq_spec (pm_decA h1) h2
    rwa [Nat.zero_add] at this
  · have : k = 153 := by omega
    subst this
    exact pm_decL h2
def am_len (I : Instr) : Nat := match I with
  | .bipush _ | .ldc _ | .iload _ | .aload _ | .lload _ | .istore _ | .astore _ | .lstore _ | .newarray _ => 2
  | .sipush _ | .ldc2_w _ | .iinc _ _ | .goto _ | .ifCond _ _ | .if_icmp _ _ | .getfield _ | .putfield _ | .getstatic _ | .new _ | .anewarray _ | .invokevirtual _ | .invokestatic _ | .invokespecial _ => 3
  | _ => 1
def am_lok (I : Instr) (n : Nat) : Bool := match I with
  | .tableswitch _ _ _ _ => true
  | I => n == am_len I
theorem pm_lokA : pm.all (fun M => M.2.2.2.2.2.2.2.all fun e => match e with | some (I, n) => am_lok I n | none => true) = true := by decide +kernel
theorem pm_lok {k pc : Nat} {I : Instr} {n : Nat} (h : pm_i k pc = some (I, n)) : am_lok I n = true := by
  have hk := pm_i_lt h
  have h2 : (pmM k).2.2.2.2.2.2.2[pc]? = some (some (I, n)) := by
    unfold pm_i at h
    cases hq : (pmM k).2.2.2.2.2.2.2[pc]? with
    | none => rw [hq] at h; cases h
    | some z => rw [hq] at h; rw [show z = some (I, n) from h]
  have h3 := List.all_eq_true.mp pm_lokA _ (List.mem_of_getElem? (pm_get hk))
  exact List.all_eq_true.mp h3 _ (List.mem_of_getElem? h2)

def rF_w (e : Nat × Nat × Nat × Nat) : List Cond := match vwCl[e.2.2.1]? with
  | some q => [.fieldLink (cn e.1) e.2.1 (q.2.1 e.2.2.2).1 (q.2.1 e.2.2.2).2.1 (q.2.1 e.2.2.2).2.2.1]
  | none => []
def rF_ok (e : Nat × Nat × Nat × Nat) : Bool := match vwCl[e.2.2.1]? with
  | some q => decide (e.2.2.2 < q.2.2) && decide (parseFieldDescriptor (q.2.1 e.2.2.2).2.2.1 = some (am_ty e.2.2.1 e.2.2.2)) && decide ((q.2.1 e.2.2.2).1 = cn e.2.2.1) && decide (q.1 = cn e.2.2.1)
  | none => false
theorem rF_all : rF.all rF_ok = true := by decide +kernel
def am_nest : List (Nat × Nat × Nat) := [(7, 28, 0), (7, 50, 7), (7, 72, 25), (7, 79, 27), (3, 22, 25), (7, 86, 48)]
def rM_w (e : Nat × Nat × Nat × Nat × Nat) : List Cond := match e with
  | (o, i, 0, j, _) => [.methodLink (cn o) i (pm_y j), .instanceMethod (pm_y j), .selects (pm_y j).cls (pm_y j) (pm_y j), .initialized (pm_y j).cls]
  | (o, i, 1, j, _) => [.methodLink (cn o) i (pm_y j), .static (pm_y j), .initialized (pm_y j).cls]
  | (o, i, 2, j, _) => [.methodLink (cn o) i (pm_y j), .instanceMethod (pm_y j), .initialized (pm_y j).cls]
  | (_, _, 3, j, _) => [.instanceMethod (pm_y j), .initialized (pm_y j).cls]
  | (o, i, _, _, _) => [.methodLink (cn o) i objectInit, .instanceMethod objectInit]
def rM_ok (e : Nat × Nat × Nat × Nat × Nat) : Bool := match e with
  | (o, i, t, j, n) => decide (t = 4) || (decide (t < 4) && decide (j < 153) && decide ((parseMethodDescriptor (pm_y j).desc).map (fun d => d.parameters.length) = some n) && (decide (t < 2) || (decide ((pm_y j).name = "<init>") && decide (pm_r j = none))) && (!decide (t = 3) || decide ((o, i, j) ∈ am_nest)))
theorem rM_all : rM.all rM_ok = true := by decide +kernel
theorem oi_code : Cond.code objectInit ⟨#[0xb1]⟩ 1 none ∈ lw_good := lw_good_of (tb_mem (c := 1) (i := 22) rfl) rfl
def rC_w (e : Nat × Nat × Nat) : List Cond := match vwCl[e.2.2]? with
  | some q => [.classLink (cn e.1) e.2.1 q.1, .instantiable q.1 q.2.2, .initialized q.1]
  | none => []
theorem rC_ok : rC.all (fun e => decide (e.2.2 < 9)) = true := by decide +kernel
theorem rK_w : ck_all [(3, 144), (5, 7)] (rK.map fun e => .constant (cn e.1) e.2.1 e.2.2) = true := by decide +kernel
theorem rJ_w : ck_all [(4, 52), (4, 72), (5, 8), (5, 9), (5, 10), (5, 11), (5, 12), (5, 33)] (rJ.map fun e => .constantLong (cn e.1) e.2.1 e.2.2) = true := by decide +kernel
theorem ac_w : ck_all [(1, 51), (1, 120)] [.arrayClass .int, .arrayClass .boolean] = true := by decide +kernel

theorem rF_in_0 : ck_all [(1, 32), (1, 33), (1, 34), (1, 35), (1, 36), (1, 37), (1, 38), (1, 39), (1, 40), (1, 41), (1, 60), (1, 61), (1, 62), (1, 63), (1, 64), (1, 65), (1, 66), (1, 67), (1, 86), (1, 87), (1, 88), (1, 89), (1, 90), (1, 91), (1, 92)] (((rF.drop 0).take 25).flatMap rF_w) = true := by decide +kernel
theorem rF_in_1 : ck_all [(1, 93), (1, 94), (1, 95), (1, 96), (1, 97), (1, 98), (1, 127), (1, 128), (1, 129), (1, 130), (1, 131), (1, 143), (1, 144), (1, 145), (1, 146), (1, 147), (1, 148), (1, 149), (1, 150), (1, 151), (1, 152), (1, 153), (1, 154), (1, 155), (1, 175)] (((rF.drop 25).take 25).flatMap rF_w) = true := by decide +kernel
theorem rF_in_2 : ck_all [(1, 176), (1, 177), (1, 178), (1, 179), (1, 180), (1, 181), (1, 182), (1, 200), (1, 201), (1, 202), (1, 203), (1, 204), (1, 205), (2, 2), (2, 3), (2, 4), (2, 5), (2, 6), (2, 7), (2, 8), (2, 9), (2, 10), (2, 11), (2, 12), (2, 13)] (((rF.drop 50).take 25).flatMap rF_w) = true := by decide +kernel
theorem rF_in_3 : ck_all [(2, 14), (2, 15), (2, 16), (3, 188), (3, 189), (3, 190), (3, 191), (3, 192), (3, 193), (3, 194), (3, 195), (3, 196), (3, 197), (3, 198), (3, 199), (3, 200), (3, 201), (3, 202), (3, 203), (3, 204), (3, 205), (3, 206), (3, 207), (3, 208), (3, 209)] (((rF.drop 75).take 25).flatMap rF_w) = true := by decide +kernel
theorem rF_in_4 : ck_all [(3, 210), (3, 211), (3, 212), (3, 213), (3, 214), (3, 215), (3, 216), (3, 217), (3, 218), (3, 219)] (((rF.drop 100).take 10).flatMap rF_w) = true := by decide +kernel
theorem rF_in {e : Nat × Nat × Nat × Nat} (h : e ∈ rF) : ∀ w ∈ rF_w e, w ∈ lw_good := by
  obtain ⟨i, hi⟩ := List.getElem?_of_mem h
  have hl : i < 110 := by have := (List.getElem?_eq_some_iff.mp hi).1; have h2 : rF.length = 110 := (by decide +kernel); omega
  have hp : ∀ a n, a ≤ i → i < a + n → e ∈ (rF.drop a).take n := fun a n h1 h2 => List.mem_of_getElem? (i := i - a) (by rw [List.getElem?_take_of_lt (by omega), List.getElem?_drop, show a + (i - a) = i by omega]; exact hi)
  by_cases h0 : i < 25
  · exact fun w hw => ck_all_of rF_in_0 w (List.mem_flatMap.mpr ⟨e, hp 0 25 (by omega) (by omega), hw⟩)
  by_cases h1 : i < 50
  · exact fun w hw => ck_all_of rF_in_1 w (List.mem_flatMap.mpr ⟨e, hp 25 25 (by omega) (by omega), hw⟩)
  by_cases h2 : i < 75
  · exact fun w hw => ck_all_of rF_in_2 w (List.mem_flatMap.mpr ⟨e, hp 50 25 (by omega) (by omega), hw⟩)
  by_cases h3 : i < 100
  · exact fun w hw => ck_all_of rF_in_3 w (List.mem_flatMap.mpr ⟨e, hp 75 25 (by omega) (by omega), hw⟩)
  by_cases h4 : i < 110
  · exact fun w hw => ck_all_of rF_in_4 w (List.mem_flatMap.mpr ⟨e, hp 100 10 (by omega) (by omega), hw⟩)
  exact absurd hl (by omega)
theorem rM_in_0 : ck_all [(1, 17), (1, 18), (1, 1), (1, 20), (1, 21), (1, 25), (1, 26), (1, 2), (1, 28), (1, 21), (1, 29), (1, 30), (1, 3), (1, 57), (1, 21), (1, 59), (1, 26), (1, 2), (1, 83), (1, 21), (1, 85), (1, 26), (1, 2), (1, 123), (1, 124), (1, 6), (1, 126), (1, 21), (1, 142), (1, 21), (1, 170), (1, 21), (1, 172), (1, 26), (1, 2), (1, 199), (1, 21), (1, 215), (1, 216), (1, 217), (1, 5), (1, 219), (1, 221), (0, 0), (1, 5), (1, 223), (1, 224), (1, 225), (1, 2), (1, 227), (1, 228), (1, 229), (1, 2), (1, 231), (1, 232), (1, 233), (1, 2), (1, 235), (1, 236), (1, 237), (1, 2), (1, 239), (2, 0), (1, 3), (2, 48), (2, 49), (2, 50), (1, 1), (2, 52), (2, 53), (2, 54), (1, 1), (2, 56), (2, 57), (2, 58), (1, 1)] (((rM.drop 0).take 25).flatMap rM_w) = true := by decide +kernel
theorem rM_in_1 : ck_all [(2, 60), (2, 61), (2, 62), (1, 5), (2, 64), (1, 216), (1, 217), (1, 5), (2, 65), (2, 0), (1, 3), (2, 66), (2, 68), (0, 1), (1, 5), (2, 70), (2, 72), (0, 2), (1, 5), (2, 74), (2, 75), (1, 5), (2, 77), (2, 79), (0, 3), (1, 5), (2, 81), (2, 82), (1, 5), (2, 84), (2, 86), (0, 4), (1, 5), (2, 88), (2, 90), (0, 5), (1, 5), (2, 92), (2, 94), (0, 6), (1, 5), (2, 97), (2, 99), (0, 7), (1, 5), (2, 101), (2, 102), (2, 103), (1, 11), (2, 105), (2, 106), (2, 107), (1, 11), (2, 111), (2, 112), (2, 113), (1, 11), (2, 115), (2, 116), (2, 117), (1, 11), (2, 119), (2, 120), (1, 12), (2, 122), (2, 123), (1, 11), (2, 127), (2, 128), (1, 13), (2, 154), (2, 156), (0, 8), (1, 5), (2, 158), (2, 160), (0, 9), (1, 5), (2, 166), (2, 168), (0, 10), (1, 5), (2, 170), (2, 172), (0, 11), (1, 5), (2, 174), (2, 176), (0, 12), (1, 5), (2, 178), (1, 224), (1, 225), (1, 2)] (((rM.drop 25).take 25).flatMap rM_w) = true := by decide +kernel
theorem rM_in_2 : ck_all [(2, 180), (2, 181), (2, 182), (1, 1), (2, 184), (2, 185), (2, 186), (1, 2), (2, 188), (2, 189), (1, 1), (2, 191), (2, 192), (2, 193), (1, 2), (2, 195), (2, 196), (2, 197), (1, 1), (2, 199), (2, 200), (2, 201), (1, 1), (2, 203), (2, 204), (2, 205), (1, 1), (2, 207), (2, 208), (1, 1), (2, 210), (2, 211), (2, 212), (1, 6), (2, 214), (2, 192), (2, 193), (1, 2), (2, 215), (2, 216), (2, 217), (1, 1), (2, 219), (2, 220), (2, 221), (1, 7), (2, 223), (2, 224), (2, 225), (1, 6), (2, 227), (2, 185), (2, 186), (1, 2), (2, 228), (2, 229), (2, 230), (1, 6), (2, 232), (2, 233), (1, 3), (2, 235), (2, 192), (2, 193), (1, 2), (2, 236), (2, 237), (2, 238), (1, 6), (3, 0), (2, 211), (2, 212), (1, 6), (3, 1), (3, 2), (3, 3), (1, 4), (3, 5), (3, 6), (3, 7), (1, 2), (3, 9), (1, 228), (1, 229), (1, 2), (3, 10), (1, 232), (1, 233), (1, 2), (3, 11), (2, 192), (2, 193), (1, 2), (3, 12), (3, 13), (3, 14), (1, 4)] (((rM.drop 50).take 25).flatMap rM_w) = true := by decide +kernel
theorem rM_in_3 : ck_all [(3, 16), (1, 232), (1, 233), (1, 2), (3, 17), (1, 30), (1, 3), (3, 18), (3, 19), (3, 20), (1, 1), (3, 22), (3, 23), (3, 24), (1, 1), (3, 26), (3, 27), (3, 28), (1, 1), (3, 30), (3, 31), (3, 32), (1, 1), (3, 34), (3, 35), (3, 36), (1, 4), (3, 38), (3, 39), (3, 40), (1, 2), (3, 42), (3, 43), (3, 44), (1, 1), (3, 46), (3, 47), (3, 48), (1, 4), (3, 50), (3, 51), (3, 52), (1, 1), (3, 54), (3, 55), (3, 56), (1, 9), (3, 58), (3, 60), (0, 13), (1, 9), (3, 62), (2, 192), (2, 193), (1, 2), (3, 63), (3, 65), (0, 14), (1, 9), (3, 67), (2, 237), (2, 238), (1, 6), (3, 68), (2, 224), (2, 225), (1, 6), (3, 69), (3, 70), (3, 71), (1, 6), (3, 73), (2, 237), (2, 238), (1, 6), (3, 74), (2, 229), (2, 230), (1, 6), (3, 75), (2, 211), (2, 212), (1, 6), (3, 76), (2, 0), (1, 3), (3, 77), (3, 78), (3, 79), (1, 1), (3, 81), (3, 83), (0, 15), (1, 1), (3, 85), (3, 86), (3, 87), (1, 8)] (((rM.drop 75).take 25).flatMap rM_w) = true := by decide +kernel
theorem rM_in_4 : ck_all [(3, 89), (1, 224), (1, 225), (1, 2), (3, 90), (1, 228), (1, 229), (1, 2), (3, 91), (1, 232), (1, 233), (1, 2), (3, 92), (3, 93), (3, 94), (1, 8), (3, 96), (3, 98), (0, 16), (1, 8), (3, 100), (2, 192), (2, 193), (1, 2), (3, 101), (2, 220), (2, 221), (1, 7), (3, 102), (3, 103), (3, 104), (1, 1), (3, 106), (3, 107), (3, 108), (1, 8), (3, 110), (3, 112), (0, 17), (1, 1), (3, 114), (2, 0), (1, 3), (3, 115), (3, 116), (3, 117), (1, 1), (3, 119), (3, 120), (3, 121), (1, 1), (3, 123), (1, 228), (1, 229), (1, 2), (3, 124), (3, 125), (3, 126), (1, 1), (3, 128), (3, 129), (3, 130), (1, 1), (3, 132), (3, 134), (0, 18), (1, 1), (3, 136), (3, 138), (0, 19), (1, 1), (3, 140), (3, 141), (3, 142), (1, 1), (3, 145), (3, 147), (0, 20), (1, 1), (3, 151), (3, 152), (3, 153), (1, 2), (3, 155), (2, 192), (2, 193), (1, 2), (3, 156), (3, 157), (3, 158), (1, 1), (3, 160), (3, 161), (3, 162), (1, 4), (3, 164), (1, 236), (1, 237), (1, 2)] (((rM.drop 100).take 25).flatMap rM_w) = true := by decide +kernel
theorem rM_in_5 : ck_all [(3, 165), (3, 166), (3, 167), (1, 4), (3, 169), (3, 152), (3, 153), (1, 2), (3, 170), (3, 171), (3, 172), (1, 1), (3, 174), (3, 175), (3, 176), (1, 1), (3, 178), (3, 179), (3, 180), (1, 1), (3, 184), (3, 185), (1, 10), (3, 187), (1, 21), (4, 45), (4, 46), (4, 47), (1, 10), (4, 49), (4, 50), (1, 10), (4, 53), (4, 54), (4, 55), (1, 10), (4, 57), (4, 58), (4, 59), (1, 10), (4, 61), (4, 63), (0, 21), (1, 10), (4, 65), (4, 67), (0, 22), (1, 10), (4, 69), (4, 70), (1, 10), (4, 73), (4, 74), (1, 10), (4, 76), (4, 77), (1, 10), (4, 79), (4, 81), (0, 23), (1, 10), (4, 83), (4, 85), (0, 24), (1, 10), (4, 87), (4, 89), (0, 25), (1, 10), (4, 91), (4, 93), (0, 26), (1, 10), (4, 95), (4, 97), (0, 27), (1, 10), (4, 99), (4, 100), (4, 101), (1, 10), (4, 103), (4, 105), (0, 28), (1, 10), (4, 107), (4, 108), (4, 109), (1, 10), (4, 111), (4, 113), (0, 29), (1, 10)] (((rM.drop 125).take 25).flatMap rM_w) = true := by decide +kernel
theorem rM_in_6 : ck_all [(4, 115), (4, 116), (4, 117), (1, 10), (4, 119), (4, 121), (0, 30), (1, 10), (4, 123), (4, 124), (4, 125), (1, 10), (4, 127), (4, 128), (1, 10), (4, 130), (4, 132), (0, 31), (1, 10), (4, 134), (4, 135), (4, 136), (1, 10), (4, 138), (4, 140), (0, 32), (1, 10), (4, 142), (4, 144), (0, 33), (1, 10), (4, 146), (4, 148), (0, 34), (1, 10), (4, 150), (4, 152), (0, 35), (1, 10), (4, 154), (4, 156), (0, 36), (1, 10), (4, 158), (4, 160), (0, 37), (1, 10), (4, 162), (4, 163), (4, 164), (1, 10), (4, 166), (4, 167), (4, 168), (1, 10), (4, 170), (4, 171), (4, 172), (1, 10), (4, 174), (4, 175), (4, 176), (1, 10), (4, 178), (4, 179), (4, 180), (1, 10), (4, 182), (4, 183), (4, 184), (1, 10), (4, 186), (4, 188), (0, 38), (1, 10), (4, 190), (4, 192), (0, 39), (1, 10), (4, 194), (4, 195), (4, 196), (1, 10), (4, 198), (4, 200), (0, 40), (1, 10), (4, 202), (4, 203), (1, 10), (4, 205), (4, 207), (0, 41), (1, 10), (4, 209), (4, 210), (1, 10)] (((rM.drop 150).take 25).flatMap rM_w) = true := by decide +kernel
theorem rM_in_7 : ck_all [(4, 212), (4, 213), (4, 214), (1, 10), (4, 216), (4, 217), (1, 10), (4, 219), (4, 220), (4, 221), (1, 10), (4, 223), (4, 224), (4, 225), (1, 10), (4, 227), (4, 228), (4, 229), (1, 10), (4, 231), (4, 232), (4, 233), (1, 10), (4, 235), (4, 237), (0, 42), (1, 10), (4, 239), (5, 1), (0, 43), (1, 10), (5, 3), (5, 4), (5, 5), (1, 10), (5, 13), (5, 14), (5, 15), (1, 10), (5, 17), (5, 19), (0, 44), (1, 10), (5, 21), (5, 22), (5, 23), (1, 10), (5, 25), (5, 26), (5, 27), (1, 10), (5, 29), (5, 30), (5, 31), (1, 10), (1, 55), (1, 4), (1, 81), (1, 5), (1, 140), (1, 7), (1, 168), (1, 8), (1, 140), (1, 7), (1, 197), (1, 9)] (((rM.drop 175).take 20).flatMap rM_w) = true := by decide +kernel
theorem rM_in {e : Nat × Nat × Nat × Nat × Nat} (h : e ∈ rM) : ∀ w ∈ rM_w e, w ∈ lw_good := by
  obtain ⟨i, hi⟩ := List.getElem?_of_mem h
  have hl : i < 195 := by have := (List.getElem?_eq_some_iff.mp hi).1; have h2 : rM.length = 195 := (by decide +kernel); omega
  have hp : ∀ a n, a ≤ i → i < a + n → e ∈ (rM.drop a).take n := fun a n h1 h2 => List.mem_of_getElem? (i := i - a) (by rw [List.getElem?_take_of_lt (by omega), List.getElem?_drop, show a + (i - a) = i by omega]; exact hi)
  by_cases h0 : i < 25
  · exact fun w hw => ck_all_of rM_in_0 w (List.mem_flatMap.mpr ⟨e, hp 0 25 (by omega) (by omega), hw⟩)
  by_cases h1 : i < 50
  · exact fun w hw => ck_all_of rM_in_1 w (List.mem_flatMap.mpr ⟨e, hp 25 25 (by omega) (by omega), hw⟩)
  by_cases h2 : i < 75
  · exact fun w hw => ck_all_of rM_in_2 w (List.mem_flatMap.mpr ⟨e, hp 50 25 (by omega) (by omega), hw⟩)
  by_cases h3 : i < 100
  · exact fun w hw => ck_all_of rM_in_3 w (List.mem_flatMap.mpr ⟨e, hp 75 25 (by omega) (by omega), hw⟩)
  by_cases h4 : i < 125
  · exact fun w hw => ck_all_of rM_in_4 w (List.mem_flatMap.mpr ⟨e, hp 100 25 (by omega) (by omega), hw⟩)
  by_cases h5 : i < 150
  · exact fun w hw => ck_all_of rM_in_5 w (List.mem_flatMap.mpr ⟨e, hp 125 25 (by omega) (by omega), hw⟩)
  by_cases h6 : i < 175
  · exact fun w hw => ck_all_of rM_in_6 w (List.mem_flatMap.mpr ⟨e, hp 150 25 (by omega) (by omega), hw⟩)
  by_cases h7 : i < 195
  · exact fun w hw => ck_all_of rM_in_7 w (List.mem_flatMap.mpr ⟨e, hp 175 20 (by omega) (by omega), hw⟩)
  exact absurd hl (by omega)
theorem rC_in_0 : ck_all [(1, 15), (1, 16), (1, 1), (1, 23), (1, 24), (1, 2), (1, 52), (1, 53), (1, 4), (1, 58), (1, 24), (1, 2), (1, 78), (1, 79), (1, 5), (1, 84), (1, 24), (1, 2), (1, 121), (1, 122), (1, 6), (1, 137), (1, 138), (1, 7), (1, 165), (1, 166), (1, 8), (1, 171), (1, 24), (1, 2), (1, 173), (1, 138), (1, 7), (1, 194), (1, 195), (1, 9), (3, 182), (3, 183), (1, 10)] (((rC.drop 0).take 13).flatMap rC_w) = true := by decide +kernel
theorem rC_in {e : Nat × Nat × Nat} (h : e ∈ rC) : ∀ w ∈ rC_w e, w ∈ lw_good := by
  obtain ⟨i, hi⟩ := List.getElem?_of_mem h
  have hl : i < 13 := by have := (List.getElem?_eq_some_iff.mp hi).1; have h2 : rC.length = 13 := (by decide +kernel); omega
  have hp : ∀ a n, a ≤ i → i < a + n → e ∈ (rC.drop a).take n := fun a n h1 h2 => List.mem_of_getElem? (i := i - a) (by rw [List.getElem?_take_of_lt (by omega), List.getElem?_drop, show a + (i - a) = i by omega]; exact hi)
  by_cases h0 : i < 13
  · exact fun w hw => ck_all_of rC_in_0 w (List.mem_flatMap.mpr ⟨e, hp 0 13 (by omega) (by omega), hw⟩)
  exact absurd hl (by omega)
theorem lay_0 : ck_all [(1, 68), (1, 70), (1, 72), (1, 74)] (u_ws RX0 TX0 4) = true := by decide +kernel
theorem lay_1 : ck_all [(1, 99), (1, 101), (1, 103), (1, 105), (1, 107), (1, 109), (1, 111), (1, 113), (1, 115), (1, 117)] (u_ws RX1 TX1 10) = true := by decide +kernel
theorem lay_2 : ck_all [(1, 156), (1, 158), (1, 160), (1, 162)] (u_ws RX2 TX2 4) = true := by decide +kernel
theorem lay_3 : ck_all [(1, 183), (1, 185), (1, 187), (1, 189), (1, 191)] (u_ws RX3 TX3 5) = true := by decide +kernel
theorem lay_4 : ck_all [(1, 42), (1, 44), (1, 46), (1, 48)] (u_ws RX4 TX4 4) = true := by decide +kernel
theorem lay_5 : ck_all [(1, 132), (1, 134)] (u_ws RX5 TX5 2) = true := by decide +kernel
theorem lay_6 : ck_all [(1, 206), (1, 208), (1, 210), (1, 212)] (u_ws RX6 TX6 4) = true := by decide +kernel
theorem lay_7 : ck_all [(2, 17), (2, 19), (2, 21), (2, 23), (2, 25), (2, 27), (2, 29), (2, 31), (2, 33), (2, 35), (2, 37), (2, 39), (2, 41), (2, 43), (2, 45)] (u_ws RX7 TX7 15) = true := by decide +kernel
theorem lay_8 : ck_all [(3, 220), (3, 222), (3, 224), (3, 226), (3, 228), (3, 230), (3, 232), (3, 234), (3, 236), (3, 238), (4, 0), (4, 2), (4, 4), (4, 6), (4, 8), (4, 10), (4, 12), (4, 14), (4, 16), (4, 18), (4, 20), (4, 22), (4, 24), (4, 26), (4, 28), (4, 30), (4, 32), (4, 34), (4, 36), (4, 38), (4, 40), (4, 42)] (u_ws RX8 TX8 32) = true := by decide +kernel
theorem vwCl_in : ∀ q ∈ vwCl, ∀ w ∈ u_ws q.1 q.2.1 q.2.2, w ∈ lw_good := List.forall_mem_cons.mpr ⟨ck_all_of lay_0, List.forall_mem_cons.mpr ⟨ck_all_of lay_1, List.forall_mem_cons.mpr ⟨ck_all_of lay_2, List.forall_mem_cons.mpr ⟨ck_all_of lay_3, List.forall_mem_cons.mpr ⟨ck_all_of lay_4, List.forall_mem_cons.mpr ⟨ck_all_of lay_5, List.forall_mem_cons.mpr ⟨ck_all_of lay_6, List.forall_mem_cons.mpr ⟨ck_all_of lay_7, List.forall_mem_cons.mpr ⟨ck_all_of lay_8, fun _ h => absurd h List.not_mem_nil⟩⟩⟩⟩⟩⟩⟩⟩⟩
theorem am_ini_ok : am_ini.all (fun k => decide ((pm_y k).name = "<init>")) = true := by decide +kernel
theorem pm_plain : pm.all (fun M => decide (M.1.cls ≠ "java/lang/invoke/MethodHandle") && decide (M.1.cls ≠ "java/lang/invoke/VarHandle") && decide (M.1.cls = cn M.2.2.2.2.1) && decide (M.2.2.1 ≤ 20)) = true := by decide +kernel
theorem pm_plainF : pm.all (fun M => plainFor M.1) = true := by decide +kernel
