def zB : List Cond := lw_tbl.filter goodWord
theorem zB_t {w : Cond} (h : w ∈ tables_1) (hg : goodWord w = true) : w ∈ zB := List.mem_filter.mpr ⟨List.mem_append_right _ h, hg⟩
theorem zB_p {w : Cond} (h : w ∈ k2_sels lw_privs) (hg : goodWord w = true) : w ∈ zB := List.mem_filter.mpr ⟨List.mem_append_left _ h, hg⟩
theorem zB_in {w : Cond} (h : w ∈ zB) : w ∈ lw_tbl := (List.mem_filter.mp h).1
theorem zgb {c : Cond} : GoodIn (c :: zB) zB := fun w h => ⟨List.mem_cons_of_mem _ h, good_of_word (List.mem_filter.mp h).2⟩
theorem zg1 {c w : Cond} (h : w ∈ zB) : w ∈ c :: zB ∧ ((w.onTables && w.keeps) = true ∨ ∃ ty, w = .arrayClass ty) := ⟨List.mem_cons_of_mem _ h, good_of_word (List.mem_filter.mp h).2⟩
theorem zgC {c w : Cond} (h : w ∈ zB) : GoodIn (c :: zB) (w :: zB) := fun x hx => by
  rcases List.mem_cons.mp hx with rfl | hx
  · exact zg1 h
  · exact zgb x hx
theorem zgV {c : Cond} {own C : String} {idx : Nat} {y : MethodName} {w : Cond} (h1 : Cond.methodLink own idx y ∈ zB) (h2 : Cond.instanceMethod y ∈ zB) (h3 : Cond.selects C y y ∈ zB) (h4 : Cond.initialized C ∈ zB) (h5 : w ∈ zB) : GoodIn (c :: zB) (wsV own idx C y (w :: zB)) := by
  intro x hx
  simp only [wsV, List.cons_append, List.nil_append, List.mem_cons] at hx
  rcases hx with rfl | rfl | rfl | rfl | rfl | hx
  · exact zg1 h1
  · exact zg1 h2
  · exact zg1 h3
  · exact zg1 h4
  · exact zg1 h5
  · exact zgb x hx
theorem zgS {c : Cond} {own : String} {idx : Nat} {y : MethodName} {w : Cond} (h1 : Cond.methodLink own idx y ∈ zB) (h2 : Cond.static y ∈ zB) (h3 : Cond.initialized y.cls ∈ zB) (h5 : w ∈ zB) : GoodIn (c :: zB) (va_wsS own idx y (w :: zB)) := by
  intro x hx
  simp only [va_wsS, List.cons_append, List.nil_append, List.mem_cons] at hx
  rcases hx with rfl | rfl | rfl | rfl | hx
  · exact zg1 h1
  · exact zg1 h2
  · exact zg1 h3
  · exact zg1 h5
  · exact zgb x hx
theorem zgU {c : Cond} {own C owner : String} {idx : Nat} {x y : MethodName} {w : Cond} (h1 : Cond.methodLink own idx x ∈ zB) (h2 : Cond.sameMethod x.cls owner x.name x.desc ∈ zB) (h3 : Cond.selects C x y ∈ zB) (h4 : Cond.instanceMethod y ∈ zB) (h5 : Cond.initialized y.cls ∈ zB) (h6 : w ∈ zB) : GoodIn (c :: zB) (va_wsU own idx C owner x y (w :: zB)) := by
  intro v hv
  simp only [va_wsU, List.cons_append, List.nil_append, List.mem_cons] at hv
  rcases hv with rfl | rfl | rfl | rfl | rfl | rfl | hv
  · exact zg1 h1
  · exact zg1 h2
  · exact zg1 h3
  · exact zg1 h4
  · exact zg1 h5
  · exact zg1 h6
  · exact zgb v hv
theorem zgO {c : Cond} {own C owner : String} {idx : Nat} {x y : MethodName} {w : Cond} (h1 : Cond.methodLink own idx x ∈ zB) (h2 : Cond.sameMethod x.cls owner x.name x.desc ∈ zB) (h3 : Cond.instanceMethod ⟨owner, x.name, x.desc⟩ ∈ zB) (h4 : Cond.selects C x y ∈ zB) (h5 : Cond.instanceMethod y ∈ zB) (h6 : Cond.initialized y.cls ∈ zB) (h7 : w ∈ zB) : GoodIn (c :: zB) (va_wsO own idx C owner x y (w :: zB)) := by
  intro v hv
  simp only [va_wsO, List.cons_append, List.nil_append, List.mem_cons] at hv
  rcases hv with rfl | rfl | rfl | rfl | rfl | rfl | rfl | hv
  · exact zg1 h1
  · exact zg1 h2
  · exact zg1 h3
  · exact zg1 h4
  · exact zg1 h5
  · exact zg1 h6
  · exact zg1 h7
  · exact zgb v hv
theorem zgSU {c : Cond} {own : String} {idx : Nat} {y : MethodName} {w : Cond} (h1 : Cond.methodLink own idx y ∈ zB) (h2 : Cond.sameMethod y.cls y.cls y.name y.desc ∈ zB) (h3 : Cond.superclass own y.cls ∈ zB) (h4 : Cond.instanceMethod y ∈ zB) (h5 : Cond.initialized y.cls ∈ zB) (h6 : w ∈ zB) : GoodIn (c :: zB) (va_wsSU own idx y (w :: zB)) := by
  intro v hv
  simp only [va_wsSU, List.cons_append, List.nil_append, List.mem_cons] at hv
  rcases hv with rfl | rfl | rfl | rfl | rfl | rfl | hv
  · exact zg1 h1
  · exact zg1 h2
  · exact zg1 h3
  · exact zg1 h4
  · exact zg1 h5
  · exact zg1 h6
  · exact zgb v hv
/-- any of the words, at a method whose words are its own code and all -/
theorem zh {c w : Cond} {args : Array Value} {s : State} (hts : ∀ w ∈ c :: zB, w.before args s = true) (h : w ∈ zB) : w.before args s = true := hts w (List.mem_cons_of_mem _ h)

theorem kp0_0 : Cond.selects RX11 yX11_found yX11_found ∈ zB := zB_p (List.mem_of_getElem? (i := 0) rfl) rfl
theorem k0_1 : Cond.initialized RX11 ∈ zB := zB_t (List.mem_append_left _ (List.mem_of_getElem? (i := 1) rfl)) rfl
theorem kp0_1 : Cond.selects RX11 yX11_fine yX11_fine ∈ zB := zB_p (List.mem_of_getElem? (i := 1) rfl) rfl
theorem k0_2 : Cond.initialized RX7 ∈ zB := zB_t (List.mem_append_left _ (List.mem_of_getElem? (i := 2) rfl)) rfl
theorem kp0_2 : Cond.selects RX6 yX6_advance yX6_advance ∈ zB := zB_p (List.mem_of_getElem? (i := 2) rfl) rfl
theorem k0_3 : Cond.initialized RJ7 ∈ zB := zB_t (List.mem_append_left _ (List.mem_of_getElem? (i := 3) rfl)) rfl
theorem kp0_3 : Cond.selects RX6 yX6_behindRun yX6_behindRun ∈ zB := zB_p (List.mem_of_getElem? (i := 3) rfl) rfl
theorem k0_4 : Cond.initialized RX6 ∈ zB := zB_t (List.mem_append_left _ (List.mem_of_getElem? (i := 4) rfl)) rfl
theorem kp0_4 : Cond.selects RX6 yX6_readFigures yX6_readFigures ∈ zB := zB_p (List.mem_of_getElem? (i := 4) rfl) rfl
theorem k0_5 : Cond.initialized RX2 ∈ zB := zB_t (List.mem_append_left _ (List.mem_of_getElem? (i := 5) rfl)) rfl
theorem kp0_5 : Cond.selects RX6 yX6_readLaw yX6_readLaw ∈ zB := zB_p (List.mem_of_getElem? (i := 5) rfl) rfl
theorem k0_6 : Cond.initialized RX4 ∈ zB := zB_t (List.mem_append_left _ (List.mem_of_getElem? (i := 6) rfl)) rfl
theorem kp0_6 : Cond.selects RX6 yX6_takeWord yX6_takeWord ∈ zB := zB_p (List.mem_of_getElem? (i := 6) rfl) rfl
theorem k0_7 : Cond.initialized RX9 ∈ zB := zB_t (List.mem_append_left _ (List.mem_of_getElem? (i := 7) rfl)) rfl
theorem kp0_7 : Cond.selects RX6 yX6_isWord yX6_isWord ∈ zB := zB_p (List.mem_of_getElem? (i := 7) rfl) rfl
theorem kp0_8 : Cond.selects RX6 yX6_stick yX6_stick ∈ zB := zB_p (List.mem_of_getElem? (i := 8) rfl) rfl
theorem k0_8 : Cond.initialized RX12 ∈ zB := zB_t (List.mem_append_left _ (List.mem_of_getElem? (i := 8) rfl)) rfl
theorem k0_9 : Cond.initialized "java/lang/System" ∈ zB := zB_t (List.mem_append_left _ (List.mem_of_getElem? (i := 9) rfl)) rfl
theorem kp0_9 : Cond.selects RX6 yX6_takeNumber yX6_takeNumber ∈ zB := zB_p (List.mem_of_getElem? (i := 9) rfl) rfl
theorem k0_10 : Cond.initialized "java/lang/Math" ∈ zB := zB_t (List.mem_append_left _ (List.mem_of_getElem? (i := 10) rfl)) rfl
theorem kp0_10 : Cond.selects RX6 yX6_takeSign yX6_takeSign ∈ zB := zB_p (List.mem_of_getElem? (i := 10) rfl) rfl
theorem k0_11 : Cond.initialized RJ0 ∈ zB := zB_t (List.mem_append_left _ (List.mem_of_getElem? (i := 11) rfl)) rfl
theorem kp0_11 : Cond.selects RX6 yX6_readPoints yX6_readPoints ∈ zB := zB_p (List.mem_of_getElem? (i := 11) rfl) rfl
theorem k0_12 : Cond.initialized RJ1 ∈ zB := zB_t (List.mem_append_left _ (List.mem_of_getElem? (i := 12) rfl)) rfl
theorem kp0_12 : Cond.selects RX6 yX6_takeWordOf yX6_takeWordOf ∈ zB := zB_p (List.mem_of_getElem? (i := 12) rfl) rfl
theorem k0_13 : Cond.initialized RJ3 ∈ zB := zB_t (List.mem_append_left _ (List.mem_of_getElem? (i := 13) rfl)) rfl
theorem kp0_13 : Cond.selects RX6 yX6_readChest yX6_readChest ∈ zB := zB_p (List.mem_of_getElem? (i := 13) rfl) rfl
theorem k0_14 : Cond.initialized RJ2 ∈ zB := zB_t (List.mem_append_left _ (List.mem_of_getElem? (i := 14) rfl)) rfl
theorem kp0_14 : Cond.selects RX6 yX6_readKeepers yX6_readKeepers ∈ zB := zB_p (List.mem_of_getElem? (i := 14) rfl) rfl
theorem k0_15 : Cond.initialized RX3 ∈ zB := zB_t (List.mem_append_left _ (List.mem_of_getElem? (i := 15) rfl)) rfl
theorem kp0_15 : Cond.selects RX6 yX6_takeKind yX6_takeKind ∈ zB := zB_p (List.mem_of_getElem? (i := 15) rfl) rfl
theorem k0_16 : Cond.initialized RX5 ∈ zB := zB_t (List.mem_append_left _ (List.mem_of_getElem? (i := 16) rfl)) rfl
theorem k0_17 : Cond.initialized RX0 ∈ zB := zB_t (List.mem_append_left _ (List.mem_of_getElem? (i := 17) rfl)) rfl
theorem k0_18 : Cond.initialized RX10 ∈ zB := zB_t (List.mem_append_left _ (List.mem_of_getElem? (i := 18) rfl)) rfl
theorem k0_19 : Cond.initialized RX1 ∈ zB := zB_t (List.mem_append_left _ (List.mem_of_getElem? (i := 19) rfl)) rfl
theorem k0_20 : Cond.initialized RX8 ∈ zB := zB_t (List.mem_append_left _ (List.mem_of_getElem? (i := 20) rfl)) rfl
theorem k0_21 : Cond.classLink RL 7 RX11 ∈ zB := zB_t (List.mem_append_left _ (List.mem_of_getElem? (i := 21) rfl)) rfl
theorem k0_22 : Cond.instantiable RX11 9 ∈ zB := zB_t (List.mem_append_left _ (List.mem_of_getElem? (i := 22) rfl)) rfl
theorem k0_23 : Cond.methodLink RL 9 yX11_init ∈ zB := zB_t (List.mem_append_left _ (List.mem_of_getElem? (i := 23) rfl)) rfl
theorem k0_24 : Cond.instanceMethod yX11_init ∈ zB := zB_t (List.mem_append_left _ (List.mem_of_getElem? (i := 24) rfl)) rfl
theorem k0_25 : Cond.code yX11_init cX11_init 1 none ∈ zB := zB_t (List.mem_append_left _ (List.mem_of_getElem? (i := 25) rfl)) rfl
theorem k0_26 : Cond.methodLink RX11 1 objectInit ∈ zB := zB_t (List.mem_append_left _ (List.mem_of_getElem? (i := 26) rfl)) rfl
theorem k0_27 : Cond.instanceMethod objectInit ∈ zB := zB_t (List.mem_append_left _ (List.mem_of_getElem? (i := 27) rfl)) rfl
theorem k0_28 : Cond.code objectInit ⟨#[0xb1]⟩ 1 none ∈ zB := zB_t (List.mem_append_left _ (List.mem_of_getElem? (i := 28) rfl)) rfl
theorem k0_29 : Cond.classLink RX11 7 RX7 ∈ zB := zB_t (List.mem_append_left _ (List.mem_of_getElem? (i := 29) rfl)) rfl
theorem k0_30 : Cond.instantiable RX7 3 ∈ zB := zB_t (List.mem_append_left _ (List.mem_of_getElem? (i := 30) rfl)) rfl
theorem k0_31 : Cond.methodLink RX11 9 yX7_init ∈ zB := zB_t (List.mem_append_left _ (List.mem_of_getElem? (i := 31) rfl)) rfl
theorem k0_32 : Cond.instanceMethod yX7_init ∈ zB := zB_t (List.mem_append_left _ (List.mem_of_getElem? (i := 32) rfl)) rfl
theorem k0_33 : Cond.code yX7_init cX7_init 1 none ∈ zB := zB_t (List.mem_append_left _ (List.mem_of_getElem? (i := 33) rfl)) rfl
theorem k0_34 : Cond.methodLink RX7 1 objectInit ∈ zB := zB_t (List.mem_append_left _ (List.mem_of_getElem? (i := 34) rfl)) rfl
theorem k0_35 : Cond.methodLink RX7 19 yJ7_fill_53178 ∈ zB := zB_t (List.mem_append_left _ (List.mem_of_getElem? (i := 35) rfl)) rfl
theorem k0_36 : Cond.static yJ7_fill_53178 ∈ zB := zB_t (List.mem_append_left _ (List.mem_of_getElem? (i := 36) rfl)) rfl
theorem k0_37 : Cond.code yJ7_fill_53178 cJ7_fill_53178 4 none ∈ zB := zB_t (List.mem_append_left _ (List.mem_of_getElem? (i := 37) rfl)) rfl
theorem k0_38 : Cond.fieldLink RX7 9 "OldNews$Rows" "lanes" "[I" ∈ zB := zB_t (List.mem_append_left _ (List.mem_of_getElem? (i := 38) rfl)) rfl
theorem k0_39 : Cond.fieldLink RX7 13 "OldNews$Rows" "sizes" "[I" ∈ zB := zB_t (List.mem_append_left _ (List.mem_of_getElem? (i := 39) rfl)) rfl
theorem k0_40 : Cond.fieldLink RX7 16 "OldNews$Rows" "items" "[I" ∈ zB := zB_t (List.mem_append_left _ (List.mem_of_getElem? (i := 40) rfl)) rfl
theorem k0_41 : Cond.laysFinal RX7 "OldNews$Rows" "lanes" "[I" ∈ zB := zB_t (List.mem_append_left _ (List.mem_of_getElem? (i := 41) rfl)) rfl
theorem k0_43 : Cond.laysFinal RX7 "OldNews$Rows" "sizes" "[I" ∈ zB := zB_t (List.mem_append_left _ (List.mem_of_getElem? (i := 43) rfl)) rfl
theorem k0_45 : Cond.laysFinal RX7 "OldNews$Rows" "items" "[I" ∈ zB := zB_t (List.mem_append_left _ (List.mem_of_getElem? (i := 45) rfl)) rfl
theorem k0_48 : Cond.arrayClass .int ∈ zB := zB_t (List.mem_append_left _ (List.mem_of_getElem? (i := 48) rfl)) rfl
theorem k0_49 : Cond.classLink RX11 16 RX6 ∈ zB := zB_t (List.mem_append_left _ (List.mem_of_getElem? (i := 49) rfl)) rfl
theorem k0_50 : Cond.instantiable RX6 8 ∈ zB := zB_t (List.mem_append_left _ (List.mem_of_getElem? (i := 50) rfl)) rfl
theorem k0_52 : Cond.instanceMethod yX6_init ∈ zB := zB_t (List.mem_append_left _ (List.mem_of_getElem? (i := 52) rfl)) rfl
theorem k0_53 : Cond.code yX6_init cX6_init 1 none ∈ zB := zB_t (List.mem_append_left _ (List.mem_of_getElem? (i := 53) rfl)) rfl
theorem k0_54 : Cond.methodLink RX6 1 objectInit ∈ zB := zB_t (List.mem_append_left _ (List.mem_of_getElem? (i := 54) rfl)) rfl
theorem k0_55 : Cond.fieldLink RX6 13 "OldNews$Reader" "length" "I" ∈ zB := zB_t (List.mem_append_left _ (List.mem_of_getElem? (i := 55) rfl)) rfl
theorem k0_56 : Cond.fieldLink RX11 101 "OldNews$Reader" "length" "I" ∈ zB := zB_t (List.mem_append_left _ (List.mem_of_getElem? (i := 56) rfl)) rfl
theorem k0_57 : Cond.fieldLink RX11 120 "OldNews$Reader" "fault" "I" ∈ zB := zB_t (List.mem_append_left _ (List.mem_of_getElem? (i := 57) rfl)) rfl
theorem k0_58 : Cond.fieldLink RX6 147 "OldNews$Reader" "fault" "I" ∈ zB := zB_t (List.mem_append_left _ (List.mem_of_getElem? (i := 58) rfl)) rfl
theorem k0_59 : Cond.fieldLink RX11 114 "OldNews$Reader" "place" "I" ∈ zB := zB_t (List.mem_append_left _ (List.mem_of_getElem? (i := 59) rfl)) rfl
theorem k0_60 : Cond.fieldLink RX6 153 "OldNews$Reader" "place" "I" ∈ zB := zB_t (List.mem_append_left _ (List.mem_of_getElem? (i := 60) rfl)) rfl
theorem k0_61 : Cond.fieldLink RX6 9 "OldNews$Reader" "tape" "[B" ∈ zB := zB_t (List.mem_append_left _ (List.mem_of_getElem? (i := 61) rfl)) rfl
theorem k0_62 : Cond.fieldLink RX6 22 "OldNews$Reader" "sort" "I" ∈ zB := zB_t (List.mem_append_left _ (List.mem_of_getElem? (i := 62) rfl)) rfl
theorem k0_63 : Cond.fieldLink RX6 150 "OldNews$Reader" "start" "I" ∈ zB := zB_t (List.mem_append_left _ (List.mem_of_getElem? (i := 63) rfl)) rfl
theorem k0_64 : Cond.fieldLink RX6 25 "OldNews$Reader" "end" "I" ∈ zB := zB_t (List.mem_append_left _ (List.mem_of_getElem? (i := 64) rfl)) rfl
theorem k0_65 : Cond.fieldLink RX6 138 "OldNews$Reader" "number" "I" ∈ zB := zB_t (List.mem_append_left _ (List.mem_of_getElem? (i := 65) rfl)) rfl
theorem k0_66 : Cond.lays RX6 "OldNews$Reader" "length" "I" ∈ zB := zB_t (List.mem_append_left _ (List.mem_of_getElem? (i := 66) rfl)) rfl
theorem k0_68 : Cond.lays RX6 "OldNews$Reader" "fault" "I" ∈ zB := zB_t (List.mem_append_left _ (List.mem_of_getElem? (i := 68) rfl)) rfl
theorem k0_70 : Cond.lays RX6 "OldNews$Reader" "place" "I" ∈ zB := zB_t (List.mem_append_left _ (List.mem_of_getElem? (i := 70) rfl)) rfl
theorem k0_72 : Cond.laysFinal RX6 "OldNews$Reader" "tape" "[B" ∈ zB := zB_t (List.mem_append_left _ (List.mem_of_getElem? (i := 72) rfl)) rfl
theorem k0_74 : Cond.lays RX6 "OldNews$Reader" "sort" "I" ∈ zB := zB_t (List.mem_append_left _ (List.mem_of_getElem? (i := 74) rfl)) rfl
theorem k0_76 : Cond.lays RX6 "OldNews$Reader" "start" "I" ∈ zB := zB_t (List.mem_append_left _ (List.mem_of_getElem? (i := 76) rfl)) rfl
theorem k0_78 : Cond.lays RX6 "OldNews$Reader" "end" "I" ∈ zB := zB_t (List.mem_append_left _ (List.mem_of_getElem? (i := 78) rfl)) rfl
theorem k0_80 : Cond.lays RX6 "OldNews$Reader" "number" "I" ∈ zB := zB_t (List.mem_append_left _ (List.mem_of_getElem? (i := 80) rfl)) rfl
theorem k0_83 : Cond.arrayClass .byte ∈ zB := zB_t (List.mem_append_left _ (List.mem_of_getElem? (i := 83) rfl)) rfl
theorem k0_84 : Cond.classLink RX11 23 RX2 ∈ zB := zB_t (List.mem_append_left _ (List.mem_of_getElem? (i := 84) rfl)) rfl
theorem k0_85 : Cond.instantiable RX2 7 ∈ zB := zB_t (List.mem_append_left _ (List.mem_of_getElem? (i := 85) rfl)) rfl
theorem k0_87 : Cond.instanceMethod yX2_init ∈ zB := zB_t (List.mem_append_left _ (List.mem_of_getElem? (i := 87) rfl)) rfl
theorem k0_88 : Cond.code yX2_init cX2_init 1 none ∈ zB := zB_t (List.mem_append_left _ (List.mem_of_getElem? (i := 88) rfl)) rfl
theorem k0_89 : Cond.methodLink RX2 3 objectInit ∈ zB := zB_t (List.mem_append_left _ (List.mem_of_getElem? (i := 89) rfl)) rfl
theorem k0_90 : Cond.classLink RX2 9 RX4 ∈ zB := zB_t (List.mem_append_left _ (List.mem_of_getElem? (i := 90) rfl)) rfl
theorem k0_91 : Cond.instantiable RX4 19 ∈ zB := zB_t (List.mem_append_left _ (List.mem_of_getElem? (i := 91) rfl)) rfl
theorem k0_93 : Cond.instanceMethod yX4_init ∈ zB := zB_t (List.mem_append_left _ (List.mem_of_getElem? (i := 93) rfl)) rfl
theorem k0_94 : Cond.code yX4_init cX4_init 1 none ∈ zB := zB_t (List.mem_append_left _ (List.mem_of_getElem? (i := 94) rfl)) rfl
theorem k0_95 : Cond.methodLink RX4 3 objectInit ∈ zB := zB_t (List.mem_append_left _ (List.mem_of_getElem? (i := 95) rfl)) rfl
theorem k0_96 : Cond.classLink RX4 18 RX3 ∈ zB := zB_t (List.mem_append_left _ (List.mem_of_getElem? (i := 96) rfl)) rfl
theorem k0_98 : Cond.fieldLink RX6 62 "OldNews$Land" "law" "I" ∈ zB := zB_t (List.mem_append_left _ (List.mem_of_getElem? (i := 98) rfl)) rfl
theorem k0_99 : Cond.fieldLink RX4 75 "OldNews$Land" "law" "I" ∈ zB := zB_t (List.mem_append_left _ (List.mem_of_getElem? (i := 99) rfl)) rfl
theorem k0_100 : Cond.fieldLink RX2 144 "OldNews$Land" "law" "I" ∈ zB := zB_t (List.mem_append_left _ (List.mem_of_getElem? (i := 100) rfl)) rfl
theorem k0_101 : Cond.fieldLink RX11 271 "OldNews$Land" "law" "I" ∈ zB := zB_t (List.mem_append_left _ (List.mem_of_getElem? (i := 101) rfl)) rfl
theorem k0_102 : Cond.fieldLink RX2 28 "OldNews$Land" "last" "I" ∈ zB := zB_t (List.mem_append_left _ (List.mem_of_getElem? (i := 102) rfl)) rfl
theorem k0_103 : Cond.fieldLink RX6 70 "OldNews$Land" "last" "I" ∈ zB := zB_t (List.mem_append_left _ (List.mem_of_getElem? (i := 103) rfl)) rfl
theorem k0_104 : Cond.fieldLink RX4 78 "OldNews$Land" "last" "I" ∈ zB := zB_t (List.mem_append_left _ (List.mem_of_getElem? (i := 104) rfl)) rfl
theorem k0_105 : Cond.fieldLink RX11 179 "OldNews$Land" "last" "I" ∈ zB := zB_t (List.mem_append_left _ (List.mem_of_getElem? (i := 105) rfl)) rfl
theorem k0_106 : Cond.fieldLink RX4 52 "OldNews$Land" "points" "I" ∈ zB := zB_t (List.mem_append_left _ (List.mem_of_getElem? (i := 106) rfl)) rfl
theorem k0_107 : Cond.fieldLink RX11 268 "OldNews$Land" "points" "I" ∈ zB := zB_t (List.mem_append_left _ (List.mem_of_getElem? (i := 107) rfl)) rfl
theorem k0_108 : Cond.fieldLink RX2 46 "OldNews$Land" "lost" "I" ∈ zB := zB_t (List.mem_append_left _ (List.mem_of_getElem? (i := 108) rfl)) rfl
theorem k0_109 : Cond.fieldLink RX6 88 "OldNews$Land" "lost" "I" ∈ zB := zB_t (List.mem_append_left _ (List.mem_of_getElem? (i := 109) rfl)) rfl
theorem k0_110 : Cond.fieldLink RX4 81 "OldNews$Land" "lost" "I" ∈ zB := zB_t (List.mem_append_left _ (List.mem_of_getElem? (i := 110) rfl)) rfl
theorem k0_111 : Cond.fieldLink RX6 91 "OldNews$Land" "spread" "I" ∈ zB := zB_t (List.mem_append_left _ (List.mem_of_getElem? (i := 111) rfl)) rfl
theorem k0_112 : Cond.fieldLink RX4 84 "OldNews$Land" "spread" "I" ∈ zB := zB_t (List.mem_append_left _ (List.mem_of_getElem? (i := 112) rfl)) rfl
theorem k0_113 : Cond.fieldLink RX2 52 "OldNews$Land" "cost" "I" ∈ zB := zB_t (List.mem_append_left _ (List.mem_of_getElem? (i := 113) rfl)) rfl
theorem k0_114 : Cond.fieldLink RX6 94 "OldNews$Land" "cost" "I" ∈ zB := zB_t (List.mem_append_left _ (List.mem_of_getElem? (i := 114) rfl)) rfl
theorem k0_115 : Cond.fieldLink RX4 87 "OldNews$Land" "cost" "I" ∈ zB := zB_t (List.mem_append_left _ (List.mem_of_getElem? (i := 115) rfl)) rfl
theorem k0_116 : Cond.fieldLink RX4 45 "OldNews$Land" "keepers" "I" ∈ zB := zB_t (List.mem_append_left _ (List.mem_of_getElem? (i := 116) rfl)) rfl
theorem k0_117 : Cond.fieldLink RX10 18 "OldNews$Land" "keepers" "I" ∈ zB := zB_t (List.mem_append_left _ (List.mem_of_getElem? (i := 117) rfl)) rfl
theorem k0_118 : Cond.fieldLink RX11 117 "OldNews$Land" "keepers" "I" ∈ zB := zB_t (List.mem_append_left _ (List.mem_of_getElem? (i := 118) rfl)) rfl
theorem k0_119 : Cond.fieldLink RX6 115 "OldNews$Land" "keepers" "I" ∈ zB := zB_t (List.mem_append_left _ (List.mem_of_getElem? (i := 119) rfl)) rfl
theorem k0_120 : Cond.fieldLink RX2 88 "OldNews$Land" "keepers" "I" ∈ zB := zB_t (List.mem_append_left _ (List.mem_of_getElem? (i := 120) rfl)) rfl
theorem k0_121 : Cond.fieldLink RX4 49 "OldNews$Land" "news" "I" ∈ zB := zB_t (List.mem_append_left _ (List.mem_of_getElem? (i := 121) rfl)) rfl
theorem k0_122 : Cond.fieldLink RX11 265 "OldNews$Land" "news" "I" ∈ zB := zB_t (List.mem_append_left _ (List.mem_of_getElem? (i := 122) rfl)) rfl
theorem k0_123 : Cond.fieldLink RX0 11 "OldNews$Land" "year" "I" ∈ zB := zB_t (List.mem_append_left _ (List.mem_of_getElem? (i := 123) rfl)) rfl
theorem k0_124 : Cond.fieldLink RX10 34 "OldNews$Land" "year" "I" ∈ zB := zB_t (List.mem_append_left _ (List.mem_of_getElem? (i := 124) rfl)) rfl
theorem k0_125 : Cond.fieldLink RX4 55 "OldNews$Land" "year" "I" ∈ zB := zB_t (List.mem_append_left _ (List.mem_of_getElem? (i := 125) rfl)) rfl
theorem k0_126 : Cond.fieldLink RX11 136 "OldNews$Land" "year" "I" ∈ zB := zB_t (List.mem_append_left _ (List.mem_of_getElem? (i := 126) rfl)) rfl
theorem k0_127 : Cond.fieldLink RX2 138 "OldNews$Land" "year" "I" ∈ zB := zB_t (List.mem_append_left _ (List.mem_of_getElem? (i := 127) rfl)) rfl
theorem k0_128 : Cond.fieldLink RX4 11 "OldNews$Land" "ages" "[I" ∈ zB := zB_t (List.mem_append_left _ (List.mem_of_getElem? (i := 128) rfl)) rfl
theorem k0_129 : Cond.fieldLink RX4 15 "OldNews$Land" "values" "[I" ∈ zB := zB_t (List.mem_append_left _ (List.mem_of_getElem? (i := 129) rfl)) rfl
theorem k0_130 : Cond.fieldLink RX4 20 "OldNews$Land" "who" "[LOldNews$Keeper;" ∈ zB := zB_t (List.mem_append_left _ (List.mem_of_getElem? (i := 130) rfl)) rfl
theorem k0_131 : Cond.fieldLink RX4 24 "OldNews$Land" "uses" "[I" ∈ zB := zB_t (List.mem_append_left _ (List.mem_of_getElem? (i := 131) rfl)) rfl
theorem k0_132 : Cond.fieldLink RX4 27 "OldNews$Land" "seen" "[I" ∈ zB := zB_t (List.mem_append_left _ (List.mem_of_getElem? (i := 132) rfl)) rfl
theorem k0_133 : Cond.fieldLink RX4 30 "OldNews$Land" "have" "[I" ∈ zB := zB_t (List.mem_append_left _ (List.mem_of_getElem? (i := 133) rfl)) rfl
theorem k0_134 : Cond.fieldLink RX4 33 "OldNews$Land" "earned" "[I" ∈ zB := zB_t (List.mem_append_left _ (List.mem_of_getElem? (i := 134) rfl)) rfl
theorem k0_135 : Cond.fieldLink RX4 36 "OldNews$Land" "sold" "[I" ∈ zB := zB_t (List.mem_append_left _ (List.mem_of_getElem? (i := 135) rfl)) rfl
theorem k0_136 : Cond.fieldLink RX4 39 "OldNews$Land" "know" "[I" ∈ zB := zB_t (List.mem_append_left _ (List.mem_of_getElem? (i := 136) rfl)) rfl
theorem k0_137 : Cond.fieldLink RX4 42 "OldNews$Land" "firstSold" "[I" ∈ zB := zB_t (List.mem_append_left _ (List.mem_of_getElem? (i := 137) rfl)) rfl
theorem k0_138 : Cond.lays RX4 "OldNews$Land" "law" "I" ∈ zB := zB_t (List.mem_append_left _ (List.mem_of_getElem? (i := 138) rfl)) rfl
theorem k0_140 : Cond.lays RX4 "OldNews$Land" "last" "I" ∈ zB := zB_t (List.mem_append_left _ (List.mem_of_getElem? (i := 140) rfl)) rfl
theorem k0_142 : Cond.lays RX4 "OldNews$Land" "points" "I" ∈ zB := zB_t (List.mem_append_left _ (List.mem_of_getElem? (i := 142) rfl)) rfl
theorem k0_144 : Cond.lays RX4 "OldNews$Land" "lost" "I" ∈ zB := zB_t (List.mem_append_left _ (List.mem_of_getElem? (i := 144) rfl)) rfl
theorem k0_146 : Cond.lays RX4 "OldNews$Land" "spread" "I" ∈ zB := zB_t (List.mem_append_left _ (List.mem_of_getElem? (i := 146) rfl)) rfl
theorem k0_148 : Cond.lays RX4 "OldNews$Land" "cost" "I" ∈ zB := zB_t (List.mem_append_left _ (List.mem_of_getElem? (i := 148) rfl)) rfl
theorem k0_150 : Cond.lays RX4 "OldNews$Land" "keepers" "I" ∈ zB := zB_t (List.mem_append_left _ (List.mem_of_getElem? (i := 150) rfl)) rfl
theorem k0_152 : Cond.lays RX4 "OldNews$Land" "news" "I" ∈ zB := zB_t (List.mem_append_left _ (List.mem_of_getElem? (i := 152) rfl)) rfl
theorem k0_154 : Cond.lays RX4 "OldNews$Land" "year" "I" ∈ zB := zB_t (List.mem_append_left _ (List.mem_of_getElem? (i := 154) rfl)) rfl
theorem k0_156 : Cond.laysFinal RX4 "OldNews$Land" "ages" "[I" ∈ zB := zB_t (List.mem_append_left _ (List.mem_of_getElem? (i := 156) rfl)) rfl
theorem k0_158 : Cond.laysFinal RX4 "OldNews$Land" "values" "[I" ∈ zB := zB_t (List.mem_append_left _ (List.mem_of_getElem? (i := 158) rfl)) rfl
theorem k0_160 : Cond.laysFinal RX4 "OldNews$Land" "who" "[LOldNews$Keeper;" ∈ zB := zB_t (List.mem_append_left _ (List.mem_of_getElem? (i := 160) rfl)) rfl
theorem k0_162 : Cond.laysFinal RX4 "OldNews$Land" "uses" "[I" ∈ zB := zB_t (List.mem_append_left _ (List.mem_of_getElem? (i := 162) rfl)) rfl
theorem k0_164 : Cond.laysFinal RX4 "OldNews$Land" "seen" "[I" ∈ zB := zB_t (List.mem_append_left _ (List.mem_of_getElem? (i := 164) rfl)) rfl
theorem k0_166 : Cond.laysFinal RX4 "OldNews$Land" "have" "[I" ∈ zB := zB_t (List.mem_append_left _ (List.mem_of_getElem? (i := 166) rfl)) rfl
theorem k0_168 : Cond.laysFinal RX4 "OldNews$Land" "earned" "[I" ∈ zB := zB_t (List.mem_append_left _ (List.mem_of_getElem? (i := 168) rfl)) rfl
theorem k0_170 : Cond.laysFinal RX4 "OldNews$Land" "sold" "[I" ∈ zB := zB_t (List.mem_append_left _ (List.mem_of_getElem? (i := 170) rfl)) rfl
theorem k0_172 : Cond.laysFinal RX4 "OldNews$Land" "know" "[I" ∈ zB := zB_t (List.mem_append_left _ (List.mem_of_getElem? (i := 172) rfl)) rfl
theorem k0_174 : Cond.laysFinal RX4 "OldNews$Land" "firstSold" "[I" ∈ zB := zB_t (List.mem_append_left _ (List.mem_of_getElem? (i := 174) rfl)) rfl
theorem k0_177 : Cond.fieldLink RX2 82 "OldNews$Foretold" "leastSum" "I" ∈ zB := zB_t (List.mem_append_left _ (List.mem_of_getElem? (i := 177) rfl)) rfl
theorem k0_178 : Cond.fieldLink RX11 204 "OldNews$Foretold" "leastSum" "I" ∈ zB := zB_t (List.mem_append_left _ (List.mem_of_getElem? (i := 178) rfl)) rfl
theorem k0_179 : Cond.fieldLink RX2 85 "OldNews$Foretold" "buyable" "I" ∈ zB := zB_t (List.mem_append_left _ (List.mem_of_getElem? (i := 179) rfl)) rfl
theorem k0_180 : Cond.fieldLink RX2 113 "OldNews$Foretold" "sellers" "I" ∈ zB := zB_t (List.mem_append_left _ (List.mem_of_getElem? (i := 180) rfl)) rfl
theorem k0_181 : Cond.fieldLink RX2 12 "OldNews$Foretold" "trial" "LOldNews$Land;" ∈ zB := zB_t (List.mem_append_left _ (List.mem_of_getElem? (i := 181) rfl)) rfl
theorem k0_182 : Cond.fieldLink RX2 18 "OldNews$Foretold" "order" "[I" ∈ zB := zB_t (List.mem_append_left _ (List.mem_of_getElem? (i := 182) rfl)) rfl
theorem k0_183 : Cond.fieldLink RX2 22 "OldNews$Foretold" "leastOrder" "[I" ∈ zB := zB_t (List.mem_append_left _ (List.mem_of_getElem? (i := 183) rfl)) rfl
theorem k0_184 : Cond.fieldLink RX2 25 "OldNews$Foretold" "saleYears" "[I" ∈ zB := zB_t (List.mem_append_left _ (List.mem_of_getElem? (i := 184) rfl)) rfl
theorem k0_185 : Cond.lays RX2 "OldNews$Foretold" "leastSum" "I" ∈ zB := zB_t (List.mem_append_left _ (List.mem_of_getElem? (i := 185) rfl)) rfl
theorem k0_187 : Cond.lays RX2 "OldNews$Foretold" "buyable" "I" ∈ zB := zB_t (List.mem_append_left _ (List.mem_of_getElem? (i := 187) rfl)) rfl
theorem k0_189 : Cond.lays RX2 "OldNews$Foretold" "sellers" "I" ∈ zB := zB_t (List.mem_append_left _ (List.mem_of_getElem? (i := 189) rfl)) rfl
theorem k0_191 : Cond.laysFinal RX2 "OldNews$Foretold" "trial" "LOldNews$Land;" ∈ zB := zB_t (List.mem_append_left _ (List.mem_of_getElem? (i := 191) rfl)) rfl
theorem k0_193 : Cond.laysFinal RX2 "OldNews$Foretold" "order" "[I" ∈ zB := zB_t (List.mem_append_left _ (List.mem_of_getElem? (i := 193) rfl)) rfl
theorem k0_195 : Cond.laysFinal RX2 "OldNews$Foretold" "leastOrder" "[I" ∈ zB := zB_t (List.mem_append_left _ (List.mem_of_getElem? (i := 195) rfl)) rfl
theorem k0_197 : Cond.laysFinal RX2 "OldNews$Foretold" "saleYears" "[I" ∈ zB := zB_t (List.mem_append_left _ (List.mem_of_getElem? (i := 197) rfl)) rfl
theorem k0_200 : Cond.classLink RX11 30 RX9 ∈ zB := zB_t (List.mem_append_left _ (List.mem_of_getElem? (i := 200) rfl)) rfl
theorem k0_201 : Cond.instantiable RX9 2 ∈ zB := zB_t (List.mem_append_left _ (List.mem_of_getElem? (i := 201) rfl)) rfl
theorem k0_203 : Cond.instanceMethod yX9_init ∈ zB := zB_t (List.mem_append_left _ (List.mem_of_getElem? (i := 203) rfl)) rfl
theorem k0_204 : Cond.code yX9_init cX9_init 1 none ∈ zB := zB_t (List.mem_append_left _ (List.mem_of_getElem? (i := 204) rfl)) rfl
theorem k0_205 : Cond.methodLink RX9 3 objectInit ∈ zB := zB_t (List.mem_append_left _ (List.mem_of_getElem? (i := 205) rfl)) rfl
theorem k0_206 : Cond.fieldLink RX9 11 "OldNews$Trace" "numbers" "[I" ∈ zB := zB_t (List.mem_append_left _ (List.mem_of_getElem? (i := 206) rfl)) rfl
theorem k0_207 : Cond.fieldLink RX9 15 "OldNews$Trace" "count" "I" ∈ zB := zB_t (List.mem_append_left _ (List.mem_of_getElem? (i := 207) rfl)) rfl
theorem k0_208 : Cond.laysFinal RX9 "OldNews$Trace" "numbers" "[I" ∈ zB := zB_t (List.mem_append_left _ (List.mem_of_getElem? (i := 208) rfl)) rfl
theorem k0_210 : Cond.lays RX9 "OldNews$Trace" "count" "I" ∈ zB := zB_t (List.mem_append_left _ (List.mem_of_getElem? (i := 210) rfl)) rfl
theorem k0_213 : Cond.classLink RX11 37 RX4 ∈ zB := zB_t (List.mem_append_left _ (List.mem_of_getElem? (i := 213) rfl)) rfl
theorem k0_215 : Cond.fieldLink RX11 10 "OldNews" "rows" "LOldNews$Rows;" ∈ zB := zB_t (List.mem_append_left _ (List.mem_of_getElem? (i := 215) rfl)) rfl
theorem k0_216 : Cond.fieldLink RX11 19 "OldNews" "reader" "LOldNews$Reader;" ∈ zB := zB_t (List.mem_append_left _ (List.mem_of_getElem? (i := 216) rfl)) rfl
theorem k0_217 : Cond.fieldLink RX11 26 "OldNews" "foretold" "LOldNews$Foretold;" ∈ zB := zB_t (List.mem_append_left _ (List.mem_of_getElem? (i := 217) rfl)) rfl
theorem k0_218 : Cond.fieldLink RX11 33 "OldNews" "asked" "LOldNews$Trace;" ∈ zB := zB_t (List.mem_append_left _ (List.mem_of_getElem? (i := 218) rfl)) rfl
theorem k0_219 : Cond.fieldLink RX11 40 "OldNews" "image0" "LOldNews$Land;" ∈ zB := zB_t (List.mem_append_left _ (List.mem_of_getElem? (i := 219) rfl)) rfl
theorem k0_220 : Cond.fieldLink RX11 44 "OldNews" "image1" "LOldNews$Land;" ∈ zB := zB_t (List.mem_append_left _ (List.mem_of_getElem? (i := 220) rfl)) rfl
theorem k0_221 : Cond.fieldLink RX11 47 "OldNews" "land" "LOldNews$Land;" ∈ zB := zB_t (List.mem_append_left _ (List.mem_of_getElem? (i := 221) rfl)) rfl
theorem k0_222 : Cond.fieldLink RX11 50 "OldNews" "spare" "LOldNews$Land;" ∈ zB := zB_t (List.mem_append_left _ (List.mem_of_getElem? (i := 222) rfl)) rfl
theorem k0_223 : Cond.fieldLink RX11 274 "OldNews" "finding" "I" ∈ zB := zB_t (List.mem_append_left _ (List.mem_of_getElem? (i := 223) rfl)) rfl
theorem k0_224 : Cond.laysFinal RX11 "OldNews" "rows" "LOldNews$Rows;" ∈ zB := zB_t (List.mem_append_left _ (List.mem_of_getElem? (i := 224) rfl)) rfl
theorem k0_226 : Cond.laysFinal RX11 "OldNews" "reader" "LOldNews$Reader;" ∈ zB := zB_t (List.mem_append_left _ (List.mem_of_getElem? (i := 226) rfl)) rfl
theorem k0_228 : Cond.laysFinal RX11 "OldNews" "foretold" "LOldNews$Foretold;" ∈ zB := zB_t (List.mem_append_left _ (List.mem_of_getElem? (i := 228) rfl)) rfl
theorem k0_230 : Cond.laysFinal RX11 "OldNews" "asked" "LOldNews$Trace;" ∈ zB := zB_t (List.mem_append_left _ (List.mem_of_getElem? (i := 230) rfl)) rfl
theorem k0_232 : Cond.laysFinal RX11 "OldNews" "image0" "LOldNews$Land;" ∈ zB := zB_t (List.mem_append_left _ (List.mem_of_getElem? (i := 232) rfl)) rfl
theorem k0_234 : Cond.laysFinal RX11 "OldNews" "image1" "LOldNews$Land;" ∈ zB := zB_t (List.mem_append_left _ (List.mem_of_getElem? (i := 234) rfl)) rfl
theorem k0_236 : Cond.lays RX11 "OldNews" "land" "LOldNews$Land;" ∈ zB := zB_t (List.mem_append_left _ (List.mem_of_getElem? (i := 236) rfl)) rfl
theorem k0_238 : Cond.lays RX11 "OldNews" "spare" "LOldNews$Land;" ∈ zB := zB_t (List.mem_append_left _ (List.mem_of_getElem? (i := 238) rfl)) rfl
theorem k1_0 : Cond.lays RX11 "OldNews" "finding" "I" ∈ zB := zB_t (List.mem_append_right _ (List.mem_append_left _ (List.mem_of_getElem? (i := 0) rfl))) rfl
theorem kp1_0 : Cond.selects RX6 yX6_kindNamed yX6_kindNamed ∈ zB := zB_p (List.mem_of_getElem? (i := 16) rfl) rfl
theorem kp1_1 : Cond.selects RX6 yX6_readNews yX6_readNews ∈ zB := zB_p (List.mem_of_getElem? (i := 17) rfl) rfl
theorem kp1_2 : Cond.selects RX4 yX4_valueBetween yX4_valueBetween ∈ zB := zB_p (List.mem_of_getElem? (i := 18) rfl) rfl
theorem kp1_3 : Cond.selects RX10 yX10_isAnotherAboutTo yX10_isAnotherAboutTo ∈ zB := zB_p (List.mem_of_getElem? (i := 19) rfl) rfl
theorem k1_3 : Cond.methodLink RL 13 yX11_row ∈ zB := zB_t (List.mem_append_right _ (List.mem_append_left _ (List.mem_of_getElem? (i := 3) rfl))) rfl
theorem kp1_4 : Cond.selects RX4 yX4_sell yX4_sell ∈ zB := zB_p (List.mem_of_getElem? (i := 20) rfl) rfl
theorem k1_4 : Cond.instanceMethod yX11_row ∈ zB := zB_t (List.mem_append_right _ (List.mem_append_left _ (List.mem_of_getElem? (i := 4) rfl))) rfl
theorem kp1_5 : Cond.selects RX4 yX4_loseByChance yX4_loseByChance ∈ zB := zB_p (List.mem_of_getElem? (i := 21) rfl) rfl
theorem k1_5 : Cond.selects RX11 yX11_row yX11_row ∈ zB := zB_t (List.mem_append_right _ (List.mem_append_left _ (List.mem_of_getElem? (i := 5) rfl))) rfl
theorem kp1_6 : Cond.selects RX4 yX4_spreadSold yX4_spreadSold ∈ zB := zB_p (List.mem_of_getElem? (i := 22) rfl) rfl
theorem k1_6 : Cond.code yX11_row cX11_row 4 (some .int) ∈ zB := zB_t (List.mem_append_right _ (List.mem_append_left _ (List.mem_of_getElem? (i := 6) rfl))) rfl
theorem kp1_7 : Cond.selects RX4 yX4_payCost yX4_payCost ∈ zB := zB_p (List.mem_of_getElem? (i := 23) rfl) rfl
theorem k1_7 : Cond.methodLink RX11 53 yX7_isRow ∈ zB := zB_t (List.mem_append_right _ (List.mem_append_left _ (List.mem_of_getElem? (i := 7) rfl))) rfl
theorem kp1_8 : Cond.selects RX2 yX2_listBuyable yX2_listBuyable ∈ zB := zB_p (List.mem_of_getElem? (i := 24) rfl) rfl
theorem k1_8 : Cond.static yX7_isRow ∈ zB := zB_t (List.mem_append_right _ (List.mem_append_left _ (List.mem_of_getElem? (i := 8) rfl))) rfl
theorem kp1_9 : Cond.selects RX2 yX2_sumOf yX2_sumOf ∈ zB := zB_p (List.mem_of_getElem? (i := 25) rfl) rfl
theorem k1_9 : Cond.code yX7_isRow cX7_isRow 1 (some .boolean) ∈ zB := zB_t (List.mem_append_right _ (List.mem_append_left _ (List.mem_of_getElem? (i := 9) rfl))) rfl
theorem kp1_10 : Cond.selects RX2 yX2_keepOrder yX2_keepOrder ∈ zB := zB_p (List.mem_of_getElem? (i := 26) rfl) rfl
theorem k1_10 : Cond.methodLink RX11 57 yX11_within ∈ zB := zB_t (List.mem_append_right _ (List.mem_append_left _ (List.mem_of_getElem? (i := 10) rfl))) rfl
theorem kp1_11 : Cond.selects RX2 yX2_stepOrder yX2_stepOrder ∈ zB := zB_p (List.mem_of_getElem? (i := 27) rfl) rfl
theorem k1_11 : Cond.static yX11_within ∈ zB := zB_t (List.mem_append_right _ (List.mem_append_left _ (List.mem_of_getElem? (i := 11) rfl))) rfl
theorem kp1_12 : Cond.selects RX2 yX2_swap yX2_swap ∈ zB := zB_p (List.mem_of_getElem? (i := 28) rfl) rfl
theorem k1_12 : Cond.code yX11_within cX11_within 3 (some .boolean) ∈ zB := zB_t (List.mem_append_right _ (List.mem_append_left _ (List.mem_of_getElem? (i := 12) rfl))) rfl
theorem kp1_13 : Cond.selects RX2 yX2_isFit yX2_isFit ∈ zB := zB_p (List.mem_of_getElem? (i := 29) rfl) rfl
theorem k1_13 : Cond.constant RX11 61 (-1000001) ∈ zB := zB_t (List.mem_append_right _ (List.mem_append_left _ (List.mem_of_getElem? (i := 13) rfl))) rfl
theorem kp1_14 : Cond.selects RX2 yX2_hasSoldJustSo yX2_hasSoldJustSo ∈ zB := zB_p (List.mem_of_getElem? (i := 30) rfl) rfl
theorem k1_14 : Cond.methodLink RX11 62 yX11_found ∈ zB := zB_t (List.mem_append_right _ (List.mem_append_left _ (List.mem_of_getElem? (i := 14) rfl))) rfl
theorem kp1_15 : Cond.selects RX11 yX11_imageAt yX11_imageAt ∈ zB := zB_p (List.mem_of_getElem? (i := 31) rfl) rfl
theorem k1_16 : Cond.instanceMethod yX11_found ∈ zB := zB_t (List.mem_append_right _ (List.mem_append_left _ (List.mem_of_getElem? (i := 16) rfl))) rfl
theorem k1_17 : Cond.code yX11_found cX11_found 2 (some .int) ∈ zB := zB_t (List.mem_append_right _ (List.mem_append_left _ (List.mem_of_getElem? (i := 17) rfl))) rfl
theorem k1_18 : Cond.constant RX11 277 (-1000010) ∈ zB := zB_t (List.mem_append_right _ (List.mem_append_left _ (List.mem_of_getElem? (i := 18) rfl))) rfl
theorem k1_19 : Cond.methodLink RX11 66 yX7_lay ∈ zB := zB_t (List.mem_append_right _ (List.mem_append_left _ (List.mem_of_getElem? (i := 19) rfl))) rfl
theorem k1_20 : Cond.instanceMethod yX7_lay ∈ zB := zB_t (List.mem_append_right _ (List.mem_append_left _ (List.mem_of_getElem? (i := 20) rfl))) rfl
theorem k1_21 : Cond.selects RX7 yX7_lay yX7_lay ∈ zB := zB_t (List.mem_append_right _ (List.mem_append_left _ (List.mem_of_getElem? (i := 21) rfl))) rfl
theorem k1_22 : Cond.code yX7_lay cX7_lay 4 none ∈ zB := zB_t (List.mem_append_right _ (List.mem_append_left _ (List.mem_of_getElem? (i := 22) rfl))) rfl
theorem k1_23 : Cond.methodLink RX7 25 yX7_isRow ∈ zB := zB_t (List.mem_append_right _ (List.mem_append_left _ (List.mem_of_getElem? (i := 23) rfl))) rfl
theorem k1_24 : Cond.methodLink RX7 29 yJ7_fill_fda19 ∈ zB := zB_t (List.mem_append_right _ (List.mem_append_left _ (List.mem_of_getElem? (i := 24) rfl))) rfl
theorem k1_25 : Cond.static yJ7_fill_fda19 ∈ zB := zB_t (List.mem_append_right _ (List.mem_append_left _ (List.mem_of_getElem? (i := 25) rfl))) rfl
theorem k1_26 : Cond.code yJ7_fill_fda19 cJ7_fill_fda19 5 none ∈ zB := zB_t (List.mem_append_right _ (List.mem_append_left _ (List.mem_of_getElem? (i := 26) rfl))) rfl
theorem k1_27 : Cond.methodLink RJ7 13 yJ7_rangeCheck_23922 ∈ zB := zB_t (List.mem_append_right _ (List.mem_append_left _ (List.mem_of_getElem? (i := 27) rfl))) rfl
theorem k1_28 : Cond.static yJ7_rangeCheck_23922 ∈ zB := zB_t (List.mem_append_right _ (List.mem_append_left _ (List.mem_of_getElem? (i := 28) rfl))) rfl
theorem k1_29 : Cond.code yJ7_rangeCheck_23922 cJ7_rangeCheck_23922 3 none ∈ zB := zB_t (List.mem_append_right _ (List.mem_append_left _ (List.mem_of_getElem? (i := 29) rfl))) rfl
theorem k1_30 : Cond.methodLink RX11 70 yX11_fine ∈ zB := zB_t (List.mem_append_right _ (List.mem_append_left _ (List.mem_of_getElem? (i := 30) rfl))) rfl
theorem k1_32 : Cond.instanceMethod yX11_fine ∈ zB := zB_t (List.mem_append_right _ (List.mem_append_left _ (List.mem_of_getElem? (i := 32) rfl))) rfl
theorem k1_33 : Cond.code yX11_fine cX11_fine 2 (some .int) ∈ zB := zB_t (List.mem_append_right _ (List.mem_append_left _ (List.mem_of_getElem? (i := 33) rfl))) rfl
theorem k1_34 : Cond.methodLink RL 18 yX11_set ∈ zB := zB_t (List.mem_append_right _ (List.mem_append_left _ (List.mem_of_getElem? (i := 34) rfl))) rfl
theorem k1_35 : Cond.instanceMethod yX11_set ∈ zB := zB_t (List.mem_append_right _ (List.mem_append_left _ (List.mem_of_getElem? (i := 35) rfl))) rfl
theorem k1_36 : Cond.selects RX11 yX11_set yX11_set ∈ zB := zB_t (List.mem_append_right _ (List.mem_append_left _ (List.mem_of_getElem? (i := 36) rfl))) rfl
theorem k1_37 : Cond.code yX11_set cX11_set 4 (some .int) ∈ zB := zB_t (List.mem_append_right _ (List.mem_append_left _ (List.mem_of_getElem? (i := 37) rfl))) rfl
theorem k1_38 : Cond.methodLink RX11 73 yX7_isMissing ∈ zB := zB_t (List.mem_append_right _ (List.mem_append_left _ (List.mem_of_getElem? (i := 38) rfl))) rfl
theorem k1_39 : Cond.instanceMethod yX7_isMissing ∈ zB := zB_t (List.mem_append_right _ (List.mem_append_left _ (List.mem_of_getElem? (i := 39) rfl))) rfl
theorem k1_40 : Cond.selects RX7 yX7_isMissing yX7_isMissing ∈ zB := zB_t (List.mem_append_right _ (List.mem_append_left _ (List.mem_of_getElem? (i := 40) rfl))) rfl
theorem k1_41 : Cond.code yX7_isMissing cX7_isMissing 2 (some .boolean) ∈ zB := zB_t (List.mem_append_right _ (List.mem_append_left _ (List.mem_of_getElem? (i := 41) rfl))) rfl
theorem k1_42 : Cond.methodLink RX11 76 yX7_isPlace ∈ zB := zB_t (List.mem_append_right _ (List.mem_append_left _ (List.mem_of_getElem? (i := 42) rfl))) rfl
theorem k1_43 : Cond.instanceMethod yX7_isPlace ∈ zB := zB_t (List.mem_append_right _ (List.mem_append_left _ (List.mem_of_getElem? (i := 43) rfl))) rfl
theorem k1_44 : Cond.selects RX7 yX7_isPlace yX7_isPlace ∈ zB := zB_t (List.mem_append_right _ (List.mem_append_left _ (List.mem_of_getElem? (i := 44) rfl))) rfl
theorem k1_45 : Cond.code yX7_isPlace cX7_isPlace 3 (some .boolean) ∈ zB := zB_t (List.mem_append_right _ (List.mem_append_left _ (List.mem_of_getElem? (i := 45) rfl))) rfl
theorem k1_46 : Cond.methodLink RX11 80 yX7_put ∈ zB := zB_t (List.mem_append_right _ (List.mem_append_left _ (List.mem_of_getElem? (i := 46) rfl))) rfl
theorem k1_47 : Cond.instanceMethod yX7_put ∈ zB := zB_t (List.mem_append_right _ (List.mem_append_left _ (List.mem_of_getElem? (i := 47) rfl))) rfl
theorem k1_48 : Cond.selects RX7 yX7_put yX7_put ∈ zB := zB_t (List.mem_append_right _ (List.mem_append_left _ (List.mem_of_getElem? (i := 48) rfl))) rfl
theorem k1_49 : Cond.code yX7_put cX7_put 4 (some .int) ∈ zB := zB_t (List.mem_append_right _ (List.mem_append_left _ (List.mem_of_getElem? (i := 49) rfl))) rfl
theorem k1_50 : Cond.methodLink RX7 32 yX7_isPlace ∈ zB := zB_t (List.mem_append_right _ (List.mem_append_left _ (List.mem_of_getElem? (i := 50) rfl))) rfl
theorem k1_51 : Cond.methodLink RX7 36 yX7_narrowed ∈ zB := zB_t (List.mem_append_right _ (List.mem_append_left _ (List.mem_of_getElem? (i := 51) rfl))) rfl
theorem k1_52 : Cond.static yX7_narrowed ∈ zB := zB_t (List.mem_append_right _ (List.mem_append_left _ (List.mem_of_getElem? (i := 52) rfl))) rfl
theorem k1_53 : Cond.code yX7_narrowed cX7_narrowed 2 (some .int) ∈ zB := zB_t (List.mem_append_right _ (List.mem_append_left _ (List.mem_of_getElem? (i := 53) rfl))) rfl
theorem k1_54 : Cond.methodLink RL 22 yX11_copy ∈ zB := zB_t (List.mem_append_right _ (List.mem_append_left _ (List.mem_of_getElem? (i := 54) rfl))) rfl
theorem k1_55 : Cond.instanceMethod yX11_copy ∈ zB := zB_t (List.mem_append_right _ (List.mem_append_left _ (List.mem_of_getElem? (i := 55) rfl))) rfl
theorem k1_56 : Cond.selects RX11 yX11_copy yX11_copy ∈ zB := zB_t (List.mem_append_right _ (List.mem_append_left _ (List.mem_of_getElem? (i := 56) rfl))) rfl
theorem k1_57 : Cond.code yX11_copy cX11_copy 6 (some .int) ∈ zB := zB_t (List.mem_append_right _ (List.mem_append_left _ (List.mem_of_getElem? (i := 57) rfl))) rfl
theorem k1_58 : Cond.methodLink RX11 84 yX7_areOfOneLane ∈ zB := zB_t (List.mem_append_right _ (List.mem_append_left _ (List.mem_of_getElem? (i := 58) rfl))) rfl
theorem k1_59 : Cond.instanceMethod yX7_areOfOneLane ∈ zB := zB_t (List.mem_append_right _ (List.mem_append_left _ (List.mem_of_getElem? (i := 59) rfl))) rfl
theorem k1_60 : Cond.selects RX7 yX7_areOfOneLane yX7_areOfOneLane ∈ zB := zB_t (List.mem_append_right _ (List.mem_append_left _ (List.mem_of_getElem? (i := 60) rfl))) rfl
theorem k1_61 : Cond.code yX7_areOfOneLane cX7_areOfOneLane 3 (some .boolean) ∈ zB := zB_t (List.mem_append_right _ (List.mem_append_left _ (List.mem_of_getElem? (i := 61) rfl))) rfl
theorem k1_62 : Cond.methodLink RX11 87 yX7_isStretch ∈ zB := zB_t (List.mem_append_right _ (List.mem_append_left _ (List.mem_of_getElem? (i := 62) rfl))) rfl
theorem k1_63 : Cond.instanceMethod yX7_isStretch ∈ zB := zB_t (List.mem_append_right _ (List.mem_append_left _ (List.mem_of_getElem? (i := 63) rfl))) rfl
theorem k1_64 : Cond.selects RX7 yX7_isStretch yX7_isStretch ∈ zB := zB_t (List.mem_append_right _ (List.mem_append_left _ (List.mem_of_getElem? (i := 64) rfl))) rfl
theorem k1_65 : Cond.code yX7_isStretch cX7_isStretch 4 (some .boolean) ∈ zB := zB_t (List.mem_append_right _ (List.mem_append_left _ (List.mem_of_getElem? (i := 65) rfl))) rfl
theorem k1_66 : Cond.methodLink RX11 90 yX7_move ∈ zB := zB_t (List.mem_append_right _ (List.mem_append_left _ (List.mem_of_getElem? (i := 66) rfl))) rfl
theorem k1_67 : Cond.instanceMethod yX7_move ∈ zB := zB_t (List.mem_append_right _ (List.mem_append_left _ (List.mem_of_getElem? (i := 67) rfl))) rfl
theorem k1_68 : Cond.selects RX7 yX7_move yX7_move ∈ zB := zB_t (List.mem_append_right _ (List.mem_append_left _ (List.mem_of_getElem? (i := 68) rfl))) rfl
theorem k1_69 : Cond.code yX7_move cX7_move 6 none ∈ zB := zB_t (List.mem_append_right _ (List.mem_append_left _ (List.mem_of_getElem? (i := 69) rfl))) rfl
theorem k1_70 : Cond.methodLink RX7 40 yX7_isStretch ∈ zB := zB_t (List.mem_append_right _ (List.mem_append_left _ (List.mem_of_getElem? (i := 70) rfl))) rfl
theorem k1_71 : Cond.methodLink RX7 44 arraycopyName ∈ zB := zB_t (List.mem_append_right _ (List.mem_append_left _ (List.mem_of_getElem? (i := 71) rfl))) rfl
theorem k1_72 : Cond.static arraycopyName ∈ zB := zB_t (List.mem_append_right _ (List.mem_append_left _ (List.mem_of_getElem? (i := 72) rfl))) rfl
theorem k1_73 : Cond.native arraycopyName ∈ zB := zB_t (List.mem_append_right _ (List.mem_append_left _ (List.mem_of_getElem? (i := 73) rfl))) rfl
theorem k1_74 : Cond.methodLink RL 27 yX11_drop ∈ zB := zB_t (List.mem_append_right _ (List.mem_append_left _ (List.mem_of_getElem? (i := 74) rfl))) rfl
theorem k1_75 : Cond.instanceMethod yX11_drop ∈ zB := zB_t (List.mem_append_right _ (List.mem_append_left _ (List.mem_of_getElem? (i := 75) rfl))) rfl
theorem k1_76 : Cond.selects RX11 yX11_drop yX11_drop ∈ zB := zB_t (List.mem_append_right _ (List.mem_append_left _ (List.mem_of_getElem? (i := 76) rfl))) rfl
theorem k1_77 : Cond.code yX11_drop cX11_drop 2 (some .int) ∈ zB := zB_t (List.mem_append_right _ (List.mem_append_left _ (List.mem_of_getElem? (i := 77) rfl))) rfl
theorem k1_78 : Cond.methodLink RX11 94 yX7_remove ∈ zB := zB_t (List.mem_append_right _ (List.mem_append_left _ (List.mem_of_getElem? (i := 78) rfl))) rfl
theorem k1_79 : Cond.instanceMethod yX7_remove ∈ zB := zB_t (List.mem_append_right _ (List.mem_append_left _ (List.mem_of_getElem? (i := 79) rfl))) rfl
theorem k1_80 : Cond.selects RX7 yX7_remove yX7_remove ∈ zB := zB_t (List.mem_append_right _ (List.mem_append_left _ (List.mem_of_getElem? (i := 80) rfl))) rfl
theorem k1_81 : Cond.code yX7_remove cX7_remove 2 (some .int) ∈ zB := zB_t (List.mem_append_right _ (List.mem_append_left _ (List.mem_of_getElem? (i := 81) rfl))) rfl
theorem k1_82 : Cond.methodLink RL 34 yX11_feed ∈ zB := zB_t (List.mem_append_right _ (List.mem_append_left _ (List.mem_of_getElem? (i := 82) rfl))) rfl
theorem k1_83 : Cond.instanceMethod yX11_feed ∈ zB := zB_t (List.mem_append_right _ (List.mem_append_left _ (List.mem_of_getElem? (i := 83) rfl))) rfl
theorem k1_84 : Cond.selects RX11 yX11_feed yX11_feed ∈ zB := zB_t (List.mem_append_right _ (List.mem_append_left _ (List.mem_of_getElem? (i := 84) rfl))) rfl
theorem k1_85 : Cond.code yX11_feed cX11_feed 4 (some .int) ∈ zB := zB_t (List.mem_append_right _ (List.mem_append_left _ (List.mem_of_getElem? (i := 85) rfl))) rfl
theorem k1_86 : Cond.methodLink RX11 97 yX6_append ∈ zB := zB_t (List.mem_append_right _ (List.mem_append_left _ (List.mem_of_getElem? (i := 86) rfl))) rfl
theorem k1_87 : Cond.instanceMethod yX6_append ∈ zB := zB_t (List.mem_append_right _ (List.mem_append_left _ (List.mem_of_getElem? (i := 87) rfl))) rfl
theorem k1_88 : Cond.selects RX6 yX6_append yX6_append ∈ zB := zB_t (List.mem_append_right _ (List.mem_append_left _ (List.mem_of_getElem? (i := 88) rfl))) rfl
theorem k1_89 : Cond.code yX6_append cX6_append 5 (some .boolean) ∈ zB := zB_t (List.mem_append_right _ (List.mem_append_left _ (List.mem_of_getElem? (i := 89) rfl))) rfl
theorem k1_90 : Cond.constant RX11 105 (-1000003) ∈ zB := zB_t (List.mem_append_right _ (List.mem_append_left _ (List.mem_of_getElem? (i := 90) rfl))) rfl
theorem k1_91 : Cond.methodLink RL 39 yX11_land ∈ zB := zB_t (List.mem_append_right _ (List.mem_append_left _ (List.mem_of_getElem? (i := 91) rfl))) rfl
theorem k1_92 : Cond.instanceMethod yX11_land ∈ zB := zB_t (List.mem_append_right _ (List.mem_append_left _ (List.mem_of_getElem? (i := 92) rfl))) rfl
theorem k1_93 : Cond.selects RX11 yX11_land yX11_land ∈ zB := zB_t (List.mem_append_right _ (List.mem_append_left _ (List.mem_of_getElem? (i := 93) rfl))) rfl
theorem k1_94 : Cond.code yX11_land cX11_land 3 (some .int) ∈ zB := zB_t (List.mem_append_right _ (List.mem_append_left _ (List.mem_of_getElem? (i := 94) rfl))) rfl
theorem k1_95 : Cond.methodLink RX11 106 yX6_readInto ∈ zB := zB_t (List.mem_append_right _ (List.mem_append_left _ (List.mem_of_getElem? (i := 95) rfl))) rfl
theorem k1_96 : Cond.instanceMethod yX6_readInto ∈ zB := zB_t (List.mem_append_right _ (List.mem_append_left _ (List.mem_of_getElem? (i := 96) rfl))) rfl
theorem k1_97 : Cond.selects RX6 yX6_readInto yX6_readInto ∈ zB := zB_t (List.mem_append_right _ (List.mem_append_left _ (List.mem_of_getElem? (i := 97) rfl))) rfl
theorem k1_98 : Cond.code yX6_readInto cX6_readInto 2 (some .boolean) ∈ zB := zB_t (List.mem_append_right _ (List.mem_append_left _ (List.mem_of_getElem? (i := 98) rfl))) rfl
theorem k1_99 : Cond.methodLink RX6 17 yX4_forget ∈ zB := zB_t (List.mem_append_right _ (List.mem_append_left _ (List.mem_of_getElem? (i := 99) rfl))) rfl
theorem k1_100 : Cond.instanceMethod yX4_forget ∈ zB := zB_t (List.mem_append_right _ (List.mem_append_left _ (List.mem_of_getElem? (i := 100) rfl))) rfl
theorem k1_101 : Cond.selects RX4 yX4_forget yX4_forget ∈ zB := zB_t (List.mem_append_right _ (List.mem_append_left _ (List.mem_of_getElem? (i := 101) rfl))) rfl
theorem k1_102 : Cond.code yX4_forget cX4_forget 1 none ∈ zB := zB_t (List.mem_append_right _ (List.mem_append_left _ (List.mem_of_getElem? (i := 102) rfl))) rfl
theorem k1_103 : Cond.methodLink RX6 28 yX6_advance ∈ zB := zB_t (List.mem_append_right _ (List.mem_append_left _ (List.mem_of_getElem? (i := 103) rfl))) rfl
theorem k1_105 : Cond.instanceMethod yX6_advance ∈ zB := zB_t (List.mem_append_right _ (List.mem_append_left _ (List.mem_of_getElem? (i := 105) rfl))) rfl
theorem k1_106 : Cond.code yX6_advance cX6_advance 1 none ∈ zB := zB_t (List.mem_append_right _ (List.mem_append_left _ (List.mem_of_getElem? (i := 106) rfl))) rfl
theorem k1_107 : Cond.methodLink RX6 164 yX6_behindRun ∈ zB := zB_t (List.mem_append_right _ (List.mem_append_left _ (List.mem_of_getElem? (i := 107) rfl))) rfl
theorem k1_109 : Cond.instanceMethod yX6_behindRun ∈ zB := zB_t (List.mem_append_right _ (List.mem_append_left _ (List.mem_of_getElem? (i := 109) rfl))) rfl
theorem k1_110 : Cond.code yX6_behindRun cX6_behindRun 4 (some .int) ∈ zB := zB_t (List.mem_append_right _ (List.mem_append_left _ (List.mem_of_getElem? (i := 110) rfl))) rfl
theorem k1_111 : Cond.methodLink RX6 167 yX6_sortOf ∈ zB := zB_t (List.mem_append_right _ (List.mem_append_left _ (List.mem_of_getElem? (i := 111) rfl))) rfl
theorem k1_112 : Cond.static yX6_sortOf ∈ zB := zB_t (List.mem_append_right _ (List.mem_append_left _ (List.mem_of_getElem? (i := 112) rfl))) rfl
theorem k1_113 : Cond.code yX6_sortOf cX6_sortOf 1 (some .int) ∈ zB := zB_t (List.mem_append_right _ (List.mem_append_left _ (List.mem_of_getElem? (i := 113) rfl))) rfl
theorem k1_114 : Cond.methodLink RX6 171 Lib.Math.min.name ∈ zB := zB_t (List.mem_append_right _ (List.mem_append_left _ (List.mem_of_getElem? (i := 114) rfl))) rfl
theorem k1_115 : Cond.static Lib.Math.min.name ∈ zB := zB_t (List.mem_append_right _ (List.mem_append_left _ (List.mem_of_getElem? (i := 115) rfl))) rfl
theorem k1_116 : Cond.code Lib.Math.min.name Lib.Math.min.code 2 (some .int) ∈ zB := zB_t (List.mem_append_right _ (List.mem_append_left _ (List.mem_of_getElem? (i := 116) rfl))) rfl
theorem k1_117 : Cond.methodLink RX6 176 yX6_readFigures ∈ zB := zB_t (List.mem_append_right _ (List.mem_append_left _ (List.mem_of_getElem? (i := 117) rfl))) rfl
theorem k1_119 : Cond.instanceMethod yX6_readFigures ∈ zB := zB_t (List.mem_append_right _ (List.mem_append_left _ (List.mem_of_getElem? (i := 119) rfl))) rfl
theorem k1_120 : Cond.code yX6_readFigures cX6_readFigures 2 none ∈ zB := zB_t (List.mem_append_right _ (List.mem_append_left _ (List.mem_of_getElem? (i := 120) rfl))) rfl
theorem k1_121 : Cond.methodLink RX6 31 yX6_readLaw ∈ zB := zB_t (List.mem_append_right _ (List.mem_append_left _ (List.mem_of_getElem? (i := 121) rfl))) rfl
theorem k1_123 : Cond.instanceMethod yX6_readLaw ∈ zB := zB_t (List.mem_append_right _ (List.mem_append_left _ (List.mem_of_getElem? (i := 123) rfl))) rfl
theorem k1_124 : Cond.code yX6_readLaw cX6_readLaw 2 none ∈ zB := zB_t (List.mem_append_right _ (List.mem_append_left _ (List.mem_of_getElem? (i := 124) rfl))) rfl
theorem k1_126 : Cond.methodLink RX6 52 yX6_takeWord ∈ zB := zB_t (List.mem_append_right _ (List.mem_append_left _ (List.mem_of_getElem? (i := 126) rfl))) rfl
theorem k1_128 : Cond.instanceMethod yX6_takeWord ∈ zB := zB_t (List.mem_append_right _ (List.mem_append_left _ (List.mem_of_getElem? (i := 128) rfl))) rfl
theorem k1_129 : Cond.code yX6_takeWord cX6_takeWord 2 none ∈ zB := zB_t (List.mem_append_right _ (List.mem_append_left _ (List.mem_of_getElem? (i := 129) rfl))) rfl
theorem k1_130 : Cond.methodLink RX6 58 yX6_isWord ∈ zB := zB_t (List.mem_append_right _ (List.mem_append_left _ (List.mem_of_getElem? (i := 130) rfl))) rfl
theorem k1_132 : Cond.instanceMethod yX6_isWord ∈ zB := zB_t (List.mem_append_right _ (List.mem_append_left _ (List.mem_of_getElem? (i := 132) rfl))) rfl
theorem k1_133 : Cond.code yX6_isWord cX6_isWord 3 (some .boolean) ∈ zB := zB_t (List.mem_append_right _ (List.mem_append_left _ (List.mem_of_getElem? (i := 133) rfl))) rfl
theorem k1_134 : Cond.methodLink RX6 156 yJ0_length_8abf5 ∈ zB := zB_t (List.mem_append_right _ (List.mem_append_left _ (List.mem_of_getElem? (i := 134) rfl))) rfl
theorem k1_135 : Cond.instanceMethod yJ0_length_8abf5 ∈ zB := zB_t (List.mem_append_right _ (List.mem_append_left _ (List.mem_of_getElem? (i := 135) rfl))) rfl
theorem k1_136 : Cond.selects RJ0 yJ0_length_8abf5 yJ0_length_8abf5 ∈ zB := zB_t (List.mem_append_right _ (List.mem_append_left _ (List.mem_of_getElem? (i := 136) rfl))) rfl
theorem k1_137 : Cond.code yJ0_length_8abf5 cJ0_length_8abf5 1 (some .int) ∈ zB := zB_t (List.mem_append_right _ (List.mem_append_left _ (List.mem_of_getElem? (i := 137) rfl))) rfl
theorem k1_138 : Cond.methodLink RJ0 335 yJ0_coder_7d493 ∈ zB := zB_t (List.mem_append_right _ (List.mem_append_left _ (List.mem_of_getElem? (i := 138) rfl))) rfl
theorem k1_139 : Cond.instanceMethod yJ0_coder_7d493 ∈ zB := zB_t (List.mem_append_right _ (List.mem_append_left _ (List.mem_of_getElem? (i := 139) rfl))) rfl
theorem k1_140 : Cond.selects RJ0 yJ0_coder_7d493 yJ0_coder_7d493 ∈ zB := zB_t (List.mem_append_right _ (List.mem_append_left _ (List.mem_of_getElem? (i := 140) rfl))) rfl
theorem k1_141 : Cond.code yJ0_coder_7d493 cJ0_coder_7d493 1 (some .byte) ∈ zB := zB_t (List.mem_append_right _ (List.mem_append_left _ (List.mem_of_getElem? (i := 141) rfl))) rfl
theorem k1_142 : Cond.fieldLink RJ0 38 "java/lang/String" "COMPACT_STRINGS" "Z" ∈ zB := zB_t (List.mem_append_right _ (List.mem_append_left _ (List.mem_of_getElem? (i := 142) rfl))) rfl
theorem k1_144 : Cond.methodLink RX6 160 yJ0_charAt_5068e ∈ zB := zB_t (List.mem_append_right _ (List.mem_append_left _ (List.mem_of_getElem? (i := 144) rfl))) rfl
theorem k1_145 : Cond.instanceMethod yJ0_charAt_5068e ∈ zB := zB_t (List.mem_append_right _ (List.mem_append_left _ (List.mem_of_getElem? (i := 145) rfl))) rfl
theorem k1_146 : Cond.selects RJ0 yJ0_charAt_5068e yJ0_charAt_5068e ∈ zB := zB_t (List.mem_append_right _ (List.mem_append_left _ (List.mem_of_getElem? (i := 146) rfl))) rfl
theorem k1_147 : Cond.code yJ0_charAt_5068e cJ0_charAt_5068e 2 (some .char) ∈ zB := zB_t (List.mem_append_right _ (List.mem_append_left _ (List.mem_of_getElem? (i := 147) rfl))) rfl
theorem k1_148 : Cond.methodLink RJ0 492 yJ0_isLatin1_aae02 ∈ zB := zB_t (List.mem_append_right _ (List.mem_append_left _ (List.mem_of_getElem? (i := 148) rfl))) rfl
theorem k1_149 : Cond.instanceMethod yJ0_isLatin1_aae02 ∈ zB := zB_t (List.mem_append_right _ (List.mem_append_left _ (List.mem_of_getElem? (i := 149) rfl))) rfl
theorem k1_150 : Cond.selects RJ0 yJ0_isLatin1_aae02 yJ0_isLatin1_aae02 ∈ zB := zB_t (List.mem_append_right _ (List.mem_append_left _ (List.mem_of_getElem? (i := 150) rfl))) rfl
theorem k1_151 : Cond.code yJ0_isLatin1_aae02 cJ0_isLatin1_aae02 1 (some .boolean) ∈ zB := zB_t (List.mem_append_right _ (List.mem_append_left _ (List.mem_of_getElem? (i := 151) rfl))) rfl
theorem k1_152 : Cond.methodLink RJ0 495 yJ1_charAt_3b067 ∈ zB := zB_t (List.mem_append_right _ (List.mem_append_left _ (List.mem_of_getElem? (i := 152) rfl))) rfl
theorem k1_153 : Cond.static yJ1_charAt_3b067 ∈ zB := zB_t (List.mem_append_right _ (List.mem_append_left _ (List.mem_of_getElem? (i := 153) rfl))) rfl
theorem k1_154 : Cond.code yJ1_charAt_3b067 cJ1_charAt_3b067 2 (some .char) ∈ zB := zB_t (List.mem_append_right _ (List.mem_append_left _ (List.mem_of_getElem? (i := 154) rfl))) rfl
theorem k1_155 : Cond.methodLink RJ1 9 yJ0_checkIndex_df160 ∈ zB := zB_t (List.mem_append_right _ (List.mem_append_left _ (List.mem_of_getElem? (i := 155) rfl))) rfl
theorem k1_156 : Cond.static yJ0_checkIndex_df160 ∈ zB := zB_t (List.mem_append_right _ (List.mem_append_left _ (List.mem_of_getElem? (i := 156) rfl))) rfl
theorem k1_157 : Cond.code yJ0_checkIndex_df160 cJ0_checkIndex_df160 2 none ∈ zB := zB_t (List.mem_append_right _ (List.mem_append_left _ (List.mem_of_getElem? (i := 157) rfl))) rfl
theorem k1_158 : Cond.fieldLink RJ0 1053 "jdk/internal/util/Preconditions" "SIOOBE_FORMATTER" "Ljava/util/function/BiFunction;" ∈ zB := zB_t (List.mem_append_right _ (List.mem_append_left _ (List.mem_of_getElem? (i := 158) rfl))) rfl
theorem k1_160 : Cond.methodLink RJ0 1059 yJ3_checkIndex_8e157 ∈ zB := zB_t (List.mem_append_right _ (List.mem_append_left _ (List.mem_of_getElem? (i := 160) rfl))) rfl
theorem k1_161 : Cond.static yJ3_checkIndex_8e157 ∈ zB := zB_t (List.mem_append_right _ (List.mem_append_left _ (List.mem_of_getElem? (i := 161) rfl))) rfl
theorem k1_162 : Cond.code yJ3_checkIndex_8e157 cJ3_checkIndex_8e157 3 (some .int) ∈ zB := zB_t (List.mem_append_right _ (List.mem_append_left _ (List.mem_of_getElem? (i := 162) rfl))) rfl
theorem k1_163 : Cond.methodLink RJ0 498 yJ2_charAt_3b067 ∈ zB := zB_t (List.mem_append_right _ (List.mem_append_left _ (List.mem_of_getElem? (i := 163) rfl))) rfl
theorem k1_164 : Cond.static yJ2_charAt_3b067 ∈ zB := zB_t (List.mem_append_right _ (List.mem_append_left _ (List.mem_of_getElem? (i := 164) rfl))) rfl
theorem k1_165 : Cond.code yJ2_charAt_3b067 cJ2_charAt_3b067 2 (some .char) ∈ zB := zB_t (List.mem_append_right _ (List.mem_append_left _ (List.mem_of_getElem? (i := 165) rfl))) rfl
theorem k1_166 : Cond.methodLink RJ2 67 yJ2_checkIndex_2214a ∈ zB := zB_t (List.mem_append_right _ (List.mem_append_left _ (List.mem_of_getElem? (i := 166) rfl))) rfl
theorem k1_167 : Cond.static yJ2_checkIndex_2214a ∈ zB := zB_t (List.mem_append_right _ (List.mem_append_left _ (List.mem_of_getElem? (i := 167) rfl))) rfl
theorem k1_168 : Cond.code yJ2_checkIndex_2214a cJ2_checkIndex_2214a 2 none ∈ zB := zB_t (List.mem_append_right _ (List.mem_append_left _ (List.mem_of_getElem? (i := 168) rfl))) rfl
theorem k1_169 : Cond.methodLink RJ2 48 yJ2_length_9d52b ∈ zB := zB_t (List.mem_append_right _ (List.mem_append_left _ (List.mem_of_getElem? (i := 169) rfl))) rfl
theorem k1_170 : Cond.static yJ2_length_9d52b ∈ zB := zB_t (List.mem_append_right _ (List.mem_append_left _ (List.mem_of_getElem? (i := 170) rfl))) rfl
theorem k1_171 : Cond.code yJ2_length_9d52b cJ2_length_9d52b 1 (some .int) ∈ zB := zB_t (List.mem_append_right _ (List.mem_append_left _ (List.mem_of_getElem? (i := 171) rfl))) rfl
theorem k1_172 : Cond.methodLink RJ2 414 yJ0_checkIndex_df160 ∈ zB := zB_t (List.mem_append_right _ (List.mem_append_left _ (List.mem_of_getElem? (i := 172) rfl))) rfl
theorem k1_173 : Cond.methodLink RJ2 71 yJ2_getChar_3b067 ∈ zB := zB_t (List.mem_append_right _ (List.mem_append_left _ (List.mem_of_getElem? (i := 173) rfl))) rfl
theorem k1_174 : Cond.static yJ2_getChar_3b067 ∈ zB := zB_t (List.mem_append_right _ (List.mem_append_left _ (List.mem_of_getElem? (i := 174) rfl))) rfl
theorem k1_175 : Cond.code yJ2_getChar_3b067 cJ2_getChar_3b067 2 (some .char) ∈ zB := zB_t (List.mem_append_right _ (List.mem_append_left _ (List.mem_of_getElem? (i := 175) rfl))) rfl
theorem k1_176 : Cond.fieldLink RJ2 44 "java/lang/StringUTF16" "$assertionsDisabled" "Z" ∈ zB := zB_t (List.mem_append_right _ (List.mem_append_left _ (List.mem_of_getElem? (i := 176) rfl))) rfl
theorem k1_178 : Cond.fieldLink RJ2 59 "java/lang/StringUTF16" "HI_BYTE_SHIFT" "I" ∈ zB := zB_t (List.mem_append_right _ (List.mem_append_left _ (List.mem_of_getElem? (i := 178) rfl))) rfl
theorem k1_180 : Cond.fieldLink RJ2 63 "java/lang/StringUTF16" "LO_BYTE_SHIFT" "I" ∈ zB := zB_t (List.mem_append_right _ (List.mem_append_left _ (List.mem_of_getElem? (i := 180) rfl))) rfl
theorem k1_182 : Cond.methodLink RX6 124 yX6_stick ∈ zB := zB_t (List.mem_append_right _ (List.mem_append_left _ (List.mem_of_getElem? (i := 182) rfl))) rfl
theorem k1_184 : Cond.instanceMethod yX6_stick ∈ zB := zB_t (List.mem_append_right _ (List.mem_append_left _ (List.mem_of_getElem? (i := 184) rfl))) rfl
theorem k1_185 : Cond.code yX6_stick cX6_stick 2 none ∈ zB := zB_t (List.mem_append_right _ (List.mem_append_left _ (List.mem_of_getElem? (i := 185) rfl))) rfl
theorem k1_188 : Cond.methodLink RX6 66 yX6_takeNumber ∈ zB := zB_t (List.mem_append_right _ (List.mem_append_left _ (List.mem_of_getElem? (i := 188) rfl))) rfl
theorem k1_190 : Cond.instanceMethod yX6_takeNumber ∈ zB := zB_t (List.mem_append_right _ (List.mem_append_left _ (List.mem_of_getElem? (i := 190) rfl))) rfl
theorem k1_191 : Cond.code yX6_takeNumber cX6_takeNumber 4 (some .int) ∈ zB := zB_t (List.mem_append_right _ (List.mem_append_left _ (List.mem_of_getElem? (i := 191) rfl))) rfl
theorem k1_193 : Cond.methodLink RX6 73 yX6_takeSign ∈ zB := zB_t (List.mem_append_right _ (List.mem_append_left _ (List.mem_of_getElem? (i := 193) rfl))) rfl
theorem k1_195 : Cond.instanceMethod yX6_takeSign ∈ zB := zB_t (List.mem_append_right _ (List.mem_append_left _ (List.mem_of_getElem? (i := 195) rfl))) rfl
theorem k1_196 : Cond.code yX6_takeSign cX6_takeSign 1 none ∈ zB := zB_t (List.mem_append_right _ (List.mem_append_left _ (List.mem_of_getElem? (i := 196) rfl))) rfl
theorem k1_197 : Cond.methodLink RX6 35 yX6_readPoints ∈ zB := zB_t (List.mem_append_right _ (List.mem_append_left _ (List.mem_of_getElem? (i := 197) rfl))) rfl
theorem k1_199 : Cond.instanceMethod yX6_readPoints ∈ zB := zB_t (List.mem_append_right _ (List.mem_append_left _ (List.mem_of_getElem? (i := 199) rfl))) rfl
theorem k1_200 : Cond.code yX6_readPoints cX6_readPoints 6 none ∈ zB := zB_t (List.mem_append_right _ (List.mem_append_left _ (List.mem_of_getElem? (i := 200) rfl))) rfl
theorem k1_202 : Cond.methodLink RX6 78 yX6_takeWordOf ∈ zB := zB_t (List.mem_append_right _ (List.mem_append_left _ (List.mem_of_getElem? (i := 202) rfl))) rfl
theorem k1_204 : Cond.instanceMethod yX6_takeWordOf ∈ zB := zB_t (List.mem_append_right _ (List.mem_append_left _ (List.mem_of_getElem? (i := 204) rfl))) rfl
theorem k1_205 : Cond.code yX6_takeWordOf cX6_takeWordOf 4 none ∈ zB := zB_t (List.mem_append_right _ (List.mem_append_left _ (List.mem_of_getElem? (i := 205) rfl))) rfl
theorem k1_206 : Cond.methodLink RX6 82 yX4_addPoint ∈ zB := zB_t (List.mem_append_right _ (List.mem_append_left _ (List.mem_of_getElem? (i := 206) rfl))) rfl
theorem k1_207 : Cond.instanceMethod yX4_addPoint ∈ zB := zB_t (List.mem_append_right _ (List.mem_append_left _ (List.mem_of_getElem? (i := 207) rfl))) rfl
theorem k1_208 : Cond.selects RX4 yX4_addPoint yX4_addPoint ∈ zB := zB_t (List.mem_append_right _ (List.mem_append_left _ (List.mem_of_getElem? (i := 208) rfl))) rfl
theorem k1_209 : Cond.code yX4_addPoint cX4_addPoint 3 none ∈ zB := zB_t (List.mem_append_right _ (List.mem_append_left _ (List.mem_of_getElem? (i := 209) rfl))) rfl
theorem k1_210 : Cond.methodLink RX6 38 yX6_readChest ∈ zB := zB_t (List.mem_append_right _ (List.mem_append_left _ (List.mem_of_getElem? (i := 210) rfl))) rfl
theorem k1_212 : Cond.instanceMethod yX6_readChest ∈ zB := zB_t (List.mem_append_right _ (List.mem_append_left _ (List.mem_of_getElem? (i := 212) rfl))) rfl
theorem k1_213 : Cond.code yX6_readChest cX6_readChest 2 none ∈ zB := zB_t (List.mem_append_right _ (List.mem_append_left _ (List.mem_of_getElem? (i := 213) rfl))) rfl
theorem k1_215 : Cond.methodLink RX6 41 yX6_readKeepers ∈ zB := zB_t (List.mem_append_right _ (List.mem_append_left _ (List.mem_of_getElem? (i := 215) rfl))) rfl
theorem k1_217 : Cond.instanceMethod yX6_readKeepers ∈ zB := zB_t (List.mem_append_right _ (List.mem_append_left _ (List.mem_of_getElem? (i := 217) rfl))) rfl
theorem k1_218 : Cond.code yX6_readKeepers cX6_readKeepers 6 none ∈ zB := zB_t (List.mem_append_right _ (List.mem_append_left _ (List.mem_of_getElem? (i := 218) rfl))) rfl
theorem k1_220 : Cond.methodLink RX6 99 yX6_takeKind ∈ zB := zB_t (List.mem_append_right _ (List.mem_append_left _ (List.mem_of_getElem? (i := 220) rfl))) rfl
theorem k1_222 : Cond.instanceMethod yX6_takeKind ∈ zB := zB_t (List.mem_append_right _ (List.mem_append_left _ (List.mem_of_getElem? (i := 222) rfl))) rfl
theorem k1_223 : Cond.code yX6_takeKind cX6_takeKind 2 (some .int) ∈ zB := zB_t (List.mem_append_right _ (List.mem_append_left _ (List.mem_of_getElem? (i := 223) rfl))) rfl
theorem k1_224 : Cond.methodLink RX6 121 yX6_kindNamed ∈ zB := zB_t (List.mem_append_right _ (List.mem_append_left _ (List.mem_of_getElem? (i := 224) rfl))) rfl
theorem k1_226 : Cond.instanceMethod yX6_kindNamed ∈ zB := zB_t (List.mem_append_right _ (List.mem_append_left _ (List.mem_of_getElem? (i := 226) rfl))) rfl
theorem k1_227 : Cond.code yX6_kindNamed cX6_kindNamed 1 (some .int) ∈ zB := zB_t (List.mem_append_right _ (List.mem_append_left _ (List.mem_of_getElem? (i := 227) rfl))) rfl
theorem k1_233 : Cond.methodLink RX6 103 yX3_ofKind ∈ zB := zB_t (List.mem_append_right _ (List.mem_append_left _ (List.mem_of_getElem? (i := 233) rfl))) rfl
theorem k1_234 : Cond.static yX3_ofKind ∈ zB := zB_t (List.mem_append_right _ (List.mem_append_left _ (List.mem_of_getElem? (i := 234) rfl))) rfl
theorem k1_235 : Cond.code yX3_ofKind cX3_ofKind 4 (some (.object "OldNews$Keeper")) ∈ zB := zB_t (List.mem_append_right _ (List.mem_append_left _ (List.mem_of_getElem? (i := 235) rfl))) rfl
theorem k1_236 : Cond.classLink RX3 19 RX5 ∈ zB := zB_t (List.mem_append_right _ (List.mem_append_left _ (List.mem_of_getElem? (i := 236) rfl))) rfl
theorem k1_237 : Cond.instantiable RX5 3 ∈ zB := zB_t (List.mem_append_right _ (List.mem_append_left _ (List.mem_of_getElem? (i := 237) rfl))) rfl
theorem k1_238 : Cond.methodLink RX3 21 yX5_init ∈ zB := zB_t (List.mem_append_right _ (List.mem_append_left _ (List.mem_of_getElem? (i := 238) rfl))) rfl
theorem k1_239 : Cond.instanceMethod yX5_init ∈ zB := zB_t (List.mem_append_right _ (List.mem_append_left _ (List.mem_of_getElem? (i := 239) rfl))) rfl
theorem k2_0 : Cond.code yX5_init cX5_init 4 none ∈ zB := zB_t (List.mem_append_right _ (List.mem_append_right _ (List.mem_append_left _ (List.mem_of_getElem? (i := 0) rfl)))) rfl
theorem kp2_0 : Cond.selects RX12 yX12_finding yX12_finding ∈ zB := zB_p (List.mem_of_getElem? (i := 32) rfl) rfl
theorem k2_1 : Cond.methodLink RX5 1 yX3_init ∈ zB := zB_t (List.mem_append_right _ (List.mem_append_right _ (List.mem_append_left _ (List.mem_of_getElem? (i := 1) rfl)))) rfl
theorem kp2_1 : Cond.selects RX12 yX12_next yX12_next ∈ zB := zB_p (List.mem_of_getElem? (i := 33) rfl) rfl
theorem k2_2 : Cond.instanceMethod yX3_init ∈ zB := zB_t (List.mem_append_right _ (List.mem_append_right _ (List.mem_append_left _ (List.mem_of_getElem? (i := 2) rfl)))) rfl
theorem kp2_2 : Cond.selects RX12 yX12_byteAt yX12_byteAt ∈ zB := zB_p (List.mem_of_getElem? (i := 34) rfl) rfl
theorem k2_3 : Cond.code yX3_init cX3_init 4 none ∈ zB := zB_t (List.mem_append_right _ (List.mem_append_right _ (List.mem_append_left _ (List.mem_of_getElem? (i := 3) rfl)))) rfl
theorem kp2_3 : Cond.selects RX12 yX12_readLaw yX12_readLaw ∈ zB := zB_p (List.mem_of_getElem? (i := 35) rfl) rfl
theorem k2_4 : Cond.methodLink RX3 1 objectInit ∈ zB := zB_t (List.mem_append_right _ (List.mem_append_right _ (List.mem_append_left _ (List.mem_of_getElem? (i := 4) rfl)))) rfl
theorem kp2_4 : Cond.selects RX12 yX12_mustWord yX12_mustWord ∈ zB := zB_p (List.mem_of_getElem? (i := 36) rfl) rfl
theorem k2_5 : Cond.fieldLink RX3 7 "OldNews$Keeper" "index" "I" ∈ zB := zB_t (List.mem_append_right _ (List.mem_append_right _ (List.mem_append_left _ (List.mem_of_getElem? (i := 5) rfl)))) rfl
theorem kp2_5 : Cond.selects RX12 yX12_word yX12_word ∈ zB := zB_p (List.mem_of_getElem? (i := 37) rfl) rfl
theorem k2_6 : Cond.fieldLink RX1 13 "OldNews$Copies" "index" "I" ∈ zB := zB_t (List.mem_append_right _ (List.mem_append_right _ (List.mem_append_left _ (List.mem_of_getElem? (i := 6) rfl)))) rfl
theorem kp2_6 : Cond.selects RX12 yX12_must yX12_must ∈ zB := zB_p (List.mem_of_getElem? (i := 38) rfl) rfl
theorem k2_7 : Cond.sameField "OldNews$Copies" "OldNews$Keeper" "index" "I" ∈ zB := zB_t (List.mem_append_right _ (List.mem_append_right _ (List.mem_append_left _ (List.mem_of_getElem? (i := 7) rfl)))) rfl
theorem kp2_7 : Cond.selects RX12 yX12_bad yX12_bad ∈ zB := zB_p (List.mem_of_getElem? (i := 39) rfl) rfl
theorem k2_8 : Cond.fieldLink RX10 28 "OldNews$Watch" "index" "I" ∈ zB := zB_t (List.mem_append_right _ (List.mem_append_right _ (List.mem_append_left _ (List.mem_of_getElem? (i := 8) rfl)))) rfl
theorem kp2_8 : Cond.selects RX12 yX12_number yX12_number ∈ zB := zB_p (List.mem_of_getElem? (i := 40) rfl) rfl
theorem k2_9 : Cond.sameField "OldNews$Watch" "OldNews$Keeper" "index" "I" ∈ zB := zB_t (List.mem_append_right _ (List.mem_append_right _ (List.mem_append_left _ (List.mem_of_getElem? (i := 9) rfl)))) rfl
theorem kp2_9 : Cond.selects RX12 yX12_mustEnd yX12_mustEnd ∈ zB := zB_p (List.mem_of_getElem? (i := 41) rfl) rfl
theorem k2_10 : Cond.fieldLink RX3 13 "OldNews$Keeper" "n" "I" ∈ zB := zB_t (List.mem_append_right _ (List.mem_append_right _ (List.mem_append_left _ (List.mem_of_getElem? (i := 10) rfl)))) rfl
theorem kp2_10 : Cond.selects RX12 yX12_mustBegin yX12_mustBegin ∈ zB := zB_p (List.mem_of_getElem? (i := 42) rfl) rfl
theorem k2_11 : Cond.fieldLink RX0 17 "OldNews$Age" "n" "I" ∈ zB := zB_t (List.mem_append_right _ (List.mem_append_right _ (List.mem_append_left _ (List.mem_of_getElem? (i := 11) rfl)))) rfl
theorem kp2_11 : Cond.selects RX12 yX12_readWorth yX12_readWorth ∈ zB := zB_p (List.mem_of_getElem? (i := 43) rfl) rfl
theorem k2_12 : Cond.sameField "OldNews$Age" "OldNews$Keeper" "n" "I" ∈ zB := zB_t (List.mem_append_right _ (List.mem_append_right _ (List.mem_append_left _ (List.mem_of_getElem? (i := 12) rfl)))) rfl
theorem kp2_12 : Cond.selects RX12 yX12_begins yX12_begins ∈ zB := zB_p (List.mem_of_getElem? (i := 44) rfl) rfl
theorem k2_13 : Cond.fieldLink RX10 31 "OldNews$Keeper" "n" "I" ∈ zB := zB_t (List.mem_append_right _ (List.mem_append_right _ (List.mem_append_left _ (List.mem_of_getElem? (i := 13) rfl)))) rfl
theorem kp2_13 : Cond.selects RX12 yX12_readChest yX12_readChest ∈ zB := zB_p (List.mem_of_getElem? (i := 45) rfl) rfl
theorem k2_14 : Cond.fieldLink RX2 104 "OldNews$Keeper" "n" "I" ∈ zB := zB_t (List.mem_append_right _ (List.mem_append_right _ (List.mem_append_left _ (List.mem_of_getElem? (i := 14) rfl)))) rfl
theorem kp2_14 : Cond.selects RX12 yX12_readKeeper yX12_readKeeper ∈ zB := zB_p (List.mem_of_getElem? (i := 46) rfl) rfl
theorem k2_15 : Cond.fieldLink RX3 16 "OldNews$Keeper" "c" "I" ∈ zB := zB_t (List.mem_append_right _ (List.mem_append_right _ (List.mem_append_left _ (List.mem_of_getElem? (i := 15) rfl)))) rfl
theorem kp2_15 : Cond.selects RX12 yX12_readNews yX12_readNews ∈ zB := zB_p (List.mem_of_getElem? (i := 47) rfl) rfl
theorem k2_16 : Cond.fieldLink RX4 69 "OldNews$Keeper" "c" "I" ∈ zB := zB_t (List.mem_append_right _ (List.mem_append_right _ (List.mem_append_left _ (List.mem_of_getElem? (i := 16) rfl)))) rfl
theorem k2_17 : Cond.laysFinal RX5 "OldNews$Keeper" "index" "I" ∈ zB := zB_t (List.mem_append_right _ (List.mem_append_right _ (List.mem_append_left _ (List.mem_of_getElem? (i := 17) rfl)))) rfl
theorem k2_19 : Cond.laysFinal RX5 "OldNews$Keeper" "n" "I" ∈ zB := zB_t (List.mem_append_right _ (List.mem_append_right _ (List.mem_append_left _ (List.mem_of_getElem? (i := 19) rfl)))) rfl
theorem k2_21 : Cond.laysFinal RX5 "OldNews$Keeper" "c" "I" ∈ zB := zB_t (List.mem_append_right _ (List.mem_append_right _ (List.mem_append_left _ (List.mem_of_getElem? (i := 21) rfl)))) rfl
theorem k2_23 : Cond.superclass RX5 RX3 ∈ zB := zB_t (List.mem_append_right _ (List.mem_append_right _ (List.mem_append_left _ (List.mem_of_getElem? (i := 23) rfl)))) rfl
theorem k2_24 : Cond.classLink RX3 24 RX0 ∈ zB := zB_t (List.mem_append_right _ (List.mem_append_right _ (List.mem_append_left _ (List.mem_of_getElem? (i := 24) rfl)))) rfl
theorem k2_25 : Cond.instantiable RX0 3 ∈ zB := zB_t (List.mem_append_right _ (List.mem_append_right _ (List.mem_append_left _ (List.mem_of_getElem? (i := 25) rfl)))) rfl
theorem k2_26 : Cond.methodLink RX3 26 yX0_init ∈ zB := zB_t (List.mem_append_right _ (List.mem_append_right _ (List.mem_append_left _ (List.mem_of_getElem? (i := 26) rfl)))) rfl
theorem k2_27 : Cond.instanceMethod yX0_init ∈ zB := zB_t (List.mem_append_right _ (List.mem_append_right _ (List.mem_append_left _ (List.mem_of_getElem? (i := 27) rfl)))) rfl
theorem k2_28 : Cond.code yX0_init cX0_init 4 none ∈ zB := zB_t (List.mem_append_right _ (List.mem_append_right _ (List.mem_append_left _ (List.mem_of_getElem? (i := 28) rfl)))) rfl
theorem k2_29 : Cond.methodLink RX0 1 yX3_init ∈ zB := zB_t (List.mem_append_right _ (List.mem_append_right _ (List.mem_append_left _ (List.mem_of_getElem? (i := 29) rfl)))) rfl
theorem k2_30 : Cond.laysFinal RX0 "OldNews$Keeper" "index" "I" ∈ zB := zB_t (List.mem_append_right _ (List.mem_append_right _ (List.mem_append_left _ (List.mem_of_getElem? (i := 30) rfl)))) rfl
theorem k2_31 : Cond.laysFinal RX0 "OldNews$Keeper" "n" "I" ∈ zB := zB_t (List.mem_append_right _ (List.mem_append_right _ (List.mem_append_left _ (List.mem_of_getElem? (i := 31) rfl)))) rfl
theorem k2_32 : Cond.laysFinal RX0 "OldNews$Keeper" "c" "I" ∈ zB := zB_t (List.mem_append_right _ (List.mem_append_right _ (List.mem_append_left _ (List.mem_of_getElem? (i := 32) rfl)))) rfl
theorem k2_33 : Cond.superclass RX0 RX3 ∈ zB := zB_t (List.mem_append_right _ (List.mem_append_right _ (List.mem_append_left _ (List.mem_of_getElem? (i := 33) rfl)))) rfl
theorem k2_34 : Cond.classLink RX3 27 RX10 ∈ zB := zB_t (List.mem_append_right _ (List.mem_append_right _ (List.mem_append_left _ (List.mem_of_getElem? (i := 34) rfl)))) rfl
theorem k2_35 : Cond.instantiable RX10 3 ∈ zB := zB_t (List.mem_append_right _ (List.mem_append_right _ (List.mem_append_left _ (List.mem_of_getElem? (i := 35) rfl)))) rfl
theorem k2_36 : Cond.methodLink RX3 29 yX10_init ∈ zB := zB_t (List.mem_append_right _ (List.mem_append_right _ (List.mem_append_left _ (List.mem_of_getElem? (i := 36) rfl)))) rfl
theorem k2_37 : Cond.instanceMethod yX10_init ∈ zB := zB_t (List.mem_append_right _ (List.mem_append_right _ (List.mem_append_left _ (List.mem_of_getElem? (i := 37) rfl)))) rfl
theorem k2_38 : Cond.code yX10_init cX10_init 4 none ∈ zB := zB_t (List.mem_append_right _ (List.mem_append_right _ (List.mem_append_left _ (List.mem_of_getElem? (i := 38) rfl)))) rfl
theorem k2_39 : Cond.methodLink RX10 1 yX0_init ∈ zB := zB_t (List.mem_append_right _ (List.mem_append_right _ (List.mem_append_left _ (List.mem_of_getElem? (i := 39) rfl)))) rfl
theorem k2_40 : Cond.laysFinal RX10 "OldNews$Keeper" "index" "I" ∈ zB := zB_t (List.mem_append_right _ (List.mem_append_right _ (List.mem_append_left _ (List.mem_of_getElem? (i := 40) rfl)))) rfl
theorem k2_41 : Cond.laysFinal RX10 "OldNews$Keeper" "n" "I" ∈ zB := zB_t (List.mem_append_right _ (List.mem_append_right _ (List.mem_append_left _ (List.mem_of_getElem? (i := 41) rfl)))) rfl
theorem k2_42 : Cond.laysFinal RX10 "OldNews$Keeper" "c" "I" ∈ zB := zB_t (List.mem_append_right _ (List.mem_append_right _ (List.mem_append_left _ (List.mem_of_getElem? (i := 42) rfl)))) rfl
theorem k2_43 : Cond.superclass RX10 RX0 ∈ zB := zB_t (List.mem_append_right _ (List.mem_append_right _ (List.mem_append_left _ (List.mem_of_getElem? (i := 43) rfl)))) rfl
theorem k2_44 : Cond.classLink RX3 30 RX1 ∈ zB := zB_t (List.mem_append_right _ (List.mem_append_right _ (List.mem_append_left _ (List.mem_of_getElem? (i := 44) rfl)))) rfl
theorem k2_45 : Cond.instantiable RX1 3 ∈ zB := zB_t (List.mem_append_right _ (List.mem_append_right _ (List.mem_append_left _ (List.mem_of_getElem? (i := 45) rfl)))) rfl
theorem k2_46 : Cond.methodLink RX3 32 yX1_init ∈ zB := zB_t (List.mem_append_right _ (List.mem_append_right _ (List.mem_append_left _ (List.mem_of_getElem? (i := 46) rfl)))) rfl
theorem k2_47 : Cond.instanceMethod yX1_init ∈ zB := zB_t (List.mem_append_right _ (List.mem_append_right _ (List.mem_append_left _ (List.mem_of_getElem? (i := 47) rfl)))) rfl
theorem k2_48 : Cond.code yX1_init cX1_init 4 none ∈ zB := zB_t (List.mem_append_right _ (List.mem_append_right _ (List.mem_append_left _ (List.mem_of_getElem? (i := 48) rfl)))) rfl
theorem k2_49 : Cond.methodLink RX1 1 yX0_init ∈ zB := zB_t (List.mem_append_right _ (List.mem_append_right _ (List.mem_append_left _ (List.mem_of_getElem? (i := 49) rfl)))) rfl
theorem k2_50 : Cond.laysFinal RX1 "OldNews$Keeper" "index" "I" ∈ zB := zB_t (List.mem_append_right _ (List.mem_append_right _ (List.mem_append_left _ (List.mem_of_getElem? (i := 50) rfl)))) rfl
theorem k2_51 : Cond.laysFinal RX1 "OldNews$Keeper" "n" "I" ∈ zB := zB_t (List.mem_append_right _ (List.mem_append_right _ (List.mem_append_left _ (List.mem_of_getElem? (i := 51) rfl)))) rfl
theorem k2_52 : Cond.laysFinal RX1 "OldNews$Keeper" "c" "I" ∈ zB := zB_t (List.mem_append_right _ (List.mem_append_right _ (List.mem_append_left _ (List.mem_of_getElem? (i := 52) rfl)))) rfl
theorem k2_53 : Cond.superclass RX1 RX0 ∈ zB := zB_t (List.mem_append_right _ (List.mem_append_right _ (List.mem_append_left _ (List.mem_of_getElem? (i := 53) rfl)))) rfl
theorem k2_54 : Cond.classLink RX3 33 RX8 ∈ zB := zB_t (List.mem_append_right _ (List.mem_append_right _ (List.mem_append_left _ (List.mem_of_getElem? (i := 54) rfl)))) rfl
theorem k2_55 : Cond.instantiable RX8 3 ∈ zB := zB_t (List.mem_append_right _ (List.mem_append_right _ (List.mem_append_left _ (List.mem_of_getElem? (i := 55) rfl)))) rfl
theorem k2_56 : Cond.methodLink RX3 35 yX8_init ∈ zB := zB_t (List.mem_append_right _ (List.mem_append_right _ (List.mem_append_left _ (List.mem_of_getElem? (i := 56) rfl)))) rfl
theorem k2_57 : Cond.instanceMethod yX8_init ∈ zB := zB_t (List.mem_append_right _ (List.mem_append_right _ (List.mem_append_left _ (List.mem_of_getElem? (i := 57) rfl)))) rfl
theorem k2_58 : Cond.code yX8_init cX8_init 4 none ∈ zB := zB_t (List.mem_append_right _ (List.mem_append_right _ (List.mem_append_left _ (List.mem_of_getElem? (i := 58) rfl)))) rfl
theorem k2_59 : Cond.methodLink RX8 1 yX3_init ∈ zB := zB_t (List.mem_append_right _ (List.mem_append_right _ (List.mem_append_left _ (List.mem_of_getElem? (i := 59) rfl)))) rfl
theorem k2_60 : Cond.laysFinal RX8 "OldNews$Keeper" "index" "I" ∈ zB := zB_t (List.mem_append_right _ (List.mem_append_right _ (List.mem_append_left _ (List.mem_of_getElem? (i := 60) rfl)))) rfl
theorem k2_61 : Cond.laysFinal RX8 "OldNews$Keeper" "n" "I" ∈ zB := zB_t (List.mem_append_right _ (List.mem_append_right _ (List.mem_append_left _ (List.mem_of_getElem? (i := 61) rfl)))) rfl
theorem k2_62 : Cond.laysFinal RX8 "OldNews$Keeper" "c" "I" ∈ zB := zB_t (List.mem_append_right _ (List.mem_append_right _ (List.mem_append_left _ (List.mem_of_getElem? (i := 62) rfl)))) rfl
theorem k2_63 : Cond.superclass RX8 RX3 ∈ zB := zB_t (List.mem_append_right _ (List.mem_append_right _ (List.mem_append_left _ (List.mem_of_getElem? (i := 63) rfl)))) rfl
theorem k2_64 : Cond.methodLink RX6 109 yX4_addKeeper ∈ zB := zB_t (List.mem_append_right _ (List.mem_append_right _ (List.mem_append_left _ (List.mem_of_getElem? (i := 64) rfl)))) rfl
theorem k2_65 : Cond.instanceMethod yX4_addKeeper ∈ zB := zB_t (List.mem_append_right _ (List.mem_append_right _ (List.mem_append_left _ (List.mem_of_getElem? (i := 65) rfl)))) rfl
theorem k2_66 : Cond.selects RX4 yX4_addKeeper yX4_addKeeper ∈ zB := zB_t (List.mem_append_right _ (List.mem_append_right _ (List.mem_append_left _ (List.mem_of_getElem? (i := 66) rfl)))) rfl
theorem k2_67 : Cond.code yX4_addKeeper cX4_addKeeper 2 none ∈ zB := zB_t (List.mem_append_right _ (List.mem_append_right _ (List.mem_append_left _ (List.mem_of_getElem? (i := 67) rfl)))) rfl
theorem k2_68 : Cond.methodLink RX6 44 yX6_readNews ∈ zB := zB_t (List.mem_append_right _ (List.mem_append_right _ (List.mem_append_left _ (List.mem_of_getElem? (i := 68) rfl)))) rfl
theorem k2_70 : Cond.instanceMethod yX6_readNews ∈ zB := zB_t (List.mem_append_right _ (List.mem_append_right _ (List.mem_append_left _ (List.mem_of_getElem? (i := 70) rfl)))) rfl
theorem k2_71 : Cond.code yX6_readNews cX6_readNews 6 none ∈ zB := zB_t (List.mem_append_right _ (List.mem_append_right _ (List.mem_append_left _ (List.mem_of_getElem? (i := 71) rfl)))) rfl
theorem k2_73 : Cond.methodLink RX6 118 yX4_addPiece ∈ zB := zB_t (List.mem_append_right _ (List.mem_append_right _ (List.mem_append_left _ (List.mem_of_getElem? (i := 73) rfl)))) rfl
theorem k2_74 : Cond.instanceMethod yX4_addPiece ∈ zB := zB_t (List.mem_append_right _ (List.mem_append_right _ (List.mem_append_left _ (List.mem_of_getElem? (i := 74) rfl)))) rfl
theorem k2_75 : Cond.selects RX4 yX4_addPiece yX4_addPiece ∈ zB := zB_t (List.mem_append_right _ (List.mem_append_right _ (List.mem_append_left _ (List.mem_of_getElem? (i := 75) rfl)))) rfl
theorem k2_76 : Cond.code yX4_addPiece cX4_addPiece 3 none ∈ zB := zB_t (List.mem_append_right _ (List.mem_append_right _ (List.mem_append_left _ (List.mem_of_getElem? (i := 76) rfl)))) rfl
theorem k2_77 : Cond.methodLink RX6 47 yX4_begin ∈ zB := zB_t (List.mem_append_right _ (List.mem_append_right _ (List.mem_append_left _ (List.mem_of_getElem? (i := 77) rfl)))) rfl
theorem k2_78 : Cond.instanceMethod yX4_begin ∈ zB := zB_t (List.mem_append_right _ (List.mem_append_right _ (List.mem_append_left _ (List.mem_of_getElem? (i := 78) rfl)))) rfl
theorem k2_79 : Cond.selects RX4 yX4_begin yX4_begin ∈ zB := zB_t (List.mem_append_right _ (List.mem_append_right _ (List.mem_append_left _ (List.mem_of_getElem? (i := 79) rfl)))) rfl
theorem k2_80 : Cond.code yX4_begin cX4_begin 4 none ∈ zB := zB_t (List.mem_append_right _ (List.mem_append_right _ (List.mem_append_left _ (List.mem_of_getElem? (i := 80) rfl)))) rfl
theorem k2_81 : Cond.methodLink RX4 58 yJ7_fill_53178 ∈ zB := zB_t (List.mem_append_right _ (List.mem_append_right _ (List.mem_append_left _ (List.mem_of_getElem? (i := 81) rfl)))) rfl
theorem k2_82 : Cond.constant RX4 64 (-1000000) ∈ zB := zB_t (List.mem_append_right _ (List.mem_append_right _ (List.mem_append_left _ (List.mem_of_getElem? (i := 82) rfl)))) rfl
theorem k2_83 : Cond.methodLink RX4 65 yX4_keeperAt ∈ zB := zB_t (List.mem_append_right _ (List.mem_append_right _ (List.mem_append_left _ (List.mem_of_getElem? (i := 83) rfl)))) rfl
theorem k2_84 : Cond.instanceMethod yX4_keeperAt ∈ zB := zB_t (List.mem_append_right _ (List.mem_append_right _ (List.mem_append_left _ (List.mem_of_getElem? (i := 84) rfl)))) rfl
theorem k2_85 : Cond.selects RX4 yX4_keeperAt yX4_keeperAt ∈ zB := zB_t (List.mem_append_right _ (List.mem_append_right _ (List.mem_append_left _ (List.mem_of_getElem? (i := 85) rfl)))) rfl
theorem k2_86 : Cond.code yX4_keeperAt cX4_keeperAt 2 (some (.object "OldNews$Keeper")) ∈ zB := zB_t (List.mem_append_right _ (List.mem_append_right _ (List.mem_append_left _ (List.mem_of_getElem? (i := 86) rfl)))) rfl
theorem k2_87 : Cond.methodLink RX11 110 yX6_empty ∈ zB := zB_t (List.mem_append_right _ (List.mem_append_right _ (List.mem_append_left _ (List.mem_of_getElem? (i := 87) rfl)))) rfl
theorem k2_88 : Cond.instanceMethod yX6_empty ∈ zB := zB_t (List.mem_append_right _ (List.mem_append_right _ (List.mem_append_left _ (List.mem_of_getElem? (i := 88) rfl)))) rfl
theorem k2_89 : Cond.selects RX6 yX6_empty yX6_empty ∈ zB := zB_t (List.mem_append_right _ (List.mem_append_right _ (List.mem_append_left _ (List.mem_of_getElem? (i := 89) rfl)))) rfl
theorem k2_90 : Cond.code yX6_empty cX6_empty 1 none ∈ zB := zB_t (List.mem_append_right _ (List.mem_append_right _ (List.mem_append_left _ (List.mem_of_getElem? (i := 90) rfl)))) rfl
theorem k2_91 : Cond.constant RX11 113 (-1000100) ∈ zB := zB_t (List.mem_append_right _ (List.mem_append_right _ (List.mem_append_left _ (List.mem_of_getElem? (i := 91) rfl)))) rfl
theorem k2_92 : Cond.methodLink RL 44 yX11_fault ∈ zB := zB_t (List.mem_append_right _ (List.mem_append_right _ (List.mem_append_left _ (List.mem_of_getElem? (i := 92) rfl)))) rfl
theorem k2_93 : Cond.instanceMethod yX11_fault ∈ zB := zB_t (List.mem_append_right _ (List.mem_append_right _ (List.mem_append_left _ (List.mem_of_getElem? (i := 93) rfl)))) rfl
theorem k2_94 : Cond.selects RX11 yX11_fault yX11_fault ∈ zB := zB_t (List.mem_append_right _ (List.mem_append_right _ (List.mem_append_left _ (List.mem_of_getElem? (i := 94) rfl)))) rfl
theorem k2_95 : Cond.code yX11_fault cX11_fault 1 (some .int) ∈ zB := zB_t (List.mem_append_right _ (List.mem_append_right _ (List.mem_append_left _ (List.mem_of_getElem? (i := 95) rfl)))) rfl
theorem k2_96 : Cond.methodLink RL 48 yX11_value ∈ zB := zB_t (List.mem_append_right _ (List.mem_append_right _ (List.mem_append_left _ (List.mem_of_getElem? (i := 96) rfl)))) rfl
theorem k2_97 : Cond.instanceMethod yX11_value ∈ zB := zB_t (List.mem_append_right _ (List.mem_append_right _ (List.mem_append_left _ (List.mem_of_getElem? (i := 97) rfl)))) rfl
theorem k2_98 : Cond.selects RX11 yX11_value yX11_value ∈ zB := zB_t (List.mem_append_right _ (List.mem_append_right _ (List.mem_append_left _ (List.mem_of_getElem? (i := 98) rfl)))) rfl
theorem k2_99 : Cond.code yX11_value cX11_value 2 (some .int) ∈ zB := zB_t (List.mem_append_right _ (List.mem_append_right _ (List.mem_append_left _ (List.mem_of_getElem? (i := 99) rfl)))) rfl
theorem k2_100 : Cond.methodLink RX11 123 yX4_isTold ∈ zB := zB_t (List.mem_append_right _ (List.mem_append_right _ (List.mem_append_left _ (List.mem_of_getElem? (i := 100) rfl)))) rfl
theorem k2_101 : Cond.instanceMethod yX4_isTold ∈ zB := zB_t (List.mem_append_right _ (List.mem_append_right _ (List.mem_append_left _ (List.mem_of_getElem? (i := 101) rfl)))) rfl
theorem k2_102 : Cond.selects RX4 yX4_isTold yX4_isTold ∈ zB := zB_t (List.mem_append_right _ (List.mem_append_right _ (List.mem_append_left _ (List.mem_of_getElem? (i := 102) rfl)))) rfl
theorem k2_103 : Cond.code yX4_isTold cX4_isTold 1 (some .boolean) ∈ zB := zB_t (List.mem_append_right _ (List.mem_append_right _ (List.mem_append_left _ (List.mem_of_getElem? (i := 103) rfl)))) rfl
theorem k2_104 : Cond.constant RX11 127 (-1000002) ∈ zB := zB_t (List.mem_append_right _ (List.mem_append_right _ (List.mem_append_left _ (List.mem_of_getElem? (i := 104) rfl)))) rfl
theorem k2_105 : Cond.methodLink RX11 128 yX4_valueAt ∈ zB := zB_t (List.mem_append_right _ (List.mem_append_right _ (List.mem_append_left _ (List.mem_of_getElem? (i := 105) rfl)))) rfl
theorem k2_106 : Cond.instanceMethod yX4_valueAt ∈ zB := zB_t (List.mem_append_right _ (List.mem_append_right _ (List.mem_append_left _ (List.mem_of_getElem? (i := 106) rfl)))) rfl
theorem k2_107 : Cond.selects RX4 yX4_valueAt yX4_valueAt ∈ zB := zB_t (List.mem_append_right _ (List.mem_append_right _ (List.mem_append_left _ (List.mem_of_getElem? (i := 107) rfl)))) rfl
theorem k2_108 : Cond.code yX4_valueAt cX4_valueAt 4 (some .int) ∈ zB := zB_t (List.mem_append_right _ (List.mem_append_right _ (List.mem_append_left _ (List.mem_of_getElem? (i := 108) rfl)))) rfl
theorem k2_109 : Cond.methodLink RX4 96 Lib.Math.max.name ∈ zB := zB_t (List.mem_append_right _ (List.mem_append_right _ (List.mem_append_left _ (List.mem_of_getElem? (i := 109) rfl)))) rfl
theorem k2_110 : Cond.static Lib.Math.max.name ∈ zB := zB_t (List.mem_append_right _ (List.mem_append_right _ (List.mem_append_left _ (List.mem_of_getElem? (i := 110) rfl)))) rfl
theorem k2_111 : Cond.code Lib.Math.max.name Lib.Math.max.code 2 (some .int) ∈ zB := zB_t (List.mem_append_right _ (List.mem_append_right _ (List.mem_append_left _ (List.mem_of_getElem? (i := 111) rfl)))) rfl
theorem k2_112 : Cond.methodLink RX4 102 yX4_valueBetween ∈ zB := zB_t (List.mem_append_right _ (List.mem_append_right _ (List.mem_append_left _ (List.mem_of_getElem? (i := 112) rfl)))) rfl
theorem k2_114 : Cond.instanceMethod yX4_valueBetween ∈ zB := zB_t (List.mem_append_right _ (List.mem_append_right _ (List.mem_append_left _ (List.mem_of_getElem? (i := 114) rfl)))) rfl
theorem k2_115 : Cond.code yX4_valueBetween cX4_valueBetween 5 (some .int) ∈ zB := zB_t (List.mem_append_right _ (List.mem_append_right _ (List.mem_append_left _ (List.mem_of_getElem? (i := 115) rfl)))) rfl
theorem k2_116 : Cond.methodLink RL 52 yX11_go ∈ zB := zB_t (List.mem_append_right _ (List.mem_append_right _ (List.mem_append_left _ (List.mem_of_getElem? (i := 116) rfl)))) rfl
theorem k2_117 : Cond.instanceMethod yX11_go ∈ zB := zB_t (List.mem_append_right _ (List.mem_append_right _ (List.mem_append_left _ (List.mem_of_getElem? (i := 117) rfl)))) rfl
theorem k2_118 : Cond.selects RX11 yX11_go yX11_go ∈ zB := zB_t (List.mem_append_right _ (List.mem_append_right _ (List.mem_append_left _ (List.mem_of_getElem? (i := 118) rfl)))) rfl
theorem k2_119 : Cond.code yX11_go cX11_go 3 (some .int) ∈ zB := zB_t (List.mem_append_right _ (List.mem_append_right _ (List.mem_append_left _ (List.mem_of_getElem? (i := 119) rfl)))) rfl
theorem k2_120 : Cond.constant RX11 131 (999999) ∈ zB := zB_t (List.mem_append_right _ (List.mem_append_right _ (List.mem_append_left _ (List.mem_of_getElem? (i := 120) rfl)))) rfl
theorem k2_121 : Cond.methodLink RX11 132 yX4_passYears ∈ zB := zB_t (List.mem_append_right _ (List.mem_append_right _ (List.mem_append_left _ (List.mem_of_getElem? (i := 121) rfl)))) rfl
theorem k2_122 : Cond.instanceMethod yX4_passYears ∈ zB := zB_t (List.mem_append_right _ (List.mem_append_right _ (List.mem_append_left _ (List.mem_of_getElem? (i := 122) rfl)))) rfl
theorem k2_123 : Cond.selects RX4 yX4_passYears yX4_passYears ∈ zB := zB_t (List.mem_append_right _ (List.mem_append_right _ (List.mem_append_left _ (List.mem_of_getElem? (i := 123) rfl)))) rfl
theorem k2_124 : Cond.code yX4_passYears cX4_passYears 5 none ∈ zB := zB_t (List.mem_append_right _ (List.mem_append_right _ (List.mem_append_left _ (List.mem_of_getElem? (i := 124) rfl)))) rfl
theorem k2_125 : Cond.methodLink RX4 129 yX4_sellAll ∈ zB := zB_t (List.mem_append_right _ (List.mem_append_right _ (List.mem_append_left _ (List.mem_of_getElem? (i := 125) rfl)))) rfl
theorem k2_126 : Cond.instanceMethod yX4_sellAll ∈ zB := zB_t (List.mem_append_right _ (List.mem_append_right _ (List.mem_append_left _ (List.mem_of_getElem? (i := 126) rfl)))) rfl
theorem k2_127 : Cond.selects RX4 yX4_sellAll yX4_sellAll ∈ zB := zB_t (List.mem_append_right _ (List.mem_append_right _ (List.mem_append_left _ (List.mem_of_getElem? (i := 127) rfl)))) rfl
theorem k2_128 : Cond.code yX4_sellAll cX4_sellAll 4 none ∈ zB := zB_t (List.mem_append_right _ (List.mem_append_right _ (List.mem_append_left _ (List.mem_of_getElem? (i := 128) rfl)))) rfl
theorem k2_129 : Cond.methodLink RX4 141 yX4_hasUnsold ∈ zB := zB_t (List.mem_append_right _ (List.mem_append_right _ (List.mem_append_left _ (List.mem_of_getElem? (i := 129) rfl)))) rfl
theorem k2_130 : Cond.instanceMethod yX4_hasUnsold ∈ zB := zB_t (List.mem_append_right _ (List.mem_append_right _ (List.mem_append_left _ (List.mem_of_getElem? (i := 130) rfl)))) rfl
theorem k2_131 : Cond.selects RX4 yX4_hasUnsold yX4_hasUnsold ∈ zB := zB_t (List.mem_append_right _ (List.mem_append_right _ (List.mem_append_left _ (List.mem_of_getElem? (i := 131) rfl)))) rfl
theorem k2_132 : Cond.code yX4_hasUnsold cX4_hasUnsold 3 (some .boolean) ∈ zB := zB_t (List.mem_append_right _ (List.mem_append_right _ (List.mem_append_left _ (List.mem_of_getElem? (i := 132) rfl)))) rfl
theorem k2_133 : Cond.methodLink RX4 110 yX4_countOf ∈ zB := zB_t (List.mem_append_right _ (List.mem_append_right _ (List.mem_append_left _ (List.mem_of_getElem? (i := 133) rfl)))) rfl
theorem k2_134 : Cond.instanceMethod yX4_countOf ∈ zB := zB_t (List.mem_append_right _ (List.mem_append_right _ (List.mem_append_left _ (List.mem_of_getElem? (i := 134) rfl)))) rfl
theorem k2_135 : Cond.selects RX4 yX4_countOf yX4_countOf ∈ zB := zB_t (List.mem_append_right _ (List.mem_append_right _ (List.mem_append_left _ (List.mem_of_getElem? (i := 135) rfl)))) rfl
theorem k2_136 : Cond.code yX4_countOf cX4_countOf 4 (some .int) ∈ zB := zB_t (List.mem_append_right _ (List.mem_append_right _ (List.mem_append_left _ (List.mem_of_getElem? (i := 136) rfl)))) rfl
theorem k2_137 : Cond.methodLink RX4 145 ⟨"OldNews$Keeper", "sells", "(LOldNews$Land;I)Z"⟩ ∈ zB := zB_t (List.mem_append_right _ (List.mem_append_right _ (List.mem_append_left _ (List.mem_of_getElem? (i := 137) rfl)))) rfl
theorem k2_139 : Cond.sameMethod "OldNews$Keeper" "OldNews$Keeper" "sells" "(LOldNews$Land;I)Z" ∈ zB := zB_t (List.mem_append_right _ (List.mem_append_right _ (List.mem_append_left _ (List.mem_of_getElem? (i := 139) rfl)))) rfl
theorem k2_140 : Cond.selects RX0 ⟨"OldNews$Keeper", "sells", "(LOldNews$Land;I)Z"⟩ yX0_sells ∈ zB := zB_t (List.mem_append_right _ (List.mem_append_right _ (List.mem_append_left _ (List.mem_of_getElem? (i := 140) rfl)))) rfl
theorem k2_141 : Cond.instanceMethod yX0_sells ∈ zB := zB_t (List.mem_append_right _ (List.mem_append_right _ (List.mem_append_left _ (List.mem_of_getElem? (i := 141) rfl)))) rfl
theorem k2_142 : Cond.code yX0_sells cX0_sells 3 (some .boolean) ∈ zB := zB_t (List.mem_append_right _ (List.mem_append_right _ (List.mem_append_left _ (List.mem_of_getElem? (i := 142) rfl)))) rfl
theorem k2_143 : Cond.selects RX1 ⟨"OldNews$Keeper", "sells", "(LOldNews$Land;I)Z"⟩ yX1_sells ∈ zB := zB_t (List.mem_append_right _ (List.mem_append_right _ (List.mem_append_left _ (List.mem_of_getElem? (i := 143) rfl)))) rfl
theorem k2_144 : Cond.instanceMethod yX1_sells ∈ zB := zB_t (List.mem_append_right _ (List.mem_append_right _ (List.mem_append_left _ (List.mem_of_getElem? (i := 144) rfl)))) rfl
theorem k2_145 : Cond.code yX1_sells cX1_sells 3 (some .boolean) ∈ zB := zB_t (List.mem_append_right _ (List.mem_append_right _ (List.mem_append_left _ (List.mem_of_getElem? (i := 145) rfl)))) rfl
theorem k2_146 : Cond.methodLink RX1 9 yX0_sells ∈ zB := zB_t (List.mem_append_right _ (List.mem_append_right _ (List.mem_append_left _ (List.mem_of_getElem? (i := 146) rfl)))) rfl
theorem k2_147 : Cond.methodLink RX1 19 yX4_countOf ∈ zB := zB_t (List.mem_append_right _ (List.mem_append_right _ (List.mem_append_left _ (List.mem_of_getElem? (i := 147) rfl)))) rfl
theorem k2_148 : Cond.selects RX5 ⟨"OldNews$Keeper", "sells", "(LOldNews$Land;I)Z"⟩ yX5_sells ∈ zB := zB_t (List.mem_append_right _ (List.mem_append_right _ (List.mem_append_left _ (List.mem_of_getElem? (i := 148) rfl)))) rfl
theorem k2_149 : Cond.instanceMethod yX5_sells ∈ zB := zB_t (List.mem_append_right _ (List.mem_append_right _ (List.mem_append_left _ (List.mem_of_getElem? (i := 149) rfl)))) rfl
theorem k2_150 : Cond.code yX5_sells cX5_sells 3 (some .boolean) ∈ zB := zB_t (List.mem_append_right _ (List.mem_append_right _ (List.mem_append_left _ (List.mem_of_getElem? (i := 150) rfl)))) rfl
theorem k2_151 : Cond.selects RX8 ⟨"OldNews$Keeper", "sells", "(LOldNews$Land;I)Z"⟩ yX8_sells ∈ zB := zB_t (List.mem_append_right _ (List.mem_append_right _ (List.mem_append_left _ (List.mem_of_getElem? (i := 151) rfl)))) rfl
theorem k2_152 : Cond.instanceMethod yX8_sells ∈ zB := zB_t (List.mem_append_right _ (List.mem_append_right _ (List.mem_append_left _ (List.mem_of_getElem? (i := 152) rfl)))) rfl
theorem k2_153 : Cond.code yX8_sells cX8_sells 3 (some .boolean) ∈ zB := zB_t (List.mem_append_right _ (List.mem_append_right _ (List.mem_append_left _ (List.mem_of_getElem? (i := 153) rfl)))) rfl
theorem k2_154 : Cond.selects RX10 ⟨"OldNews$Keeper", "sells", "(LOldNews$Land;I)Z"⟩ yX10_sells ∈ zB := zB_t (List.mem_append_right _ (List.mem_append_right _ (List.mem_append_left _ (List.mem_of_getElem? (i := 154) rfl)))) rfl
theorem k2_155 : Cond.instanceMethod yX10_sells ∈ zB := zB_t (List.mem_append_right _ (List.mem_append_right _ (List.mem_append_left _ (List.mem_of_getElem? (i := 155) rfl)))) rfl
theorem k2_156 : Cond.code yX10_sells cX10_sells 3 (some .boolean) ∈ zB := zB_t (List.mem_append_right _ (List.mem_append_right _ (List.mem_append_left _ (List.mem_of_getElem? (i := 156) rfl)))) rfl
theorem k2_157 : Cond.methodLink RX10 9 yX0_sells ∈ zB := zB_t (List.mem_append_right _ (List.mem_append_right _ (List.mem_append_left _ (List.mem_of_getElem? (i := 157) rfl)))) rfl
theorem k2_158 : Cond.methodLink RX10 13 yX10_isAnotherAboutTo ∈ zB := zB_t (List.mem_append_right _ (List.mem_append_right _ (List.mem_append_left _ (List.mem_of_getElem? (i := 158) rfl)))) rfl
theorem k2_160 : Cond.instanceMethod yX10_isAnotherAboutTo ∈ zB := zB_t (List.mem_append_right _ (List.mem_append_right _ (List.mem_append_left _ (List.mem_of_getElem? (i := 160) rfl)))) rfl
theorem k2_161 : Cond.code yX10_isAnotherAboutTo cX10_isAnotherAboutTo 5 (some .boolean) ∈ zB := zB_t (List.mem_append_right _ (List.mem_append_right _ (List.mem_append_left _ (List.mem_of_getElem? (i := 161) rfl)))) rfl
theorem k2_162 : Cond.methodLink RX10 24 yX4_keeperAt ∈ zB := zB_t (List.mem_append_right _ (List.mem_append_right _ (List.mem_append_left _ (List.mem_of_getElem? (i := 162) rfl)))) rfl
theorem k2_163 : Cond.classLink RX10 2 "OldNews$Age" ∈ zB := zB_t (List.mem_append_right _ (List.mem_append_right _ (List.mem_append_left _ (List.mem_of_getElem? (i := 163) rfl)))) rfl
theorem k2_164 : Cond.methodLink RX10 37 yX4_hasUnsold ∈ zB := zB_t (List.mem_append_right _ (List.mem_append_right _ (List.mem_append_left _ (List.mem_of_getElem? (i := 164) rfl)))) rfl
theorem k2_165 : Cond.methodLink RX4 149 yX4_sell ∈ zB := zB_t (List.mem_append_right _ (List.mem_append_right _ (List.mem_append_left _ (List.mem_of_getElem? (i := 165) rfl)))) rfl
theorem k2_167 : Cond.instanceMethod yX4_sell ∈ zB := zB_t (List.mem_append_right _ (List.mem_append_right _ (List.mem_append_left _ (List.mem_of_getElem? (i := 167) rfl)))) rfl
theorem k2_168 : Cond.code yX4_sell cX4_sell 3 none ∈ zB := zB_t (List.mem_append_right _ (List.mem_append_right _ (List.mem_append_left _ (List.mem_of_getElem? (i := 168) rfl)))) rfl
theorem k2_169 : Cond.methodLink RX4 123 yX4_isKeeper ∈ zB := zB_t (List.mem_append_right _ (List.mem_append_right _ (List.mem_append_left _ (List.mem_of_getElem? (i := 169) rfl)))) rfl
theorem k2_170 : Cond.instanceMethod yX4_isKeeper ∈ zB := zB_t (List.mem_append_right _ (List.mem_append_right _ (List.mem_append_left _ (List.mem_of_getElem? (i := 170) rfl)))) rfl
theorem k2_171 : Cond.selects RX4 yX4_isKeeper yX4_isKeeper ∈ zB := zB_t (List.mem_append_right _ (List.mem_append_right _ (List.mem_append_left _ (List.mem_of_getElem? (i := 171) rfl)))) rfl
theorem k2_172 : Cond.code yX4_isKeeper cX4_isKeeper 2 (some .boolean) ∈ zB := zB_t (List.mem_append_right _ (List.mem_append_right _ (List.mem_append_left _ (List.mem_of_getElem? (i := 172) rfl)))) rfl
theorem k2_173 : Cond.methodLink RX4 119 yX4_isPiece ∈ zB := zB_t (List.mem_append_right _ (List.mem_append_right _ (List.mem_append_left _ (List.mem_of_getElem? (i := 173) rfl)))) rfl
theorem k2_174 : Cond.instanceMethod yX4_isPiece ∈ zB := zB_t (List.mem_append_right _ (List.mem_append_right _ (List.mem_append_left _ (List.mem_of_getElem? (i := 174) rfl)))) rfl
theorem k2_175 : Cond.selects RX4 yX4_isPiece yX4_isPiece ∈ zB := zB_t (List.mem_append_right _ (List.mem_append_right _ (List.mem_append_left _ (List.mem_of_getElem? (i := 175) rfl)))) rfl
theorem k2_176 : Cond.code yX4_isPiece cX4_isPiece 2 (some .boolean) ∈ zB := zB_t (List.mem_append_right _ (List.mem_append_right _ (List.mem_append_left _ (List.mem_of_getElem? (i := 176) rfl)))) rfl
theorem k2_177 : Cond.methodLink RX4 153 yX4_hadBy ∈ zB := zB_t (List.mem_append_right _ (List.mem_append_right _ (List.mem_append_left _ (List.mem_of_getElem? (i := 177) rfl)))) rfl
theorem k2_178 : Cond.instanceMethod yX4_hadBy ∈ zB := zB_t (List.mem_append_right _ (List.mem_append_right _ (List.mem_append_left _ (List.mem_of_getElem? (i := 178) rfl)))) rfl
theorem k2_179 : Cond.selects RX4 yX4_hadBy yX4_hadBy ∈ zB := zB_t (List.mem_append_right _ (List.mem_append_right _ (List.mem_append_left _ (List.mem_of_getElem? (i := 179) rfl)))) rfl
theorem k2_180 : Cond.code yX4_hadBy cX4_hadBy 2 (some .int) ∈ zB := zB_t (List.mem_append_right _ (List.mem_append_right _ (List.mem_append_left _ (List.mem_of_getElem? (i := 180) rfl)))) rfl
theorem k2_181 : Cond.methodLink RX4 113 yX4_keepersWith ∈ zB := zB_t (List.mem_append_right _ (List.mem_append_right _ (List.mem_append_left _ (List.mem_of_getElem? (i := 181) rfl)))) rfl
theorem k2_182 : Cond.instanceMethod yX4_keepersWith ∈ zB := zB_t (List.mem_append_right _ (List.mem_append_right _ (List.mem_append_left _ (List.mem_of_getElem? (i := 182) rfl)))) rfl
theorem k2_183 : Cond.selects RX4 yX4_keepersWith yX4_keepersWith ∈ zB := zB_t (List.mem_append_right _ (List.mem_append_right _ (List.mem_append_left _ (List.mem_of_getElem? (i := 183) rfl)))) rfl
theorem k2_184 : Cond.code yX4_keepersWith cX4_keepersWith 4 (some .int) ∈ zB := zB_t (List.mem_append_right _ (List.mem_append_right _ (List.mem_append_left _ (List.mem_of_getElem? (i := 184) rfl)))) rfl
theorem k2_185 : Cond.methodLink RX4 116 yX4_knownBy ∈ zB := zB_t (List.mem_append_right _ (List.mem_append_right _ (List.mem_append_left _ (List.mem_of_getElem? (i := 185) rfl)))) rfl
theorem k2_186 : Cond.instanceMethod yX4_knownBy ∈ zB := zB_t (List.mem_append_right _ (List.mem_append_right _ (List.mem_append_left _ (List.mem_of_getElem? (i := 186) rfl)))) rfl
theorem k2_187 : Cond.selects RX4 yX4_knownBy yX4_knownBy ∈ zB := zB_t (List.mem_append_right _ (List.mem_append_right _ (List.mem_append_left _ (List.mem_of_getElem? (i := 187) rfl)))) rfl
theorem k2_188 : Cond.code yX4_knownBy cX4_knownBy 2 (some .int) ∈ zB := zB_t (List.mem_append_right _ (List.mem_append_right _ (List.mem_append_left _ (List.mem_of_getElem? (i := 188) rfl)))) rfl
theorem k2_189 : Cond.methodLink RX4 156 yX4_worthIn ∈ zB := zB_t (List.mem_append_right _ (List.mem_append_right _ (List.mem_append_left _ (List.mem_of_getElem? (i := 189) rfl)))) rfl
theorem k2_190 : Cond.instanceMethod yX4_worthIn ∈ zB := zB_t (List.mem_append_right _ (List.mem_append_right _ (List.mem_append_left _ (List.mem_of_getElem? (i := 190) rfl)))) rfl
theorem k2_191 : Cond.selects RX4 yX4_worthIn yX4_worthIn ∈ zB := zB_t (List.mem_append_right _ (List.mem_append_right _ (List.mem_append_left _ (List.mem_of_getElem? (i := 191) rfl)))) rfl
theorem k2_192 : Cond.code yX4_worthIn cX4_worthIn 3 (some .int) ∈ zB := zB_t (List.mem_append_right _ (List.mem_append_right _ (List.mem_append_left _ (List.mem_of_getElem? (i := 192) rfl)))) rfl
theorem k2_193 : Cond.methodLink RX4 106 yX4_valueAt ∈ zB := zB_t (List.mem_append_right _ (List.mem_append_right _ (List.mem_append_left _ (List.mem_of_getElem? (i := 193) rfl)))) rfl
theorem k2_194 : Cond.methodLink RX4 132 yX4_loseByChance ∈ zB := zB_t (List.mem_append_right _ (List.mem_append_right _ (List.mem_append_left _ (List.mem_of_getElem? (i := 194) rfl)))) rfl
theorem k2_196 : Cond.instanceMethod yX4_loseByChance ∈ zB := zB_t (List.mem_append_right _ (List.mem_append_right _ (List.mem_append_left _ (List.mem_of_getElem? (i := 196) rfl)))) rfl
theorem k2_197 : Cond.code yX4_loseByChance cX4_loseByChance 7 (some .int) ∈ zB := zB_t (List.mem_append_right _ (List.mem_append_right _ (List.mem_append_left _ (List.mem_of_getElem? (i := 197) rfl)))) rfl
theorem k2_198 : Cond.constantLong RX4 159 (16807) ∈ zB := zB_t (List.mem_append_right _ (List.mem_append_right _ (List.mem_append_left _ (List.mem_of_getElem? (i := 198) rfl)))) rfl
theorem k2_199 : Cond.constantLong RX4 161 (2147483647) ∈ zB := zB_t (List.mem_append_right _ (List.mem_append_right _ (List.mem_append_left _ (List.mem_of_getElem? (i := 199) rfl)))) rfl
theorem k2_200 : Cond.methodLink RX4 135 yX4_spreadSold ∈ zB := zB_t (List.mem_append_right _ (List.mem_append_right _ (List.mem_append_left _ (List.mem_of_getElem? (i := 200) rfl)))) rfl
theorem k2_202 : Cond.instanceMethod yX4_spreadSold ∈ zB := zB_t (List.mem_append_right _ (List.mem_append_right _ (List.mem_append_left _ (List.mem_of_getElem? (i := 202) rfl)))) rfl
theorem k2_203 : Cond.code yX4_spreadSold cX4_spreadSold 2 none ∈ zB := zB_t (List.mem_append_right _ (List.mem_append_right _ (List.mem_append_left _ (List.mem_of_getElem? (i := 203) rfl)))) rfl
theorem k2_204 : Cond.methodLink RX4 138 yX4_payCost ∈ zB := zB_t (List.mem_append_right _ (List.mem_append_right _ (List.mem_append_left _ (List.mem_of_getElem? (i := 204) rfl)))) rfl
theorem k2_206 : Cond.instanceMethod yX4_payCost ∈ zB := zB_t (List.mem_append_right _ (List.mem_append_right _ (List.mem_append_left _ (List.mem_of_getElem? (i := 206) rfl)))) rfl
theorem k2_207 : Cond.code yX4_payCost cX4_payCost 3 none ∈ zB := zB_t (List.mem_append_right _ (List.mem_append_right _ (List.mem_append_left _ (List.mem_of_getElem? (i := 207) rfl)))) rfl
theorem k2_208 : Cond.methodLink RL 57 yX11_tell ∈ zB := zB_t (List.mem_append_right _ (List.mem_append_right _ (List.mem_append_left _ (List.mem_of_getElem? (i := 208) rfl)))) rfl
theorem k2_209 : Cond.instanceMethod yX11_tell ∈ zB := zB_t (List.mem_append_right _ (List.mem_append_right _ (List.mem_append_left _ (List.mem_of_getElem? (i := 209) rfl)))) rfl
theorem k2_210 : Cond.selects RX11 yX11_tell yX11_tell ∈ zB := zB_t (List.mem_append_right _ (List.mem_append_right _ (List.mem_append_left _ (List.mem_of_getElem? (i := 210) rfl)))) rfl
theorem k2_211 : Cond.code yX11_tell cX11_tell 4 (some .int) ∈ zB := zB_t (List.mem_append_right _ (List.mem_append_right _ (List.mem_append_left _ (List.mem_of_getElem? (i := 211) rfl)))) rfl
theorem k2_212 : Cond.methodLink RX11 139 yX4_isKeeper ∈ zB := zB_t (List.mem_append_right _ (List.mem_append_right _ (List.mem_append_left _ (List.mem_of_getElem? (i := 212) rfl)))) rfl
theorem k2_213 : Cond.methodLink RX11 142 yX4_isPiece ∈ zB := zB_t (List.mem_append_right _ (List.mem_append_right _ (List.mem_append_left _ (List.mem_of_getElem? (i := 213) rfl)))) rfl
theorem k2_214 : Cond.methodLink RX11 145 yX4_countOf ∈ zB := zB_t (List.mem_append_right _ (List.mem_append_right _ (List.mem_append_left _ (List.mem_of_getElem? (i := 214) rfl)))) rfl
theorem k2_215 : Cond.methodLink RX11 149 yX4_addOne ∈ zB := zB_t (List.mem_append_right _ (List.mem_append_right _ (List.mem_append_left _ (List.mem_of_getElem? (i := 215) rfl)))) rfl
theorem k2_216 : Cond.instanceMethod yX4_addOne ∈ zB := zB_t (List.mem_append_right _ (List.mem_append_right _ (List.mem_append_left _ (List.mem_of_getElem? (i := 216) rfl)))) rfl
theorem k2_217 : Cond.selects RX4 yX4_addOne yX4_addOne ∈ zB := zB_t (List.mem_append_right _ (List.mem_append_right _ (List.mem_append_left _ (List.mem_of_getElem? (i := 217) rfl)))) rfl
theorem k2_218 : Cond.code yX4_addOne cX4_addOne 3 (some .int) ∈ zB := zB_t (List.mem_append_right _ (List.mem_append_right _ (List.mem_append_left _ (List.mem_of_getElem? (i := 218) rfl)))) rfl
theorem k2_219 : Cond.methodLink RL 61 yX11_keeper ∈ zB := zB_t (List.mem_append_right _ (List.mem_append_right _ (List.mem_append_left _ (List.mem_of_getElem? (i := 219) rfl)))) rfl
theorem k2_220 : Cond.instanceMethod yX11_keeper ∈ zB := zB_t (List.mem_append_right _ (List.mem_append_right _ (List.mem_append_left _ (List.mem_of_getElem? (i := 220) rfl)))) rfl
theorem k2_221 : Cond.selects RX11 yX11_keeper yX11_keeper ∈ zB := zB_t (List.mem_append_right _ (List.mem_append_right _ (List.mem_append_left _ (List.mem_of_getElem? (i := 221) rfl)))) rfl
theorem k2_222 : Cond.code yX11_keeper cX11_keeper 3 (some .int) ∈ zB := zB_t (List.mem_append_right _ (List.mem_append_right _ (List.mem_append_left _ (List.mem_of_getElem? (i := 222) rfl)))) rfl
theorem k2_223 : Cond.methodLink RX11 152 yX4_earnedBy ∈ zB := zB_t (List.mem_append_right _ (List.mem_append_right _ (List.mem_append_left _ (List.mem_of_getElem? (i := 223) rfl)))) rfl
theorem k2_224 : Cond.instanceMethod yX4_earnedBy ∈ zB := zB_t (List.mem_append_right _ (List.mem_append_right _ (List.mem_append_left _ (List.mem_of_getElem? (i := 224) rfl)))) rfl
theorem k2_225 : Cond.selects RX4 yX4_earnedBy yX4_earnedBy ∈ zB := zB_t (List.mem_append_right _ (List.mem_append_right _ (List.mem_append_left _ (List.mem_of_getElem? (i := 225) rfl)))) rfl
theorem k2_226 : Cond.code yX4_earnedBy cX4_earnedBy 2 (some .int) ∈ zB := zB_t (List.mem_append_right _ (List.mem_append_right _ (List.mem_append_left _ (List.mem_of_getElem? (i := 226) rfl)))) rfl
theorem k2_227 : Cond.methodLink RX11 155 yX4_piecesOf ∈ zB := zB_t (List.mem_append_right _ (List.mem_append_right _ (List.mem_append_left _ (List.mem_of_getElem? (i := 227) rfl)))) rfl
theorem k2_228 : Cond.instanceMethod yX4_piecesOf ∈ zB := zB_t (List.mem_append_right _ (List.mem_append_right _ (List.mem_append_left _ (List.mem_of_getElem? (i := 228) rfl)))) rfl
theorem k2_229 : Cond.selects RX4 yX4_piecesOf yX4_piecesOf ∈ zB := zB_t (List.mem_append_right _ (List.mem_append_right _ (List.mem_append_left _ (List.mem_of_getElem? (i := 229) rfl)))) rfl
theorem k2_230 : Cond.code yX4_piecesOf cX4_piecesOf 4 (some .int) ∈ zB := zB_t (List.mem_append_right _ (List.mem_append_right _ (List.mem_append_left _ (List.mem_of_getElem? (i := 230) rfl)))) rfl
theorem k2_231 : Cond.methodLink RX11 158 yX4_soldBy ∈ zB := zB_t (List.mem_append_right _ (List.mem_append_right _ (List.mem_append_left _ (List.mem_of_getElem? (i := 231) rfl)))) rfl
theorem k2_232 : Cond.instanceMethod yX4_soldBy ∈ zB := zB_t (List.mem_append_right _ (List.mem_append_right _ (List.mem_append_left _ (List.mem_of_getElem? (i := 232) rfl)))) rfl
theorem k2_233 : Cond.selects RX4 yX4_soldBy yX4_soldBy ∈ zB := zB_t (List.mem_append_right _ (List.mem_append_right _ (List.mem_append_left _ (List.mem_of_getElem? (i := 233) rfl)))) rfl
theorem k2_234 : Cond.code yX4_soldBy cX4_soldBy 2 (some .int) ∈ zB := zB_t (List.mem_append_right _ (List.mem_append_right _ (List.mem_append_left _ (List.mem_of_getElem? (i := 234) rfl)))) rfl
theorem k2_235 : Cond.methodLink RL 65 yX11_piece ∈ zB := zB_t (List.mem_append_right _ (List.mem_append_right _ (List.mem_append_left _ (List.mem_of_getElem? (i := 235) rfl)))) rfl
theorem k2_236 : Cond.instanceMethod yX11_piece ∈ zB := zB_t (List.mem_append_right _ (List.mem_append_right _ (List.mem_append_left _ (List.mem_of_getElem? (i := 236) rfl)))) rfl
theorem k2_237 : Cond.selects RX11 yX11_piece yX11_piece ∈ zB := zB_t (List.mem_append_right _ (List.mem_append_right _ (List.mem_append_left _ (List.mem_of_getElem? (i := 237) rfl)))) rfl
theorem k2_238 : Cond.code yX11_piece cX11_piece 3 (some .int) ∈ zB := zB_t (List.mem_append_right _ (List.mem_append_right _ (List.mem_append_left _ (List.mem_of_getElem? (i := 238) rfl)))) rfl
theorem k2_239 : Cond.methodLink RX11 161 yX4_useOf ∈ zB := zB_t (List.mem_append_right _ (List.mem_append_right _ (List.mem_append_left _ (List.mem_of_getElem? (i := 239) rfl)))) rfl
theorem k3_0 : Cond.instanceMethod yX4_useOf ∈ zB := zB_t (List.mem_append_right _ (List.mem_append_right _ (List.mem_append_right _ (List.mem_append_left _ (List.mem_of_getElem? (i := 0) rfl))))) rfl
theorem kp3_0 : Cond.selects RX12 yX12_begin yX12_begin ∈ zB := zB_p (List.mem_of_getElem? (i := 48) rfl) rfl
theorem k3_1 : Cond.selects RX4 yX4_useOf yX4_useOf ∈ zB := zB_t (List.mem_append_right _ (List.mem_append_right _ (List.mem_append_right _ (List.mem_append_left _ (List.mem_of_getElem? (i := 1) rfl))))) rfl
theorem kp3_1 : Cond.selects RX12 yX12_valueOf yX12_valueOf ∈ zB := zB_p (List.mem_of_getElem? (i := 49) rfl) rfl
theorem k3_2 : Cond.code yX4_useOf cX4_useOf 2 (some .int) ∈ zB := zB_t (List.mem_append_right _ (List.mem_append_right _ (List.mem_append_right _ (List.mem_append_left _ (List.mem_of_getElem? (i := 2) rfl))))) rfl
theorem kp3_2 : Cond.selects RX12 yX12_plainValue yX12_plainValue ∈ zB := zB_p (List.mem_of_getElem? (i := 50) rfl) rfl
theorem k3_3 : Cond.methodLink RX11 164 yX4_keepersWith ∈ zB := zB_t (List.mem_append_right _ (List.mem_append_right _ (List.mem_append_right _ (List.mem_append_left _ (List.mem_of_getElem? (i := 3) rfl))))) rfl
theorem kp3_3 : Cond.selects RX12 yX12_year yX12_year ∈ zB := zB_p (List.mem_of_getElem? (i := 51) rfl) rfl
theorem k3_4 : Cond.methodLink RX11 167 yX4_knownBy ∈ zB := zB_t (List.mem_append_right _ (List.mem_append_right _ (List.mem_append_right _ (List.mem_append_left _ (List.mem_of_getElem? (i := 4) rfl))))) rfl
theorem kp3_4 : Cond.selects RX12 yX12_sellAll yX12_sellAll ∈ zB := zB_p (List.mem_of_getElem? (i := 52) rfl) rfl
theorem k3_5 : Cond.methodLink RX11 170 yX4_firstSale ∈ zB := zB_t (List.mem_append_right _ (List.mem_append_right _ (List.mem_append_right _ (List.mem_append_left _ (List.mem_of_getElem? (i := 5) rfl))))) rfl
theorem kp3_5 : Cond.selects RX12 yX12_has yX12_has ∈ zB := zB_p (List.mem_of_getElem? (i := 53) rfl) rfl
theorem k3_6 : Cond.instanceMethod yX4_firstSale ∈ zB := zB_t (List.mem_append_right _ (List.mem_append_right _ (List.mem_append_right _ (List.mem_append_left _ (List.mem_of_getElem? (i := 6) rfl))))) rfl
theorem kp3_6 : Cond.selects RX12 yX12_sells yX12_sells ∈ zB := zB_p (List.mem_of_getElem? (i := 54) rfl) rfl
theorem k3_7 : Cond.selects RX4 yX4_firstSale yX4_firstSale ∈ zB := zB_t (List.mem_append_right _ (List.mem_append_right _ (List.mem_append_right _ (List.mem_append_left _ (List.mem_of_getElem? (i := 7) rfl))))) rfl
theorem kp3_7 : Cond.selects RX12 yX12_isAboutTo yX12_isAboutTo ∈ zB := zB_p (List.mem_of_getElem? (i := 55) rfl) rfl
theorem k3_8 : Cond.code yX4_firstSale cX4_firstSale 2 (some .int) ∈ zB := zB_t (List.mem_append_right _ (List.mem_append_right _ (List.mem_append_right _ (List.mem_append_left _ (List.mem_of_getElem? (i := 8) rfl))))) rfl
theorem kp3_8 : Cond.selects RX12 yX12_hadBy yX12_hadBy ∈ zB := zB_p (List.mem_of_getElem? (i := 56) rfl) rfl
theorem k3_9 : Cond.methodLink RX11 173 yX4_hadBy ∈ zB := zB_t (List.mem_append_right _ (List.mem_append_right _ (List.mem_append_right _ (List.mem_append_left _ (List.mem_of_getElem? (i := 9) rfl))))) rfl
theorem kp3_9 : Cond.selects RX12 yX12_keepersOf yX12_keepersOf ∈ zB := zB_p (List.mem_of_getElem? (i := 57) rfl) rfl
theorem k3_10 : Cond.methodLink RX11 176 yX4_worthIn ∈ zB := zB_t (List.mem_append_right _ (List.mem_append_right _ (List.mem_append_right _ (List.mem_append_left _ (List.mem_of_getElem? (i := 10) rfl))))) rfl
theorem kp3_10 : Cond.selects RX12 yX12_worthFor yX12_worthFor ∈ zB := zB_p (List.mem_of_getElem? (i := 58) rfl) rfl
theorem kp3_11 : Cond.selects RX12 yX12_isKeeper yX12_isKeeper ∈ zB := zB_p (List.mem_of_getElem? (i := 59) rfl) rfl
theorem k3_11 : Cond.methodLink RL 69 yX11_alone ∈ zB := zB_t (List.mem_append_right _ (List.mem_append_right _ (List.mem_append_right _ (List.mem_append_left _ (List.mem_of_getElem? (i := 11) rfl))))) rfl
theorem kp3_12 : Cond.selects RX12 yX12_isPiece yX12_isPiece ∈ zB := zB_p (List.mem_of_getElem? (i := 60) rfl) rfl
theorem k3_12 : Cond.instanceMethod yX11_alone ∈ zB := zB_t (List.mem_append_right _ (List.mem_append_right _ (List.mem_append_right _ (List.mem_append_left _ (List.mem_of_getElem? (i := 12) rfl))))) rfl
theorem kp3_13 : Cond.selects RX12 yX12_piecesOf yX12_piecesOf ∈ zB := zB_p (List.mem_of_getElem? (i := 61) rfl) rfl
theorem k3_13 : Cond.selects RX11 yX11_alone yX11_alone ∈ zB := zB_t (List.mem_append_right _ (List.mem_append_right _ (List.mem_append_right _ (List.mem_append_left _ (List.mem_of_getElem? (i := 13) rfl))))) rfl
theorem kp3_14 : Cond.selects RX12 yX12_layAlone yX12_layAlone ∈ zB := zB_p (List.mem_of_getElem? (i := 62) rfl) rfl
theorem k3_14 : Cond.code yX11_alone cX11_alone 4 (some .int) ∈ zB := zB_t (List.mem_append_right _ (List.mem_append_right _ (List.mem_append_right _ (List.mem_append_left _ (List.mem_of_getElem? (i := 14) rfl))))) rfl
theorem k3_15 : Cond.methodLink RX11 182 yX2_valueAlone ∈ zB := zB_t (List.mem_append_right _ (List.mem_append_right _ (List.mem_append_right _ (List.mem_append_left _ (List.mem_of_getElem? (i := 15) rfl))))) rfl
theorem kp3_15 : Cond.selects RX12 yX12_askedSum yX12_askedSum ∈ zB := zB_p (List.mem_of_getElem? (i := 63) rfl) rfl
theorem k3_16 : Cond.static yX2_valueAlone ∈ zB := zB_t (List.mem_append_right _ (List.mem_append_right _ (List.mem_append_right _ (List.mem_append_left _ (List.mem_of_getElem? (i := 16) rfl))))) rfl
theorem k3_17 : Cond.code yX2_valueAlone cX2_valueAlone 5 (some .int) ∈ zB := zB_t (List.mem_append_right _ (List.mem_append_right _ (List.mem_append_right _ (List.mem_append_left _ (List.mem_of_getElem? (i := 17) rfl))))) rfl
theorem k3_18 : Cond.methodLink RX2 32 yX4_valueAt ∈ zB := zB_t (List.mem_append_right _ (List.mem_append_right _ (List.mem_append_right _ (List.mem_append_left _ (List.mem_of_getElem? (i := 18) rfl))))) rfl
theorem k3_19 : Cond.methodLink RX2 36 yX2_waitingAlone ∈ zB := zB_t (List.mem_append_right _ (List.mem_append_right _ (List.mem_append_right _ (List.mem_append_left _ (List.mem_of_getElem? (i := 19) rfl))))) rfl
theorem k3_20 : Cond.static yX2_waitingAlone ∈ zB := zB_t (List.mem_append_right _ (List.mem_append_right _ (List.mem_append_right _ (List.mem_append_left _ (List.mem_of_getElem? (i := 20) rfl))))) rfl
theorem k3_21 : Cond.code yX2_waitingAlone cX2_waitingAlone 3 (some .int) ∈ zB := zB_t (List.mem_append_right _ (List.mem_append_right _ (List.mem_append_right _ (List.mem_append_left _ (List.mem_of_getElem? (i := 21) rfl))))) rfl
theorem k3_22 : Cond.methodLink RX2 49 yX2_keptOf ∈ zB := zB_t (List.mem_append_right _ (List.mem_append_right _ (List.mem_append_right _ (List.mem_append_left _ (List.mem_of_getElem? (i := 22) rfl))))) rfl
theorem k3_23 : Cond.static yX2_keptOf ∈ zB := zB_t (List.mem_append_right _ (List.mem_append_right _ (List.mem_append_right _ (List.mem_append_left _ (List.mem_of_getElem? (i := 23) rfl))))) rfl
theorem k3_24 : Cond.code yX2_keptOf cX2_keptOf 4 (some .int) ∈ zB := zB_t (List.mem_append_right _ (List.mem_append_right _ (List.mem_append_right _ (List.mem_append_left _ (List.mem_of_getElem? (i := 24) rfl))))) rfl
theorem k3_25 : Cond.methodLink RX2 40 Lib.Math.max.name ∈ zB := zB_t (List.mem_append_right _ (List.mem_append_right _ (List.mem_append_right _ (List.mem_append_left _ (List.mem_of_getElem? (i := 25) rfl))))) rfl
theorem k3_26 : Cond.methodLink RX11 186 yX2_whenAlone ∈ zB := zB_t (List.mem_append_right _ (List.mem_append_right _ (List.mem_append_right _ (List.mem_append_left _ (List.mem_of_getElem? (i := 26) rfl))))) rfl
theorem k3_27 : Cond.static yX2_whenAlone ∈ zB := zB_t (List.mem_append_right _ (List.mem_append_right _ (List.mem_append_right _ (List.mem_append_left _ (List.mem_of_getElem? (i := 27) rfl))))) rfl
theorem k3_28 : Cond.code yX2_whenAlone cX2_whenAlone 8 (some .int) ∈ zB := zB_t (List.mem_append_right _ (List.mem_append_right _ (List.mem_append_right _ (List.mem_append_left _ (List.mem_of_getElem? (i := 28) rfl))))) rfl
theorem k3_29 : Cond.methodLink RL 73 yX11_best ∈ zB := zB_t (List.mem_append_right _ (List.mem_append_right _ (List.mem_append_right _ (List.mem_append_left _ (List.mem_of_getElem? (i := 29) rfl))))) rfl
theorem k3_30 : Cond.instanceMethod yX11_best ∈ zB := zB_t (List.mem_append_right _ (List.mem_append_right _ (List.mem_append_right _ (List.mem_append_left _ (List.mem_of_getElem? (i := 30) rfl))))) rfl
theorem k3_31 : Cond.selects RX11 yX11_best yX11_best ∈ zB := zB_t (List.mem_append_right _ (List.mem_append_right _ (List.mem_append_right _ (List.mem_append_left _ (List.mem_of_getElem? (i := 31) rfl))))) rfl
theorem k3_32 : Cond.code yX11_best cX11_best 2 (some .int) ∈ zB := zB_t (List.mem_append_right _ (List.mem_append_right _ (List.mem_append_right _ (List.mem_append_left _ (List.mem_of_getElem? (i := 32) rfl))))) rfl
theorem k3_33 : Cond.methodLink RX11 189 yX2_bestCopies ∈ zB := zB_t (List.mem_append_right _ (List.mem_append_right _ (List.mem_append_right _ (List.mem_append_left _ (List.mem_of_getElem? (i := 33) rfl))))) rfl
theorem k3_34 : Cond.static yX2_bestCopies ∈ zB := zB_t (List.mem_append_right _ (List.mem_append_right _ (List.mem_append_right _ (List.mem_append_left _ (List.mem_of_getElem? (i := 34) rfl))))) rfl
theorem k3_35 : Cond.code yX2_bestCopies cX2_bestCopies 6 (some .int) ∈ zB := zB_t (List.mem_append_right _ (List.mem_append_right _ (List.mem_append_right _ (List.mem_append_left _ (List.mem_of_getElem? (i := 35) rfl))))) rfl
theorem k3_36 : Cond.methodLink RX2 55 yX2_valueAlone ∈ zB := zB_t (List.mem_append_right _ (List.mem_append_right _ (List.mem_append_right _ (List.mem_append_left _ (List.mem_of_getElem? (i := 36) rfl))))) rfl
theorem k3_37 : Cond.methodLink RL 77 yX11_two ∈ zB := zB_t (List.mem_append_right _ (List.mem_append_right _ (List.mem_append_right _ (List.mem_append_left _ (List.mem_of_getElem? (i := 37) rfl))))) rfl
theorem k3_38 : Cond.instanceMethod yX11_two ∈ zB := zB_t (List.mem_append_right _ (List.mem_append_right _ (List.mem_append_right _ (List.mem_append_left _ (List.mem_of_getElem? (i := 38) rfl))))) rfl
theorem k3_39 : Cond.selects RX11 yX11_two yX11_two ∈ zB := zB_t (List.mem_append_right _ (List.mem_append_right _ (List.mem_append_right _ (List.mem_append_left _ (List.mem_of_getElem? (i := 39) rfl))))) rfl
theorem k3_40 : Cond.code yX11_two cX11_two 4 (some .int) ∈ zB := zB_t (List.mem_append_right _ (List.mem_append_right _ (List.mem_append_right _ (List.mem_append_left _ (List.mem_of_getElem? (i := 40) rfl))))) rfl
theorem k3_41 : Cond.methodLink RX11 193 yX2_ofTwo ∈ zB := zB_t (List.mem_append_right _ (List.mem_append_right _ (List.mem_append_right _ (List.mem_append_left _ (List.mem_of_getElem? (i := 41) rfl))))) rfl
theorem k3_42 : Cond.static yX2_ofTwo ∈ zB := zB_t (List.mem_append_right _ (List.mem_append_right _ (List.mem_append_right _ (List.mem_append_left _ (List.mem_of_getElem? (i := 42) rfl))))) rfl
theorem k3_43 : Cond.code yX2_ofTwo cX2_ofTwo 12 (some .int) ∈ zB := zB_t (List.mem_append_right _ (List.mem_append_right _ (List.mem_append_right _ (List.mem_append_left _ (List.mem_of_getElem? (i := 43) rfl))))) rfl
theorem k3_44 : Cond.methodLink RL 81 yX11_think ∈ zB := zB_t (List.mem_append_right _ (List.mem_append_right _ (List.mem_append_right _ (List.mem_append_left _ (List.mem_of_getElem? (i := 44) rfl))))) rfl
theorem k3_45 : Cond.instanceMethod yX11_think ∈ zB := zB_t (List.mem_append_right _ (List.mem_append_right _ (List.mem_append_right _ (List.mem_append_left _ (List.mem_of_getElem? (i := 45) rfl))))) rfl
theorem k3_46 : Cond.selects RX11 yX11_think yX11_think ∈ zB := zB_t (List.mem_append_right _ (List.mem_append_right _ (List.mem_append_right _ (List.mem_append_left _ (List.mem_of_getElem? (i := 46) rfl))))) rfl
theorem k3_47 : Cond.code yX11_think cX11_think 4 (some .int) ∈ zB := zB_t (List.mem_append_right _ (List.mem_append_right _ (List.mem_append_right _ (List.mem_append_left _ (List.mem_of_getElem? (i := 47) rfl))))) rfl
theorem k3_48 : Cond.methodLink RX11 197 yX2_thought ∈ zB := zB_t (List.mem_append_right _ (List.mem_append_right _ (List.mem_append_right _ (List.mem_append_left _ (List.mem_of_getElem? (i := 48) rfl))))) rfl
theorem k3_49 : Cond.static yX2_thought ∈ zB := zB_t (List.mem_append_right _ (List.mem_append_right _ (List.mem_append_right _ (List.mem_append_left _ (List.mem_of_getElem? (i := 49) rfl))))) rfl
theorem k3_50 : Cond.code yX2_thought cX2_thought 6 (some .int) ∈ zB := zB_t (List.mem_append_right _ (List.mem_append_right _ (List.mem_append_right _ (List.mem_append_left _ (List.mem_of_getElem? (i := 50) rfl))))) rfl
theorem k3_51 : Cond.methodLink RL 85 yX11_lostUse ∈ zB := zB_t (List.mem_append_right _ (List.mem_append_right _ (List.mem_append_right _ (List.mem_append_left _ (List.mem_of_getElem? (i := 51) rfl))))) rfl
theorem k3_52 : Cond.instanceMethod yX11_lostUse ∈ zB := zB_t (List.mem_append_right _ (List.mem_append_right _ (List.mem_append_right _ (List.mem_append_left _ (List.mem_of_getElem? (i := 52) rfl))))) rfl
theorem k3_53 : Cond.selects RX11 yX11_lostUse yX11_lostUse ∈ zB := zB_t (List.mem_append_right _ (List.mem_append_right _ (List.mem_append_right _ (List.mem_append_left _ (List.mem_of_getElem? (i := 53) rfl))))) rfl
theorem k3_54 : Cond.code yX11_lostUse cX11_lostUse 4 (some .int) ∈ zB := zB_t (List.mem_append_right _ (List.mem_append_right _ (List.mem_append_right _ (List.mem_append_left _ (List.mem_of_getElem? (i := 54) rfl))))) rfl
theorem k3_55 : Cond.methodLink RL 89 yX11_silence ∈ zB := zB_t (List.mem_append_right _ (List.mem_append_right _ (List.mem_append_right _ (List.mem_append_left _ (List.mem_of_getElem? (i := 55) rfl))))) rfl
theorem k3_56 : Cond.instanceMethod yX11_silence ∈ zB := zB_t (List.mem_append_right _ (List.mem_append_right _ (List.mem_append_right _ (List.mem_append_left _ (List.mem_of_getElem? (i := 56) rfl))))) rfl
theorem k3_57 : Cond.selects RX11 yX11_silence yX11_silence ∈ zB := zB_t (List.mem_append_right _ (List.mem_append_right _ (List.mem_append_right _ (List.mem_append_left _ (List.mem_of_getElem? (i := 57) rfl))))) rfl
theorem k3_58 : Cond.code yX11_silence cX11_silence 8 (some .int) ∈ zB := zB_t (List.mem_append_right _ (List.mem_append_right _ (List.mem_append_right _ (List.mem_append_left _ (List.mem_of_getElem? (i := 58) rfl))))) rfl
theorem k3_59 : Cond.methodLink RL 93 yX11_corner ∈ zB := zB_t (List.mem_append_right _ (List.mem_append_right _ (List.mem_append_right _ (List.mem_append_left _ (List.mem_of_getElem? (i := 59) rfl))))) rfl
theorem k3_60 : Cond.instanceMethod yX11_corner ∈ zB := zB_t (List.mem_append_right _ (List.mem_append_right _ (List.mem_append_right _ (List.mem_append_left _ (List.mem_of_getElem? (i := 60) rfl))))) rfl
theorem k3_61 : Cond.selects RX11 yX11_corner yX11_corner ∈ zB := zB_t (List.mem_append_right _ (List.mem_append_right _ (List.mem_append_right _ (List.mem_append_left _ (List.mem_of_getElem? (i := 61) rfl))))) rfl
theorem k3_62 : Cond.code yX11_corner cX11_corner 5 (some .int) ∈ zB := zB_t (List.mem_append_right _ (List.mem_append_right _ (List.mem_append_right _ (List.mem_append_left _ (List.mem_of_getElem? (i := 62) rfl))))) rfl
theorem k3_63 : Cond.methodLink RX11 200 yX2_findCorner ∈ zB := zB_t (List.mem_append_right _ (List.mem_append_right _ (List.mem_append_right _ (List.mem_append_left _ (List.mem_of_getElem? (i := 63) rfl))))) rfl
theorem k3_64 : Cond.instanceMethod yX2_findCorner ∈ zB := zB_t (List.mem_append_right _ (List.mem_append_right _ (List.mem_append_right _ (List.mem_append_left _ (List.mem_of_getElem? (i := 64) rfl))))) rfl
theorem k3_65 : Cond.selects RX2 yX2_findCorner yX2_findCorner ∈ zB := zB_t (List.mem_append_right _ (List.mem_append_right _ (List.mem_append_right _ (List.mem_append_left _ (List.mem_of_getElem? (i := 65) rfl))))) rfl
theorem k3_66 : Cond.code yX2_findCorner cX2_findCorner 8 none ∈ zB := zB_t (List.mem_append_right _ (List.mem_append_right _ (List.mem_append_right _ (List.mem_append_left _ (List.mem_of_getElem? (i := 66) rfl))))) rfl
theorem k3_67 : Cond.methodLink RX2 60 yX4_hadBy ∈ zB := zB_t (List.mem_append_right _ (List.mem_append_right _ (List.mem_append_right _ (List.mem_append_left _ (List.mem_of_getElem? (i := 67) rfl))))) rfl
theorem k3_68 : Cond.methodLink RX2 63 yX4_worthIn ∈ zB := zB_t (List.mem_append_right _ (List.mem_append_right _ (List.mem_append_right _ (List.mem_append_left _ (List.mem_of_getElem? (i := 68) rfl))))) rfl
theorem k3_69 : Cond.methodLink RX2 66 yX2_listBuyable ∈ zB := zB_t (List.mem_append_right _ (List.mem_append_right _ (List.mem_append_right _ (List.mem_append_left _ (List.mem_of_getElem? (i := 69) rfl))))) rfl
theorem k3_71 : Cond.instanceMethod yX2_listBuyable ∈ zB := zB_t (List.mem_append_right _ (List.mem_append_right _ (List.mem_append_right _ (List.mem_append_left _ (List.mem_of_getElem? (i := 71) rfl))))) rfl
theorem k3_72 : Cond.code yX2_listBuyable cX2_listBuyable 5 none ∈ zB := zB_t (List.mem_append_right _ (List.mem_append_right _ (List.mem_append_right _ (List.mem_append_left _ (List.mem_of_getElem? (i := 72) rfl))))) rfl
theorem k3_73 : Cond.methodLink RX2 91 yX4_countOf ∈ zB := zB_t (List.mem_append_right _ (List.mem_append_right _ (List.mem_append_right _ (List.mem_append_left _ (List.mem_of_getElem? (i := 73) rfl))))) rfl
theorem k3_74 : Cond.methodLink RX2 70 yX2_sumOf ∈ zB := zB_t (List.mem_append_right _ (List.mem_append_right _ (List.mem_append_right _ (List.mem_append_left _ (List.mem_of_getElem? (i := 74) rfl))))) rfl
theorem k3_76 : Cond.instanceMethod yX2_sumOf ∈ zB := zB_t (List.mem_append_right _ (List.mem_append_right _ (List.mem_append_right _ (List.mem_append_left _ (List.mem_of_getElem? (i := 76) rfl))))) rfl
theorem k3_77 : Cond.code yX2_sumOf cX2_sumOf 6 (some .int) ∈ zB := zB_t (List.mem_append_right _ (List.mem_append_right _ (List.mem_append_right _ (List.mem_append_left _ (List.mem_of_getElem? (i := 77) rfl))))) rfl
theorem k3_78 : Cond.methodLink RX2 100 yX4_keeperAt ∈ zB := zB_t (List.mem_append_right _ (List.mem_append_right _ (List.mem_append_right _ (List.mem_append_left _ (List.mem_of_getElem? (i := 78) rfl))))) rfl
theorem k3_79 : Cond.methodLink RX2 74 yX2_keepOrder ∈ zB := zB_t (List.mem_append_right _ (List.mem_append_right _ (List.mem_append_right _ (List.mem_append_left _ (List.mem_of_getElem? (i := 79) rfl))))) rfl
theorem k3_81 : Cond.instanceMethod yX2_keepOrder ∈ zB := zB_t (List.mem_append_right _ (List.mem_append_right _ (List.mem_append_right _ (List.mem_append_left _ (List.mem_of_getElem? (i := 81) rfl))))) rfl
theorem k3_82 : Cond.code yX2_keepOrder cX2_keepOrder 2 none ∈ zB := zB_t (List.mem_append_right _ (List.mem_append_right _ (List.mem_append_right _ (List.mem_append_left _ (List.mem_of_getElem? (i := 82) rfl))))) rfl
theorem k3_83 : Cond.methodLink RX2 94 arraycopyName ∈ zB := zB_t (List.mem_append_right _ (List.mem_append_right _ (List.mem_append_right _ (List.mem_append_left _ (List.mem_of_getElem? (i := 83) rfl))))) rfl
theorem k3_84 : Cond.methodLink RX2 78 yX2_stepOrder ∈ zB := zB_t (List.mem_append_right _ (List.mem_append_right _ (List.mem_append_right _ (List.mem_append_left _ (List.mem_of_getElem? (i := 84) rfl))))) rfl
theorem k3_86 : Cond.instanceMethod yX2_stepOrder ∈ zB := zB_t (List.mem_append_right _ (List.mem_append_right _ (List.mem_append_right _ (List.mem_append_left _ (List.mem_of_getElem? (i := 86) rfl))))) rfl
theorem k3_87 : Cond.code yX2_stepOrder cX2_stepOrder 5 (some .boolean) ∈ zB := zB_t (List.mem_append_right _ (List.mem_append_right _ (List.mem_append_right _ (List.mem_append_left _ (List.mem_of_getElem? (i := 87) rfl))))) rfl
theorem k3_88 : Cond.methodLink RX2 109 yX2_swap ∈ zB := zB_t (List.mem_append_right _ (List.mem_append_right _ (List.mem_append_right _ (List.mem_append_left _ (List.mem_of_getElem? (i := 88) rfl))))) rfl
theorem k3_90 : Cond.instanceMethod yX2_swap ∈ zB := zB_t (List.mem_append_right _ (List.mem_append_right _ (List.mem_append_right _ (List.mem_append_left _ (List.mem_of_getElem? (i := 90) rfl))))) rfl
theorem k3_91 : Cond.code yX2_swap cX2_swap 4 none ∈ zB := zB_t (List.mem_append_right _ (List.mem_append_right _ (List.mem_append_right _ (List.mem_append_left _ (List.mem_of_getElem? (i := 91) rfl))))) rfl
theorem k3_92 : Cond.methodLink RX11 207 yX2_boughtAt ∈ zB := zB_t (List.mem_append_right _ (List.mem_append_right _ (List.mem_append_right _ (List.mem_append_left _ (List.mem_of_getElem? (i := 92) rfl))))) rfl
theorem k3_93 : Cond.instanceMethod yX2_boughtAt ∈ zB := zB_t (List.mem_append_right _ (List.mem_append_right _ (List.mem_append_right _ (List.mem_append_left _ (List.mem_of_getElem? (i := 93) rfl))))) rfl
theorem k3_94 : Cond.selects RX2 yX2_boughtAt yX2_boughtAt ∈ zB := zB_t (List.mem_append_right _ (List.mem_append_right _ (List.mem_append_right _ (List.mem_append_left _ (List.mem_of_getElem? (i := 94) rfl))))) rfl
theorem k3_95 : Cond.code yX2_boughtAt cX2_boughtAt 2 (some .int) ∈ zB := zB_t (List.mem_append_right _ (List.mem_append_right _ (List.mem_append_right _ (List.mem_append_left _ (List.mem_of_getElem? (i := 95) rfl))))) rfl
theorem k3_96 : Cond.constant RX2 58 (-1000000) ∈ zB := zB_t (List.mem_append_right _ (List.mem_append_right _ (List.mem_append_right _ (List.mem_append_left _ (List.mem_of_getElem? (i := 96) rfl))))) rfl
theorem k3_97 : Cond.methodLink RL 98 yX11_make ∈ zB := zB_t (List.mem_append_right _ (List.mem_append_right _ (List.mem_append_right _ (List.mem_append_left _ (List.mem_of_getElem? (i := 97) rfl))))) rfl
theorem k3_98 : Cond.instanceMethod yX11_make ∈ zB := zB_t (List.mem_append_right _ (List.mem_append_right _ (List.mem_append_right _ (List.mem_append_left _ (List.mem_of_getElem? (i := 98) rfl))))) rfl
theorem k3_99 : Cond.selects RX11 yX11_make yX11_make ∈ zB := zB_t (List.mem_append_right _ (List.mem_append_right _ (List.mem_append_right _ (List.mem_append_left _ (List.mem_of_getElem? (i := 99) rfl))))) rfl
theorem k3_100 : Cond.code yX11_make cX11_make 5 (some .int) ∈ zB := zB_t (List.mem_append_right _ (List.mem_append_right _ (List.mem_append_right _ (List.mem_append_left _ (List.mem_of_getElem? (i := 100) rfl))))) rfl
theorem k3_101 : Cond.constant RX11 210 (99999) ∈ zB := zB_t (List.mem_append_right _ (List.mem_append_right _ (List.mem_append_right _ (List.mem_append_left _ (List.mem_of_getElem? (i := 101) rfl))))) rfl
theorem k3_102 : Cond.methodLink RX11 211 yX2_edge ∈ zB := zB_t (List.mem_append_right _ (List.mem_append_right _ (List.mem_append_right _ (List.mem_append_left _ (List.mem_of_getElem? (i := 102) rfl))))) rfl
theorem k3_103 : Cond.static yX2_edge ∈ zB := zB_t (List.mem_append_right _ (List.mem_append_right _ (List.mem_append_right _ (List.mem_append_left _ (List.mem_of_getElem? (i := 103) rfl))))) rfl
theorem k3_104 : Cond.code yX2_edge cX2_edge 3 (some .int) ∈ zB := zB_t (List.mem_append_right _ (List.mem_append_right _ (List.mem_append_right _ (List.mem_append_left _ (List.mem_of_getElem? (i := 104) rfl))))) rfl
theorem k3_105 : Cond.constant RX2 59 (99999) ∈ zB := zB_t (List.mem_append_right _ (List.mem_append_right _ (List.mem_append_right _ (List.mem_append_left _ (List.mem_of_getElem? (i := 105) rfl))))) rfl
theorem k3_106 : Cond.methodLink RL 102 yX11_fit ∈ zB := zB_t (List.mem_append_right _ (List.mem_append_right _ (List.mem_append_right _ (List.mem_append_left _ (List.mem_of_getElem? (i := 106) rfl))))) rfl
theorem k3_107 : Cond.instanceMethod yX11_fit ∈ zB := zB_t (List.mem_append_right _ (List.mem_append_right _ (List.mem_append_right _ (List.mem_append_left _ (List.mem_of_getElem? (i := 107) rfl))))) rfl
theorem k3_108 : Cond.selects RX11 yX11_fit yX11_fit ∈ zB := zB_t (List.mem_append_right _ (List.mem_append_right _ (List.mem_append_right _ (List.mem_append_left _ (List.mem_of_getElem? (i := 108) rfl))))) rfl
theorem k3_109 : Cond.code yX11_fit cX11_fit 3 (some .int) ∈ zB := zB_t (List.mem_append_right _ (List.mem_append_right _ (List.mem_append_right _ (List.mem_append_left _ (List.mem_of_getElem? (i := 109) rfl))))) rfl
theorem k3_110 : Cond.methodLink RX11 214 yX2_takeYears ∈ zB := zB_t (List.mem_append_right _ (List.mem_append_right _ (List.mem_append_right _ (List.mem_append_left _ (List.mem_of_getElem? (i := 110) rfl))))) rfl
theorem k3_111 : Cond.instanceMethod yX2_takeYears ∈ zB := zB_t (List.mem_append_right _ (List.mem_append_right _ (List.mem_append_right _ (List.mem_append_left _ (List.mem_of_getElem? (i := 111) rfl))))) rfl
theorem k3_112 : Cond.selects RX2 yX2_takeYears yX2_takeYears ∈ zB := zB_t (List.mem_append_right _ (List.mem_append_right _ (List.mem_append_right _ (List.mem_append_left _ (List.mem_of_getElem? (i := 112) rfl))))) rfl
theorem k3_113 : Cond.code yX2_takeYears cX2_takeYears 6 (some .boolean) ∈ zB := zB_t (List.mem_append_right _ (List.mem_append_right _ (List.mem_append_right _ (List.mem_append_left _ (List.mem_of_getElem? (i := 113) rfl))))) rfl
theorem k3_114 : Cond.methodLink RX2 116 yX7_itemAt ∈ zB := zB_t (List.mem_append_right _ (List.mem_append_right _ (List.mem_append_right _ (List.mem_append_left _ (List.mem_of_getElem? (i := 114) rfl))))) rfl
theorem k3_115 : Cond.instanceMethod yX7_itemAt ∈ zB := zB_t (List.mem_append_right _ (List.mem_append_right _ (List.mem_append_right _ (List.mem_append_left _ (List.mem_of_getElem? (i := 115) rfl))))) rfl
theorem k3_116 : Cond.selects RX7 yX7_itemAt yX7_itemAt ∈ zB := zB_t (List.mem_append_right _ (List.mem_append_right _ (List.mem_append_right _ (List.mem_append_left _ (List.mem_of_getElem? (i := 116) rfl))))) rfl
theorem k3_117 : Cond.code yX7_itemAt cX7_itemAt 3 (some .int) ∈ zB := zB_t (List.mem_append_right _ (List.mem_append_right _ (List.mem_append_right _ (List.mem_append_left _ (List.mem_of_getElem? (i := 117) rfl))))) rfl
theorem k3_118 : Cond.methodLink RX11 218 yX2_countFits ∈ zB := zB_t (List.mem_append_right _ (List.mem_append_right _ (List.mem_append_right _ (List.mem_append_left _ (List.mem_of_getElem? (i := 118) rfl))))) rfl
theorem k3_119 : Cond.instanceMethod yX2_countFits ∈ zB := zB_t (List.mem_append_right _ (List.mem_append_right _ (List.mem_append_right _ (List.mem_append_left _ (List.mem_of_getElem? (i := 119) rfl))))) rfl
theorem k3_120 : Cond.selects RX2 yX2_countFits yX2_countFits ∈ zB := zB_t (List.mem_append_right _ (List.mem_append_right _ (List.mem_append_right _ (List.mem_append_left _ (List.mem_of_getElem? (i := 120) rfl))))) rfl
theorem k3_121 : Cond.code yX2_countFits cX2_countFits 4 (some .int) ∈ zB := zB_t (List.mem_append_right _ (List.mem_append_right _ (List.mem_append_right _ (List.mem_append_left _ (List.mem_of_getElem? (i := 121) rfl))))) rfl
theorem k3_122 : Cond.methodLink RX2 121 yX4_takeFrom ∈ zB := zB_t (List.mem_append_right _ (List.mem_append_right _ (List.mem_append_right _ (List.mem_append_left _ (List.mem_of_getElem? (i := 122) rfl))))) rfl
theorem k3_123 : Cond.instanceMethod yX4_takeFrom ∈ zB := zB_t (List.mem_append_right _ (List.mem_append_right _ (List.mem_append_right _ (List.mem_append_left _ (List.mem_of_getElem? (i := 123) rfl))))) rfl
theorem k3_124 : Cond.selects RX4 yX4_takeFrom yX4_takeFrom ∈ zB := zB_t (List.mem_append_right _ (List.mem_append_right _ (List.mem_append_right _ (List.mem_append_left _ (List.mem_of_getElem? (i := 124) rfl))))) rfl
theorem k3_125 : Cond.code yX4_takeFrom cX4_takeFrom 3 none ∈ zB := zB_t (List.mem_append_right _ (List.mem_append_right _ (List.mem_append_right _ (List.mem_append_left _ (List.mem_of_getElem? (i := 125) rfl))))) rfl
theorem k3_126 : Cond.methodLink RX4 90 arraycopyName ∈ zB := zB_t (List.mem_append_right _ (List.mem_append_right _ (List.mem_append_right _ (List.mem_append_left _ (List.mem_of_getElem? (i := 126) rfl))))) rfl
theorem k3_127 : Cond.methodLink RX2 125 yX2_isFit ∈ zB := zB_t (List.mem_append_right _ (List.mem_append_right _ (List.mem_append_right _ (List.mem_append_left _ (List.mem_of_getElem? (i := 127) rfl))))) rfl
theorem k3_129 : Cond.instanceMethod yX2_isFit ∈ zB := zB_t (List.mem_append_right _ (List.mem_append_right _ (List.mem_append_right _ (List.mem_append_left _ (List.mem_of_getElem? (i := 129) rfl))))) rfl
theorem k3_130 : Cond.code yX2_isFit cX2_isFit 3 (some .boolean) ∈ zB := zB_t (List.mem_append_right _ (List.mem_append_right _ (List.mem_append_right _ (List.mem_append_left _ (List.mem_of_getElem? (i := 130) rfl))))) rfl
theorem k3_131 : Cond.methodLink RX2 129 yX4_beginWith ∈ zB := zB_t (List.mem_append_right _ (List.mem_append_right _ (List.mem_append_right _ (List.mem_append_left _ (List.mem_of_getElem? (i := 131) rfl))))) rfl
theorem k3_132 : Cond.instanceMethod yX4_beginWith ∈ zB := zB_t (List.mem_append_right _ (List.mem_append_right _ (List.mem_append_right _ (List.mem_append_left _ (List.mem_of_getElem? (i := 132) rfl))))) rfl
theorem k3_133 : Cond.selects RX4 yX4_beginWith yX4_beginWith ∈ zB := zB_t (List.mem_append_right _ (List.mem_append_right _ (List.mem_append_right _ (List.mem_append_left _ (List.mem_of_getElem? (i := 133) rfl))))) rfl
theorem k3_134 : Cond.code yX4_beginWith cX4_beginWith 2 none ∈ zB := zB_t (List.mem_append_right _ (List.mem_append_right _ (List.mem_append_right _ (List.mem_append_left _ (List.mem_of_getElem? (i := 134) rfl))))) rfl
theorem k3_135 : Cond.methodLink RX4 72 yX4_begin ∈ zB := zB_t (List.mem_append_right _ (List.mem_append_right _ (List.mem_append_right _ (List.mem_append_left _ (List.mem_of_getElem? (i := 135) rfl))))) rfl
theorem k3_136 : Cond.methodLink RX2 132 yX4_sellAll ∈ zB := zB_t (List.mem_append_right _ (List.mem_append_right _ (List.mem_append_right _ (List.mem_append_left _ (List.mem_of_getElem? (i := 136) rfl))))) rfl
theorem k3_137 : Cond.methodLink RX2 135 yX2_hasSoldJustSo ∈ zB := zB_t (List.mem_append_right _ (List.mem_append_right _ (List.mem_append_right _ (List.mem_append_left _ (List.mem_of_getElem? (i := 137) rfl))))) rfl
theorem k3_139 : Cond.instanceMethod yX2_hasSoldJustSo ∈ zB := zB_t (List.mem_append_right _ (List.mem_append_right _ (List.mem_append_right _ (List.mem_append_left _ (List.mem_of_getElem? (i := 139) rfl))))) rfl
theorem k3_140 : Cond.code yX2_hasSoldJustSo cX2_hasSoldJustSo 4 (some .boolean) ∈ zB := zB_t (List.mem_append_right _ (List.mem_append_right _ (List.mem_append_right _ (List.mem_append_left _ (List.mem_of_getElem? (i := 140) rfl))))) rfl
theorem k3_141 : Cond.methodLink RX2 141 yX4_soldBy ∈ zB := zB_t (List.mem_append_right _ (List.mem_append_right _ (List.mem_append_right _ (List.mem_append_left _ (List.mem_of_getElem? (i := 141) rfl))))) rfl
theorem k3_142 : Cond.methodLink RX11 222 yX2_fitAt ∈ zB := zB_t (List.mem_append_right _ (List.mem_append_right _ (List.mem_append_right _ (List.mem_append_left _ (List.mem_of_getElem? (i := 142) rfl))))) rfl
theorem k3_143 : Cond.instanceMethod yX2_fitAt ∈ zB := zB_t (List.mem_append_right _ (List.mem_append_right _ (List.mem_append_right _ (List.mem_append_left _ (List.mem_of_getElem? (i := 143) rfl))))) rfl
theorem k3_144 : Cond.selects RX2 yX2_fitAt yX2_fitAt ∈ zB := zB_t (List.mem_append_right _ (List.mem_append_right _ (List.mem_append_right _ (List.mem_append_left _ (List.mem_of_getElem? (i := 144) rfl))))) rfl
theorem k3_145 : Cond.code yX2_fitAt cX2_fitAt 5 (some .int) ∈ zB := zB_t (List.mem_append_right _ (List.mem_append_right _ (List.mem_append_right _ (List.mem_append_left _ (List.mem_of_getElem? (i := 145) rfl))))) rfl
theorem k3_146 : Cond.methodLink RL 106 yX11_laws ∈ zB := zB_t (List.mem_append_right _ (List.mem_append_right _ (List.mem_append_right _ (List.mem_append_left _ (List.mem_of_getElem? (i := 146) rfl))))) rfl
theorem k3_147 : Cond.instanceMethod yX11_laws ∈ zB := zB_t (List.mem_append_right _ (List.mem_append_right _ (List.mem_append_right _ (List.mem_append_left _ (List.mem_of_getElem? (i := 147) rfl))))) rfl
theorem k3_148 : Cond.selects RX11 yX11_laws yX11_laws ∈ zB := zB_t (List.mem_append_right _ (List.mem_append_right _ (List.mem_append_right _ (List.mem_append_left _ (List.mem_of_getElem? (i := 148) rfl))))) rfl
theorem k3_149 : Cond.code yX11_laws cX11_laws 2 (some .int) ∈ zB := zB_t (List.mem_append_right _ (List.mem_append_right _ (List.mem_append_right _ (List.mem_append_left _ (List.mem_of_getElem? (i := 149) rfl))))) rfl
theorem k3_150 : Cond.methodLink RX11 225 yX2_earnedByLaw ∈ zB := zB_t (List.mem_append_right _ (List.mem_append_right _ (List.mem_append_right _ (List.mem_append_left _ (List.mem_of_getElem? (i := 150) rfl))))) rfl
theorem k3_151 : Cond.instanceMethod yX2_earnedByLaw ∈ zB := zB_t (List.mem_append_right _ (List.mem_append_right _ (List.mem_append_right _ (List.mem_append_left _ (List.mem_of_getElem? (i := 151) rfl))))) rfl
theorem k3_152 : Cond.selects RX2 yX2_earnedByLaw yX2_earnedByLaw ∈ zB := zB_t (List.mem_append_right _ (List.mem_append_right _ (List.mem_append_right _ (List.mem_append_left _ (List.mem_of_getElem? (i := 152) rfl))))) rfl
theorem k3_153 : Cond.code yX2_earnedByLaw cX2_earnedByLaw 3 (some .int) ∈ zB := zB_t (List.mem_append_right _ (List.mem_append_right _ (List.mem_append_right _ (List.mem_append_left _ (List.mem_of_getElem? (i := 153) rfl))))) rfl
theorem k3_154 : Cond.methodLink RX2 147 yX4_begin ∈ zB := zB_t (List.mem_append_right _ (List.mem_append_right _ (List.mem_append_right _ (List.mem_append_left _ (List.mem_of_getElem? (i := 154) rfl))))) rfl
theorem k3_155 : Cond.methodLink RX2 150 yX4_passYears ∈ zB := zB_t (List.mem_append_right _ (List.mem_append_right _ (List.mem_append_right _ (List.mem_append_left _ (List.mem_of_getElem? (i := 155) rfl))))) rfl
theorem k3_156 : Cond.methodLink RX2 153 yX4_earnedByAll ∈ zB := zB_t (List.mem_append_right _ (List.mem_append_right _ (List.mem_append_right _ (List.mem_append_left _ (List.mem_of_getElem? (i := 156) rfl))))) rfl
theorem k3_157 : Cond.instanceMethod yX4_earnedByAll ∈ zB := zB_t (List.mem_append_right _ (List.mem_append_right _ (List.mem_append_right _ (List.mem_append_left _ (List.mem_of_getElem? (i := 157) rfl))))) rfl
theorem k3_158 : Cond.selects RX4 yX4_earnedByAll yX4_earnedByAll ∈ zB := zB_t (List.mem_append_right _ (List.mem_append_right _ (List.mem_append_right _ (List.mem_append_left _ (List.mem_of_getElem? (i := 158) rfl))))) rfl
theorem k3_159 : Cond.code yX4_earnedByAll cX4_earnedByAll 3 (some .int) ∈ zB := zB_t (List.mem_append_right _ (List.mem_append_right _ (List.mem_append_right _ (List.mem_append_left _ (List.mem_of_getElem? (i := 159) rfl))))) rfl
theorem k3_160 : Cond.methodLink RX4 126 yX4_earnedBy ∈ zB := zB_t (List.mem_append_right _ (List.mem_append_right _ (List.mem_append_right _ (List.mem_append_left _ (List.mem_of_getElem? (i := 160) rfl))))) rfl
theorem k3_161 : Cond.methodLink RL 110 yX11_image ∈ zB := zB_t (List.mem_append_right _ (List.mem_append_right _ (List.mem_append_right _ (List.mem_append_left _ (List.mem_of_getElem? (i := 161) rfl))))) rfl
theorem k3_162 : Cond.instanceMethod yX11_image ∈ zB := zB_t (List.mem_append_right _ (List.mem_append_right _ (List.mem_append_right _ (List.mem_append_left _ (List.mem_of_getElem? (i := 162) rfl))))) rfl
theorem k3_163 : Cond.selects RX11 yX11_image yX11_image ∈ zB := zB_t (List.mem_append_right _ (List.mem_append_right _ (List.mem_append_right _ (List.mem_append_left _ (List.mem_of_getElem? (i := 163) rfl))))) rfl
theorem k3_164 : Cond.code yX11_image cX11_image 2 (some .int) ∈ zB := zB_t (List.mem_append_right _ (List.mem_append_right _ (List.mem_append_right _ (List.mem_append_left _ (List.mem_of_getElem? (i := 164) rfl))))) rfl
theorem k3_165 : Cond.methodLink RX11 228 yX11_imageAt ∈ zB := zB_t (List.mem_append_right _ (List.mem_append_right _ (List.mem_append_right _ (List.mem_append_left _ (List.mem_of_getElem? (i := 165) rfl))))) rfl
theorem k3_167 : Cond.instanceMethod yX11_imageAt ∈ zB := zB_t (List.mem_append_right _ (List.mem_append_right _ (List.mem_append_right _ (List.mem_append_left _ (List.mem_of_getElem? (i := 167) rfl))))) rfl
theorem k3_168 : Cond.code yX11_imageAt cX11_imageAt 2 (some (.object "OldNews$Land")) ∈ zB := zB_t (List.mem_append_right _ (List.mem_append_right _ (List.mem_append_right _ (List.mem_append_left _ (List.mem_of_getElem? (i := 168) rfl))))) rfl
theorem k3_169 : Cond.methodLink RX11 232 yX4_takeFrom ∈ zB := zB_t (List.mem_append_right _ (List.mem_append_right _ (List.mem_append_right _ (List.mem_append_left _ (List.mem_of_getElem? (i := 169) rfl))))) rfl
theorem k3_170 : Cond.methodLink RL 114 yX11_restore ∈ zB := zB_t (List.mem_append_right _ (List.mem_append_right _ (List.mem_append_right _ (List.mem_append_left _ (List.mem_of_getElem? (i := 170) rfl))))) rfl
theorem k3_171 : Cond.instanceMethod yX11_restore ∈ zB := zB_t (List.mem_append_right _ (List.mem_append_right _ (List.mem_append_right _ (List.mem_append_left _ (List.mem_of_getElem? (i := 171) rfl))))) rfl
theorem k3_172 : Cond.selects RX11 yX11_restore yX11_restore ∈ zB := zB_t (List.mem_append_right _ (List.mem_append_right _ (List.mem_append_right _ (List.mem_append_left _ (List.mem_of_getElem? (i := 172) rfl))))) rfl
theorem k3_173 : Cond.code yX11_restore cX11_restore 2 (some .int) ∈ zB := zB_t (List.mem_append_right _ (List.mem_append_right _ (List.mem_append_right _ (List.mem_append_left _ (List.mem_of_getElem? (i := 173) rfl))))) rfl
theorem k3_174 : Cond.methodLink RL 118 yX11_kind ∈ zB := zB_t (List.mem_append_right _ (List.mem_append_right _ (List.mem_append_right _ (List.mem_append_left _ (List.mem_of_getElem? (i := 174) rfl))))) rfl
theorem k3_175 : Cond.instanceMethod yX11_kind ∈ zB := zB_t (List.mem_append_right _ (List.mem_append_right _ (List.mem_append_right _ (List.mem_append_left _ (List.mem_of_getElem? (i := 175) rfl))))) rfl
theorem k3_176 : Cond.selects RX11 yX11_kind yX11_kind ∈ zB := zB_t (List.mem_append_right _ (List.mem_append_right _ (List.mem_append_right _ (List.mem_append_left _ (List.mem_of_getElem? (i := 176) rfl))))) rfl
theorem k3_177 : Cond.code yX11_kind cX11_kind 3 (some .int) ∈ zB := zB_t (List.mem_append_right _ (List.mem_append_right _ (List.mem_append_right _ (List.mem_append_left _ (List.mem_of_getElem? (i := 177) rfl))))) rfl
theorem k3_178 : Cond.methodLink RX11 236 yX4_keeperAt ∈ zB := zB_t (List.mem_append_right _ (List.mem_append_right _ (List.mem_append_right _ (List.mem_append_left _ (List.mem_of_getElem? (i := 178) rfl))))) rfl
theorem k3_179 : Cond.methodLink RX11 240 ⟨"OldNews$Keeper", "kindTold", "()I"⟩ ∈ zB := zB_t (List.mem_append_right _ (List.mem_append_right _ (List.mem_append_right _ (List.mem_append_left _ (List.mem_of_getElem? (i := 179) rfl))))) rfl
theorem k3_181 : Cond.sameMethod "OldNews$Keeper" "OldNews$Keeper" "kindTold" "()I" ∈ zB := zB_t (List.mem_append_right _ (List.mem_append_right _ (List.mem_append_right _ (List.mem_append_left _ (List.mem_of_getElem? (i := 181) rfl))))) rfl
theorem k3_182 : Cond.selects RX0 ⟨"OldNews$Keeper", "kindTold", "()I"⟩ yX0_kindTold ∈ zB := zB_t (List.mem_append_right _ (List.mem_append_right _ (List.mem_append_right _ (List.mem_append_left _ (List.mem_of_getElem? (i := 182) rfl))))) rfl
theorem k3_183 : Cond.instanceMethod yX0_kindTold ∈ zB := zB_t (List.mem_append_right _ (List.mem_append_right _ (List.mem_append_right _ (List.mem_append_left _ (List.mem_of_getElem? (i := 183) rfl))))) rfl
theorem k3_184 : Cond.code yX0_kindTold cX0_kindTold 1 (some .int) ∈ zB := zB_t (List.mem_append_right _ (List.mem_append_right _ (List.mem_append_right _ (List.mem_append_left _ (List.mem_of_getElem? (i := 184) rfl))))) rfl
theorem k3_185 : Cond.selects RX1 ⟨"OldNews$Keeper", "kindTold", "()I"⟩ yX1_kindTold ∈ zB := zB_t (List.mem_append_right _ (List.mem_append_right _ (List.mem_append_right _ (List.mem_append_left _ (List.mem_of_getElem? (i := 185) rfl))))) rfl
theorem k3_186 : Cond.instanceMethod yX1_kindTold ∈ zB := zB_t (List.mem_append_right _ (List.mem_append_right _ (List.mem_append_right _ (List.mem_append_left _ (List.mem_of_getElem? (i := 186) rfl))))) rfl
theorem k3_187 : Cond.code yX1_kindTold cX1_kindTold 1 (some .int) ∈ zB := zB_t (List.mem_append_right _ (List.mem_append_right _ (List.mem_append_right _ (List.mem_append_left _ (List.mem_of_getElem? (i := 187) rfl))))) rfl
theorem k3_188 : Cond.selects RX5 ⟨"OldNews$Keeper", "kindTold", "()I"⟩ yX5_kindTold ∈ zB := zB_t (List.mem_append_right _ (List.mem_append_right _ (List.mem_append_right _ (List.mem_append_left _ (List.mem_of_getElem? (i := 188) rfl))))) rfl
theorem k3_189 : Cond.instanceMethod yX5_kindTold ∈ zB := zB_t (List.mem_append_right _ (List.mem_append_right _ (List.mem_append_right _ (List.mem_append_left _ (List.mem_of_getElem? (i := 189) rfl))))) rfl
theorem k3_190 : Cond.code yX5_kindTold cX5_kindTold 1 (some .int) ∈ zB := zB_t (List.mem_append_right _ (List.mem_append_right _ (List.mem_append_right _ (List.mem_append_left _ (List.mem_of_getElem? (i := 190) rfl))))) rfl
theorem k3_191 : Cond.selects RX8 ⟨"OldNews$Keeper", "kindTold", "()I"⟩ yX8_kindTold ∈ zB := zB_t (List.mem_append_right _ (List.mem_append_right _ (List.mem_append_right _ (List.mem_append_left _ (List.mem_of_getElem? (i := 191) rfl))))) rfl
theorem k3_192 : Cond.instanceMethod yX8_kindTold ∈ zB := zB_t (List.mem_append_right _ (List.mem_append_right _ (List.mem_append_right _ (List.mem_append_left _ (List.mem_of_getElem? (i := 192) rfl))))) rfl
theorem k3_193 : Cond.code yX8_kindTold cX8_kindTold 1 (some .int) ∈ zB := zB_t (List.mem_append_right _ (List.mem_append_right _ (List.mem_append_right _ (List.mem_append_left _ (List.mem_of_getElem? (i := 193) rfl))))) rfl
theorem k3_194 : Cond.selects RX10 ⟨"OldNews$Keeper", "kindTold", "()I"⟩ yX10_kindTold ∈ zB := zB_t (List.mem_append_right _ (List.mem_append_right _ (List.mem_append_right _ (List.mem_append_left _ (List.mem_of_getElem? (i := 194) rfl))))) rfl
theorem k3_195 : Cond.instanceMethod yX10_kindTold ∈ zB := zB_t (List.mem_append_right _ (List.mem_append_right _ (List.mem_append_right _ (List.mem_append_left _ (List.mem_of_getElem? (i := 195) rfl))))) rfl
theorem k3_196 : Cond.code yX10_kindTold cX10_kindTold 1 (some .int) ∈ zB := zB_t (List.mem_append_right _ (List.mem_append_right _ (List.mem_append_right _ (List.mem_append_left _ (List.mem_of_getElem? (i := 196) rfl))))) rfl
theorem k3_197 : Cond.methodLink RL 122 yX11_as ∈ zB := zB_t (List.mem_append_right _ (List.mem_append_right _ (List.mem_append_right _ (List.mem_append_left _ (List.mem_of_getElem? (i := 197) rfl))))) rfl
theorem k3_198 : Cond.instanceMethod yX11_as ∈ zB := zB_t (List.mem_append_right _ (List.mem_append_right _ (List.mem_append_right _ (List.mem_append_left _ (List.mem_of_getElem? (i := 198) rfl))))) rfl
theorem k3_199 : Cond.selects RX11 yX11_as yX11_as ∈ zB := zB_t (List.mem_append_right _ (List.mem_append_right _ (List.mem_append_right _ (List.mem_append_left _ (List.mem_of_getElem? (i := 199) rfl))))) rfl
theorem k3_200 : Cond.code yX11_as cX11_as 4 (some .int) ∈ zB := zB_t (List.mem_append_right _ (List.mem_append_right _ (List.mem_append_right _ (List.mem_append_left _ (List.mem_of_getElem? (i := 200) rfl))))) rfl
theorem k3_201 : Cond.methodLink RX11 246 ⟨"OldNews$Keeper", "isOf", "(I)Z"⟩ ∈ zB := zB_t (List.mem_append_right _ (List.mem_append_right _ (List.mem_append_right _ (List.mem_append_left _ (List.mem_of_getElem? (i := 201) rfl))))) rfl
theorem k3_202 : Cond.instanceMethod yX3_isOf ∈ zB := zB_t (List.mem_append_right _ (List.mem_append_right _ (List.mem_append_right _ (List.mem_append_left _ (List.mem_of_getElem? (i := 202) rfl))))) rfl
theorem k3_203 : Cond.sameMethod "OldNews$Keeper" "OldNews$Keeper" "isOf" "(I)Z" ∈ zB := zB_t (List.mem_append_right _ (List.mem_append_right _ (List.mem_append_right _ (List.mem_append_left _ (List.mem_of_getElem? (i := 203) rfl))))) rfl
theorem k3_204 : Cond.selects RX0 ⟨"OldNews$Keeper", "isOf", "(I)Z"⟩ yX0_isOf ∈ zB := zB_t (List.mem_append_right _ (List.mem_append_right _ (List.mem_append_right _ (List.mem_append_left _ (List.mem_of_getElem? (i := 204) rfl))))) rfl
theorem k3_205 : Cond.instanceMethod yX0_isOf ∈ zB := zB_t (List.mem_append_right _ (List.mem_append_right _ (List.mem_append_right _ (List.mem_append_left _ (List.mem_of_getElem? (i := 205) rfl))))) rfl
theorem k3_206 : Cond.code yX0_isOf cX0_isOf 2 (some .boolean) ∈ zB := zB_t (List.mem_append_right _ (List.mem_append_right _ (List.mem_append_right _ (List.mem_append_left _ (List.mem_of_getElem? (i := 206) rfl))))) rfl
theorem k3_207 : Cond.methodLink RX0 7 yX3_isOf ∈ zB := zB_t (List.mem_append_right _ (List.mem_append_right _ (List.mem_append_right _ (List.mem_append_left _ (List.mem_of_getElem? (i := 207) rfl))))) rfl
theorem k3_208 : Cond.selects RX1 ⟨"OldNews$Keeper", "isOf", "(I)Z"⟩ yX0_isOf ∈ zB := zB_t (List.mem_append_right _ (List.mem_append_right _ (List.mem_append_right _ (List.mem_append_left _ (List.mem_of_getElem? (i := 208) rfl))))) rfl
theorem k3_209 : Cond.selects RX5 ⟨"OldNews$Keeper", "isOf", "(I)Z"⟩ yX3_isOf ∈ zB := zB_t (List.mem_append_right _ (List.mem_append_right _ (List.mem_append_right _ (List.mem_append_left _ (List.mem_of_getElem? (i := 209) rfl))))) rfl
theorem k3_210 : Cond.selects RX8 ⟨"OldNews$Keeper", "isOf", "(I)Z"⟩ yX3_isOf ∈ zB := zB_t (List.mem_append_right _ (List.mem_append_right _ (List.mem_append_right _ (List.mem_append_left _ (List.mem_of_getElem? (i := 210) rfl))))) rfl
theorem k3_211 : Cond.selects RX10 ⟨"OldNews$Keeper", "isOf", "(I)Z"⟩ yX0_isOf ∈ zB := zB_t (List.mem_append_right _ (List.mem_append_right _ (List.mem_append_right _ (List.mem_append_left _ (List.mem_of_getElem? (i := 211) rfl))))) rfl
theorem k3_212 : Cond.code yX3_isOf cX3_isOf 2 (some .boolean) ∈ zB := zB_t (List.mem_append_right _ (List.mem_append_right _ (List.mem_append_right _ (List.mem_append_left _ (List.mem_of_getElem? (i := 212) rfl))))) rfl
theorem k3_213 : Cond.methodLink RX3 36 ⟨"OldNews$Keeper", "kindTold", "()I"⟩ ∈ zB := zB_t (List.mem_append_right _ (List.mem_append_right _ (List.mem_append_right _ (List.mem_append_left _ (List.mem_of_getElem? (i := 213) rfl))))) rfl
theorem k3_214 : Cond.methodLink RL 126 yX11_ask ∈ zB := zB_t (List.mem_append_right _ (List.mem_append_right _ (List.mem_append_right _ (List.mem_append_left _ (List.mem_of_getElem? (i := 214) rfl))))) rfl
theorem k3_215 : Cond.instanceMethod yX11_ask ∈ zB := zB_t (List.mem_append_right _ (List.mem_append_right _ (List.mem_append_right _ (List.mem_append_left _ (List.mem_of_getElem? (i := 215) rfl))))) rfl
theorem k3_216 : Cond.selects RX11 yX11_ask yX11_ask ∈ zB := zB_t (List.mem_append_right _ (List.mem_append_right _ (List.mem_append_right _ (List.mem_append_left _ (List.mem_of_getElem? (i := 216) rfl))))) rfl
theorem k3_217 : Cond.code yX11_ask cX11_ask 4 (some .int) ∈ zB := zB_t (List.mem_append_right _ (List.mem_append_right _ (List.mem_append_right _ (List.mem_append_left _ (List.mem_of_getElem? (i := 217) rfl))))) rfl
theorem k3_218 : Cond.methodLink RX11 249 yX9_clear ∈ zB := zB_t (List.mem_append_right _ (List.mem_append_right _ (List.mem_append_right _ (List.mem_append_left _ (List.mem_of_getElem? (i := 218) rfl))))) rfl
theorem k3_219 : Cond.instanceMethod yX9_clear ∈ zB := zB_t (List.mem_append_right _ (List.mem_append_right _ (List.mem_append_right _ (List.mem_append_left _ (List.mem_of_getElem? (i := 219) rfl))))) rfl
theorem k3_220 : Cond.selects RX9 yX9_clear yX9_clear ∈ zB := zB_t (List.mem_append_right _ (List.mem_append_right _ (List.mem_append_right _ (List.mem_append_left _ (List.mem_of_getElem? (i := 220) rfl))))) rfl
theorem k3_221 : Cond.code yX9_clear cX9_clear 1 none ∈ zB := zB_t (List.mem_append_right _ (List.mem_append_right _ (List.mem_append_right _ (List.mem_append_left _ (List.mem_of_getElem? (i := 221) rfl))))) rfl
theorem k3_222 : Cond.methodLink RX11 252 ⟨"OldNews$Keeper", "sizeAsked", "(LOldNews$Land;LOldNews$Trace;)I"⟩ ∈ zB := zB_t (List.mem_append_right _ (List.mem_append_right _ (List.mem_append_right _ (List.mem_append_left _ (List.mem_of_getElem? (i := 222) rfl))))) rfl
theorem k3_223 : Cond.instanceMethod yX3_sizeAsked ∈ zB := zB_t (List.mem_append_right _ (List.mem_append_right _ (List.mem_append_right _ (List.mem_append_left _ (List.mem_of_getElem? (i := 223) rfl))))) rfl
theorem k3_224 : Cond.sameMethod "OldNews$Keeper" "OldNews$Keeper" "sizeAsked" "(LOldNews$Land;LOldNews$Trace;)I" ∈ zB := zB_t (List.mem_append_right _ (List.mem_append_right _ (List.mem_append_right _ (List.mem_append_left _ (List.mem_of_getElem? (i := 224) rfl))))) rfl
theorem k3_225 : Cond.selects RX0 ⟨"OldNews$Keeper", "sizeAsked", "(LOldNews$Land;LOldNews$Trace;)I"⟩ yX0_sizeAsked ∈ zB := zB_t (List.mem_append_right _ (List.mem_append_right _ (List.mem_append_right _ (List.mem_append_left _ (List.mem_of_getElem? (i := 225) rfl))))) rfl
theorem k3_226 : Cond.instanceMethod yX0_sizeAsked ∈ zB := zB_t (List.mem_append_right _ (List.mem_append_right _ (List.mem_append_right _ (List.mem_append_left _ (List.mem_of_getElem? (i := 226) rfl))))) rfl
theorem k3_227 : Cond.code yX0_sizeAsked cX0_sizeAsked 3 (some .int) ∈ zB := zB_t (List.mem_append_right _ (List.mem_append_right _ (List.mem_append_right _ (List.mem_append_left _ (List.mem_of_getElem? (i := 227) rfl))))) rfl
theorem k3_228 : Cond.methodLink RX0 22 yX9_leave ∈ zB := zB_t (List.mem_append_right _ (List.mem_append_right _ (List.mem_append_right _ (List.mem_append_left _ (List.mem_of_getElem? (i := 228) rfl))))) rfl
theorem k3_229 : Cond.instanceMethod yX9_leave ∈ zB := zB_t (List.mem_append_right _ (List.mem_append_right _ (List.mem_append_right _ (List.mem_append_left _ (List.mem_of_getElem? (i := 229) rfl))))) rfl
theorem k3_230 : Cond.selects RX9 yX9_leave yX9_leave ∈ zB := zB_t (List.mem_append_right _ (List.mem_append_right _ (List.mem_append_right _ (List.mem_append_left _ (List.mem_of_getElem? (i := 230) rfl))))) rfl
theorem k3_231 : Cond.code yX9_leave cX9_leave 2 none ∈ zB := zB_t (List.mem_append_right _ (List.mem_append_right _ (List.mem_append_right _ (List.mem_append_left _ (List.mem_of_getElem? (i := 231) rfl))))) rfl
theorem k3_232 : Cond.methodLink RX0 28 yX3_sizeAsked ∈ zB := zB_t (List.mem_append_right _ (List.mem_append_right _ (List.mem_append_right _ (List.mem_append_left _ (List.mem_of_getElem? (i := 232) rfl))))) rfl
theorem k3_233 : Cond.methodLink RX0 32 yX0_markAsked ∈ zB := zB_t (List.mem_append_right _ (List.mem_append_right _ (List.mem_append_right _ (List.mem_append_left _ (List.mem_of_getElem? (i := 233) rfl))))) rfl
theorem k3_234 : Cond.instanceMethod yX0_markAsked ∈ zB := zB_t (List.mem_append_right _ (List.mem_append_right _ (List.mem_append_right _ (List.mem_append_left _ (List.mem_of_getElem? (i := 234) rfl))))) rfl
theorem k3_235 : Cond.selects RX0 yX0_markAsked yX0_markAsked ∈ zB := zB_t (List.mem_append_right _ (List.mem_append_right _ (List.mem_append_right _ (List.mem_append_left _ (List.mem_of_getElem? (i := 235) rfl))))) rfl
theorem k3_236 : Cond.sameMethod "OldNews$Age" "OldNews$Age" "markAsked" "(LOldNews$Land;LOldNews$Trace;)I" ∈ zB := zB_t (List.mem_append_right _ (List.mem_append_right _ (List.mem_append_right _ (List.mem_append_left _ (List.mem_of_getElem? (i := 236) rfl))))) rfl
theorem k3_237 : Cond.selects RX1 ⟨"OldNews$Age", "markAsked", "(LOldNews$Land;LOldNews$Trace;)I"⟩ yX1_markAsked ∈ zB := zB_t (List.mem_append_right _ (List.mem_append_right _ (List.mem_append_right _ (List.mem_append_left _ (List.mem_of_getElem? (i := 237) rfl))))) rfl
theorem k3_238 : Cond.instanceMethod yX1_markAsked ∈ zB := zB_t (List.mem_append_right _ (List.mem_append_right _ (List.mem_append_right _ (List.mem_append_left _ (List.mem_of_getElem? (i := 238) rfl))))) rfl
theorem k3_239 : Cond.code yX1_markAsked cX1_markAsked 3 (some .int) ∈ zB := zB_t (List.mem_append_right _ (List.mem_append_right _ (List.mem_append_right _ (List.mem_append_left _ (List.mem_of_getElem? (i := 239) rfl))))) rfl
theorem k4_0 : Cond.methodLink RX1 25 yX9_leave ∈ zB := zB_t (List.mem_append_right _ (List.mem_append_right _ (List.mem_append_right _ (List.mem_append_right _ (List.mem_append_left _ (List.mem_of_getElem? (i := 0) rfl)))))) rfl
theorem kp4_0 : Cond.selects RX12 yX12_nextRow yX12_nextRow ∈ zB := zB_p (List.mem_of_getElem? (i := 64) rfl) rfl
theorem k4_1 : Cond.methodLink RX1 39 yX0_markAsked ∈ zB := zB_t (List.mem_append_right _ (List.mem_append_right _ (List.mem_append_right _ (List.mem_append_right _ (List.mem_append_left _ (List.mem_of_getElem? (i := 1) rfl)))))) rfl
theorem kp4_1 : Cond.selects RX12 yX12_swap yX12_swap ∈ zB := zB_p (List.mem_of_getElem? (i := 65) rfl) rfl
theorem k4_2 : Cond.selects RX10 ⟨"OldNews$Age", "markAsked", "(LOldNews$Land;LOldNews$Trace;)I"⟩ yX0_markAsked ∈ zB := zB_t (List.mem_append_right _ (List.mem_append_right _ (List.mem_append_right _ (List.mem_append_right _ (List.mem_append_left _ (List.mem_of_getElem? (i := 2) rfl)))))) rfl
theorem kp4_2 : Cond.selects RX12 yX12_pays yX12_pays ∈ zB := zB_p (List.mem_of_getElem? (i := 66) rfl) rfl
theorem k4_3 : Cond.code yX0_markAsked cX0_markAsked 3 (some .int) ∈ zB := zB_t (List.mem_append_right _ (List.mem_append_right _ (List.mem_append_right _ (List.mem_append_right _ (List.mem_append_left _ (List.mem_of_getElem? (i := 3) rfl)))))) rfl
theorem kp4_3 : Cond.selects RX12 yX12_fits yX12_fits ∈ zB := zB_p (List.mem_of_getElem? (i := 67) rfl) rfl
theorem k4_4 : Cond.methodLink RX0 35 yX3_markAsked ∈ zB := zB_t (List.mem_append_right _ (List.mem_append_right _ (List.mem_append_right _ (List.mem_append_right _ (List.mem_append_left _ (List.mem_of_getElem? (i := 4) rfl)))))) rfl
theorem kp4_4 : Cond.selects RX12 yX12_sellsIn yX12_sellsIn ∈ zB := zB_p (List.mem_of_getElem? (i := 68) rfl) rfl
theorem k4_5 : Cond.instanceMethod yX3_markAsked ∈ zB := zB_t (List.mem_append_right _ (List.mem_append_right _ (List.mem_append_right _ (List.mem_append_right _ (List.mem_append_left _ (List.mem_of_getElem? (i := 5) rfl)))))) rfl
theorem kp4_5 : Cond.selects RX12 yX12_isNear yX12_isNear ∈ zB := zB_p (List.mem_of_getElem? (i := 69) rfl) rfl
theorem k4_6 : Cond.code yX3_markAsked cX3_markAsked 3 (some .int) ∈ zB := zB_t (List.mem_append_right _ (List.mem_append_right _ (List.mem_append_right _ (List.mem_append_right _ (List.mem_append_left _ (List.mem_of_getElem? (i := 6) rfl)))))) rfl
theorem kp4_6 : Cond.selects RX12 yX12_ageSize yX12_ageSize ∈ zB := zB_p (List.mem_of_getElem? (i := 70) rfl) rfl
theorem k4_7 : Cond.methodLink RX3 40 yX9_leave ∈ zB := zB_t (List.mem_append_right _ (List.mem_append_right _ (List.mem_append_right _ (List.mem_append_right _ (List.mem_append_left _ (List.mem_of_getElem? (i := 7) rfl)))))) rfl
theorem kp4_7 : Cond.selects RX12 yX12_began yX12_began ∈ zB := zB_p (List.mem_of_getElem? (i := 71) rfl) rfl
theorem k4_8 : Cond.selects RX1 ⟨"OldNews$Keeper", "sizeAsked", "(LOldNews$Land;LOldNews$Trace;)I"⟩ yX1_sizeAsked ∈ zB := zB_t (List.mem_append_right _ (List.mem_append_right _ (List.mem_append_right _ (List.mem_append_right _ (List.mem_append_left _ (List.mem_of_getElem? (i := 8) rfl)))))) rfl
theorem kp4_8 : Cond.selects RX12 yX12_plainSize yX12_plainSize ∈ zB := zB_p (List.mem_of_getElem? (i := 72) rfl) rfl
theorem k4_9 : Cond.instanceMethod yX1_sizeAsked ∈ zB := zB_t (List.mem_append_right _ (List.mem_append_right _ (List.mem_append_right _ (List.mem_append_right _ (List.mem_append_left _ (List.mem_of_getElem? (i := 9) rfl)))))) rfl
theorem kp4_9 : Cond.selects RX12 yX12_ageMark yX12_ageMark ∈ zB := zB_p (List.mem_of_getElem? (i := 73) rfl) rfl
theorem k4_10 : Cond.code yX1_sizeAsked cX1_sizeAsked 3 (some .int) ∈ zB := zB_t (List.mem_append_right _ (List.mem_append_right _ (List.mem_append_right _ (List.mem_append_right _ (List.mem_append_left _ (List.mem_of_getElem? (i := 10) rfl)))))) rfl
theorem kp4_10 : Cond.selects RX12 yX12_otherSize yX12_otherSize ∈ zB := zB_p (List.mem_of_getElem? (i := 74) rfl) rfl
theorem k4_11 : Cond.methodLink RX1 31 yX0_sizeAsked ∈ zB := zB_t (List.mem_append_right _ (List.mem_append_right _ (List.mem_append_right _ (List.mem_append_right _ (List.mem_append_left _ (List.mem_of_getElem? (i := 11) rfl)))))) rfl
theorem kp4_11 : Cond.selects RX12 yX12_otherMark yX12_otherMark ∈ zB := zB_p (List.mem_of_getElem? (i := 75) rfl) rfl
theorem k4_12 : Cond.methodLink RX1 35 yX4_piecesOf ∈ zB := zB_t (List.mem_append_right _ (List.mem_append_right _ (List.mem_append_right _ (List.mem_append_right _ (List.mem_append_left _ (List.mem_of_getElem? (i := 12) rfl)))))) rfl
theorem k4_13 : Cond.selects RX5 ⟨"OldNews$Keeper", "sizeAsked", "(LOldNews$Land;LOldNews$Trace;)I"⟩ yX3_sizeAsked ∈ zB := zB_t (List.mem_append_right _ (List.mem_append_right _ (List.mem_append_right _ (List.mem_append_right _ (List.mem_append_left _ (List.mem_of_getElem? (i := 13) rfl)))))) rfl
theorem k4_14 : Cond.selects RX8 ⟨"OldNews$Keeper", "sizeAsked", "(LOldNews$Land;LOldNews$Trace;)I"⟩ yX8_sizeAsked ∈ zB := zB_t (List.mem_append_right _ (List.mem_append_right _ (List.mem_append_right _ (List.mem_append_right _ (List.mem_append_left _ (List.mem_of_getElem? (i := 14) rfl)))))) rfl
theorem k4_15 : Cond.instanceMethod yX8_sizeAsked ∈ zB := zB_t (List.mem_append_right _ (List.mem_append_right _ (List.mem_append_right _ (List.mem_append_right _ (List.mem_append_left _ (List.mem_of_getElem? (i := 15) rfl)))))) rfl
theorem k4_16 : Cond.code yX8_sizeAsked cX8_sizeAsked 3 (some .int) ∈ zB := zB_t (List.mem_append_right _ (List.mem_append_right _ (List.mem_append_right _ (List.mem_append_right _ (List.mem_append_left _ (List.mem_of_getElem? (i := 16) rfl)))))) rfl
theorem k4_17 : Cond.methodLink RX8 7 yX9_leave ∈ zB := zB_t (List.mem_append_right _ (List.mem_append_right _ (List.mem_append_right _ (List.mem_append_right _ (List.mem_append_left _ (List.mem_of_getElem? (i := 17) rfl)))))) rfl
theorem k4_18 : Cond.methodLink RX8 13 yX3_sizeAsked ∈ zB := zB_t (List.mem_append_right _ (List.mem_append_right _ (List.mem_append_right _ (List.mem_append_right _ (List.mem_append_left _ (List.mem_of_getElem? (i := 18) rfl)))))) rfl
theorem k4_19 : Cond.selects RX10 ⟨"OldNews$Keeper", "sizeAsked", "(LOldNews$Land;LOldNews$Trace;)I"⟩ yX10_sizeAsked ∈ zB := zB_t (List.mem_append_right _ (List.mem_append_right _ (List.mem_append_right _ (List.mem_append_right _ (List.mem_append_left _ (List.mem_of_getElem? (i := 19) rfl)))))) rfl
theorem k4_20 : Cond.instanceMethod yX10_sizeAsked ∈ zB := zB_t (List.mem_append_right _ (List.mem_append_right _ (List.mem_append_right _ (List.mem_append_right _ (List.mem_append_left _ (List.mem_of_getElem? (i := 20) rfl)))))) rfl
theorem k4_21 : Cond.code yX10_sizeAsked cX10_sizeAsked 3 (some .int) ∈ zB := zB_t (List.mem_append_right _ (List.mem_append_right _ (List.mem_append_right _ (List.mem_append_right _ (List.mem_append_left _ (List.mem_of_getElem? (i := 21) rfl)))))) rfl
theorem k4_22 : Cond.methodLink RX10 41 yX9_leave ∈ zB := zB_t (List.mem_append_right _ (List.mem_append_right _ (List.mem_append_right _ (List.mem_append_right _ (List.mem_append_left _ (List.mem_of_getElem? (i := 22) rfl)))))) rfl
theorem k4_23 : Cond.methodLink RX10 47 yX0_sizeAsked ∈ zB := zB_t (List.mem_append_right _ (List.mem_append_right _ (List.mem_append_right _ (List.mem_append_right _ (List.mem_append_left _ (List.mem_of_getElem? (i := 23) rfl)))))) rfl
theorem k4_24 : Cond.code yX3_sizeAsked cX3_sizeAsked 3 (some .int) ∈ zB := zB_t (List.mem_append_right _ (List.mem_append_right _ (List.mem_append_right _ (List.mem_append_right _ (List.mem_append_left _ (List.mem_of_getElem? (i := 24) rfl)))))) rfl
theorem k4_25 : Cond.methodLink RX3 46 yX4_earnedBy ∈ zB := zB_t (List.mem_append_right _ (List.mem_append_right _ (List.mem_append_right _ (List.mem_append_right _ (List.mem_append_left _ (List.mem_of_getElem? (i := 25) rfl)))))) rfl
theorem k4_26 : Cond.methodLink RX11 256 ⟨"OldNews$Keeper", "markAsked", "(LOldNews$Land;LOldNews$Trace;)I"⟩ ∈ zB := zB_t (List.mem_append_right _ (List.mem_append_right _ (List.mem_append_right _ (List.mem_append_right _ (List.mem_append_left _ (List.mem_of_getElem? (i := 26) rfl)))))) rfl
theorem k4_27 : Cond.instanceMethod yX5_markAsked ∈ zB := zB_t (List.mem_append_right _ (List.mem_append_right _ (List.mem_append_right _ (List.mem_append_right _ (List.mem_append_left _ (List.mem_of_getElem? (i := 27) rfl)))))) rfl
theorem k4_28 : Cond.code yX5_markAsked cX5_markAsked 3 (some .int) ∈ zB := zB_t (List.mem_append_right _ (List.mem_append_right _ (List.mem_append_right _ (List.mem_append_right _ (List.mem_append_left _ (List.mem_of_getElem? (i := 28) rfl)))))) rfl
theorem k4_29 : Cond.methodLink RX5 7 yX9_leave ∈ zB := zB_t (List.mem_append_right _ (List.mem_append_right _ (List.mem_append_right _ (List.mem_append_right _ (List.mem_append_left _ (List.mem_of_getElem? (i := 29) rfl)))))) rfl
theorem k4_30 : Cond.methodLink RX5 13 yX3_markAsked ∈ zB := zB_t (List.mem_append_right _ (List.mem_append_right _ (List.mem_append_right _ (List.mem_append_right _ (List.mem_append_left _ (List.mem_of_getElem? (i := 30) rfl)))))) rfl
theorem k4_31 : Cond.methodLink RX5 17 ⟨"OldNews$Now", "sizeAsked", "(LOldNews$Land;LOldNews$Trace;)I"⟩ ∈ zB := zB_t (List.mem_append_right _ (List.mem_append_right _ (List.mem_append_right _ (List.mem_append_right _ (List.mem_append_left _ (List.mem_of_getElem? (i := 31) rfl)))))) rfl
theorem k4_32 : Cond.sameMethod "OldNews$Now" "OldNews$Keeper" "sizeAsked" "(LOldNews$Land;LOldNews$Trace;)I" ∈ zB := zB_t (List.mem_append_right _ (List.mem_append_right _ (List.mem_append_right _ (List.mem_append_right _ (List.mem_append_left _ (List.mem_of_getElem? (i := 32) rfl)))))) rfl
theorem k4_34 : Cond.selects RX5 ⟨"OldNews$Now", "sizeAsked", "(LOldNews$Land;LOldNews$Trace;)I"⟩ yX3_sizeAsked ∈ zB := zB_t (List.mem_append_right _ (List.mem_append_right _ (List.mem_append_right _ (List.mem_append_right _ (List.mem_append_left _ (List.mem_of_getElem? (i := 34) rfl)))))) rfl
theorem k4_35 : Cond.instanceMethod yX8_markAsked ∈ zB := zB_t (List.mem_append_right _ (List.mem_append_right _ (List.mem_append_right _ (List.mem_append_right _ (List.mem_append_left _ (List.mem_of_getElem? (i := 35) rfl)))))) rfl
theorem k4_36 : Cond.code yX8_markAsked cX8_markAsked 3 (some .int) ∈ zB := zB_t (List.mem_append_right _ (List.mem_append_right _ (List.mem_append_right _ (List.mem_append_right _ (List.mem_append_left _ (List.mem_of_getElem? (i := 36) rfl)))))) rfl
theorem k4_37 : Cond.methodLink RX8 17 yX3_markAsked ∈ zB := zB_t (List.mem_append_right _ (List.mem_append_right _ (List.mem_append_right _ (List.mem_append_right _ (List.mem_append_left _ (List.mem_of_getElem? (i := 37) rfl)))))) rfl
theorem k4_38 : Cond.methodLink RX8 20 yX8_sizeAsked ∈ zB := zB_t (List.mem_append_right _ (List.mem_append_right _ (List.mem_append_right _ (List.mem_append_right _ (List.mem_append_left _ (List.mem_of_getElem? (i := 38) rfl)))))) rfl
theorem k4_39 : Cond.methodLink RL 130 yX11_trace ∈ zB := zB_t (List.mem_append_right _ (List.mem_append_right _ (List.mem_append_right _ (List.mem_append_right _ (List.mem_append_left _ (List.mem_of_getElem? (i := 39) rfl)))))) rfl
theorem k4_40 : Cond.instanceMethod yX11_trace ∈ zB := zB_t (List.mem_append_right _ (List.mem_append_right _ (List.mem_append_right _ (List.mem_append_right _ (List.mem_append_left _ (List.mem_of_getElem? (i := 40) rfl)))))) rfl
theorem k4_41 : Cond.selects RX11 yX11_trace yX11_trace ∈ zB := zB_t (List.mem_append_right _ (List.mem_append_right _ (List.mem_append_right _ (List.mem_append_right _ (List.mem_append_left _ (List.mem_of_getElem? (i := 41) rfl)))))) rfl
theorem k4_42 : Cond.code yX11_trace cX11_trace 2 (some .int) ∈ zB := zB_t (List.mem_append_right _ (List.mem_append_right _ (List.mem_append_right _ (List.mem_append_right _ (List.mem_append_left _ (List.mem_of_getElem? (i := 42) rfl)))))) rfl
theorem k4_43 : Cond.methodLink RX11 259 yX9_at ∈ zB := zB_t (List.mem_append_right _ (List.mem_append_right _ (List.mem_append_right _ (List.mem_append_right _ (List.mem_append_left _ (List.mem_of_getElem? (i := 43) rfl)))))) rfl
theorem k4_44 : Cond.instanceMethod yX9_at ∈ zB := zB_t (List.mem_append_right _ (List.mem_append_right _ (List.mem_append_right _ (List.mem_append_right _ (List.mem_append_left _ (List.mem_of_getElem? (i := 44) rfl)))))) rfl
theorem k4_45 : Cond.selects RX9 yX9_at yX9_at ∈ zB := zB_t (List.mem_append_right _ (List.mem_append_right _ (List.mem_append_right _ (List.mem_append_right _ (List.mem_append_left _ (List.mem_of_getElem? (i := 45) rfl)))))) rfl
theorem k4_46 : Cond.code yX9_at cX9_at 2 (some .int) ∈ zB := zB_t (List.mem_append_right _ (List.mem_append_right _ (List.mem_append_right _ (List.mem_append_right _ (List.mem_append_left _ (List.mem_of_getElem? (i := 46) rfl)))))) rfl
theorem k4_47 : Cond.constant RX9 19 (-1000000) ∈ zB := zB_t (List.mem_append_right _ (List.mem_append_right _ (List.mem_append_right _ (List.mem_append_right _ (List.mem_append_left _ (List.mem_of_getElem? (i := 47) rfl)))))) rfl
theorem k4_48 : Cond.methodLink RL 134 yX11_count ∈ zB := zB_t (List.mem_append_right _ (List.mem_append_right _ (List.mem_append_right _ (List.mem_append_right _ (List.mem_append_left _ (List.mem_of_getElem? (i := 48) rfl)))))) rfl
theorem k4_49 : Cond.instanceMethod yX11_count ∈ zB := zB_t (List.mem_append_right _ (List.mem_append_right _ (List.mem_append_right _ (List.mem_append_right _ (List.mem_append_left _ (List.mem_of_getElem? (i := 49) rfl)))))) rfl
theorem k4_50 : Cond.selects RX11 yX11_count yX11_count ∈ zB := zB_t (List.mem_append_right _ (List.mem_append_right _ (List.mem_append_right _ (List.mem_append_right _ (List.mem_append_left _ (List.mem_of_getElem? (i := 50) rfl)))))) rfl
theorem k4_51 : Cond.code yX11_count cX11_count 2 (some .int) ∈ zB := zB_t (List.mem_append_right _ (List.mem_append_right _ (List.mem_append_right _ (List.mem_append_right _ (List.mem_append_left _ (List.mem_of_getElem? (i := 51) rfl)))))) rfl
theorem k4_52 : Cond.methodLink RX11 262 yX7_countThere ∈ zB := zB_t (List.mem_append_right _ (List.mem_append_right _ (List.mem_append_right _ (List.mem_append_right _ (List.mem_append_left _ (List.mem_of_getElem? (i := 52) rfl)))))) rfl
theorem k4_53 : Cond.instanceMethod yX7_countThere ∈ zB := zB_t (List.mem_append_right _ (List.mem_append_right _ (List.mem_append_right _ (List.mem_append_right _ (List.mem_append_left _ (List.mem_of_getElem? (i := 53) rfl)))))) rfl
theorem k4_54 : Cond.selects RX7 yX7_countThere yX7_countThere ∈ zB := zB_t (List.mem_append_right _ (List.mem_append_right _ (List.mem_append_right _ (List.mem_append_right _ (List.mem_append_left _ (List.mem_of_getElem? (i := 54) rfl)))))) rfl
theorem k4_55 : Cond.code yX7_countThere cX7_countThere 3 (some .int) ∈ zB := zB_t (List.mem_append_right _ (List.mem_append_right _ (List.mem_append_right _ (List.mem_append_right _ (List.mem_append_left _ (List.mem_of_getElem? (i := 55) rfl)))))) rfl
theorem k4_56 : Cond.methodLink RL 138 yX11_status ∈ zB := zB_t (List.mem_append_right _ (List.mem_append_right _ (List.mem_append_right _ (List.mem_append_right _ (List.mem_append_left _ (List.mem_of_getElem? (i := 56) rfl)))))) rfl
theorem k4_57 : Cond.instanceMethod yX11_status ∈ zB := zB_t (List.mem_append_right _ (List.mem_append_right _ (List.mem_append_right _ (List.mem_append_right _ (List.mem_append_left _ (List.mem_of_getElem? (i := 57) rfl)))))) rfl
theorem k4_58 : Cond.selects RX11 yX11_status yX11_status ∈ zB := zB_t (List.mem_append_right _ (List.mem_append_right _ (List.mem_append_right _ (List.mem_append_right _ (List.mem_append_left _ (List.mem_of_getElem? (i := 58) rfl)))))) rfl
theorem k4_59 : Cond.code yX11_status cX11_status 1 (some .int) ∈ zB := zB_t (List.mem_append_right _ (List.mem_append_right _ (List.mem_append_right _ (List.mem_append_right _ (List.mem_append_left _ (List.mem_of_getElem? (i := 59) rfl)))))) rfl
theorem k4_60 : Cond.classLink RL 10 RX12 ∈ zB := zB_t (List.mem_append_right _ (List.mem_append_right _ (List.mem_append_right _ (List.mem_append_right _ (List.mem_append_left _ (List.mem_of_getElem? (i := 60) rfl)))))) rfl
theorem k4_61 : Cond.instantiable RX12 31 ∈ zB := zB_t (List.mem_append_right _ (List.mem_append_right _ (List.mem_append_right _ (List.mem_append_right _ (List.mem_append_left _ (List.mem_of_getElem? (i := 61) rfl)))))) rfl
theorem k4_62 : Cond.methodLink RL 12 yX12_init ∈ zB := zB_t (List.mem_append_right _ (List.mem_append_right _ (List.mem_append_right _ (List.mem_append_right _ (List.mem_append_left _ (List.mem_of_getElem? (i := 62) rfl)))))) rfl
theorem k4_63 : Cond.instanceMethod yX12_init ∈ zB := zB_t (List.mem_append_right _ (List.mem_append_right _ (List.mem_append_right _ (List.mem_append_right _ (List.mem_append_left _ (List.mem_of_getElem? (i := 63) rfl)))))) rfl
theorem k4_64 : Cond.code yX12_init cX12_init 1 none ∈ zB := zB_t (List.mem_append_right _ (List.mem_append_right _ (List.mem_append_right _ (List.mem_append_right _ (List.mem_append_left _ (List.mem_of_getElem? (i := 64) rfl)))))) rfl
theorem k4_65 : Cond.methodLink RX12 1 objectInit ∈ zB := zB_t (List.mem_append_right _ (List.mem_append_right _ (List.mem_append_right _ (List.mem_append_right _ (List.mem_append_left _ (List.mem_of_getElem? (i := 65) rfl)))))) rfl
theorem k4_66 : Cond.fieldLink RX12 56 "OldNewsModel" "thrown" "I" ∈ zB := zB_t (List.mem_append_right _ (List.mem_append_right _ (List.mem_append_right _ (List.mem_append_right _ (List.mem_append_left _ (List.mem_of_getElem? (i := 66) rfl)))))) rfl
theorem k4_67 : Cond.fieldLink RX12 60 "OldNewsModel" "status" "I" ∈ zB := zB_t (List.mem_append_right _ (List.mem_append_right _ (List.mem_append_right _ (List.mem_append_right _ (List.mem_append_left _ (List.mem_of_getElem? (i := 67) rfl)))))) rfl
theorem k4_68 : Cond.fieldLink RX12 7 "OldNewsModel" "lane" "[I" ∈ zB := zB_t (List.mem_append_right _ (List.mem_append_right _ (List.mem_append_right _ (List.mem_append_right _ (List.mem_append_left _ (List.mem_of_getElem? (i := 68) rfl)))))) rfl
theorem k4_69 : Cond.fieldLink RX12 13 "OldNewsModel" "many" "[I" ∈ zB := zB_t (List.mem_append_right _ (List.mem_append_right _ (List.mem_append_right _ (List.mem_append_right _ (List.mem_append_left _ (List.mem_of_getElem? (i := 69) rfl)))))) rfl
theorem k4_70 : Cond.fieldLink RX12 16 "OldNewsModel" "item" "[I" ∈ zB := zB_t (List.mem_append_right _ (List.mem_append_right _ (List.mem_append_right _ (List.mem_append_right _ (List.mem_append_left _ (List.mem_of_getElem? (i := 70) rfl)))))) rfl
theorem k4_71 : Cond.fieldLink RX12 19 "OldNewsModel" "land" "[I" ∈ zB := zB_t (List.mem_append_right _ (List.mem_append_right _ (List.mem_append_right _ (List.mem_append_right _ (List.mem_append_left _ (List.mem_of_getElem? (i := 71) rfl)))))) rfl
theorem k4_72 : Cond.fieldLink RX12 22 "OldNewsModel" "fresh" "[I" ∈ zB := zB_t (List.mem_append_right _ (List.mem_append_right _ (List.mem_append_right _ (List.mem_append_right _ (List.mem_append_left _ (List.mem_of_getElem? (i := 72) rfl)))))) rfl
theorem k4_73 : Cond.fieldLink RX12 200 "OldNewsModel" "isThere" "Z" ∈ zB := zB_t (List.mem_append_right _ (List.mem_append_right _ (List.mem_append_right _ (List.mem_append_right _ (List.mem_append_left _ (List.mem_of_getElem? (i := 73) rfl)))))) rfl
theorem k4_74 : Cond.fieldLink RX12 25 "OldNewsModel" "how" "[I" ∈ zB := zB_t (List.mem_append_right _ (List.mem_append_right _ (List.mem_append_right _ (List.mem_append_right _ (List.mem_append_left _ (List.mem_of_getElem? (i := 74) rfl)))))) rfl
theorem k4_75 : Cond.fieldLink RX12 28 "OldNewsModel" "tape" "[I" ∈ zB := zB_t (List.mem_append_right _ (List.mem_append_right _ (List.mem_append_right _ (List.mem_append_right _ (List.mem_append_left _ (List.mem_of_getElem? (i := 75) rfl)))))) rfl
theorem k4_76 : Cond.fieldLink RX12 83 "OldNewsModel" "taped" "I" ∈ zB := zB_t (List.mem_append_right _ (List.mem_append_right _ (List.mem_append_right _ (List.mem_append_right _ (List.mem_append_left _ (List.mem_of_getElem? (i := 76) rfl)))))) rfl
theorem k4_77 : Cond.fieldLink RX12 196 "OldNewsModel" "latest" "I" ∈ zB := zB_t (List.mem_append_right _ (List.mem_append_right _ (List.mem_append_right _ (List.mem_append_right _ (List.mem_append_left _ (List.mem_of_getElem? (i := 77) rfl)))))) rfl
theorem k4_78 : Cond.fieldLink RX12 89 "OldNewsModel" "length" "I" ∈ zB := zB_t (List.mem_append_right _ (List.mem_append_right _ (List.mem_append_right _ (List.mem_append_right _ (List.mem_append_left _ (List.mem_of_getElem? (i := 78) rfl)))))) rfl
theorem k4_79 : Cond.fieldLink RX12 93 "OldNewsModel" "cursor" "I" ∈ zB := zB_t (List.mem_append_right _ (List.mem_append_right _ (List.mem_append_right _ (List.mem_append_right _ (List.mem_append_left _ (List.mem_of_getElem? (i := 79) rfl)))))) rfl
theorem k4_80 : Cond.fieldLink RX12 102 "OldNewsModel" "token" "I" ∈ zB := zB_t (List.mem_append_right _ (List.mem_append_right _ (List.mem_append_right _ (List.mem_append_right _ (List.mem_append_left _ (List.mem_of_getElem? (i := 80) rfl)))))) rfl
theorem k4_81 : Cond.fieldLink RX12 99 "OldNewsModel" "start" "I" ∈ zB := zB_t (List.mem_append_right _ (List.mem_append_right _ (List.mem_append_right _ (List.mem_append_right _ (List.mem_append_left _ (List.mem_of_getElem? (i := 81) rfl)))))) rfl
theorem k4_82 : Cond.fieldLink RX12 111 "OldNewsModel" "till" "I" ∈ zB := zB_t (List.mem_append_right _ (List.mem_append_right _ (List.mem_append_right _ (List.mem_append_right _ (List.mem_append_left _ (List.mem_of_getElem? (i := 82) rfl)))))) rfl
theorem k4_83 : Cond.fieldLink RX12 114 "OldNewsModel" "fault" "I" ∈ zB := zB_t (List.mem_append_right _ (List.mem_append_right _ (List.mem_append_right _ (List.mem_append_right _ (List.mem_append_left _ (List.mem_of_getElem? (i := 83) rfl)))))) rfl
theorem k4_84 : Cond.fieldLink RX12 117 "OldNewsModel" "faultAt" "I" ∈ zB := zB_t (List.mem_append_right _ (List.mem_append_right _ (List.mem_append_right _ (List.mem_append_right _ (List.mem_append_left _ (List.mem_of_getElem? (i := 84) rfl)))))) rfl
theorem k4_85 : Cond.fieldLink RX12 246 "OldNewsModel" "drawn" "J" ∈ zB := zB_t (List.mem_append_right _ (List.mem_append_right _ (List.mem_append_right _ (List.mem_append_right _ (List.mem_append_left _ (List.mem_of_getElem? (i := 85) rfl)))))) rfl
theorem k4_86 : Cond.fieldLink RX12 272 "OldNewsModel" "aloneValue" "I" ∈ zB := zB_t (List.mem_append_right _ (List.mem_append_right _ (List.mem_append_right _ (List.mem_append_right _ (List.mem_append_left _ (List.mem_of_getElem? (i := 86) rfl)))))) rfl
theorem k4_87 : Cond.fieldLink RX12 275 "OldNewsModel" "aloneWhen" "I" ∈ zB := zB_t (List.mem_append_right _ (List.mem_append_right _ (List.mem_append_right _ (List.mem_append_right _ (List.mem_append_left _ (List.mem_of_getElem? (i := 87) rfl)))))) rfl
theorem k4_88 : Cond.fieldLink RX12 31 "OldNewsModel" "asked" "[I" ∈ zB := zB_t (List.mem_append_right _ (List.mem_append_right _ (List.mem_append_right _ (List.mem_append_right _ (List.mem_append_left _ (List.mem_of_getElem? (i := 88) rfl)))))) rfl
theorem k4_89 : Cond.fieldLink RX12 34 "OldNewsModel" "bestRow" "[I" ∈ zB := zB_t (List.mem_append_right _ (List.mem_append_right _ (List.mem_append_right _ (List.mem_append_right _ (List.mem_append_left _ (List.mem_of_getElem? (i := 89) rfl)))))) rfl
theorem k4_90 : Cond.fieldLink RX12 37 "OldNewsModel" "sold" "[I" ∈ zB := zB_t (List.mem_append_right _ (List.mem_append_right _ (List.mem_append_right _ (List.mem_append_right _ (List.mem_append_left _ (List.mem_of_getElem? (i := 90) rfl)))))) rfl
theorem k4_91 : Cond.fieldLink RX12 40 "OldNewsModel" "aside" "[I" ∈ zB := zB_t (List.mem_append_right _ (List.mem_append_right _ (List.mem_append_right _ (List.mem_append_right _ (List.mem_append_left _ (List.mem_of_getElem? (i := 91) rfl)))))) rfl
theorem k4_92 : Cond.fieldLink RX12 43 "OldNewsModel" "isKept" "[Z" ∈ zB := zB_t (List.mem_append_right _ (List.mem_append_right _ (List.mem_append_right _ (List.mem_append_right _ (List.mem_append_left _ (List.mem_of_getElem? (i := 92) rfl)))))) rfl
theorem k4_93 : Cond.fieldLink RX12 47 "OldNewsModel" "keptLand" "[I" ∈ zB := zB_t (List.mem_append_right _ (List.mem_append_right _ (List.mem_append_right _ (List.mem_append_right _ (List.mem_append_left _ (List.mem_of_getElem? (i := 93) rfl)))))) rfl
theorem k4_94 : Cond.fieldLink RX12 50 "OldNewsModel" "keptHow" "[I" ∈ zB := zB_t (List.mem_append_right _ (List.mem_append_right _ (List.mem_append_right _ (List.mem_append_right _ (List.mem_append_left _ (List.mem_of_getElem? (i := 94) rfl)))))) rfl
theorem k4_95 : Cond.fieldLink RX12 53 "OldNewsModel" "trace" "[I" ∈ zB := zB_t (List.mem_append_right _ (List.mem_append_right _ (List.mem_append_right _ (List.mem_append_right _ (List.mem_append_left _ (List.mem_of_getElem? (i := 95) rfl)))))) rfl
theorem k4_96 : Cond.fieldLink RX12 316 "OldNewsModel" "traced" "I" ∈ zB := zB_t (List.mem_append_right _ (List.mem_append_right _ (List.mem_append_right _ (List.mem_append_right _ (List.mem_append_left _ (List.mem_of_getElem? (i := 96) rfl)))))) rfl
theorem k4_97 : Cond.lays RX12 "OldNewsModel" "thrown" "I" ∈ zB := zB_t (List.mem_append_right _ (List.mem_append_right _ (List.mem_append_right _ (List.mem_append_right _ (List.mem_append_left _ (List.mem_of_getElem? (i := 97) rfl)))))) rfl
theorem k4_99 : Cond.lays RX12 "OldNewsModel" "status" "I" ∈ zB := zB_t (List.mem_append_right _ (List.mem_append_right _ (List.mem_append_right _ (List.mem_append_right _ (List.mem_append_left _ (List.mem_of_getElem? (i := 99) rfl)))))) rfl
theorem k4_101 : Cond.laysFinal RX12 "OldNewsModel" "lane" "[I" ∈ zB := zB_t (List.mem_append_right _ (List.mem_append_right _ (List.mem_append_right _ (List.mem_append_right _ (List.mem_append_left _ (List.mem_of_getElem? (i := 101) rfl)))))) rfl
theorem k4_103 : Cond.laysFinal RX12 "OldNewsModel" "many" "[I" ∈ zB := zB_t (List.mem_append_right _ (List.mem_append_right _ (List.mem_append_right _ (List.mem_append_right _ (List.mem_append_left _ (List.mem_of_getElem? (i := 103) rfl)))))) rfl
theorem k4_105 : Cond.laysFinal RX12 "OldNewsModel" "item" "[I" ∈ zB := zB_t (List.mem_append_right _ (List.mem_append_right _ (List.mem_append_right _ (List.mem_append_right _ (List.mem_append_left _ (List.mem_of_getElem? (i := 105) rfl)))))) rfl
theorem k4_107 : Cond.laysFinal RX12 "OldNewsModel" "land" "[I" ∈ zB := zB_t (List.mem_append_right _ (List.mem_append_right _ (List.mem_append_right _ (List.mem_append_right _ (List.mem_append_left _ (List.mem_of_getElem? (i := 107) rfl)))))) rfl
theorem k4_109 : Cond.laysFinal RX12 "OldNewsModel" "fresh" "[I" ∈ zB := zB_t (List.mem_append_right _ (List.mem_append_right _ (List.mem_append_right _ (List.mem_append_right _ (List.mem_append_left _ (List.mem_of_getElem? (i := 109) rfl)))))) rfl
theorem k4_111 : Cond.lays RX12 "OldNewsModel" "isThere" "Z" ∈ zB := zB_t (List.mem_append_right _ (List.mem_append_right _ (List.mem_append_right _ (List.mem_append_right _ (List.mem_append_left _ (List.mem_of_getElem? (i := 111) rfl)))))) rfl
theorem k4_113 : Cond.laysFinal RX12 "OldNewsModel" "how" "[I" ∈ zB := zB_t (List.mem_append_right _ (List.mem_append_right _ (List.mem_append_right _ (List.mem_append_right _ (List.mem_append_left _ (List.mem_of_getElem? (i := 113) rfl)))))) rfl
theorem k4_115 : Cond.laysFinal RX12 "OldNewsModel" "tape" "[I" ∈ zB := zB_t (List.mem_append_right _ (List.mem_append_right _ (List.mem_append_right _ (List.mem_append_right _ (List.mem_append_left _ (List.mem_of_getElem? (i := 115) rfl)))))) rfl
theorem k4_117 : Cond.lays RX12 "OldNewsModel" "taped" "I" ∈ zB := zB_t (List.mem_append_right _ (List.mem_append_right _ (List.mem_append_right _ (List.mem_append_right _ (List.mem_append_left _ (List.mem_of_getElem? (i := 117) rfl)))))) rfl
theorem k4_119 : Cond.lays RX12 "OldNewsModel" "latest" "I" ∈ zB := zB_t (List.mem_append_right _ (List.mem_append_right _ (List.mem_append_right _ (List.mem_append_right _ (List.mem_append_left _ (List.mem_of_getElem? (i := 119) rfl)))))) rfl
theorem k4_121 : Cond.lays RX12 "OldNewsModel" "length" "I" ∈ zB := zB_t (List.mem_append_right _ (List.mem_append_right _ (List.mem_append_right _ (List.mem_append_right _ (List.mem_append_left _ (List.mem_of_getElem? (i := 121) rfl)))))) rfl
theorem k4_123 : Cond.lays RX12 "OldNewsModel" "cursor" "I" ∈ zB := zB_t (List.mem_append_right _ (List.mem_append_right _ (List.mem_append_right _ (List.mem_append_right _ (List.mem_append_left _ (List.mem_of_getElem? (i := 123) rfl)))))) rfl
theorem k4_125 : Cond.lays RX12 "OldNewsModel" "token" "I" ∈ zB := zB_t (List.mem_append_right _ (List.mem_append_right _ (List.mem_append_right _ (List.mem_append_right _ (List.mem_append_left _ (List.mem_of_getElem? (i := 125) rfl)))))) rfl
theorem k4_127 : Cond.lays RX12 "OldNewsModel" "start" "I" ∈ zB := zB_t (List.mem_append_right _ (List.mem_append_right _ (List.mem_append_right _ (List.mem_append_right _ (List.mem_append_left _ (List.mem_of_getElem? (i := 127) rfl)))))) rfl
theorem k4_129 : Cond.lays RX12 "OldNewsModel" "till" "I" ∈ zB := zB_t (List.mem_append_right _ (List.mem_append_right _ (List.mem_append_right _ (List.mem_append_right _ (List.mem_append_left _ (List.mem_of_getElem? (i := 129) rfl)))))) rfl
theorem k4_131 : Cond.lays RX12 "OldNewsModel" "fault" "I" ∈ zB := zB_t (List.mem_append_right _ (List.mem_append_right _ (List.mem_append_right _ (List.mem_append_right _ (List.mem_append_left _ (List.mem_of_getElem? (i := 131) rfl)))))) rfl
theorem k4_133 : Cond.lays RX12 "OldNewsModel" "faultAt" "I" ∈ zB := zB_t (List.mem_append_right _ (List.mem_append_right _ (List.mem_append_right _ (List.mem_append_right _ (List.mem_append_left _ (List.mem_of_getElem? (i := 133) rfl)))))) rfl
theorem k4_135 : Cond.lays RX12 "OldNewsModel" "drawn" "J" ∈ zB := zB_t (List.mem_append_right _ (List.mem_append_right _ (List.mem_append_right _ (List.mem_append_right _ (List.mem_append_left _ (List.mem_of_getElem? (i := 135) rfl)))))) rfl
theorem k4_137 : Cond.lays RX12 "OldNewsModel" "aloneValue" "I" ∈ zB := zB_t (List.mem_append_right _ (List.mem_append_right _ (List.mem_append_right _ (List.mem_append_right _ (List.mem_append_left _ (List.mem_of_getElem? (i := 137) rfl)))))) rfl
theorem k4_139 : Cond.lays RX12 "OldNewsModel" "aloneWhen" "I" ∈ zB := zB_t (List.mem_append_right _ (List.mem_append_right _ (List.mem_append_right _ (List.mem_append_right _ (List.mem_append_left _ (List.mem_of_getElem? (i := 139) rfl)))))) rfl
theorem k4_141 : Cond.laysFinal RX12 "OldNewsModel" "asked" "[I" ∈ zB := zB_t (List.mem_append_right _ (List.mem_append_right _ (List.mem_append_right _ (List.mem_append_right _ (List.mem_append_left _ (List.mem_of_getElem? (i := 141) rfl)))))) rfl
theorem k4_143 : Cond.laysFinal RX12 "OldNewsModel" "bestRow" "[I" ∈ zB := zB_t (List.mem_append_right _ (List.mem_append_right _ (List.mem_append_right _ (List.mem_append_right _ (List.mem_append_left _ (List.mem_of_getElem? (i := 143) rfl)))))) rfl
theorem k4_145 : Cond.laysFinal RX12 "OldNewsModel" "sold" "[I" ∈ zB := zB_t (List.mem_append_right _ (List.mem_append_right _ (List.mem_append_right _ (List.mem_append_right _ (List.mem_append_left _ (List.mem_of_getElem? (i := 145) rfl)))))) rfl
theorem k4_147 : Cond.laysFinal RX12 "OldNewsModel" "aside" "[I" ∈ zB := zB_t (List.mem_append_right _ (List.mem_append_right _ (List.mem_append_right _ (List.mem_append_right _ (List.mem_append_left _ (List.mem_of_getElem? (i := 147) rfl)))))) rfl
theorem k4_149 : Cond.laysFinal RX12 "OldNewsModel" "isKept" "[Z" ∈ zB := zB_t (List.mem_append_right _ (List.mem_append_right _ (List.mem_append_right _ (List.mem_append_right _ (List.mem_append_left _ (List.mem_of_getElem? (i := 149) rfl)))))) rfl
theorem k4_151 : Cond.laysFinal RX12 "OldNewsModel" "keptLand" "[I" ∈ zB := zB_t (List.mem_append_right _ (List.mem_append_right _ (List.mem_append_right _ (List.mem_append_right _ (List.mem_append_left _ (List.mem_of_getElem? (i := 151) rfl)))))) rfl
theorem k4_153 : Cond.laysFinal RX12 "OldNewsModel" "keptHow" "[I" ∈ zB := zB_t (List.mem_append_right _ (List.mem_append_right _ (List.mem_append_right _ (List.mem_append_right _ (List.mem_append_left _ (List.mem_of_getElem? (i := 153) rfl)))))) rfl
theorem k4_155 : Cond.laysFinal RX12 "OldNewsModel" "trace" "[I" ∈ zB := zB_t (List.mem_append_right _ (List.mem_append_right _ (List.mem_append_right _ (List.mem_append_right _ (List.mem_append_left _ (List.mem_of_getElem? (i := 155) rfl)))))) rfl
theorem k4_157 : Cond.lays RX12 "OldNewsModel" "traced" "I" ∈ zB := zB_t (List.mem_append_right _ (List.mem_append_right _ (List.mem_append_right _ (List.mem_append_right _ (List.mem_append_left _ (List.mem_of_getElem? (i := 157) rfl)))))) rfl
theorem k4_160 : Cond.arrayClass .boolean ∈ zB := zB_t (List.mem_append_right _ (List.mem_append_right _ (List.mem_append_right _ (List.mem_append_right _ (List.mem_append_left _ (List.mem_of_getElem? (i := 160) rfl)))))) rfl
theorem k4_161 : Cond.methodLink RL 17 yX12_row ∈ zB := zB_t (List.mem_append_right _ (List.mem_append_right _ (List.mem_append_right _ (List.mem_append_right _ (List.mem_append_left _ (List.mem_of_getElem? (i := 161) rfl)))))) rfl
theorem k4_162 : Cond.instanceMethod yX12_row ∈ zB := zB_t (List.mem_append_right _ (List.mem_append_right _ (List.mem_append_right _ (List.mem_append_right _ (List.mem_append_left _ (List.mem_of_getElem? (i := 162) rfl)))))) rfl
theorem k4_163 : Cond.selects RX12 yX12_row yX12_row ∈ zB := zB_t (List.mem_append_right _ (List.mem_append_right _ (List.mem_append_right _ (List.mem_append_right _ (List.mem_append_left _ (List.mem_of_getElem? (i := 163) rfl)))))) rfl
theorem k4_164 : Cond.code yX12_row cX12_row 5 (some .int) ∈ zB := zB_t (List.mem_append_right _ (List.mem_append_right _ (List.mem_append_right _ (List.mem_append_right _ (List.mem_append_left _ (List.mem_of_getElem? (i := 164) rfl)))))) rfl
theorem k4_165 : Cond.methodLink RX12 70 yX12_isRow ∈ zB := zB_t (List.mem_append_right _ (List.mem_append_right _ (List.mem_append_right _ (List.mem_append_right _ (List.mem_append_left _ (List.mem_of_getElem? (i := 165) rfl)))))) rfl
theorem k4_166 : Cond.static yX12_isRow ∈ zB := zB_t (List.mem_append_right _ (List.mem_append_right _ (List.mem_append_right _ (List.mem_append_right _ (List.mem_append_left _ (List.mem_of_getElem? (i := 166) rfl)))))) rfl
theorem k4_167 : Cond.code yX12_isRow cX12_isRow 1 (some .boolean) ∈ zB := zB_t (List.mem_append_right _ (List.mem_append_right _ (List.mem_append_right _ (List.mem_append_right _ (List.mem_append_left _ (List.mem_of_getElem? (i := 167) rfl)))))) rfl
theorem k4_168 : Cond.constantLong RX12 64 (7) ∈ zB := zB_t (List.mem_append_right _ (List.mem_append_right _ (List.mem_append_right _ (List.mem_append_right _ (List.mem_append_left _ (List.mem_of_getElem? (i := 168) rfl)))))) rfl
theorem k4_169 : Cond.methodLink RX12 66 yX12_in ∈ zB := zB_t (List.mem_append_right _ (List.mem_append_right _ (List.mem_append_right _ (List.mem_append_right _ (List.mem_append_left _ (List.mem_of_getElem? (i := 169) rfl)))))) rfl
theorem k4_170 : Cond.static yX12_in ∈ zB := zB_t (List.mem_append_right _ (List.mem_append_right _ (List.mem_append_right _ (List.mem_append_right _ (List.mem_append_left _ (List.mem_of_getElem? (i := 170) rfl)))))) rfl
theorem k4_171 : Cond.code yX12_in cX12_in 6 (some .boolean) ∈ zB := zB_t (List.mem_append_right _ (List.mem_append_right _ (List.mem_append_right _ (List.mem_append_right _ (List.mem_append_left _ (List.mem_of_getElem? (i := 171) rfl)))))) rfl
theorem k4_172 : Cond.constantLong RX12 74 (2) ∈ zB := zB_t (List.mem_append_right _ (List.mem_append_right _ (List.mem_append_right _ (List.mem_append_right _ (List.mem_append_left _ (List.mem_of_getElem? (i := 172) rfl)))))) rfl
theorem k4_173 : Cond.constant RX12 76 (-1000001) ∈ zB := zB_t (List.mem_append_right _ (List.mem_append_right _ (List.mem_append_right _ (List.mem_append_right _ (List.mem_append_left _ (List.mem_of_getElem? (i := 173) rfl)))))) rfl
theorem k4_174 : Cond.methodLink RX12 77 yX12_finding ∈ zB := zB_t (List.mem_append_right _ (List.mem_append_right _ (List.mem_append_right _ (List.mem_append_right _ (List.mem_append_left _ (List.mem_of_getElem? (i := 174) rfl)))))) rfl
theorem k4_176 : Cond.instanceMethod yX12_finding ∈ zB := zB_t (List.mem_append_right _ (List.mem_append_right _ (List.mem_append_right _ (List.mem_append_right _ (List.mem_append_left _ (List.mem_of_getElem? (i := 176) rfl)))))) rfl
theorem k4_177 : Cond.code yX12_finding cX12_finding 2 (some .int) ∈ zB := zB_t (List.mem_append_right _ (List.mem_append_right _ (List.mem_append_right _ (List.mem_append_right _ (List.mem_append_left _ (List.mem_of_getElem? (i := 177) rfl)))))) rfl
theorem k4_178 : Cond.constant RX12 63 (-1000010) ∈ zB := zB_t (List.mem_append_right _ (List.mem_append_right _ (List.mem_append_right _ (List.mem_append_right _ (List.mem_append_left _ (List.mem_of_getElem? (i := 178) rfl)))))) rfl
theorem k4_179 : Cond.methodLink RL 21 yX12_set ∈ zB := zB_t (List.mem_append_right _ (List.mem_append_right _ (List.mem_append_right _ (List.mem_append_right _ (List.mem_append_left _ (List.mem_of_getElem? (i := 179) rfl)))))) rfl
theorem k4_180 : Cond.instanceMethod yX12_set ∈ zB := zB_t (List.mem_append_right _ (List.mem_append_right _ (List.mem_append_right _ (List.mem_append_right _ (List.mem_append_left _ (List.mem_of_getElem? (i := 180) rfl)))))) rfl
theorem k4_181 : Cond.selects RX12 yX12_set yX12_set ∈ zB := zB_t (List.mem_append_right _ (List.mem_append_right _ (List.mem_append_right _ (List.mem_append_right _ (List.mem_append_left _ (List.mem_of_getElem? (i := 181) rfl)))))) rfl
theorem k4_182 : Cond.code yX12_set cX12_set 4 (some .int) ∈ zB := zB_t (List.mem_append_right _ (List.mem_append_right _ (List.mem_append_right _ (List.mem_append_right _ (List.mem_append_left _ (List.mem_of_getElem? (i := 182) rfl)))))) rfl
theorem k4_183 : Cond.methodLink RL 26 yX12_copy ∈ zB := zB_t (List.mem_append_right _ (List.mem_append_right _ (List.mem_append_right _ (List.mem_append_right _ (List.mem_append_left _ (List.mem_of_getElem? (i := 183) rfl)))))) rfl
theorem k4_184 : Cond.instanceMethod yX12_copy ∈ zB := zB_t (List.mem_append_right _ (List.mem_append_right _ (List.mem_append_right _ (List.mem_append_right _ (List.mem_append_left _ (List.mem_of_getElem? (i := 184) rfl)))))) rfl
theorem k4_185 : Cond.selects RX12 yX12_copy yX12_copy ∈ zB := zB_t (List.mem_append_right _ (List.mem_append_right _ (List.mem_append_right _ (List.mem_append_right _ (List.mem_append_left _ (List.mem_of_getElem? (i := 185) rfl)))))) rfl
theorem k4_186 : Cond.code yX12_copy cX12_copy 9 (some .int) ∈ zB := zB_t (List.mem_append_right _ (List.mem_append_right _ (List.mem_append_right _ (List.mem_append_right _ (List.mem_append_left _ (List.mem_of_getElem? (i := 186) rfl)))))) rfl
theorem k4_187 : Cond.methodLink RL 31 yX12_drop ∈ zB := zB_t (List.mem_append_right _ (List.mem_append_right _ (List.mem_append_right _ (List.mem_append_right _ (List.mem_append_left _ (List.mem_of_getElem? (i := 187) rfl)))))) rfl
theorem k4_188 : Cond.instanceMethod yX12_drop ∈ zB := zB_t (List.mem_append_right _ (List.mem_append_right _ (List.mem_append_right _ (List.mem_append_right _ (List.mem_append_left _ (List.mem_of_getElem? (i := 188) rfl)))))) rfl
theorem k4_189 : Cond.selects RX12 yX12_drop yX12_drop ∈ zB := zB_t (List.mem_append_right _ (List.mem_append_right _ (List.mem_append_right _ (List.mem_append_right _ (List.mem_append_left _ (List.mem_of_getElem? (i := 189) rfl)))))) rfl
theorem k4_190 : Cond.code yX12_drop cX12_drop 2 (some .int) ∈ zB := zB_t (List.mem_append_right _ (List.mem_append_right _ (List.mem_append_right _ (List.mem_append_right _ (List.mem_append_left _ (List.mem_of_getElem? (i := 190) rfl)))))) rfl
theorem k4_191 : Cond.methodLink RL 38 yX12_feed ∈ zB := zB_t (List.mem_append_right _ (List.mem_append_right _ (List.mem_append_right _ (List.mem_append_right _ (List.mem_append_left _ (List.mem_of_getElem? (i := 191) rfl)))))) rfl
theorem k4_192 : Cond.instanceMethod yX12_feed ∈ zB := zB_t (List.mem_append_right _ (List.mem_append_right _ (List.mem_append_right _ (List.mem_append_right _ (List.mem_append_left _ (List.mem_of_getElem? (i := 192) rfl)))))) rfl
theorem k4_193 : Cond.selects RX12 yX12_feed yX12_feed ∈ zB := zB_t (List.mem_append_right _ (List.mem_append_right _ (List.mem_append_right _ (List.mem_append_right _ (List.mem_append_left _ (List.mem_of_getElem? (i := 193) rfl)))))) rfl
theorem k4_194 : Cond.code yX12_feed cX12_feed 5 (some .int) ∈ zB := zB_t (List.mem_append_right _ (List.mem_append_right _ (List.mem_append_right _ (List.mem_append_right _ (List.mem_append_left _ (List.mem_of_getElem? (i := 194) rfl)))))) rfl
theorem k4_195 : Cond.constantLong RX12 81 (8) ∈ zB := zB_t (List.mem_append_right _ (List.mem_append_right _ (List.mem_append_right _ (List.mem_append_right _ (List.mem_append_left _ (List.mem_of_getElem? (i := 195) rfl)))))) rfl
theorem k4_196 : Cond.constant RX12 86 (-1000003) ∈ zB := zB_t (List.mem_append_right _ (List.mem_append_right _ (List.mem_append_right _ (List.mem_append_right _ (List.mem_append_left _ (List.mem_of_getElem? (i := 196) rfl)))))) rfl
theorem k4_197 : Cond.constantLong RX12 87 (255) ∈ zB := zB_t (List.mem_append_right _ (List.mem_append_right _ (List.mem_append_right _ (List.mem_append_right _ (List.mem_append_left _ (List.mem_of_getElem? (i := 197) rfl)))))) rfl
theorem k4_198 : Cond.methodLink RL 43 yX12_land ∈ zB := zB_t (List.mem_append_right _ (List.mem_append_right _ (List.mem_append_right _ (List.mem_append_right _ (List.mem_append_left _ (List.mem_of_getElem? (i := 198) rfl)))))) rfl
theorem k4_199 : Cond.instanceMethod yX12_land ∈ zB := zB_t (List.mem_append_right _ (List.mem_append_right _ (List.mem_append_right _ (List.mem_append_right _ (List.mem_append_left _ (List.mem_of_getElem? (i := 199) rfl)))))) rfl
theorem k4_200 : Cond.selects RX12 yX12_land yX12_land ∈ zB := zB_t (List.mem_append_right _ (List.mem_append_right _ (List.mem_append_right _ (List.mem_append_right _ (List.mem_append_left _ (List.mem_of_getElem? (i := 200) rfl)))))) rfl
theorem k4_201 : Cond.code yX12_land cX12_land 2 (some .int) ∈ zB := zB_t (List.mem_append_right _ (List.mem_append_right _ (List.mem_append_right _ (List.mem_append_right _ (List.mem_append_left _ (List.mem_of_getElem? (i := 201) rfl)))))) rfl
theorem k4_202 : Cond.methodLink RX12 124 yX12_next ∈ zB := zB_t (List.mem_append_right _ (List.mem_append_right _ (List.mem_append_right _ (List.mem_append_right _ (List.mem_append_left _ (List.mem_of_getElem? (i := 202) rfl)))))) rfl
theorem k4_204 : Cond.instanceMethod yX12_next ∈ zB := zB_t (List.mem_append_right _ (List.mem_append_right _ (List.mem_append_right _ (List.mem_append_right _ (List.mem_append_left _ (List.mem_of_getElem? (i := 204) rfl)))))) rfl
theorem k4_205 : Cond.code yX12_next cX12_next 2 none ∈ zB := zB_t (List.mem_append_right _ (List.mem_append_right _ (List.mem_append_right _ (List.mem_append_right _ (List.mem_append_left _ (List.mem_of_getElem? (i := 205) rfl)))))) rfl
theorem k4_206 : Cond.methodLink RX12 96 yX12_byteAt ∈ zB := zB_t (List.mem_append_right _ (List.mem_append_right _ (List.mem_append_right _ (List.mem_append_right _ (List.mem_append_left _ (List.mem_of_getElem? (i := 206) rfl)))))) rfl
theorem k4_208 : Cond.instanceMethod yX12_byteAt ∈ zB := zB_t (List.mem_append_right _ (List.mem_append_right _ (List.mem_append_right _ (List.mem_append_right _ (List.mem_append_left _ (List.mem_of_getElem? (i := 208) rfl)))))) rfl
theorem k4_209 : Cond.code yX12_byteAt cX12_byteAt 2 (some .int) ∈ zB := zB_t (List.mem_append_right _ (List.mem_append_right _ (List.mem_append_right _ (List.mem_append_right _ (List.mem_append_left _ (List.mem_of_getElem? (i := 209) rfl)))))) rfl
theorem k4_210 : Cond.constant RX12 92 (-1000000) ∈ zB := zB_t (List.mem_append_right _ (List.mem_append_right _ (List.mem_append_right _ (List.mem_append_right _ (List.mem_append_left _ (List.mem_of_getElem? (i := 210) rfl)))))) rfl
theorem k4_211 : Cond.methodLink RX12 105 yX12_isLetter ∈ zB := zB_t (List.mem_append_right _ (List.mem_append_right _ (List.mem_append_right _ (List.mem_append_right _ (List.mem_append_left _ (List.mem_of_getElem? (i := 211) rfl)))))) rfl
theorem k4_212 : Cond.static yX12_isLetter ∈ zB := zB_t (List.mem_append_right _ (List.mem_append_right _ (List.mem_append_right _ (List.mem_append_right _ (List.mem_append_left _ (List.mem_of_getElem? (i := 212) rfl)))))) rfl
theorem k4_213 : Cond.code yX12_isLetter cX12_isLetter 1 (some .boolean) ∈ zB := zB_t (List.mem_append_right _ (List.mem_append_right _ (List.mem_append_right _ (List.mem_append_right _ (List.mem_append_left _ (List.mem_of_getElem? (i := 213) rfl)))))) rfl
theorem k4_214 : Cond.methodLink RX12 108 yX12_isFigure ∈ zB := zB_t (List.mem_append_right _ (List.mem_append_right _ (List.mem_append_right _ (List.mem_append_right _ (List.mem_append_left _ (List.mem_of_getElem? (i := 214) rfl)))))) rfl
theorem k4_215 : Cond.static yX12_isFigure ∈ zB := zB_t (List.mem_append_right _ (List.mem_append_right _ (List.mem_append_right _ (List.mem_append_right _ (List.mem_append_left _ (List.mem_of_getElem? (i := 215) rfl)))))) rfl
theorem k4_216 : Cond.code yX12_isFigure cX12_isFigure 1 (some .boolean) ∈ zB := zB_t (List.mem_append_right _ (List.mem_append_right _ (List.mem_append_right _ (List.mem_append_right _ (List.mem_append_left _ (List.mem_of_getElem? (i := 216) rfl)))))) rfl
theorem k4_217 : Cond.methodLink RX12 172 yX12_readLaw ∈ zB := zB_t (List.mem_append_right _ (List.mem_append_right _ (List.mem_append_right _ (List.mem_append_right _ (List.mem_append_left _ (List.mem_of_getElem? (i := 217) rfl)))))) rfl
theorem k4_219 : Cond.instanceMethod yX12_readLaw ∈ zB := zB_t (List.mem_append_right _ (List.mem_append_right _ (List.mem_append_right _ (List.mem_append_right _ (List.mem_append_left _ (List.mem_of_getElem? (i := 219) rfl)))))) rfl
theorem k4_220 : Cond.code yX12_readLaw cX12_readLaw 2 none ∈ zB := zB_t (List.mem_append_right _ (List.mem_append_right _ (List.mem_append_right _ (List.mem_append_right _ (List.mem_append_left _ (List.mem_of_getElem? (i := 220) rfl)))))) rfl
theorem k4_221 : Cond.constantLong RX12 145 (7102839) ∈ zB := zB_t (List.mem_append_right _ (List.mem_append_right _ (List.mem_append_right _ (List.mem_append_right _ (List.mem_append_left _ (List.mem_of_getElem? (i := 221) rfl)))))) rfl
theorem k4_222 : Cond.methodLink RX12 147 yX12_mustWord ∈ zB := zB_t (List.mem_append_right _ (List.mem_append_right _ (List.mem_append_right _ (List.mem_append_right _ (List.mem_append_left _ (List.mem_of_getElem? (i := 222) rfl)))))) rfl
theorem k4_224 : Cond.instanceMethod yX12_mustWord ∈ zB := zB_t (List.mem_append_right _ (List.mem_append_right _ (List.mem_append_right _ (List.mem_append_right _ (List.mem_append_left _ (List.mem_of_getElem? (i := 224) rfl)))))) rfl
theorem k4_225 : Cond.code yX12_mustWord cX12_mustWord 3 none ∈ zB := zB_t (List.mem_append_right _ (List.mem_append_right _ (List.mem_append_right _ (List.mem_append_right _ (List.mem_append_left _ (List.mem_of_getElem? (i := 225) rfl)))))) rfl
theorem k4_226 : Cond.methodLink RX12 141 yX12_word ∈ zB := zB_t (List.mem_append_right _ (List.mem_append_right _ (List.mem_append_right _ (List.mem_append_right _ (List.mem_append_left _ (List.mem_of_getElem? (i := 226) rfl)))))) rfl
theorem k4_228 : Cond.instanceMethod yX12_word ∈ zB := zB_t (List.mem_append_right _ (List.mem_append_right _ (List.mem_append_right _ (List.mem_append_right _ (List.mem_append_left _ (List.mem_of_getElem? (i := 228) rfl)))))) rfl
theorem k4_229 : Cond.code yX12_word cX12_word 4 (some .long) ∈ zB := zB_t (List.mem_append_right _ (List.mem_append_right _ (List.mem_append_right _ (List.mem_append_right _ (List.mem_append_left _ (List.mem_of_getElem? (i := 229) rfl)))))) rfl
theorem k4_230 : Cond.methodLink RX12 127 yX12_must ∈ zB := zB_t (List.mem_append_right _ (List.mem_append_right _ (List.mem_append_right _ (List.mem_append_right _ (List.mem_append_left _ (List.mem_of_getElem? (i := 230) rfl)))))) rfl
theorem k4_232 : Cond.instanceMethod yX12_must ∈ zB := zB_t (List.mem_append_right _ (List.mem_append_right _ (List.mem_append_right _ (List.mem_append_right _ (List.mem_append_left _ (List.mem_of_getElem? (i := 232) rfl)))))) rfl
theorem k4_233 : Cond.code yX12_must cX12_must 2 none ∈ zB := zB_t (List.mem_append_right _ (List.mem_append_right _ (List.mem_append_right _ (List.mem_append_right _ (List.mem_append_left _ (List.mem_of_getElem? (i := 233) rfl)))))) rfl
theorem k4_234 : Cond.methodLink RX12 120 yX12_bad ∈ zB := zB_t (List.mem_append_right _ (List.mem_append_right _ (List.mem_append_right _ (List.mem_append_right _ (List.mem_append_left _ (List.mem_of_getElem? (i := 234) rfl)))))) rfl
theorem k4_236 : Cond.instanceMethod yX12_bad ∈ zB := zB_t (List.mem_append_right _ (List.mem_append_right _ (List.mem_append_right _ (List.mem_append_right _ (List.mem_append_left _ (List.mem_of_getElem? (i := 236) rfl)))))) rfl
theorem k4_237 : Cond.code yX12_bad cX12_bad 2 none ∈ zB := zB_t (List.mem_append_right _ (List.mem_append_right _ (List.mem_append_right _ (List.mem_append_right _ (List.mem_append_left _ (List.mem_of_getElem? (i := 237) rfl)))))) rfl
theorem k4_238 : Cond.constantLong RX12 151 (440005915496) ∈ zB := zB_t (List.mem_append_right _ (List.mem_append_right _ (List.mem_append_right _ (List.mem_append_right _ (List.mem_append_left _ (List.mem_of_getElem? (i := 238) rfl)))))) rfl
theorem k4_239 : Cond.constantLong RX12 153 (7302244) ∈ zB := zB_t (List.mem_append_right _ (List.mem_append_right _ (List.mem_append_right _ (List.mem_append_right _ (List.mem_append_left _ (List.mem_of_getElem? (i := 239) rfl)))))) rfl
theorem k5_0 : Cond.methodLink RX12 155 yX12_number ∈ zB := zB_t (List.mem_append_right _ (List.mem_append_right _ (List.mem_append_right _ (List.mem_append_right _ (List.mem_append_right _ (List.mem_append_left _ (List.mem_of_getElem? (i := 0) rfl))))))) rfl
theorem k5_2 : Cond.instanceMethod yX12_number ∈ zB := zB_t (List.mem_append_right _ (List.mem_append_right _ (List.mem_append_right _ (List.mem_append_right _ (List.mem_append_right _ (List.mem_append_left _ (List.mem_of_getElem? (i := 2) rfl))))))) rfl
theorem k5_3 : Cond.code yX12_number cX12_number 5 (some .int) ∈ zB := zB_t (List.mem_append_right _ (List.mem_append_right _ (List.mem_append_right _ (List.mem_append_right _ (List.mem_append_right _ (List.mem_append_left _ (List.mem_of_getElem? (i := 3) rfl))))))) rfl
theorem k5_4 : Cond.methodLink RX12 159 yX12_mustEnd ∈ zB := zB_t (List.mem_append_right _ (List.mem_append_right _ (List.mem_append_right _ (List.mem_append_right _ (List.mem_append_right _ (List.mem_append_left _ (List.mem_of_getElem? (i := 4) rfl))))))) rfl
theorem k5_6 : Cond.instanceMethod yX12_mustEnd ∈ zB := zB_t (List.mem_append_right _ (List.mem_append_right _ (List.mem_append_right _ (List.mem_append_right _ (List.mem_append_right _ (List.mem_append_left _ (List.mem_of_getElem? (i := 6) rfl))))))) rfl
theorem k5_7 : Cond.code yX12_mustEnd cX12_mustEnd 1 none ∈ zB := zB_t (List.mem_append_right _ (List.mem_append_right _ (List.mem_append_right _ (List.mem_append_right _ (List.mem_append_right _ (List.mem_append_left _ (List.mem_of_getElem? (i := 7) rfl))))))) rfl
theorem k5_8 : Cond.constantLong RX12 175 (512970880104) ∈ zB := zB_t (List.mem_append_right _ (List.mem_append_right _ (List.mem_append_right _ (List.mem_append_right _ (List.mem_append_right _ (List.mem_append_left _ (List.mem_of_getElem? (i := 8) rfl))))))) rfl
theorem k5_9 : Cond.methodLink RX12 177 yX12_mustBegin ∈ zB := zB_t (List.mem_append_right _ (List.mem_append_right _ (List.mem_append_right _ (List.mem_append_right _ (List.mem_append_right _ (List.mem_append_left _ (List.mem_of_getElem? (i := 9) rfl))))))) rfl
theorem k5_11 : Cond.instanceMethod yX12_mustBegin ∈ zB := zB_t (List.mem_append_right _ (List.mem_append_right _ (List.mem_append_right _ (List.mem_append_right _ (List.mem_append_right _ (List.mem_append_left _ (List.mem_of_getElem? (i := 11) rfl))))))) rfl
theorem k5_12 : Cond.code yX12_mustBegin cX12_mustBegin 3 none ∈ zB := zB_t (List.mem_append_right _ (List.mem_append_right _ (List.mem_append_right _ (List.mem_append_right _ (List.mem_append_right _ (List.mem_append_left _ (List.mem_of_getElem? (i := 12) rfl))))))) rfl
theorem k5_13 : Cond.methodLink RX12 180 yX12_readWorth ∈ zB := zB_t (List.mem_append_right _ (List.mem_append_right _ (List.mem_append_right _ (List.mem_append_right _ (List.mem_append_right _ (List.mem_append_left _ (List.mem_of_getElem? (i := 13) rfl))))))) rfl
theorem k5_15 : Cond.instanceMethod yX12_readWorth ∈ zB := zB_t (List.mem_append_right _ (List.mem_append_right _ (List.mem_append_right _ (List.mem_append_right _ (List.mem_append_right _ (List.mem_append_left _ (List.mem_of_getElem? (i := 15) rfl))))))) rfl
theorem k5_16 : Cond.code yX12_readWorth cX12_readWorth 4 none ∈ zB := zB_t (List.mem_append_right _ (List.mem_append_right _ (List.mem_append_right _ (List.mem_append_right _ (List.mem_append_right _ (List.mem_append_left _ (List.mem_of_getElem? (i := 16) rfl))))))) rfl
theorem k5_17 : Cond.methodLink RX12 162 yX12_begins ∈ zB := zB_t (List.mem_append_right _ (List.mem_append_right _ (List.mem_append_right _ (List.mem_append_right _ (List.mem_append_right _ (List.mem_append_left _ (List.mem_of_getElem? (i := 17) rfl))))))) rfl
theorem k5_19 : Cond.instanceMethod yX12_begins ∈ zB := zB_t (List.mem_append_right _ (List.mem_append_right _ (List.mem_append_right _ (List.mem_append_right _ (List.mem_append_right _ (List.mem_append_left _ (List.mem_of_getElem? (i := 19) rfl))))))) rfl
theorem k5_20 : Cond.code yX12_begins cX12_begins 3 none ∈ zB := zB_t (List.mem_append_right _ (List.mem_append_right _ (List.mem_append_right _ (List.mem_append_right _ (List.mem_append_right _ (List.mem_append_left _ (List.mem_of_getElem? (i := 20) rfl))))))) rfl
theorem k5_21 : Cond.methodLink RX12 183 yX12_readChest ∈ zB := zB_t (List.mem_append_right _ (List.mem_append_right _ (List.mem_append_right _ (List.mem_append_right _ (List.mem_append_right _ (List.mem_append_left _ (List.mem_of_getElem? (i := 21) rfl))))))) rfl
theorem k5_23 : Cond.instanceMethod yX12_readChest ∈ zB := zB_t (List.mem_append_right _ (List.mem_append_right _ (List.mem_append_right _ (List.mem_append_right _ (List.mem_append_right _ (List.mem_append_left _ (List.mem_of_getElem? (i := 23) rfl))))))) rfl
theorem k5_24 : Cond.code yX12_readChest cX12_readChest 1 none ∈ zB := zB_t (List.mem_append_right _ (List.mem_append_right _ (List.mem_append_right _ (List.mem_append_right _ (List.mem_append_right _ (List.mem_append_left _ (List.mem_of_getElem? (i := 24) rfl))))))) rfl
theorem k5_25 : Cond.constantLong RX12 166 (426953241460) ∈ zB := zB_t (List.mem_append_right _ (List.mem_append_right _ (List.mem_append_right _ (List.mem_append_right _ (List.mem_append_right _ (List.mem_append_left _ (List.mem_of_getElem? (i := 25) rfl))))))) rfl
theorem k5_26 : Cond.constantLong RX12 186 (118083237733746) ∈ zB := zB_t (List.mem_append_right _ (List.mem_append_right _ (List.mem_append_right _ (List.mem_append_right _ (List.mem_append_right _ (List.mem_append_left _ (List.mem_of_getElem? (i := 26) rfl))))))) rfl
theorem k5_27 : Cond.methodLink RX12 188 yX12_readKeeper ∈ zB := zB_t (List.mem_append_right _ (List.mem_append_right _ (List.mem_append_right _ (List.mem_append_right _ (List.mem_append_right _ (List.mem_append_left _ (List.mem_of_getElem? (i := 27) rfl))))))) rfl
theorem k5_29 : Cond.instanceMethod yX12_readKeeper ∈ zB := zB_t (List.mem_append_right _ (List.mem_append_right _ (List.mem_append_right _ (List.mem_append_right _ (List.mem_append_right _ (List.mem_append_left _ (List.mem_of_getElem? (i := 29) rfl))))))) rfl
theorem k5_30 : Cond.code yX12_readKeeper cX12_readKeeper 4 none ∈ zB := zB_t (List.mem_append_right _ (List.mem_append_right _ (List.mem_append_right _ (List.mem_append_right _ (List.mem_append_right _ (List.mem_append_left _ (List.mem_of_getElem? (i := 30) rfl))))))) rfl
theorem k5_31 : Cond.methodLink RX12 168 yX12_wayOf ∈ zB := zB_t (List.mem_append_right _ (List.mem_append_right _ (List.mem_append_right _ (List.mem_append_right _ (List.mem_append_right _ (List.mem_append_left _ (List.mem_of_getElem? (i := 31) rfl))))))) rfl
theorem k5_32 : Cond.static yX12_wayOf ∈ zB := zB_t (List.mem_append_right _ (List.mem_append_right _ (List.mem_append_right _ (List.mem_append_right _ (List.mem_append_right _ (List.mem_append_left _ (List.mem_of_getElem? (i := 32) rfl))))))) rfl
theorem k5_33 : Cond.code yX12_wayOf cX12_wayOf 2 (some .int) ∈ zB := zB_t (List.mem_append_right _ (List.mem_append_right _ (List.mem_append_right _ (List.mem_append_right _ (List.mem_append_right _ (List.mem_append_left _ (List.mem_of_getElem? (i := 33) rfl))))))) rfl
theorem k5_34 : Cond.constantLong RX12 131 (7237495) ∈ zB := zB_t (List.mem_append_right _ (List.mem_append_right _ (List.mem_append_right _ (List.mem_append_right _ (List.mem_append_right _ (List.mem_append_left _ (List.mem_of_getElem? (i := 34) rfl))))))) rfl
theorem k5_35 : Cond.constantLong RX12 133 (6383461) ∈ zB := zB_t (List.mem_append_right _ (List.mem_append_right _ (List.mem_append_right _ (List.mem_append_right _ (List.mem_append_right _ (List.mem_append_left _ (List.mem_of_getElem? (i := 35) rfl))))))) rfl
theorem k5_36 : Cond.constantLong RX12 135 (512736125800) ∈ zB := zB_t (List.mem_append_right _ (List.mem_append_right _ (List.mem_append_right _ (List.mem_append_right _ (List.mem_append_right _ (List.mem_append_left _ (List.mem_of_getElem? (i := 36) rfl))))))) rfl
theorem k5_37 : Cond.constantLong RX12 137 (109330278475123) ∈ zB := zB_t (List.mem_append_right _ (List.mem_append_right _ (List.mem_append_right _ (List.mem_append_right _ (List.mem_append_right _ (List.mem_append_left _ (List.mem_of_getElem? (i := 37) rfl))))))) rfl
theorem k5_38 : Cond.constantLong RX12 139 (126896627347060) ∈ zB := zB_t (List.mem_append_right _ (List.mem_append_right _ (List.mem_append_right _ (List.mem_append_right _ (List.mem_append_right _ (List.mem_append_left _ (List.mem_of_getElem? (i := 38) rfl))))))) rfl
theorem k5_39 : Cond.constantLong RX12 191 (1852143475) ∈ zB := zB_t (List.mem_append_right _ (List.mem_append_right _ (List.mem_append_right _ (List.mem_append_right _ (List.mem_append_right _ (List.mem_append_left _ (List.mem_of_getElem? (i := 39) rfl))))))) rfl
theorem k5_40 : Cond.methodLink RX12 193 yX12_readNews ∈ zB := zB_t (List.mem_append_right _ (List.mem_append_right _ (List.mem_append_right _ (List.mem_append_right _ (List.mem_append_right _ (List.mem_append_left _ (List.mem_of_getElem? (i := 40) rfl))))))) rfl
theorem k5_42 : Cond.instanceMethod yX12_readNews ∈ zB := zB_t (List.mem_append_right _ (List.mem_append_right _ (List.mem_append_right _ (List.mem_append_right _ (List.mem_append_right _ (List.mem_append_left _ (List.mem_of_getElem? (i := 42) rfl))))))) rfl
theorem k5_43 : Cond.code yX12_readNews cX12_readNews 4 none ∈ zB := zB_t (List.mem_append_right _ (List.mem_append_right _ (List.mem_append_right _ (List.mem_append_right _ (List.mem_append_right _ (List.mem_append_left _ (List.mem_of_getElem? (i := 43) rfl))))))) rfl
theorem k5_44 : Cond.constant RX12 199 (-1000100) ∈ zB := zB_t (List.mem_append_right _ (List.mem_append_right _ (List.mem_append_right _ (List.mem_append_right _ (List.mem_append_right _ (List.mem_append_left _ (List.mem_of_getElem? (i := 44) rfl))))))) rfl
theorem k5_45 : Cond.methodLink RX12 204 yX12_begin ∈ zB := zB_t (List.mem_append_right _ (List.mem_append_right _ (List.mem_append_right _ (List.mem_append_right _ (List.mem_append_right _ (List.mem_append_left _ (List.mem_of_getElem? (i := 45) rfl))))))) rfl
theorem k5_47 : Cond.instanceMethod yX12_begin ∈ zB := zB_t (List.mem_append_right _ (List.mem_append_right _ (List.mem_append_right _ (List.mem_append_right _ (List.mem_append_right _ (List.mem_append_left _ (List.mem_of_getElem? (i := 47) rfl))))))) rfl
theorem k5_48 : Cond.code yX12_begin cX12_begin 4 none ∈ zB := zB_t (List.mem_append_right _ (List.mem_append_right _ (List.mem_append_right _ (List.mem_append_right _ (List.mem_append_right _ (List.mem_append_left _ (List.mem_of_getElem? (i := 48) rfl))))))) rfl
theorem k5_49 : Cond.constantLong RX12 207 (21) ∈ zB := zB_t (List.mem_append_right _ (List.mem_append_right _ (List.mem_append_right _ (List.mem_append_right _ (List.mem_append_right _ (List.mem_append_left _ (List.mem_of_getElem? (i := 49) rfl))))))) rfl
theorem k5_50 : Cond.constantLong RX12 209 (28) ∈ zB := zB_t (List.mem_append_right _ (List.mem_append_right _ (List.mem_append_right _ (List.mem_append_right _ (List.mem_append_right _ (List.mem_append_left _ (List.mem_of_getElem? (i := 50) rfl))))))) rfl
theorem k5_51 : Cond.methodLink RL 47 yX12_fault ∈ zB := zB_t (List.mem_append_right _ (List.mem_append_right _ (List.mem_append_right _ (List.mem_append_right _ (List.mem_append_right _ (List.mem_append_left _ (List.mem_of_getElem? (i := 51) rfl))))))) rfl
theorem k5_52 : Cond.instanceMethod yX12_fault ∈ zB := zB_t (List.mem_append_right _ (List.mem_append_right _ (List.mem_append_right _ (List.mem_append_right _ (List.mem_append_right _ (List.mem_append_left _ (List.mem_of_getElem? (i := 52) rfl))))))) rfl
theorem k5_53 : Cond.selects RX12 yX12_fault yX12_fault ∈ zB := zB_t (List.mem_append_right _ (List.mem_append_right _ (List.mem_append_right _ (List.mem_append_right _ (List.mem_append_right _ (List.mem_append_left _ (List.mem_of_getElem? (i := 53) rfl))))))) rfl
theorem k5_54 : Cond.code yX12_fault cX12_fault 1 (some .int) ∈ zB := zB_t (List.mem_append_right _ (List.mem_append_right _ (List.mem_append_right _ (List.mem_append_right _ (List.mem_append_right _ (List.mem_append_left _ (List.mem_of_getElem? (i := 54) rfl))))))) rfl
theorem k5_55 : Cond.methodLink RL 51 yX12_value ∈ zB := zB_t (List.mem_append_right _ (List.mem_append_right _ (List.mem_append_right _ (List.mem_append_right _ (List.mem_append_right _ (List.mem_append_left _ (List.mem_of_getElem? (i := 55) rfl))))))) rfl
theorem k5_56 : Cond.instanceMethod yX12_value ∈ zB := zB_t (List.mem_append_right _ (List.mem_append_right _ (List.mem_append_right _ (List.mem_append_right _ (List.mem_append_right _ (List.mem_append_left _ (List.mem_of_getElem? (i := 56) rfl))))))) rfl
theorem k5_57 : Cond.selects RX12 yX12_value yX12_value ∈ zB := zB_t (List.mem_append_right _ (List.mem_append_right _ (List.mem_append_right _ (List.mem_append_right _ (List.mem_append_right _ (List.mem_append_left _ (List.mem_of_getElem? (i := 57) rfl))))))) rfl
theorem k5_58 : Cond.code yX12_value cX12_value 2 (some .int) ∈ zB := zB_t (List.mem_append_right _ (List.mem_append_right _ (List.mem_append_right _ (List.mem_append_right _ (List.mem_append_right _ (List.mem_append_left _ (List.mem_of_getElem? (i := 58) rfl))))))) rfl
theorem k5_59 : Cond.constant RX12 214 (-1000002) ∈ zB := zB_t (List.mem_append_right _ (List.mem_append_right _ (List.mem_append_right _ (List.mem_append_right _ (List.mem_append_right _ (List.mem_append_left _ (List.mem_of_getElem? (i := 59) rfl))))))) rfl
theorem k5_60 : Cond.constantLong RX12 215 (999) ∈ zB := zB_t (List.mem_append_right _ (List.mem_append_right _ (List.mem_append_right _ (List.mem_append_right _ (List.mem_append_right _ (List.mem_append_left _ (List.mem_of_getElem? (i := 60) rfl))))))) rfl
theorem k5_61 : Cond.methodLink RX12 217 yX12_valueOf ∈ zB := zB_t (List.mem_append_right _ (List.mem_append_right _ (List.mem_append_right _ (List.mem_append_right _ (List.mem_append_right _ (List.mem_append_left _ (List.mem_of_getElem? (i := 61) rfl))))))) rfl
theorem k5_63 : Cond.instanceMethod yX12_valueOf ∈ zB := zB_t (List.mem_append_right _ (List.mem_append_right _ (List.mem_append_right _ (List.mem_append_right _ (List.mem_append_right _ (List.mem_append_left _ (List.mem_of_getElem? (i := 63) rfl))))))) rfl
theorem k5_64 : Cond.code yX12_valueOf cX12_valueOf 2 (some .int) ∈ zB := zB_t (List.mem_append_right _ (List.mem_append_right _ (List.mem_append_right _ (List.mem_append_right _ (List.mem_append_right _ (List.mem_append_left _ (List.mem_of_getElem? (i := 64) rfl))))))) rfl
theorem k5_65 : Cond.methodLink RX12 211 yX12_plainValue ∈ zB := zB_t (List.mem_append_right _ (List.mem_append_right _ (List.mem_append_right _ (List.mem_append_right _ (List.mem_append_right _ (List.mem_append_left _ (List.mem_of_getElem? (i := 65) rfl))))))) rfl
theorem k5_67 : Cond.instanceMethod yX12_plainValue ∈ zB := zB_t (List.mem_append_right _ (List.mem_append_right _ (List.mem_append_right _ (List.mem_append_right _ (List.mem_append_right _ (List.mem_append_left _ (List.mem_of_getElem? (i := 67) rfl))))))) rfl
theorem k5_68 : Cond.code yX12_plainValue cX12_plainValue 5 (some .int) ∈ zB := zB_t (List.mem_append_right _ (List.mem_append_right _ (List.mem_append_right _ (List.mem_append_right _ (List.mem_append_right _ (List.mem_append_left _ (List.mem_of_getElem? (i := 68) rfl))))))) rfl
theorem k5_69 : Cond.methodLink RL 56 yX12_go ∈ zB := zB_t (List.mem_append_right _ (List.mem_append_right _ (List.mem_append_right _ (List.mem_append_right _ (List.mem_append_right _ (List.mem_append_left _ (List.mem_of_getElem? (i := 69) rfl))))))) rfl
theorem k5_70 : Cond.instanceMethod yX12_go ∈ zB := zB_t (List.mem_append_right _ (List.mem_append_right _ (List.mem_append_right _ (List.mem_append_right _ (List.mem_append_right _ (List.mem_append_left _ (List.mem_of_getElem? (i := 70) rfl))))))) rfl
theorem k5_71 : Cond.selects RX12 yX12_go yX12_go ∈ zB := zB_t (List.mem_append_right _ (List.mem_append_right _ (List.mem_append_right _ (List.mem_append_right _ (List.mem_append_right _ (List.mem_append_left _ (List.mem_of_getElem? (i := 71) rfl))))))) rfl
theorem k5_72 : Cond.code yX12_go cX12_go 4 (some .int) ∈ zB := zB_t (List.mem_append_right _ (List.mem_append_right _ (List.mem_append_right _ (List.mem_append_right _ (List.mem_append_right _ (List.mem_append_left _ (List.mem_of_getElem? (i := 72) rfl))))))) rfl
theorem k5_73 : Cond.constantLong RX12 256 (60) ∈ zB := zB_t (List.mem_append_right _ (List.mem_append_right _ (List.mem_append_right _ (List.mem_append_right _ (List.mem_append_right _ (List.mem_append_left _ (List.mem_of_getElem? (i := 73) rfl))))))) rfl
theorem k5_74 : Cond.constantLong RX12 258 (999999) ∈ zB := zB_t (List.mem_append_right _ (List.mem_append_right _ (List.mem_append_right _ (List.mem_append_right _ (List.mem_append_right _ (List.mem_append_left _ (List.mem_of_getElem? (i := 74) rfl))))))) rfl
theorem k5_75 : Cond.methodLink RX12 260 yX12_year ∈ zB := zB_t (List.mem_append_right _ (List.mem_append_right _ (List.mem_append_right _ (List.mem_append_right _ (List.mem_append_right _ (List.mem_append_left _ (List.mem_of_getElem? (i := 75) rfl))))))) rfl
theorem k5_77 : Cond.instanceMethod yX12_year ∈ zB := zB_t (List.mem_append_right _ (List.mem_append_right _ (List.mem_append_right _ (List.mem_append_right _ (List.mem_append_right _ (List.mem_append_left _ (List.mem_of_getElem? (i := 77) rfl))))))) rfl
theorem k5_78 : Cond.code yX12_year cX12_year 5 none ∈ zB := zB_t (List.mem_append_right _ (List.mem_append_right _ (List.mem_append_right _ (List.mem_append_right _ (List.mem_append_right _ (List.mem_append_left _ (List.mem_of_getElem? (i := 78) rfl))))))) rfl
theorem k5_79 : Cond.methodLink RX12 243 yX12_sellAll ∈ zB := zB_t (List.mem_append_right _ (List.mem_append_right _ (List.mem_append_right _ (List.mem_append_right _ (List.mem_append_right _ (List.mem_append_left _ (List.mem_of_getElem? (i := 79) rfl))))))) rfl
theorem k5_81 : Cond.instanceMethod yX12_sellAll ∈ zB := zB_t (List.mem_append_right _ (List.mem_append_right _ (List.mem_append_right _ (List.mem_append_right _ (List.mem_append_right _ (List.mem_append_left _ (List.mem_of_getElem? (i := 81) rfl))))))) rfl
theorem k5_82 : Cond.code yX12_sellAll cX12_sellAll 5 none ∈ zB := zB_t (List.mem_append_right _ (List.mem_append_right _ (List.mem_append_right _ (List.mem_append_right _ (List.mem_append_right _ (List.mem_append_left _ (List.mem_of_getElem? (i := 82) rfl))))))) rfl
theorem k5_83 : Cond.methodLink RX12 220 yX12_has ∈ zB := zB_t (List.mem_append_right _ (List.mem_append_right _ (List.mem_append_right _ (List.mem_append_right _ (List.mem_append_right _ (List.mem_append_left _ (List.mem_of_getElem? (i := 83) rfl))))))) rfl
theorem k5_85 : Cond.instanceMethod yX12_has ∈ zB := zB_t (List.mem_append_right _ (List.mem_append_right _ (List.mem_append_right _ (List.mem_append_right _ (List.mem_append_right _ (List.mem_append_left _ (List.mem_of_getElem? (i := 85) rfl))))))) rfl
theorem k5_86 : Cond.code yX12_has cX12_has 3 (some .boolean) ∈ zB := zB_t (List.mem_append_right _ (List.mem_append_right _ (List.mem_append_right _ (List.mem_append_right _ (List.mem_append_right _ (List.mem_append_left _ (List.mem_of_getElem? (i := 86) rfl))))))) rfl
theorem k5_87 : Cond.methodLink RX12 234 yX12_sells ∈ zB := zB_t (List.mem_append_right _ (List.mem_append_right _ (List.mem_append_right _ (List.mem_append_right _ (List.mem_append_right _ (List.mem_append_left _ (List.mem_of_getElem? (i := 87) rfl))))))) rfl
theorem k5_89 : Cond.instanceMethod yX12_sells ∈ zB := zB_t (List.mem_append_right _ (List.mem_append_right _ (List.mem_append_right _ (List.mem_append_right _ (List.mem_append_right _ (List.mem_append_left _ (List.mem_of_getElem? (i := 89) rfl))))))) rfl
theorem k5_90 : Cond.code yX12_sells cX12_sells 7 (some .boolean) ∈ zB := zB_t (List.mem_append_right _ (List.mem_append_right _ (List.mem_append_right _ (List.mem_append_right _ (List.mem_append_right _ (List.mem_append_left _ (List.mem_of_getElem? (i := 90) rfl))))))) rfl
theorem k5_91 : Cond.methodLink RX12 230 yX12_isAboutTo ∈ zB := zB_t (List.mem_append_right _ (List.mem_append_right _ (List.mem_append_right _ (List.mem_append_right _ (List.mem_append_right _ (List.mem_append_left _ (List.mem_of_getElem? (i := 91) rfl))))))) rfl
theorem k5_93 : Cond.instanceMethod yX12_isAboutTo ∈ zB := zB_t (List.mem_append_right _ (List.mem_append_right _ (List.mem_append_right _ (List.mem_append_right _ (List.mem_append_right _ (List.mem_append_left _ (List.mem_of_getElem? (i := 93) rfl))))))) rfl
theorem k5_94 : Cond.code yX12_isAboutTo cX12_isAboutTo 5 (some .boolean) ∈ zB := zB_t (List.mem_append_right _ (List.mem_append_right _ (List.mem_append_right _ (List.mem_append_right _ (List.mem_append_right _ (List.mem_append_left _ (List.mem_of_getElem? (i := 94) rfl))))))) rfl
theorem k5_95 : Cond.methodLink RX12 227 yX12_isOf ∈ zB := zB_t (List.mem_append_right _ (List.mem_append_right _ (List.mem_append_right _ (List.mem_append_right _ (List.mem_append_right _ (List.mem_append_left _ (List.mem_of_getElem? (i := 95) rfl))))))) rfl
theorem k5_96 : Cond.static yX12_isOf ∈ zB := zB_t (List.mem_append_right _ (List.mem_append_right _ (List.mem_append_right _ (List.mem_append_right _ (List.mem_append_right _ (List.mem_append_left _ (List.mem_of_getElem? (i := 96) rfl))))))) rfl
theorem k5_97 : Cond.code yX12_isOf cX12_isOf 2 (some .boolean) ∈ zB := zB_t (List.mem_append_right _ (List.mem_append_right _ (List.mem_append_right _ (List.mem_append_right _ (List.mem_append_right _ (List.mem_append_left _ (List.mem_of_getElem? (i := 97) rfl))))))) rfl
theorem k5_98 : Cond.methodLink RX12 237 yX12_hadBy ∈ zB := zB_t (List.mem_append_right _ (List.mem_append_right _ (List.mem_append_right _ (List.mem_append_right _ (List.mem_append_right _ (List.mem_append_left _ (List.mem_of_getElem? (i := 98) rfl))))))) rfl
theorem k5_100 : Cond.instanceMethod yX12_hadBy ∈ zB := zB_t (List.mem_append_right _ (List.mem_append_right _ (List.mem_append_right _ (List.mem_append_right _ (List.mem_append_right _ (List.mem_append_left _ (List.mem_of_getElem? (i := 100) rfl))))))) rfl
theorem k5_101 : Cond.code yX12_hadBy cX12_hadBy 2 (some .int) ∈ zB := zB_t (List.mem_append_right _ (List.mem_append_right _ (List.mem_append_right _ (List.mem_append_right _ (List.mem_append_right _ (List.mem_append_left _ (List.mem_of_getElem? (i := 101) rfl))))))) rfl
theorem k5_102 : Cond.methodLink RX12 224 yX12_keepersOf ∈ zB := zB_t (List.mem_append_right _ (List.mem_append_right _ (List.mem_append_right _ (List.mem_append_right _ (List.mem_append_right _ (List.mem_append_left _ (List.mem_of_getElem? (i := 102) rfl))))))) rfl
theorem k5_104 : Cond.instanceMethod yX12_keepersOf ∈ zB := zB_t (List.mem_append_right _ (List.mem_append_right _ (List.mem_append_right _ (List.mem_append_right _ (List.mem_append_right _ (List.mem_append_left _ (List.mem_of_getElem? (i := 104) rfl))))))) rfl
theorem k5_105 : Cond.code yX12_keepersOf cX12_keepersOf 4 (some .int) ∈ zB := zB_t (List.mem_append_right _ (List.mem_append_right _ (List.mem_append_right _ (List.mem_append_right _ (List.mem_append_right _ (List.mem_append_left _ (List.mem_of_getElem? (i := 105) rfl))))))) rfl
theorem k5_106 : Cond.methodLink RX12 240 yX12_worthFor ∈ zB := zB_t (List.mem_append_right _ (List.mem_append_right _ (List.mem_append_right _ (List.mem_append_right _ (List.mem_append_right _ (List.mem_append_left _ (List.mem_of_getElem? (i := 106) rfl))))))) rfl
theorem k5_108 : Cond.instanceMethod yX12_worthFor ∈ zB := zB_t (List.mem_append_right _ (List.mem_append_right _ (List.mem_append_right _ (List.mem_append_right _ (List.mem_append_right _ (List.mem_append_left _ (List.mem_of_getElem? (i := 108) rfl))))))) rfl
theorem k5_109 : Cond.code yX12_worthFor cX12_worthFor 3 (some .int) ∈ zB := zB_t (List.mem_append_right _ (List.mem_append_right _ (List.mem_append_right _ (List.mem_append_right _ (List.mem_append_right _ (List.mem_append_left _ (List.mem_of_getElem? (i := 109) rfl))))))) rfl
theorem k5_110 : Cond.constantLong RX12 250 (16807) ∈ zB := zB_t (List.mem_append_right _ (List.mem_append_right _ (List.mem_append_right _ (List.mem_append_right _ (List.mem_append_right _ (List.mem_append_left _ (List.mem_of_getElem? (i := 110) rfl))))))) rfl
theorem k5_111 : Cond.constantLong RX12 252 (2147483647) ∈ zB := zB_t (List.mem_append_right _ (List.mem_append_right _ (List.mem_append_right _ (List.mem_append_right _ (List.mem_append_right _ (List.mem_append_left _ (List.mem_of_getElem? (i := 111) rfl))))))) rfl
theorem k5_112 : Cond.constantLong RX12 254 (1000) ∈ zB := zB_t (List.mem_append_right _ (List.mem_append_right _ (List.mem_append_right _ (List.mem_append_right _ (List.mem_append_right _ (List.mem_append_left _ (List.mem_of_getElem? (i := 112) rfl))))))) rfl
theorem k5_113 : Cond.methodLink RL 60 yX12_tell ∈ zB := zB_t (List.mem_append_right _ (List.mem_append_right _ (List.mem_append_right _ (List.mem_append_right _ (List.mem_append_right _ (List.mem_append_left _ (List.mem_of_getElem? (i := 113) rfl))))))) rfl
theorem k5_114 : Cond.instanceMethod yX12_tell ∈ zB := zB_t (List.mem_append_right _ (List.mem_append_right _ (List.mem_append_right _ (List.mem_append_right _ (List.mem_append_right _ (List.mem_append_left _ (List.mem_of_getElem? (i := 114) rfl))))))) rfl
theorem k5_115 : Cond.selects RX12 yX12_tell yX12_tell ∈ zB := zB_t (List.mem_append_right _ (List.mem_append_right _ (List.mem_append_right _ (List.mem_append_right _ (List.mem_append_right _ (List.mem_append_left _ (List.mem_of_getElem? (i := 115) rfl))))))) rfl
theorem k5_116 : Cond.code yX12_tell cX12_tell 4 (some .int) ∈ zB := zB_t (List.mem_append_right _ (List.mem_append_right _ (List.mem_append_right _ (List.mem_append_right _ (List.mem_append_right _ (List.mem_append_left _ (List.mem_of_getElem? (i := 116) rfl))))))) rfl
theorem k5_117 : Cond.methodLink RX12 263 yX12_isKeeper ∈ zB := zB_t (List.mem_append_right _ (List.mem_append_right _ (List.mem_append_right _ (List.mem_append_right _ (List.mem_append_right _ (List.mem_append_left _ (List.mem_of_getElem? (i := 117) rfl))))))) rfl
theorem k5_119 : Cond.instanceMethod yX12_isKeeper ∈ zB := zB_t (List.mem_append_right _ (List.mem_append_right _ (List.mem_append_right _ (List.mem_append_right _ (List.mem_append_right _ (List.mem_append_left _ (List.mem_of_getElem? (i := 119) rfl))))))) rfl
theorem k5_120 : Cond.code yX12_isKeeper cX12_isKeeper 2 (some .boolean) ∈ zB := zB_t (List.mem_append_right _ (List.mem_append_right _ (List.mem_append_right _ (List.mem_append_right _ (List.mem_append_right _ (List.mem_append_left _ (List.mem_of_getElem? (i := 120) rfl))))))) rfl
theorem k5_121 : Cond.methodLink RX12 266 yX12_isPiece ∈ zB := zB_t (List.mem_append_right _ (List.mem_append_right _ (List.mem_append_right _ (List.mem_append_right _ (List.mem_append_right _ (List.mem_append_left _ (List.mem_of_getElem? (i := 121) rfl))))))) rfl
theorem k5_123 : Cond.instanceMethod yX12_isPiece ∈ zB := zB_t (List.mem_append_right _ (List.mem_append_right _ (List.mem_append_right _ (List.mem_append_right _ (List.mem_append_right _ (List.mem_append_left _ (List.mem_of_getElem? (i := 123) rfl))))))) rfl
theorem k5_124 : Cond.code yX12_isPiece cX12_isPiece 2 (some .boolean) ∈ zB := zB_t (List.mem_append_right _ (List.mem_append_right _ (List.mem_append_right _ (List.mem_append_right _ (List.mem_append_right _ (List.mem_append_left _ (List.mem_of_getElem? (i := 124) rfl))))))) rfl
theorem k5_125 : Cond.methodLink RL 64 yX12_keeper ∈ zB := zB_t (List.mem_append_right _ (List.mem_append_right _ (List.mem_append_right _ (List.mem_append_right _ (List.mem_append_right _ (List.mem_append_left _ (List.mem_of_getElem? (i := 125) rfl))))))) rfl
theorem k5_126 : Cond.instanceMethod yX12_keeper ∈ zB := zB_t (List.mem_append_right _ (List.mem_append_right _ (List.mem_append_right _ (List.mem_append_right _ (List.mem_append_right _ (List.mem_append_left _ (List.mem_of_getElem? (i := 126) rfl))))))) rfl
theorem k5_127 : Cond.selects RX12 yX12_keeper yX12_keeper ∈ zB := zB_t (List.mem_append_right _ (List.mem_append_right _ (List.mem_append_right _ (List.mem_append_right _ (List.mem_append_right _ (List.mem_append_left _ (List.mem_of_getElem? (i := 127) rfl))))))) rfl
theorem k5_128 : Cond.code yX12_keeper cX12_keeper 3 (some .int) ∈ zB := zB_t (List.mem_append_right _ (List.mem_append_right _ (List.mem_append_right _ (List.mem_append_right _ (List.mem_append_right _ (List.mem_append_left _ (List.mem_of_getElem? (i := 128) rfl))))))) rfl
theorem k5_129 : Cond.methodLink RX12 269 yX12_piecesOf ∈ zB := zB_t (List.mem_append_right _ (List.mem_append_right _ (List.mem_append_right _ (List.mem_append_right _ (List.mem_append_right _ (List.mem_append_left _ (List.mem_of_getElem? (i := 129) rfl))))))) rfl
theorem k5_131 : Cond.instanceMethod yX12_piecesOf ∈ zB := zB_t (List.mem_append_right _ (List.mem_append_right _ (List.mem_append_right _ (List.mem_append_right _ (List.mem_append_right _ (List.mem_append_left _ (List.mem_of_getElem? (i := 131) rfl))))))) rfl
theorem k5_132 : Cond.code yX12_piecesOf cX12_piecesOf 4 (some .int) ∈ zB := zB_t (List.mem_append_right _ (List.mem_append_right _ (List.mem_append_right _ (List.mem_append_right _ (List.mem_append_right _ (List.mem_append_left _ (List.mem_of_getElem? (i := 132) rfl))))))) rfl
theorem k5_133 : Cond.methodLink RL 68 yX12_piece ∈ zB := zB_t (List.mem_append_right _ (List.mem_append_right _ (List.mem_append_right _ (List.mem_append_right _ (List.mem_append_right _ (List.mem_append_left _ (List.mem_of_getElem? (i := 133) rfl))))))) rfl
theorem k5_134 : Cond.instanceMethod yX12_piece ∈ zB := zB_t (List.mem_append_right _ (List.mem_append_right _ (List.mem_append_right _ (List.mem_append_right _ (List.mem_append_right _ (List.mem_append_left _ (List.mem_of_getElem? (i := 134) rfl))))))) rfl
theorem k5_135 : Cond.selects RX12 yX12_piece yX12_piece ∈ zB := zB_t (List.mem_append_right _ (List.mem_append_right _ (List.mem_append_right _ (List.mem_append_right _ (List.mem_append_right _ (List.mem_append_left _ (List.mem_of_getElem? (i := 135) rfl))))))) rfl
theorem k5_136 : Cond.code yX12_piece cX12_piece 3 (some .int) ∈ zB := zB_t (List.mem_append_right _ (List.mem_append_right _ (List.mem_append_right _ (List.mem_append_right _ (List.mem_append_right _ (List.mem_append_left _ (List.mem_of_getElem? (i := 136) rfl))))))) rfl
theorem k5_137 : Cond.methodLink RL 72 yX12_alone ∈ zB := zB_t (List.mem_append_right _ (List.mem_append_right _ (List.mem_append_right _ (List.mem_append_right _ (List.mem_append_right _ (List.mem_append_left _ (List.mem_of_getElem? (i := 137) rfl))))))) rfl
theorem k5_138 : Cond.instanceMethod yX12_alone ∈ zB := zB_t (List.mem_append_right _ (List.mem_append_right _ (List.mem_append_right _ (List.mem_append_right _ (List.mem_append_right _ (List.mem_append_left _ (List.mem_of_getElem? (i := 138) rfl))))))) rfl
theorem k5_139 : Cond.selects RX12 yX12_alone yX12_alone ∈ zB := zB_t (List.mem_append_right _ (List.mem_append_right _ (List.mem_append_right _ (List.mem_append_right _ (List.mem_append_right _ (List.mem_append_left _ (List.mem_of_getElem? (i := 139) rfl))))))) rfl
theorem k5_140 : Cond.code yX12_alone cX12_alone 4 (some .int) ∈ zB := zB_t (List.mem_append_right _ (List.mem_append_right _ (List.mem_append_right _ (List.mem_append_right _ (List.mem_append_right _ (List.mem_append_left _ (List.mem_of_getElem? (i := 140) rfl))))))) rfl
theorem k5_141 : Cond.constantLong RX12 278 (9) ∈ zB := zB_t (List.mem_append_right _ (List.mem_append_right _ (List.mem_append_right _ (List.mem_append_right _ (List.mem_append_right _ (List.mem_append_left _ (List.mem_of_getElem? (i := 141) rfl))))))) rfl
theorem k5_142 : Cond.methodLink RX12 280 yX12_layAlone ∈ zB := zB_t (List.mem_append_right _ (List.mem_append_right _ (List.mem_append_right _ (List.mem_append_right _ (List.mem_append_right _ (List.mem_append_left _ (List.mem_of_getElem? (i := 142) rfl))))))) rfl
theorem k5_144 : Cond.instanceMethod yX12_layAlone ∈ zB := zB_t (List.mem_append_right _ (List.mem_append_right _ (List.mem_append_right _ (List.mem_append_right _ (List.mem_append_right _ (List.mem_append_left _ (List.mem_of_getElem? (i := 144) rfl))))))) rfl
theorem k5_145 : Cond.code yX12_layAlone cX12_layAlone 7 none ∈ zB := zB_t (List.mem_append_right _ (List.mem_append_right _ (List.mem_append_right _ (List.mem_append_right _ (List.mem_append_right _ (List.mem_append_left _ (List.mem_of_getElem? (i := 145) rfl))))))) rfl
theorem k5_146 : Cond.methodLink RL 76 yX12_best ∈ zB := zB_t (List.mem_append_right _ (List.mem_append_right _ (List.mem_append_right _ (List.mem_append_right _ (List.mem_append_right _ (List.mem_append_left _ (List.mem_of_getElem? (i := 146) rfl))))))) rfl
theorem k5_147 : Cond.instanceMethod yX12_best ∈ zB := zB_t (List.mem_append_right _ (List.mem_append_right _ (List.mem_append_right _ (List.mem_append_right _ (List.mem_append_right _ (List.mem_append_left _ (List.mem_of_getElem? (i := 147) rfl))))))) rfl
theorem k5_148 : Cond.selects RX12 yX12_best yX12_best ∈ zB := zB_t (List.mem_append_right _ (List.mem_append_right _ (List.mem_append_right _ (List.mem_append_right _ (List.mem_append_right _ (List.mem_append_left _ (List.mem_of_getElem? (i := 148) rfl))))))) rfl
theorem k5_149 : Cond.code yX12_best cX12_best 6 (some .int) ∈ zB := zB_t (List.mem_append_right _ (List.mem_append_right _ (List.mem_append_right _ (List.mem_append_right _ (List.mem_append_right _ (List.mem_append_left _ (List.mem_of_getElem? (i := 149) rfl))))))) rfl
theorem k5_150 : Cond.methodLink RL 80 yX12_two ∈ zB := zB_t (List.mem_append_right _ (List.mem_append_right _ (List.mem_append_right _ (List.mem_append_right _ (List.mem_append_right _ (List.mem_append_left _ (List.mem_of_getElem? (i := 150) rfl))))))) rfl
theorem k5_151 : Cond.instanceMethod yX12_two ∈ zB := zB_t (List.mem_append_right _ (List.mem_append_right _ (List.mem_append_right _ (List.mem_append_right _ (List.mem_append_right _ (List.mem_append_left _ (List.mem_of_getElem? (i := 151) rfl))))))) rfl
theorem k5_152 : Cond.selects RX12 yX12_two yX12_two ∈ zB := zB_t (List.mem_append_right _ (List.mem_append_right _ (List.mem_append_right _ (List.mem_append_right _ (List.mem_append_right _ (List.mem_append_left _ (List.mem_of_getElem? (i := 152) rfl))))))) rfl
theorem k5_153 : Cond.code yX12_two cX12_two 11 (some .int) ∈ zB := zB_t (List.mem_append_right _ (List.mem_append_right _ (List.mem_append_right _ (List.mem_append_right _ (List.mem_append_right _ (List.mem_append_left _ (List.mem_of_getElem? (i := 153) rfl))))))) rfl
theorem k5_154 : Cond.constantLong RX12 283 (100) ∈ zB := zB_t (List.mem_append_right _ (List.mem_append_right _ (List.mem_append_right _ (List.mem_append_right _ (List.mem_append_right _ (List.mem_append_left _ (List.mem_of_getElem? (i := 154) rfl))))))) rfl
theorem k5_155 : Cond.methodLink RL 84 yX12_think ∈ zB := zB_t (List.mem_append_right _ (List.mem_append_right _ (List.mem_append_right _ (List.mem_append_right _ (List.mem_append_right _ (List.mem_append_left _ (List.mem_of_getElem? (i := 155) rfl))))))) rfl
theorem k5_156 : Cond.instanceMethod yX12_think ∈ zB := zB_t (List.mem_append_right _ (List.mem_append_right _ (List.mem_append_right _ (List.mem_append_right _ (List.mem_append_right _ (List.mem_append_left _ (List.mem_of_getElem? (i := 156) rfl))))))) rfl
theorem k5_157 : Cond.selects RX12 yX12_think yX12_think ∈ zB := zB_t (List.mem_append_right _ (List.mem_append_right _ (List.mem_append_right _ (List.mem_append_right _ (List.mem_append_right _ (List.mem_append_left _ (List.mem_of_getElem? (i := 157) rfl))))))) rfl
theorem k5_158 : Cond.code yX12_think cX12_think 7 (some .int) ∈ zB := zB_t (List.mem_append_right _ (List.mem_append_right _ (List.mem_append_right _ (List.mem_append_right _ (List.mem_append_right _ (List.mem_append_left _ (List.mem_of_getElem? (i := 158) rfl))))))) rfl
theorem k5_159 : Cond.methodLink RL 88 yX12_lostUse ∈ zB := zB_t (List.mem_append_right _ (List.mem_append_right _ (List.mem_append_right _ (List.mem_append_right _ (List.mem_append_right _ (List.mem_append_left _ (List.mem_of_getElem? (i := 159) rfl))))))) rfl
theorem k5_160 : Cond.instanceMethod yX12_lostUse ∈ zB := zB_t (List.mem_append_right _ (List.mem_append_right _ (List.mem_append_right _ (List.mem_append_right _ (List.mem_append_right _ (List.mem_append_left _ (List.mem_of_getElem? (i := 160) rfl))))))) rfl
theorem k5_161 : Cond.selects RX12 yX12_lostUse yX12_lostUse ∈ zB := zB_t (List.mem_append_right _ (List.mem_append_right _ (List.mem_append_right _ (List.mem_append_right _ (List.mem_append_right _ (List.mem_append_left _ (List.mem_of_getElem? (i := 161) rfl))))))) rfl
theorem k5_162 : Cond.code yX12_lostUse cX12_lostUse 4 (some .int) ∈ zB := zB_t (List.mem_append_right _ (List.mem_append_right _ (List.mem_append_right _ (List.mem_append_right _ (List.mem_append_right _ (List.mem_append_left _ (List.mem_of_getElem? (i := 162) rfl))))))) rfl
theorem k5_163 : Cond.methodLink RX12 285 yX12_isYear ∈ zB := zB_t (List.mem_append_right _ (List.mem_append_right _ (List.mem_append_right _ (List.mem_append_right _ (List.mem_append_right _ (List.mem_append_left _ (List.mem_of_getElem? (i := 163) rfl))))))) rfl
theorem k5_164 : Cond.static yX12_isYear ∈ zB := zB_t (List.mem_append_right _ (List.mem_append_right _ (List.mem_append_right _ (List.mem_append_right _ (List.mem_append_right _ (List.mem_append_left _ (List.mem_of_getElem? (i := 164) rfl))))))) rfl
theorem k5_165 : Cond.code yX12_isYear cX12_isYear 1 (some .boolean) ∈ zB := zB_t (List.mem_append_right _ (List.mem_append_right _ (List.mem_append_right _ (List.mem_append_right _ (List.mem_append_right _ (List.mem_append_left _ (List.mem_of_getElem? (i := 165) rfl))))))) rfl
theorem k5_166 : Cond.methodLink RL 92 yX12_silence ∈ zB := zB_t (List.mem_append_right _ (List.mem_append_right _ (List.mem_append_right _ (List.mem_append_right _ (List.mem_append_right _ (List.mem_append_left _ (List.mem_of_getElem? (i := 166) rfl))))))) rfl
theorem k5_167 : Cond.instanceMethod yX12_silence ∈ zB := zB_t (List.mem_append_right _ (List.mem_append_right _ (List.mem_append_right _ (List.mem_append_right _ (List.mem_append_right _ (List.mem_append_left _ (List.mem_of_getElem? (i := 167) rfl))))))) rfl
theorem k5_168 : Cond.selects RX12 yX12_silence yX12_silence ∈ zB := zB_t (List.mem_append_right _ (List.mem_append_right _ (List.mem_append_right _ (List.mem_append_right _ (List.mem_append_right _ (List.mem_append_left _ (List.mem_of_getElem? (i := 168) rfl))))))) rfl
theorem k5_169 : Cond.code yX12_silence cX12_silence 7 (some .int) ∈ zB := zB_t (List.mem_append_right _ (List.mem_append_right _ (List.mem_append_right _ (List.mem_append_right _ (List.mem_append_right _ (List.mem_append_left _ (List.mem_of_getElem? (i := 169) rfl))))))) rfl
theorem k5_170 : Cond.methodLink RL 97 yX12_corner ∈ zB := zB_t (List.mem_append_right _ (List.mem_append_right _ (List.mem_append_right _ (List.mem_append_right _ (List.mem_append_right _ (List.mem_append_left _ (List.mem_of_getElem? (i := 170) rfl))))))) rfl
theorem k5_171 : Cond.instanceMethod yX12_corner ∈ zB := zB_t (List.mem_append_right _ (List.mem_append_right _ (List.mem_append_right _ (List.mem_append_right _ (List.mem_append_right _ (List.mem_append_left _ (List.mem_of_getElem? (i := 171) rfl))))))) rfl
theorem k5_172 : Cond.selects RX12 yX12_corner yX12_corner ∈ zB := zB_t (List.mem_append_right _ (List.mem_append_right _ (List.mem_append_right _ (List.mem_append_right _ (List.mem_append_right _ (List.mem_append_left _ (List.mem_of_getElem? (i := 172) rfl))))))) rfl
theorem k5_173 : Cond.code yX12_corner cX12_corner 11 (some .int) ∈ zB := zB_t (List.mem_append_right _ (List.mem_append_right _ (List.mem_append_right _ (List.mem_append_right _ (List.mem_append_right _ (List.mem_append_left _ (List.mem_of_getElem? (i := 173) rfl))))))) rfl
theorem k5_174 : Cond.methodLink RX12 291 yX12_askedSum ∈ zB := zB_t (List.mem_append_right _ (List.mem_append_right _ (List.mem_append_right _ (List.mem_append_right _ (List.mem_append_right _ (List.mem_append_left _ (List.mem_of_getElem? (i := 174) rfl))))))) rfl
theorem k5_176 : Cond.instanceMethod yX12_askedSum ∈ zB := zB_t (List.mem_append_right _ (List.mem_append_right _ (List.mem_append_right _ (List.mem_append_right _ (List.mem_append_right _ (List.mem_append_left _ (List.mem_of_getElem? (i := 176) rfl))))))) rfl
theorem k5_177 : Cond.code yX12_askedSum cX12_askedSum 5 (some .int) ∈ zB := zB_t (List.mem_append_right _ (List.mem_append_right _ (List.mem_append_right _ (List.mem_append_right _ (List.mem_append_right _ (List.mem_append_left _ (List.mem_of_getElem? (i := 177) rfl))))))) rfl
theorem k5_178 : Cond.methodLink RX12 294 yX12_nextRow ∈ zB := zB_t (List.mem_append_right _ (List.mem_append_right _ (List.mem_append_right _ (List.mem_append_right _ (List.mem_append_right _ (List.mem_append_left _ (List.mem_of_getElem? (i := 178) rfl))))))) rfl
theorem k5_180 : Cond.instanceMethod yX12_nextRow ∈ zB := zB_t (List.mem_append_right _ (List.mem_append_right _ (List.mem_append_right _ (List.mem_append_right _ (List.mem_append_right _ (List.mem_append_left _ (List.mem_of_getElem? (i := 180) rfl))))))) rfl
theorem k5_181 : Cond.code yX12_nextRow cX12_nextRow 6 (some .boolean) ∈ zB := zB_t (List.mem_append_right _ (List.mem_append_right _ (List.mem_append_right _ (List.mem_append_right _ (List.mem_append_right _ (List.mem_append_left _ (List.mem_of_getElem? (i := 181) rfl))))))) rfl
theorem k5_182 : Cond.methodLink RX12 288 yX12_swap ∈ zB := zB_t (List.mem_append_right _ (List.mem_append_right _ (List.mem_append_right _ (List.mem_append_right _ (List.mem_append_right _ (List.mem_append_left _ (List.mem_of_getElem? (i := 182) rfl))))))) rfl
theorem k5_184 : Cond.instanceMethod yX12_swap ∈ zB := zB_t (List.mem_append_right _ (List.mem_append_right _ (List.mem_append_right _ (List.mem_append_right _ (List.mem_append_right _ (List.mem_append_left _ (List.mem_of_getElem? (i := 184) rfl))))))) rfl
theorem k5_185 : Cond.code yX12_swap cX12_swap 4 none ∈ zB := zB_t (List.mem_append_right _ (List.mem_append_right _ (List.mem_append_right _ (List.mem_append_right _ (List.mem_append_right _ (List.mem_append_left _ (List.mem_of_getElem? (i := 185) rfl))))))) rfl
theorem k5_186 : Cond.methodLink RL 101 yX12_make ∈ zB := zB_t (List.mem_append_right _ (List.mem_append_right _ (List.mem_append_right _ (List.mem_append_right _ (List.mem_append_right _ (List.mem_append_left _ (List.mem_of_getElem? (i := 186) rfl))))))) rfl
theorem k5_187 : Cond.instanceMethod yX12_make ∈ zB := zB_t (List.mem_append_right _ (List.mem_append_right _ (List.mem_append_right _ (List.mem_append_right _ (List.mem_append_right _ (List.mem_append_left _ (List.mem_of_getElem? (i := 187) rfl))))))) rfl
theorem k5_188 : Cond.selects RX12 yX12_make yX12_make ∈ zB := zB_t (List.mem_append_right _ (List.mem_append_right _ (List.mem_append_right _ (List.mem_append_right _ (List.mem_append_right _ (List.mem_append_left _ (List.mem_of_getElem? (i := 188) rfl))))))) rfl
theorem k5_189 : Cond.code yX12_make cX12_make 5 (some .int) ∈ zB := zB_t (List.mem_append_right _ (List.mem_append_right _ (List.mem_append_right _ (List.mem_append_right _ (List.mem_append_right _ (List.mem_append_left _ (List.mem_of_getElem? (i := 189) rfl))))))) rfl
theorem k5_190 : Cond.constantLong RX12 297 (99999) ∈ zB := zB_t (List.mem_append_right _ (List.mem_append_right _ (List.mem_append_right _ (List.mem_append_right _ (List.mem_append_right _ (List.mem_append_left _ (List.mem_of_getElem? (i := 190) rfl))))))) rfl
theorem k5_191 : Cond.constantLong RX12 299 (-1) ∈ zB := zB_t (List.mem_append_right _ (List.mem_append_right _ (List.mem_append_right _ (List.mem_append_right _ (List.mem_append_right _ (List.mem_append_left _ (List.mem_of_getElem? (i := 191) rfl))))))) rfl
theorem k5_192 : Cond.methodLink RX12 301 yX12_pays ∈ zB := zB_t (List.mem_append_right _ (List.mem_append_right _ (List.mem_append_right _ (List.mem_append_right _ (List.mem_append_right _ (List.mem_append_left _ (List.mem_of_getElem? (i := 192) rfl))))))) rfl
theorem k5_194 : Cond.instanceMethod yX12_pays ∈ zB := zB_t (List.mem_append_right _ (List.mem_append_right _ (List.mem_append_right _ (List.mem_append_right _ (List.mem_append_right _ (List.mem_append_left _ (List.mem_of_getElem? (i := 194) rfl))))))) rfl
theorem k5_195 : Cond.code yX12_pays cX12_pays 4 (some .boolean) ∈ zB := zB_t (List.mem_append_right _ (List.mem_append_right _ (List.mem_append_right _ (List.mem_append_right _ (List.mem_append_right _ (List.mem_append_left _ (List.mem_of_getElem? (i := 195) rfl))))))) rfl
theorem k5_196 : Cond.constant RX12 304 (99999) ∈ zB := zB_t (List.mem_append_right _ (List.mem_append_right _ (List.mem_append_right _ (List.mem_append_right _ (List.mem_append_right _ (List.mem_append_left _ (List.mem_of_getElem? (i := 196) rfl))))))) rfl
theorem k5_197 : Cond.methodLink RL 105 yX12_fit ∈ zB := zB_t (List.mem_append_right _ (List.mem_append_right _ (List.mem_append_right _ (List.mem_append_right _ (List.mem_append_right _ (List.mem_append_left _ (List.mem_of_getElem? (i := 197) rfl))))))) rfl
theorem k5_198 : Cond.instanceMethod yX12_fit ∈ zB := zB_t (List.mem_append_right _ (List.mem_append_right _ (List.mem_append_right _ (List.mem_append_right _ (List.mem_append_right _ (List.mem_append_left _ (List.mem_of_getElem? (i := 198) rfl))))))) rfl
theorem k5_199 : Cond.selects RX12 yX12_fit yX12_fit ∈ zB := zB_t (List.mem_append_right _ (List.mem_append_right _ (List.mem_append_right _ (List.mem_append_right _ (List.mem_append_right _ (List.mem_append_left _ (List.mem_of_getElem? (i := 199) rfl))))))) rfl
theorem k5_200 : Cond.code yX12_fit cX12_fit 5 (some .int) ∈ zB := zB_t (List.mem_append_right _ (List.mem_append_right _ (List.mem_append_right _ (List.mem_append_right _ (List.mem_append_right _ (List.mem_append_left _ (List.mem_of_getElem? (i := 200) rfl))))))) rfl
theorem k5_201 : Cond.methodLink RX12 311 yX12_fits ∈ zB := zB_t (List.mem_append_right _ (List.mem_append_right _ (List.mem_append_right _ (List.mem_append_right _ (List.mem_append_right _ (List.mem_append_left _ (List.mem_of_getElem? (i := 201) rfl))))))) rfl
theorem k5_203 : Cond.instanceMethod yX12_fits ∈ zB := zB_t (List.mem_append_right _ (List.mem_append_right _ (List.mem_append_right _ (List.mem_append_right _ (List.mem_append_right _ (List.mem_append_left _ (List.mem_of_getElem? (i := 203) rfl))))))) rfl
theorem k5_204 : Cond.code yX12_fits cX12_fits 6 (some .boolean) ∈ zB := zB_t (List.mem_append_right _ (List.mem_append_right _ (List.mem_append_right _ (List.mem_append_right _ (List.mem_append_right _ (List.mem_append_left _ (List.mem_of_getElem? (i := 204) rfl))))))) rfl
theorem k5_205 : Cond.methodLink RX12 308 yX12_sellsIn ∈ zB := zB_t (List.mem_append_right _ (List.mem_append_right _ (List.mem_append_right _ (List.mem_append_right _ (List.mem_append_right _ (List.mem_append_left _ (List.mem_of_getElem? (i := 205) rfl))))))) rfl
theorem k5_207 : Cond.instanceMethod yX12_sellsIn ∈ zB := zB_t (List.mem_append_right _ (List.mem_append_right _ (List.mem_append_right _ (List.mem_append_right _ (List.mem_append_right _ (List.mem_append_left _ (List.mem_of_getElem? (i := 207) rfl))))))) rfl
theorem k5_208 : Cond.code yX12_sellsIn cX12_sellsIn 6 (some .boolean) ∈ zB := zB_t (List.mem_append_right _ (List.mem_append_right _ (List.mem_append_right _ (List.mem_append_right _ (List.mem_append_right _ (List.mem_append_left _ (List.mem_of_getElem? (i := 208) rfl))))))) rfl
theorem k5_209 : Cond.methodLink RX12 305 yX12_isNear ∈ zB := zB_t (List.mem_append_right _ (List.mem_append_right _ (List.mem_append_right _ (List.mem_append_right _ (List.mem_append_right _ (List.mem_append_left _ (List.mem_of_getElem? (i := 209) rfl))))))) rfl
theorem k5_211 : Cond.instanceMethod yX12_isNear ∈ zB := zB_t (List.mem_append_right _ (List.mem_append_right _ (List.mem_append_right _ (List.mem_append_right _ (List.mem_append_right _ (List.mem_append_left _ (List.mem_of_getElem? (i := 211) rfl))))))) rfl
theorem k5_212 : Cond.code yX12_isNear cX12_isNear 6 (some .boolean) ∈ zB := zB_t (List.mem_append_right _ (List.mem_append_right _ (List.mem_append_right _ (List.mem_append_right _ (List.mem_append_right _ (List.mem_append_left _ (List.mem_of_getElem? (i := 212) rfl))))))) rfl
theorem k5_213 : Cond.methodLink RL 109 yX12_laws ∈ zB := zB_t (List.mem_append_right _ (List.mem_append_right _ (List.mem_append_right _ (List.mem_append_right _ (List.mem_append_right _ (List.mem_append_left _ (List.mem_of_getElem? (i := 213) rfl))))))) rfl
theorem k5_214 : Cond.instanceMethod yX12_laws ∈ zB := zB_t (List.mem_append_right _ (List.mem_append_right _ (List.mem_append_right _ (List.mem_append_right _ (List.mem_append_right _ (List.mem_append_left _ (List.mem_of_getElem? (i := 214) rfl))))))) rfl
theorem k5_215 : Cond.selects RX12 yX12_laws yX12_laws ∈ zB := zB_t (List.mem_append_right _ (List.mem_append_right _ (List.mem_append_right _ (List.mem_append_right _ (List.mem_append_right _ (List.mem_append_left _ (List.mem_of_getElem? (i := 215) rfl))))))) rfl
theorem k5_216 : Cond.code yX12_laws cX12_laws 5 (some .int) ∈ zB := zB_t (List.mem_append_right _ (List.mem_append_right _ (List.mem_append_right _ (List.mem_append_right _ (List.mem_append_right _ (List.mem_append_left _ (List.mem_of_getElem? (i := 216) rfl))))))) rfl
theorem k5_217 : Cond.methodLink RL 113 yX12_image ∈ zB := zB_t (List.mem_append_right _ (List.mem_append_right _ (List.mem_append_right _ (List.mem_append_right _ (List.mem_append_right _ (List.mem_append_left _ (List.mem_of_getElem? (i := 217) rfl))))))) rfl
theorem k5_218 : Cond.instanceMethod yX12_image ∈ zB := zB_t (List.mem_append_right _ (List.mem_append_right _ (List.mem_append_right _ (List.mem_append_right _ (List.mem_append_right _ (List.mem_append_left _ (List.mem_of_getElem? (i := 218) rfl))))))) rfl
theorem k5_219 : Cond.selects RX12 yX12_image yX12_image ∈ zB := zB_t (List.mem_append_right _ (List.mem_append_right _ (List.mem_append_right _ (List.mem_append_right _ (List.mem_append_right _ (List.mem_append_left _ (List.mem_of_getElem? (i := 219) rfl))))))) rfl
theorem k5_220 : Cond.code yX12_image cX12_image 3 (some .int) ∈ zB := zB_t (List.mem_append_right _ (List.mem_append_right _ (List.mem_append_right _ (List.mem_append_right _ (List.mem_append_right _ (List.mem_append_left _ (List.mem_of_getElem? (i := 220) rfl))))))) rfl
theorem k5_221 : Cond.methodLink RL 117 yX12_restore ∈ zB := zB_t (List.mem_append_right _ (List.mem_append_right _ (List.mem_append_right _ (List.mem_append_right _ (List.mem_append_right _ (List.mem_append_left _ (List.mem_of_getElem? (i := 221) rfl))))))) rfl
theorem k5_222 : Cond.instanceMethod yX12_restore ∈ zB := zB_t (List.mem_append_right _ (List.mem_append_right _ (List.mem_append_right _ (List.mem_append_right _ (List.mem_append_right _ (List.mem_append_left _ (List.mem_of_getElem? (i := 222) rfl))))))) rfl
theorem k5_223 : Cond.selects RX12 yX12_restore yX12_restore ∈ zB := zB_t (List.mem_append_right _ (List.mem_append_right _ (List.mem_append_right _ (List.mem_append_right _ (List.mem_append_right _ (List.mem_append_left _ (List.mem_of_getElem? (i := 223) rfl))))))) rfl
theorem k5_224 : Cond.code yX12_restore cX12_restore 3 (some .int) ∈ zB := zB_t (List.mem_append_right _ (List.mem_append_right _ (List.mem_append_right _ (List.mem_append_right _ (List.mem_append_right _ (List.mem_append_left _ (List.mem_of_getElem? (i := 224) rfl))))))) rfl
theorem k5_225 : Cond.methodLink RL 121 yX12_kind ∈ zB := zB_t (List.mem_append_right _ (List.mem_append_right _ (List.mem_append_right _ (List.mem_append_right _ (List.mem_append_right _ (List.mem_append_left _ (List.mem_of_getElem? (i := 225) rfl))))))) rfl
theorem k5_226 : Cond.instanceMethod yX12_kind ∈ zB := zB_t (List.mem_append_right _ (List.mem_append_right _ (List.mem_append_right _ (List.mem_append_right _ (List.mem_append_right _ (List.mem_append_left _ (List.mem_of_getElem? (i := 226) rfl))))))) rfl
theorem k5_227 : Cond.selects RX12 yX12_kind yX12_kind ∈ zB := zB_t (List.mem_append_right _ (List.mem_append_right _ (List.mem_append_right _ (List.mem_append_right _ (List.mem_append_right _ (List.mem_append_left _ (List.mem_of_getElem? (i := 227) rfl))))))) rfl
theorem k5_228 : Cond.code yX12_kind cX12_kind 2 (some .int) ∈ zB := zB_t (List.mem_append_right _ (List.mem_append_right _ (List.mem_append_right _ (List.mem_append_right _ (List.mem_append_right _ (List.mem_append_left _ (List.mem_of_getElem? (i := 228) rfl))))))) rfl
theorem k5_229 : Cond.methodLink RL 125 yX12_as ∈ zB := zB_t (List.mem_append_right _ (List.mem_append_right _ (List.mem_append_right _ (List.mem_append_right _ (List.mem_append_right _ (List.mem_append_left _ (List.mem_of_getElem? (i := 229) rfl))))))) rfl
theorem k5_230 : Cond.instanceMethod yX12_as ∈ zB := zB_t (List.mem_append_right _ (List.mem_append_right _ (List.mem_append_right _ (List.mem_append_right _ (List.mem_append_right _ (List.mem_append_left _ (List.mem_of_getElem? (i := 230) rfl))))))) rfl
theorem k5_231 : Cond.selects RX12 yX12_as yX12_as ∈ zB := zB_t (List.mem_append_right _ (List.mem_append_right _ (List.mem_append_right _ (List.mem_append_right _ (List.mem_append_right _ (List.mem_append_left _ (List.mem_of_getElem? (i := 231) rfl))))))) rfl
theorem k5_232 : Cond.code yX12_as cX12_as 3 (some .int) ∈ zB := zB_t (List.mem_append_right _ (List.mem_append_right _ (List.mem_append_right _ (List.mem_append_right _ (List.mem_append_right _ (List.mem_append_left _ (List.mem_of_getElem? (i := 232) rfl))))))) rfl
theorem k5_233 : Cond.constantLong RX12 314 (5) ∈ zB := zB_t (List.mem_append_right _ (List.mem_append_right _ (List.mem_append_right _ (List.mem_append_right _ (List.mem_append_right _ (List.mem_append_left _ (List.mem_of_getElem? (i := 233) rfl))))))) rfl
theorem k5_234 : Cond.methodLink RL 129 yX12_ask ∈ zB := zB_t (List.mem_append_right _ (List.mem_append_right _ (List.mem_append_right _ (List.mem_append_right _ (List.mem_append_right _ (List.mem_append_left _ (List.mem_of_getElem? (i := 234) rfl))))))) rfl
theorem k5_235 : Cond.instanceMethod yX12_ask ∈ zB := zB_t (List.mem_append_right _ (List.mem_append_right _ (List.mem_append_right _ (List.mem_append_right _ (List.mem_append_right _ (List.mem_append_left _ (List.mem_of_getElem? (i := 235) rfl))))))) rfl
theorem k5_236 : Cond.selects RX12 yX12_ask yX12_ask ∈ zB := zB_t (List.mem_append_right _ (List.mem_append_right _ (List.mem_append_right _ (List.mem_append_right _ (List.mem_append_right _ (List.mem_append_left _ (List.mem_of_getElem? (i := 236) rfl))))))) rfl
theorem k5_237 : Cond.code yX12_ask cX12_ask 4 (some .int) ∈ zB := zB_t (List.mem_append_right _ (List.mem_append_right _ (List.mem_append_right _ (List.mem_append_right _ (List.mem_append_right _ (List.mem_append_left _ (List.mem_of_getElem? (i := 237) rfl))))))) rfl
theorem k5_238 : Cond.methodLink RX12 331 yX12_ageSize ∈ zB := zB_t (List.mem_append_right _ (List.mem_append_right _ (List.mem_append_right _ (List.mem_append_right _ (List.mem_append_right _ (List.mem_append_left _ (List.mem_of_getElem? (i := 238) rfl))))))) rfl
theorem k6_0 : Cond.instanceMethod yX12_ageSize ∈ zB := zB_t (List.mem_append_right _ (List.mem_append_right _ (List.mem_append_right _ (List.mem_append_right _ (List.mem_append_right _ (List.mem_append_right _ (List.mem_of_getElem? (i := 0) rfl))))))) rfl
theorem k6_1 : Cond.code yX12_ageSize cX12_ageSize 4 (some .int) ∈ zB := zB_t (List.mem_append_right _ (List.mem_append_right _ (List.mem_append_right _ (List.mem_append_right _ (List.mem_append_right _ (List.mem_append_right _ (List.mem_of_getElem? (i := 1) rfl))))))) rfl
theorem k6_2 : Cond.methodLink RX12 319 yX12_began ∈ zB := zB_t (List.mem_append_right _ (List.mem_append_right _ (List.mem_append_right _ (List.mem_append_right _ (List.mem_append_right _ (List.mem_append_right _ (List.mem_of_getElem? (i := 2) rfl))))))) rfl
theorem k6_4 : Cond.instanceMethod yX12_began ∈ zB := zB_t (List.mem_append_right _ (List.mem_append_right _ (List.mem_append_right _ (List.mem_append_right _ (List.mem_append_right _ (List.mem_append_right _ (List.mem_of_getElem? (i := 4) rfl))))))) rfl
theorem k6_5 : Cond.code yX12_began cX12_began 2 none ∈ zB := zB_t (List.mem_append_right _ (List.mem_append_right _ (List.mem_append_right _ (List.mem_append_right _ (List.mem_append_right _ (List.mem_append_right _ (List.mem_of_getElem? (i := 5) rfl))))))) rfl
theorem k6_6 : Cond.methodLink RX12 322 yX12_plainSize ∈ zB := zB_t (List.mem_append_right _ (List.mem_append_right _ (List.mem_append_right _ (List.mem_append_right _ (List.mem_append_right _ (List.mem_append_right _ (List.mem_of_getElem? (i := 6) rfl))))))) rfl
theorem k6_8 : Cond.instanceMethod yX12_plainSize ∈ zB := zB_t (List.mem_append_right _ (List.mem_append_right _ (List.mem_append_right _ (List.mem_append_right _ (List.mem_append_right _ (List.mem_append_right _ (List.mem_of_getElem? (i := 8) rfl))))))) rfl
theorem k6_9 : Cond.code yX12_plainSize cX12_plainSize 2 (some .int) ∈ zB := zB_t (List.mem_append_right _ (List.mem_append_right _ (List.mem_append_right _ (List.mem_append_right _ (List.mem_append_right _ (List.mem_append_right _ (List.mem_of_getElem? (i := 9) rfl))))))) rfl
theorem k6_10 : Cond.methodLink RX12 325 yX12_ageMark ∈ zB := zB_t (List.mem_append_right _ (List.mem_append_right _ (List.mem_append_right _ (List.mem_append_right _ (List.mem_append_right _ (List.mem_append_right _ (List.mem_of_getElem? (i := 10) rfl))))))) rfl
theorem k6_12 : Cond.instanceMethod yX12_ageMark ∈ zB := zB_t (List.mem_append_right _ (List.mem_append_right _ (List.mem_append_right _ (List.mem_append_right _ (List.mem_append_right _ (List.mem_append_right _ (List.mem_of_getElem? (i := 12) rfl))))))) rfl
theorem k6_13 : Cond.code yX12_ageMark cX12_ageMark 4 (some .int) ∈ zB := zB_t (List.mem_append_right _ (List.mem_append_right _ (List.mem_append_right _ (List.mem_append_right _ (List.mem_append_right _ (List.mem_append_right _ (List.mem_of_getElem? (i := 13) rfl))))))) rfl
theorem k6_14 : Cond.methodLink RX12 328 yX12_otherSize ∈ zB := zB_t (List.mem_append_right _ (List.mem_append_right _ (List.mem_append_right _ (List.mem_append_right _ (List.mem_append_right _ (List.mem_append_right _ (List.mem_of_getElem? (i := 14) rfl))))))) rfl
theorem k6_16 : Cond.instanceMethod yX12_otherSize ∈ zB := zB_t (List.mem_append_right _ (List.mem_append_right _ (List.mem_append_right _ (List.mem_append_right _ (List.mem_append_right _ (List.mem_append_right _ (List.mem_of_getElem? (i := 16) rfl))))))) rfl
theorem k6_17 : Cond.code yX12_otherSize cX12_otherSize 3 (some .int) ∈ zB := zB_t (List.mem_append_right _ (List.mem_append_right _ (List.mem_append_right _ (List.mem_append_right _ (List.mem_append_right _ (List.mem_append_right _ (List.mem_of_getElem? (i := 17) rfl))))))) rfl
theorem k6_18 : Cond.methodLink RX12 334 yX12_otherMark ∈ zB := zB_t (List.mem_append_right _ (List.mem_append_right _ (List.mem_append_right _ (List.mem_append_right _ (List.mem_append_right _ (List.mem_append_right _ (List.mem_of_getElem? (i := 18) rfl))))))) rfl
theorem k6_20 : Cond.instanceMethod yX12_otherMark ∈ zB := zB_t (List.mem_append_right _ (List.mem_append_right _ (List.mem_append_right _ (List.mem_append_right _ (List.mem_append_right _ (List.mem_append_right _ (List.mem_of_getElem? (i := 20) rfl))))))) rfl
theorem k6_21 : Cond.code yX12_otherMark cX12_otherMark 4 (some .int) ∈ zB := zB_t (List.mem_append_right _ (List.mem_append_right _ (List.mem_append_right _ (List.mem_append_right _ (List.mem_append_right _ (List.mem_append_right _ (List.mem_of_getElem? (i := 21) rfl))))))) rfl
theorem k6_22 : Cond.methodLink RL 133 yX12_trace ∈ zB := zB_t (List.mem_append_right _ (List.mem_append_right _ (List.mem_append_right _ (List.mem_append_right _ (List.mem_append_right _ (List.mem_append_right _ (List.mem_of_getElem? (i := 22) rfl))))))) rfl
theorem k6_23 : Cond.instanceMethod yX12_trace ∈ zB := zB_t (List.mem_append_right _ (List.mem_append_right _ (List.mem_append_right _ (List.mem_append_right _ (List.mem_append_right _ (List.mem_append_right _ (List.mem_of_getElem? (i := 23) rfl))))))) rfl
theorem k6_24 : Cond.selects RX12 yX12_trace yX12_trace ∈ zB := zB_t (List.mem_append_right _ (List.mem_append_right _ (List.mem_append_right _ (List.mem_append_right _ (List.mem_append_right _ (List.mem_append_right _ (List.mem_of_getElem? (i := 24) rfl))))))) rfl
theorem k6_25 : Cond.code yX12_trace cX12_trace 2 (some .int) ∈ zB := zB_t (List.mem_append_right _ (List.mem_append_right _ (List.mem_append_right _ (List.mem_append_right _ (List.mem_append_right _ (List.mem_append_right _ (List.mem_of_getElem? (i := 25) rfl))))))) rfl
theorem k6_26 : Cond.methodLink RL 137 yX12_count ∈ zB := zB_t (List.mem_append_right _ (List.mem_append_right _ (List.mem_append_right _ (List.mem_append_right _ (List.mem_append_right _ (List.mem_append_right _ (List.mem_of_getElem? (i := 26) rfl))))))) rfl
theorem k6_27 : Cond.instanceMethod yX12_count ∈ zB := zB_t (List.mem_append_right _ (List.mem_append_right _ (List.mem_append_right _ (List.mem_append_right _ (List.mem_append_right _ (List.mem_append_right _ (List.mem_of_getElem? (i := 27) rfl))))))) rfl
theorem k6_28 : Cond.selects RX12 yX12_count yX12_count ∈ zB := zB_t (List.mem_append_right _ (List.mem_append_right _ (List.mem_append_right _ (List.mem_append_right _ (List.mem_append_right _ (List.mem_append_right _ (List.mem_of_getElem? (i := 28) rfl))))))) rfl
theorem k6_29 : Cond.code yX12_count cX12_count 4 (some .int) ∈ zB := zB_t (List.mem_append_right _ (List.mem_append_right _ (List.mem_append_right _ (List.mem_append_right _ (List.mem_append_right _ (List.mem_append_right _ (List.mem_of_getElem? (i := 29) rfl))))))) rfl
theorem k6_30 : Cond.methodLink RL 141 yX12_status ∈ zB := zB_t (List.mem_append_right _ (List.mem_append_right _ (List.mem_append_right _ (List.mem_append_right _ (List.mem_append_right _ (List.mem_append_right _ (List.mem_of_getElem? (i := 30) rfl))))))) rfl
theorem k6_31 : Cond.instanceMethod yX12_status ∈ zB := zB_t (List.mem_append_right _ (List.mem_append_right _ (List.mem_append_right _ (List.mem_append_right _ (List.mem_append_right _ (List.mem_append_right _ (List.mem_of_getElem? (i := 31) rfl))))))) rfl
theorem k6_32 : Cond.selects RX12 yX12_status yX12_status ∈ zB := zB_t (List.mem_append_right _ (List.mem_append_right _ (List.mem_append_right _ (List.mem_append_right _ (List.mem_append_right _ (List.mem_append_right _ (List.mem_of_getElem? (i := 32) rfl))))))) rfl
theorem k6_33 : Cond.code yX12_status cX12_status 1 (some .int) ∈ zB := zB_t (List.mem_append_right _ (List.mem_append_right _ (List.mem_append_right _ (List.mem_append_right _ (List.mem_append_right _ (List.mem_append_right _ (List.mem_of_getElem? (i := 33) rfl))))))) rfl
theorem k6_34 : Cond.constantLong RL 32 (4294967295) ∈ zB := zB_t (List.mem_append_right _ (List.mem_append_right _ (List.mem_append_right _ (List.mem_append_right _ (List.mem_append_right _ (List.mem_append_right _ (List.mem_of_getElem? (i := 34) rfl))))))) rfl
theorem k6_35 : Cond.sameMethod "OldNews$Age" "OldNews$Age" "sells" "(LOldNews$Land;I)Z" ∈ zB := zB_t (List.mem_append_right _ (List.mem_append_right _ (List.mem_append_right _ (List.mem_append_right _ (List.mem_append_right _ (List.mem_append_right _ (List.mem_of_getElem? (i := 35) rfl))))))) rfl
theorem k6_36 : Cond.sameMethod "OldNews$Keeper" "OldNews$Keeper" "markAsked" "(LOldNews$Land;LOldNews$Trace;)I" ∈ zB := zB_t (List.mem_append_right _ (List.mem_append_right _ (List.mem_append_right _ (List.mem_append_right _ (List.mem_append_right _ (List.mem_append_right _ (List.mem_of_getElem? (i := 36) rfl))))))) rfl
theorem k6_37 : Cond.sameMethod "OldNews$Age" "OldNews$Age" "sizeAsked" "(LOldNews$Land;LOldNews$Trace;)I" ∈ zB := zB_t (List.mem_append_right _ (List.mem_append_right _ (List.mem_append_right _ (List.mem_append_right _ (List.mem_append_right _ (List.mem_append_right _ (List.mem_of_getElem? (i := 37) rfl))))))) rfl
theorem k6_38 : Cond.selects RX0 ⟨"OldNews$Keeper", "markAsked", "(LOldNews$Land;LOldNews$Trace;)I"⟩ yX0_markAsked ∈ zB := zB_t (List.mem_append_right _ (List.mem_append_right _ (List.mem_append_right _ (List.mem_append_right _ (List.mem_append_right _ (List.mem_append_right _ (List.mem_of_getElem? (i := 38) rfl))))))) rfl
theorem k6_39 : Cond.selects RX1 ⟨"OldNews$Keeper", "markAsked", "(LOldNews$Land;LOldNews$Trace;)I"⟩ yX1_markAsked ∈ zB := zB_t (List.mem_append_right _ (List.mem_append_right _ (List.mem_append_right _ (List.mem_append_right _ (List.mem_append_right _ (List.mem_append_right _ (List.mem_of_getElem? (i := 39) rfl))))))) rfl
theorem k6_40 : Cond.selects RX5 ⟨"OldNews$Keeper", "markAsked", "(LOldNews$Land;LOldNews$Trace;)I"⟩ yX5_markAsked ∈ zB := zB_t (List.mem_append_right _ (List.mem_append_right _ (List.mem_append_right _ (List.mem_append_right _ (List.mem_append_right _ (List.mem_append_right _ (List.mem_of_getElem? (i := 40) rfl))))))) rfl
theorem k6_41 : Cond.selects RX8 ⟨"OldNews$Keeper", "markAsked", "(LOldNews$Land;LOldNews$Trace;)I"⟩ yX8_markAsked ∈ zB := zB_t (List.mem_append_right _ (List.mem_append_right _ (List.mem_append_right _ (List.mem_append_right _ (List.mem_append_right _ (List.mem_append_right _ (List.mem_of_getElem? (i := 41) rfl))))))) rfl
theorem k6_42 : Cond.selects RX8 yX8_sizeAsked yX8_sizeAsked ∈ zB := zB_t (List.mem_append_right _ (List.mem_append_right _ (List.mem_append_right _ (List.mem_append_right _ (List.mem_append_right _ (List.mem_append_right _ (List.mem_of_getElem? (i := 42) rfl))))))) rfl
theorem k6_43 : Cond.selects RX10 ⟨"OldNews$Keeper", "markAsked", "(LOldNews$Land;LOldNews$Trace;)I"⟩ yX0_markAsked ∈ zB := zB_t (List.mem_append_right _ (List.mem_append_right _ (List.mem_append_right _ (List.mem_append_right _ (List.mem_append_right _ (List.mem_append_right _ (List.mem_of_getElem? (i := 43) rfl))))))) rfl
theorem k6_51 : Cond.fieldLink RJ0 9 "java/lang/String" "value" "[B" ∈ zB := zB_t (List.mem_append_right _ (List.mem_append_right _ (List.mem_append_right _ (List.mem_append_right _ (List.mem_append_right _ (List.mem_append_right _ (List.mem_of_getElem? (i := 51) rfl))))))) rfl
theorem k6_52 : Cond.fieldLink RJ0 15 "java/lang/String" "coder" "B" ∈ zB := zB_t (List.mem_append_right _ (List.mem_append_right _ (List.mem_append_right _ (List.mem_append_right _ (List.mem_append_right _ (List.mem_append_right _ (List.mem_of_getElem? (i := 52) rfl))))))) rfl
theorem iX0 : ∀ w ∈ u_ws RX0 TX0 3, w ∈ zB := by
  intro w hw
  obtain ⟨k, hk, rfl⟩ := List.mem_map.mp hw
  have hk := List.mem_range.mp hk
  rcases (show k = 0 ∨ k = 1 ∨ k = 2 by omega) with rfl | rfl | rfl
  · exact k2_30
  · exact k2_31
  · exact k2_32
theorem iX1 : ∀ w ∈ u_ws RX1 TX1 3, w ∈ zB := by
  intro w hw
  obtain ⟨k, hk, rfl⟩ := List.mem_map.mp hw
  have hk := List.mem_range.mp hk
  rcases (show k = 0 ∨ k = 1 ∨ k = 2 by omega) with rfl | rfl | rfl
  · exact k2_50
  · exact k2_51
  · exact k2_52
theorem iX2 : ∀ w ∈ u_ws RX2 TX2 7, w ∈ zB := by
  intro w hw
  obtain ⟨k, hk, rfl⟩ := List.mem_map.mp hw
  have hk := List.mem_range.mp hk
  rcases (show k = 0 ∨ k = 1 ∨ k = 2 ∨ k = 3 ∨ k = 4 ∨ k = 5 ∨ k = 6 by omega) with rfl | rfl | rfl | rfl | rfl | rfl | rfl
  · exact k0_185
  · exact k0_187
  · exact k0_189
  · exact k0_191
  · exact k0_193
  · exact k0_195
  · exact k0_197
theorem iX4 : ∀ w ∈ u_ws RX4 TX4 19, w ∈ zB := by
  intro w hw
  obtain ⟨k, hk, rfl⟩ := List.mem_map.mp hw
  have hk := List.mem_range.mp hk
  rcases (show k = 0 ∨ k = 1 ∨ k = 2 ∨ k = 3 ∨ k = 4 ∨ k = 5 ∨ k = 6 ∨ k = 7 ∨ k = 8 ∨ k = 9 ∨ k = 10 ∨ k = 11 ∨ k = 12 ∨ k = 13 ∨ k = 14 ∨ k = 15 ∨ k = 16 ∨ k = 17 ∨ k = 18 by omega) with rfl | rfl | rfl | rfl | rfl | rfl | rfl | rfl | rfl | rfl | rfl | rfl | rfl | rfl | rfl | rfl | rfl | rfl | rfl
  · exact k0_138
  · exact k0_140
  · exact k0_142
  · exact k0_144
  · exact k0_146
  · exact k0_148
  · exact k0_150
  · exact k0_152
  · exact k0_154
  · exact k0_156
  · exact k0_158
  · exact k0_160
  · exact k0_162
  · exact k0_164
  · exact k0_166
  · exact k0_168
  · exact k0_170
  · exact k0_172
  · exact k0_174
theorem iX5 : ∀ w ∈ u_ws RX5 TX5 3, w ∈ zB := by
  intro w hw
  obtain ⟨k, hk, rfl⟩ := List.mem_map.mp hw
  have hk := List.mem_range.mp hk
  rcases (show k = 0 ∨ k = 1 ∨ k = 2 by omega) with rfl | rfl | rfl
  · exact k2_17
  · exact k2_19
  · exact k2_21
theorem iX6 : ∀ w ∈ u_ws RX6 TX6 8, w ∈ zB := by
  intro w hw
  obtain ⟨k, hk, rfl⟩ := List.mem_map.mp hw
  have hk := List.mem_range.mp hk
  rcases (show k = 0 ∨ k = 1 ∨ k = 2 ∨ k = 3 ∨ k = 4 ∨ k = 5 ∨ k = 6 ∨ k = 7 by omega) with rfl | rfl | rfl | rfl | rfl | rfl | rfl | rfl
  · exact k0_66
  · exact k0_68
  · exact k0_70
  · exact k0_72
  · exact k0_74
  · exact k0_76
  · exact k0_78
  · exact k0_80
theorem iX7 : ∀ w ∈ u_ws RX7 TX7 3, w ∈ zB := by
  intro w hw
  obtain ⟨k, hk, rfl⟩ := List.mem_map.mp hw
  have hk := List.mem_range.mp hk
  rcases (show k = 0 ∨ k = 1 ∨ k = 2 by omega) with rfl | rfl | rfl
  · exact k0_41
  · exact k0_43
  · exact k0_45
theorem iX8 : ∀ w ∈ u_ws RX8 TX8 3, w ∈ zB := by
  intro w hw
  obtain ⟨k, hk, rfl⟩ := List.mem_map.mp hw
  have hk := List.mem_range.mp hk
  rcases (show k = 0 ∨ k = 1 ∨ k = 2 by omega) with rfl | rfl | rfl
  · exact k2_60
  · exact k2_61
  · exact k2_62
theorem iX9 : ∀ w ∈ u_ws RX9 TX9 2, w ∈ zB := by
  intro w hw
  obtain ⟨k, hk, rfl⟩ := List.mem_map.mp hw
  have hk := List.mem_range.mp hk
  rcases (show k = 0 ∨ k = 1 by omega) with rfl | rfl
  · exact k0_208
  · exact k0_210
theorem iX10 : ∀ w ∈ u_ws RX10 TX10 3, w ∈ zB := by
  intro w hw
  obtain ⟨k, hk, rfl⟩ := List.mem_map.mp hw
  have hk := List.mem_range.mp hk
  rcases (show k = 0 ∨ k = 1 ∨ k = 2 by omega) with rfl | rfl | rfl
  · exact k2_40
  · exact k2_41
  · exact k2_42
theorem iX11 : ∀ w ∈ u_ws RX11 TX11 9, w ∈ zB := by
  intro w hw
  obtain ⟨k, hk, rfl⟩ := List.mem_map.mp hw
  have hk := List.mem_range.mp hk
  rcases (show k = 0 ∨ k = 1 ∨ k = 2 ∨ k = 3 ∨ k = 4 ∨ k = 5 ∨ k = 6 ∨ k = 7 ∨ k = 8 by omega) with rfl | rfl | rfl | rfl | rfl | rfl | rfl | rfl | rfl
  · exact k0_224
  · exact k0_226
  · exact k0_228
  · exact k0_230
  · exact k0_232
  · exact k0_234
  · exact k0_236
  · exact k0_238
  · exact k1_0
theorem iX12 : ∀ w ∈ u_ws RX12 TX12 31, w ∈ zB := by
  intro w hw
  obtain ⟨k, hk, rfl⟩ := List.mem_map.mp hw
  have hk := List.mem_range.mp hk
  rcases (show k = 0 ∨ k = 1 ∨ k = 2 ∨ k = 3 ∨ k = 4 ∨ k = 5 ∨ k = 6 ∨ k = 7 ∨ k = 8 ∨ k = 9 ∨ k = 10 ∨ k = 11 ∨ k = 12 ∨ k = 13 ∨ k = 14 ∨ k = 15 ∨ k = 16 ∨ k = 17 ∨ k = 18 ∨ k = 19 ∨ k = 20 ∨ k = 21 ∨ k = 22 ∨ k = 23 ∨ k = 24 ∨ k = 25 ∨ k = 26 ∨ k = 27 ∨ k = 28 ∨ k = 29 ∨ k = 30 by omega) with rfl | rfl | rfl | rfl | rfl | rfl | rfl | rfl | rfl | rfl | rfl | rfl | rfl | rfl | rfl | rfl | rfl | rfl | rfl | rfl | rfl | rfl | rfl | rfl | rfl | rfl | rfl | rfl | rfl | rfl | rfl
  · exact k4_97
  · exact k4_99
  · exact k4_101
  · exact k4_103
  · exact k4_105
  · exact k4_107
  · exact k4_109
  · exact k4_111
  · exact k4_113
  · exact k4_115
  · exact k4_117
  · exact k4_119
  · exact k4_121
  · exact k4_123
  · exact k4_125
  · exact k4_127
  · exact k4_129
  · exact k4_131
  · exact k4_133
  · exact k4_135
  · exact k4_137
  · exact k4_139
  · exact k4_141
  · exact k4_143
  · exact k4_145
  · exact k4_147
  · exact k4_149
  · exact k4_151
  · exact k4_153
  · exact k4_155
  · exact k4_157
theorem zi {c : Cond} {l : List Cond} (h : ∀ w ∈ l, w ∈ zB) : ∀ w ∈ l, w ∈ c :: zB := fun w hw => List.mem_cons_of_mem _ (h w hw)
abbrev zwX3_init : List Cond := Cond.code yX3_init cX3_init 4 none :: zB
abbrev zwX0_init : List Cond := Cond.code yX0_init cX0_init 4 none :: zB
abbrev zwX0_kindTold : List Cond := Cond.code yX0_kindTold cX0_kindTold 1 (some .int) :: zB
abbrev zwX1_kindTold : List Cond := Cond.code yX1_kindTold cX1_kindTold 1 (some .int) :: zB
abbrev zwX5_kindTold : List Cond := Cond.code yX5_kindTold cX5_kindTold 1 (some .int) :: zB
abbrev zwX8_kindTold : List Cond := Cond.code yX8_kindTold cX8_kindTold 1 (some .int) :: zB
abbrev zwX10_kindTold : List Cond := Cond.code yX10_kindTold cX10_kindTold 1 (some .int) :: zB
abbrev zwX3_isOf : List Cond := Cond.code yX3_isOf cX3_isOf 2 (some .boolean) :: zB
abbrev zwX0_isOf : List Cond := Cond.code yX0_isOf cX0_isOf 2 (some .boolean) :: zB
abbrev zwX0_sells : List Cond := Cond.code yX0_sells cX0_sells 3 (some .boolean) :: zB
abbrev zwX9_leave : List Cond := Cond.code yX9_leave cX9_leave 2 none :: zB
abbrev zwX4_isKeeper : List Cond := Cond.code yX4_isKeeper cX4_isKeeper 2 (some .boolean) :: zB
abbrev zwX4_earnedBy : List Cond := Cond.code yX4_earnedBy cX4_earnedBy 2 (some .int) :: zB
abbrev zwX3_sizeAsked : List Cond := Cond.code yX3_sizeAsked cX3_sizeAsked 3 (some .int) :: zB
abbrev zwX3_markAsked : List Cond := Cond.code yX3_markAsked cX3_markAsked 3 (some .int) :: zB
abbrev zwX0_markAsked : List Cond := Cond.code yX0_markAsked cX0_markAsked 3 (some .int) :: zB
abbrev zwX1_markAsked : List Cond := Cond.code yX1_markAsked cX1_markAsked 3 (some .int) :: zB
abbrev zwX0_sizeAsked : List Cond := Cond.code yX0_sizeAsked cX0_sizeAsked 3 (some .int) :: zB
abbrev zwX1_init : List Cond := Cond.code yX1_init cX1_init 4 none :: zB
abbrev zwX4_countOf : List Cond := Cond.code yX4_countOf cX4_countOf 4 (some .int) :: zB
abbrev zwX1_sells : List Cond := Cond.code yX1_sells cX1_sells 3 (some .boolean) :: zB
abbrev zwX4_piecesOf : List Cond := Cond.code yX4_piecesOf cX4_piecesOf 4 (some .int) :: zB
abbrev zwX1_sizeAsked : List Cond := Cond.code yX1_sizeAsked cX1_sizeAsked 3 (some .int) :: zB
abbrev zwX4_init : List Cond := Cond.code yX4_init cX4_init 1 none :: zB
abbrev zwX2_init : List Cond := Cond.code yX2_init cX2_init 1 none :: zB
abbrev zwX4_valueBetween : List Cond := Cond.code yX4_valueBetween cX4_valueBetween 5 (some .int) :: zB
abbrev zwX4_valueAt : List Cond := Cond.code yX4_valueAt cX4_valueAt 4 (some .int) :: zB
abbrev zwX2_keptOf : List Cond := Cond.code yX2_keptOf cX2_keptOf 4 (some .int) :: zB
abbrev zwX2_waitingAlone : List Cond := Cond.code yX2_waitingAlone cX2_waitingAlone 3 (some .int) :: zB
abbrev zwX2_valueAlone : List Cond := Cond.code yX2_valueAlone cX2_valueAlone 5 (some .int) :: zB
abbrev zwX2_whenAlone : List Cond := Cond.code yX2_whenAlone cX2_whenAlone 8 (some .int) :: zB
abbrev zwX2_bestCopies : List Cond := Cond.code yX2_bestCopies cX2_bestCopies 6 (some .int) :: zB
abbrev zwX2_ofTwo : List Cond := Cond.code yX2_ofTwo cX2_ofTwo 12 (some .int) :: zB
abbrev zwX2_thought : List Cond := Cond.code yX2_thought cX2_thought 6 (some .int) :: zB
abbrev zwX2_edge : List Cond := Cond.code yX2_edge cX2_edge 3 (some .int) :: zB
abbrev zwX4_keepersWith : List Cond := Cond.code yX4_keepersWith cX4_keepersWith 4 (some .int) :: zB
abbrev zwX4_isPiece : List Cond := Cond.code yX4_isPiece cX4_isPiece 2 (some .boolean) :: zB
abbrev zwX4_knownBy : List Cond := Cond.code yX4_knownBy cX4_knownBy 2 (some .int) :: zB
abbrev zwX4_hadBy : List Cond := Cond.code yX4_hadBy cX4_hadBy 2 (some .int) :: zB
abbrev zwX4_worthIn : List Cond := Cond.code yX4_worthIn cX4_worthIn 3 (some .int) :: zB
abbrev zwX2_listBuyable : List Cond := Cond.code yX2_listBuyable cX2_listBuyable 5 none :: zB
abbrev zwX4_keeperAt : List Cond := Cond.code yX4_keeperAt cX4_keeperAt 2 (some (.object "OldNews$Keeper")) :: zB
abbrev zwX2_sumOf : List Cond := Cond.code yX2_sumOf cX2_sumOf 6 (some .int) :: zB
abbrev zwX2_keepOrder : List Cond := Cond.code yX2_keepOrder cX2_keepOrder 2 none :: zB
abbrev zwX2_swap : List Cond := Cond.code yX2_swap cX2_swap 4 none :: zB
abbrev zwX2_stepOrder : List Cond := Cond.code yX2_stepOrder cX2_stepOrder 5 (some .boolean) :: zB
abbrev zwX2_findCorner : List Cond := Cond.code yX2_findCorner cX2_findCorner 8 none :: zB
abbrev zwX2_boughtAt : List Cond := Cond.code yX2_boughtAt cX2_boughtAt 2 (some .int) :: zB
abbrev zwX7_isRow : List Cond := Cond.code yX7_isRow cX7_isRow 1 (some .boolean) :: zB
abbrev zwX7_isPlace : List Cond := Cond.code yX7_isPlace cX7_isPlace 3 (some .boolean) :: zB
abbrev zwX7_itemAt : List Cond := Cond.code yX7_itemAt cX7_itemAt 3 (some .int) :: zB
abbrev zwX2_takeYears : List Cond := Cond.code yX2_takeYears cX2_takeYears 6 (some .boolean) :: zB
abbrev zwX4_takeFrom : List Cond := Cond.code yX4_takeFrom cX4_takeFrom 3 none :: zB
abbrev zwJ7_fill_53178 : List Cond := Cond.code yJ7_fill_53178 cJ7_fill_53178 4 none :: zB
abbrev zwX4_begin : List Cond := Cond.code yX4_begin cX4_begin 4 none :: zB
abbrev zwX4_beginWith : List Cond := Cond.code yX4_beginWith cX4_beginWith 2 none :: zB
abbrev zwX4_hasUnsold : List Cond := Cond.code yX4_hasUnsold cX4_hasUnsold 3 (some .boolean) :: zB
abbrev zwX5_sells : List Cond := Cond.code yX5_sells cX5_sells 3 (some .boolean) :: zB
abbrev zwX8_sells : List Cond := Cond.code yX8_sells cX8_sells 3 (some .boolean) :: zB
abbrev zwX10_isAnotherAboutTo : List Cond := Cond.code yX10_isAnotherAboutTo cX10_isAnotherAboutTo 5 (some .boolean) :: zB
abbrev zwX10_sells : List Cond := Cond.code yX10_sells cX10_sells 3 (some .boolean) :: zB
abbrev zwX4_sell : List Cond := Cond.code yX4_sell cX4_sell 3 none :: zB
abbrev zwX4_sellAll : List Cond := Cond.code yX4_sellAll cX4_sellAll 4 none :: zB
abbrev zwX4_soldBy : List Cond := Cond.code yX4_soldBy cX4_soldBy 2 (some .int) :: zB
abbrev zwX2_hasSoldJustSo : List Cond := Cond.code yX2_hasSoldJustSo cX2_hasSoldJustSo 4 (some .boolean) :: zB
abbrev zwX2_isFit : List Cond := Cond.code yX2_isFit cX2_isFit 3 (some .boolean) :: zB
abbrev zwX2_countFits : List Cond := Cond.code yX2_countFits cX2_countFits 4 (some .int) :: zB
abbrev zwX2_fitAt : List Cond := Cond.code yX2_fitAt cX2_fitAt 5 (some .int) :: zB
abbrev zwX4_loseByChance : List Cond := Cond.code yX4_loseByChance cX4_loseByChance 7 (some .int) :: zB
abbrev zwX4_spreadSold : List Cond := Cond.code yX4_spreadSold cX4_spreadSold 2 none :: zB
abbrev zwX4_payCost : List Cond := Cond.code yX4_payCost cX4_payCost 3 none :: zB
abbrev zwX4_passYears : List Cond := Cond.code yX4_passYears cX4_passYears 5 none :: zB
abbrev zwX4_earnedByAll : List Cond := Cond.code yX4_earnedByAll cX4_earnedByAll 3 (some .int) :: zB
abbrev zwX2_earnedByLaw : List Cond := Cond.code yX2_earnedByLaw cX2_earnedByLaw 3 (some .int) :: zB
abbrev zwX5_init : List Cond := Cond.code yX5_init cX5_init 4 none :: zB
abbrev zwX10_init : List Cond := Cond.code yX10_init cX10_init 4 none :: zB
abbrev zwX8_init : List Cond := Cond.code yX8_init cX8_init 4 none :: zB
abbrev zwX3_ofKind : List Cond := Cond.code yX3_ofKind cX3_ofKind 4 (some (.object "OldNews$Keeper")) :: zB
abbrev zwX4_isTold : List Cond := Cond.code yX4_isTold cX4_isTold 1 (some .boolean) :: zB
abbrev zwX4_forget : List Cond := Cond.code yX4_forget cX4_forget 1 none :: zB
abbrev zwX4_addPoint : List Cond := Cond.code yX4_addPoint cX4_addPoint 3 none :: zB
abbrev zwX4_addKeeper : List Cond := Cond.code yX4_addKeeper cX4_addKeeper 2 none :: zB
abbrev zwX4_addPiece : List Cond := Cond.code yX4_addPiece cX4_addPiece 3 none :: zB
abbrev zwX4_useOf : List Cond := Cond.code yX4_useOf cX4_useOf 2 (some .int) :: zB
abbrev zwX4_firstSale : List Cond := Cond.code yX4_firstSale cX4_firstSale 2 (some .int) :: zB
abbrev zwX4_addOne : List Cond := Cond.code yX4_addOne cX4_addOne 3 (some .int) :: zB
abbrev zwX5_markAsked : List Cond := Cond.code yX5_markAsked cX5_markAsked 3 (some .int) :: zB
abbrev zwX6_init : List Cond := Cond.code yX6_init cX6_init 1 none :: zB
abbrev zwX6_append : List Cond := Cond.code yX6_append cX6_append 5 (some .boolean) :: zB
abbrev zwX6_empty : List Cond := Cond.code yX6_empty cX6_empty 1 none :: zB
abbrev zwX6_sortOf : List Cond := Cond.code yX6_sortOf cX6_sortOf 1 (some .int) :: zB
abbrev zwX6_behindRun : List Cond := Cond.code yX6_behindRun cX6_behindRun 4 (some .int) :: zB
abbrev zwX6_readFigures : List Cond := Cond.code yX6_readFigures cX6_readFigures 2 none :: zB
abbrev zwX6_advance : List Cond := Cond.code yX6_advance cX6_advance 1 none :: zB
abbrev zwJ0_coder_7d493 : List Cond := Cond.code yJ0_coder_7d493 cJ0_coder_7d493 1 (some .byte) :: zB
abbrev zwJ0_length_8abf5 : List Cond := Cond.code yJ0_length_8abf5 cJ0_length_8abf5 1 (some .int) :: zB
abbrev zwJ0_isLatin1_aae02 : List Cond := Cond.code yJ0_isLatin1_aae02 cJ0_isLatin1_aae02 1 (some .boolean) :: zB
abbrev zwJ3_checkIndex_8e157 : List Cond := Cond.code yJ3_checkIndex_8e157 cJ3_checkIndex_8e157 3 (some .int) :: zB
abbrev zwJ0_checkIndex_df160 : List Cond := Cond.code yJ0_checkIndex_df160 cJ0_checkIndex_df160 2 none :: zB
abbrev zwJ1_charAt_3b067 : List Cond := Cond.code yJ1_charAt_3b067 cJ1_charAt_3b067 2 (some .char) :: zB
abbrev zwJ2_length_9d52b : List Cond := Cond.code yJ2_length_9d52b cJ2_length_9d52b 1 (some .int) :: zB
abbrev zwJ2_checkIndex_2214a : List Cond := Cond.code yJ2_checkIndex_2214a cJ2_checkIndex_2214a 2 none :: zB
abbrev zwJ2_getChar_3b067 : List Cond := Cond.code yJ2_getChar_3b067 cJ2_getChar_3b067 2 (some .char) :: zB
abbrev zwJ2_charAt_3b067 : List Cond := Cond.code yJ2_charAt_3b067 cJ2_charAt_3b067 2 (some .char) :: zB
abbrev zwJ0_charAt_5068e : List Cond := Cond.code yJ0_charAt_5068e cJ0_charAt_5068e 2 (some .char) :: zB
abbrev zwX6_isWord : List Cond := Cond.code yX6_isWord cX6_isWord 3 (some .boolean) :: zB
abbrev zwX6_stick : List Cond := Cond.code yX6_stick cX6_stick 2 none :: zB
abbrev zwX6_takeWord : List Cond := Cond.code yX6_takeWord cX6_takeWord 2 none :: zB
abbrev zwX11_within : List Cond := Cond.code yX11_within cX11_within 3 (some .boolean) :: zB
abbrev zwX6_takeNumber : List Cond := Cond.code yX6_takeNumber cX6_takeNumber 4 (some .int) :: zB
abbrev zwX6_takeSign : List Cond := Cond.code yX6_takeSign cX6_takeSign 1 none :: zB
abbrev zwX6_readLaw : List Cond := Cond.code yX6_readLaw cX6_readLaw 2 none :: zB
abbrev zwX6_takeWordOf : List Cond := Cond.code yX6_takeWordOf cX6_takeWordOf 4 none :: zB
abbrev zwX6_readPoints : List Cond := Cond.code yX6_readPoints cX6_readPoints 6 none :: zB
abbrev zwX6_readChest : List Cond := Cond.code yX6_readChest cX6_readChest 2 none :: zB
abbrev zwX6_kindNamed : List Cond := Cond.code yX6_kindNamed cX6_kindNamed 1 (some .int) :: zB
abbrev zwX6_takeKind : List Cond := Cond.code yX6_takeKind cX6_takeKind 2 (some .int) :: zB
abbrev zwX6_readKeepers : List Cond := Cond.code yX6_readKeepers cX6_readKeepers 6 none :: zB
abbrev zwX6_readNews : List Cond := Cond.code yX6_readNews cX6_readNews 6 none :: zB
abbrev zwX6_readInto : List Cond := Cond.code yX6_readInto cX6_readInto 2 (some .boolean) :: zB
abbrev zwX7_init : List Cond := Cond.code yX7_init cX7_init 1 none :: zB
abbrev zwX7_isMissing : List Cond := Cond.code yX7_isMissing cX7_isMissing 2 (some .boolean) :: zB
abbrev zwX7_countThere : List Cond := Cond.code yX7_countThere cX7_countThere 3 (some .int) :: zB
abbrev zwJ7_rangeCheck_23922 : List Cond := Cond.code yJ7_rangeCheck_23922 cJ7_rangeCheck_23922 3 none :: zB
abbrev zwJ7_fill_fda19 : List Cond := Cond.code yJ7_fill_fda19 cJ7_fill_fda19 5 none :: zB
abbrev zwX7_lay : List Cond := Cond.code yX7_lay cX7_lay 4 none :: zB
abbrev zwX7_remove : List Cond := Cond.code yX7_remove cX7_remove 2 (some .int) :: zB
abbrev zwX7_isStretch : List Cond := Cond.code yX7_isStretch cX7_isStretch 4 (some .boolean) :: zB
abbrev zwX7_areOfOneLane : List Cond := Cond.code yX7_areOfOneLane cX7_areOfOneLane 3 (some .boolean) :: zB
abbrev zwX7_narrowed : List Cond := Cond.code yX7_narrowed cX7_narrowed 2 (some .int) :: zB
abbrev zwX7_put : List Cond := Cond.code yX7_put cX7_put 4 (some .int) :: zB
abbrev zwX7_move : List Cond := Cond.code yX7_move cX7_move 6 none :: zB
abbrev zwX8_sizeAsked : List Cond := Cond.code yX8_sizeAsked cX8_sizeAsked 3 (some .int) :: zB
abbrev zwX8_markAsked : List Cond := Cond.code yX8_markAsked cX8_markAsked 3 (some .int) :: zB
abbrev zwX9_init : List Cond := Cond.code yX9_init cX9_init 1 none :: zB
abbrev zwX9_clear : List Cond := Cond.code yX9_clear cX9_clear 1 none :: zB
abbrev zwX9_at : List Cond := Cond.code yX9_at cX9_at 2 (some .int) :: zB
abbrev zwX10_sizeAsked : List Cond := Cond.code yX10_sizeAsked cX10_sizeAsked 3 (some .int) :: zB
abbrev zwX11_init : List Cond := Cond.code yX11_init cX11_init 1 none :: zB
abbrev zwX11_found : List Cond := Cond.code yX11_found cX11_found 2 (some .int) :: zB
abbrev zwX11_fine : List Cond := Cond.code yX11_fine cX11_fine 2 (some .int) :: zB
abbrev zwX11_row : List Cond := Cond.code yX11_row cX11_row 4 (some .int) :: zB
abbrev zwX11_set : List Cond := Cond.code yX11_set cX11_set 4 (some .int) :: zB
abbrev zwX11_copy : List Cond := Cond.code yX11_copy cX11_copy 6 (some .int) :: zB
abbrev zwX11_drop : List Cond := Cond.code yX11_drop cX11_drop 2 (some .int) :: zB
abbrev zwX11_feed : List Cond := Cond.code yX11_feed cX11_feed 4 (some .int) :: zB
abbrev zwX11_land : List Cond := Cond.code yX11_land cX11_land 3 (some .int) :: zB
abbrev zwX11_fault : List Cond := Cond.code yX11_fault cX11_fault 1 (some .int) :: zB
abbrev zwX11_value : List Cond := Cond.code yX11_value cX11_value 2 (some .int) :: zB
abbrev zwX11_go : List Cond := Cond.code yX11_go cX11_go 3 (some .int) :: zB
abbrev zwX11_tell : List Cond := Cond.code yX11_tell cX11_tell 4 (some .int) :: zB
abbrev zwX11_keeper : List Cond := Cond.code yX11_keeper cX11_keeper 3 (some .int) :: zB
abbrev zwX11_piece : List Cond := Cond.code yX11_piece cX11_piece 3 (some .int) :: zB
abbrev zwX11_alone : List Cond := Cond.code yX11_alone cX11_alone 4 (some .int) :: zB
abbrev zwX11_best : List Cond := Cond.code yX11_best cX11_best 2 (some .int) :: zB
abbrev zwX11_two : List Cond := Cond.code yX11_two cX11_two 4 (some .int) :: zB
abbrev zwX11_think : List Cond := Cond.code yX11_think cX11_think 4 (some .int) :: zB
abbrev zwX11_lostUse : List Cond := Cond.code yX11_lostUse cX11_lostUse 4 (some .int) :: zB
abbrev zwX11_silence : List Cond := Cond.code yX11_silence cX11_silence 8 (some .int) :: zB
abbrev zwX11_corner : List Cond := Cond.code yX11_corner cX11_corner 5 (some .int) :: zB
abbrev zwX11_make : List Cond := Cond.code yX11_make cX11_make 5 (some .int) :: zB
abbrev zwX11_fit : List Cond := Cond.code yX11_fit cX11_fit 3 (some .int) :: zB
abbrev zwX11_laws : List Cond := Cond.code yX11_laws cX11_laws 2 (some .int) :: zB
abbrev zwX11_imageAt : List Cond := Cond.code yX11_imageAt cX11_imageAt 2 (some (.object "OldNews$Land")) :: zB
abbrev zwX11_image : List Cond := Cond.code yX11_image cX11_image 2 (some .int) :: zB
abbrev zwX11_restore : List Cond := Cond.code yX11_restore cX11_restore 2 (some .int) :: zB
abbrev zwX11_kind : List Cond := Cond.code yX11_kind cX11_kind 3 (some .int) :: zB
abbrev zwX11_as : List Cond := Cond.code yX11_as cX11_as 4 (some .int) :: zB
abbrev zwX11_ask : List Cond := Cond.code yX11_ask cX11_ask 4 (some .int) :: zB
abbrev zwX11_trace : List Cond := Cond.code yX11_trace cX11_trace 2 (some .int) :: zB
abbrev zwX11_count : List Cond := Cond.code yX11_count cX11_count 2 (some .int) :: zB
abbrev zwX11_status : List Cond := Cond.code yX11_status cX11_status 1 (some .int) :: zB
abbrev zwX12_init : List Cond := Cond.code yX12_init cX12_init 1 none :: zB
abbrev zwX12_in : List Cond := Cond.code yX12_in cX12_in 6 (some .boolean) :: zB
abbrev zwX12_finding : List Cond := Cond.code yX12_finding cX12_finding 2 (some .int) :: zB
abbrev zwX12_isRow : List Cond := Cond.code yX12_isRow cX12_isRow 1 (some .boolean) :: zB
abbrev zwX12_row : List Cond := Cond.code yX12_row cX12_row 5 (some .int) :: zB
abbrev zwX12_set : List Cond := Cond.code yX12_set cX12_set 4 (some .int) :: zB
abbrev zwX12_copy : List Cond := Cond.code yX12_copy cX12_copy 9 (some .int) :: zB
abbrev zwX12_drop : List Cond := Cond.code yX12_drop cX12_drop 2 (some .int) :: zB
abbrev zwX12_feed : List Cond := Cond.code yX12_feed cX12_feed 5 (some .int) :: zB
abbrev zwX12_byteAt : List Cond := Cond.code yX12_byteAt cX12_byteAt 2 (some .int) :: zB
abbrev zwX12_isLetter : List Cond := Cond.code yX12_isLetter cX12_isLetter 1 (some .boolean) :: zB
abbrev zwX12_isFigure : List Cond := Cond.code yX12_isFigure cX12_isFigure 1 (some .boolean) :: zB
abbrev zwX12_next : List Cond := Cond.code yX12_next cX12_next 2 none :: zB
abbrev zwX12_bad : List Cond := Cond.code yX12_bad cX12_bad 2 none :: zB
abbrev zwX12_must : List Cond := Cond.code yX12_must cX12_must 2 none :: zB
abbrev zwX12_word : List Cond := Cond.code yX12_word cX12_word 4 (some .long) :: zB
abbrev zwX12_number : List Cond := Cond.code yX12_number cX12_number 5 (some .int) :: zB
abbrev zwX12_wayOf : List Cond := Cond.code yX12_wayOf cX12_wayOf 2 (some .int) :: zB
abbrev zwX12_mustWord : List Cond := Cond.code yX12_mustWord cX12_mustWord 3 none :: zB
abbrev zwX12_mustEnd : List Cond := Cond.code yX12_mustEnd cX12_mustEnd 1 none :: zB
abbrev zwX12_mustBegin : List Cond := Cond.code yX12_mustBegin cX12_mustBegin 3 none :: zB
abbrev zwX12_begins : List Cond := Cond.code yX12_begins cX12_begins 3 none :: zB
abbrev zwX12_readLaw : List Cond := Cond.code yX12_readLaw cX12_readLaw 2 none :: zB
abbrev zwX12_readWorth : List Cond := Cond.code yX12_readWorth cX12_readWorth 4 none :: zB
abbrev zwX12_readChest : List Cond := Cond.code yX12_readChest cX12_readChest 1 none :: zB
abbrev zwX12_readKeeper : List Cond := Cond.code yX12_readKeeper cX12_readKeeper 4 none :: zB
abbrev zwX12_readNews : List Cond := Cond.code yX12_readNews cX12_readNews 4 none :: zB
abbrev zwX12_begin : List Cond := Cond.code yX12_begin cX12_begin 4 none :: zB
abbrev zwX12_land : List Cond := Cond.code yX12_land cX12_land 2 (some .int) :: zB
abbrev zwX12_fault : List Cond := Cond.code yX12_fault cX12_fault 1 (some .int) :: zB
abbrev zwX12_isKeeper : List Cond := Cond.code yX12_isKeeper cX12_isKeeper 2 (some .boolean) :: zB
abbrev zwX12_isPiece : List Cond := Cond.code yX12_isPiece cX12_isPiece 2 (some .boolean) :: zB
abbrev zwX12_plainValue : List Cond := Cond.code yX12_plainValue cX12_plainValue 5 (some .int) :: zB
abbrev zwX12_valueOf : List Cond := Cond.code yX12_valueOf cX12_valueOf 2 (some .int) :: zB
abbrev zwX12_value : List Cond := Cond.code yX12_value cX12_value 2 (some .int) :: zB
abbrev zwX12_worthFor : List Cond := Cond.code yX12_worthFor cX12_worthFor 3 (some .int) :: zB
abbrev zwX12_has : List Cond := Cond.code yX12_has cX12_has 3 (some .boolean) :: zB
abbrev zwX12_keepersOf : List Cond := Cond.code yX12_keepersOf cX12_keepersOf 4 (some .int) :: zB
abbrev zwX12_hadBy : List Cond := Cond.code yX12_hadBy cX12_hadBy 2 (some .int) :: zB
abbrev zwX12_isOf : List Cond := Cond.code yX12_isOf cX12_isOf 2 (some .boolean) :: zB
abbrev zwX12_isAboutTo : List Cond := Cond.code yX12_isAboutTo cX12_isAboutTo 5 (some .boolean) :: zB
abbrev zwX12_sells : List Cond := Cond.code yX12_sells cX12_sells 7 (some .boolean) :: zB
abbrev zwX12_sellAll : List Cond := Cond.code yX12_sellAll cX12_sellAll 5 none :: zB
abbrev zwX12_year : List Cond := Cond.code yX12_year cX12_year 5 none :: zB
abbrev zwX12_go : List Cond := Cond.code yX12_go cX12_go 4 (some .int) :: zB
abbrev zwX12_tell : List Cond := Cond.code yX12_tell cX12_tell 4 (some .int) :: zB
abbrev zwX12_piecesOf : List Cond := Cond.code yX12_piecesOf cX12_piecesOf 4 (some .int) :: zB
abbrev zwX12_keeper : List Cond := Cond.code yX12_keeper cX12_keeper 3 (some .int) :: zB
abbrev zwX12_piece : List Cond := Cond.code yX12_piece cX12_piece 3 (some .int) :: zB
abbrev zwX12_layAlone : List Cond := Cond.code yX12_layAlone cX12_layAlone 7 none :: zB
abbrev zwX12_alone : List Cond := Cond.code yX12_alone cX12_alone 4 (some .int) :: zB
abbrev zwX12_best : List Cond := Cond.code yX12_best cX12_best 6 (some .int) :: zB
abbrev zwX12_two : List Cond := Cond.code yX12_two cX12_two 11 (some .int) :: zB
abbrev zwX12_think : List Cond := Cond.code yX12_think cX12_think 7 (some .int) :: zB
abbrev zwX12_isYear : List Cond := Cond.code yX12_isYear cX12_isYear 1 (some .boolean) :: zB
abbrev zwX12_lostUse : List Cond := Cond.code yX12_lostUse cX12_lostUse 4 (some .int) :: zB
abbrev zwX12_silence : List Cond := Cond.code yX12_silence cX12_silence 7 (some .int) :: zB
abbrev zwX12_swap : List Cond := Cond.code yX12_swap cX12_swap 4 none :: zB
abbrev zwX12_nextRow : List Cond := Cond.code yX12_nextRow cX12_nextRow 6 (some .boolean) :: zB
abbrev zwX12_askedSum : List Cond := Cond.code yX12_askedSum cX12_askedSum 5 (some .int) :: zB
abbrev zwX12_corner : List Cond := Cond.code yX12_corner cX12_corner 11 (some .int) :: zB
abbrev zwX12_pays : List Cond := Cond.code yX12_pays cX12_pays 4 (some .boolean) :: zB
abbrev zwX12_make : List Cond := Cond.code yX12_make cX12_make 5 (some .int) :: zB
abbrev zwX12_isNear : List Cond := Cond.code yX12_isNear cX12_isNear 6 (some .boolean) :: zB
abbrev zwX12_sellsIn : List Cond := Cond.code yX12_sellsIn cX12_sellsIn 6 (some .boolean) :: zB
abbrev zwX12_fits : List Cond := Cond.code yX12_fits cX12_fits 6 (some .boolean) :: zB
abbrev zwX12_fit : List Cond := Cond.code yX12_fit cX12_fit 5 (some .int) :: zB
abbrev zwX12_laws : List Cond := Cond.code yX12_laws cX12_laws 5 (some .int) :: zB
abbrev zwX12_image : List Cond := Cond.code yX12_image cX12_image 3 (some .int) :: zB
abbrev zwX12_restore : List Cond := Cond.code yX12_restore cX12_restore 3 (some .int) :: zB
abbrev zwX12_kind : List Cond := Cond.code yX12_kind cX12_kind 2 (some .int) :: zB
abbrev zwX12_as : List Cond := Cond.code yX12_as cX12_as 3 (some .int) :: zB
abbrev zwX12_began : List Cond := Cond.code yX12_began cX12_began 2 none :: zB
abbrev zwX12_plainSize : List Cond := Cond.code yX12_plainSize cX12_plainSize 2 (some .int) :: zB
abbrev zwX12_ageMark : List Cond := Cond.code yX12_ageMark cX12_ageMark 4 (some .int) :: zB
abbrev zwX12_ageSize : List Cond := Cond.code yX12_ageSize cX12_ageSize 4 (some .int) :: zB
abbrev zwX12_otherSize : List Cond := Cond.code yX12_otherSize cX12_otherSize 3 (some .int) :: zB
abbrev zwX12_otherMark : List Cond := Cond.code yX12_otherMark cX12_otherMark 4 (some .int) :: zB
abbrev zwX12_ask : List Cond := Cond.code yX12_ask cX12_ask 4 (some .int) :: zB
abbrev zwX12_trace : List Cond := Cond.code yX12_trace cX12_trace 2 (some .int) :: zB
abbrev zwX12_count : List Cond := Cond.code yX12_count cX12_count 4 (some .int) :: zB
abbrev zwX12_status : List Cond := Cond.code yX12_status cX12_status 1 (some .int) :: zB
abbrev zwJ9_max_7cf53 : List Cond := Cond.code yJ9_max_7cf53 cJ9_max_7cf53 2 (some .int) :: zB
abbrev zwJ9_min_7cf53 : List Cond := Cond.code yJ9_min_7cf53 cJ9_min_7cf53 2 (some .int) :: zB
